/-! CALLS, further: inherited methods, a superclass's own, answers that are references; rows of bytes -/
def MXr {S : Type} (l : Launch) (g : Gm) (y : MethodName) (cc : ByteArray) (maxL : Nat) (rt : FieldType) (rm : Room) (As : List Value) (ws : va_W) (post : S → Prop) (adr : S → Nat) (wf : S → va_W) (kx : S → Nat × Nat) : Prop := ∀ sz tt : Nat, Met l y (wsY y cc maxL (some rt)) rm (va_Pc As (PreX g ws sz tt)) (va_Qr post (fun u a t => a = adr u ∧ AtX g (va_A ws sz) wf kx sz tt u t) (va_A ws sz)) rm.cells rm.slots (va_A ws sz)
section CALLS2
variable {p : Program} {l : Launch} {e : Env} {R : Room} {s : State} {m : MethodId} {args : Array Value} {below : List Frame} {meth : Method} {c : Code} {H : Heap} {locs : List Loc} {cells slots : Nat} {Q : State → Prop}
variable {cc : ByteArray} {pc : Nat} {ls : Array Slot} {rest st0 : List Value} {g : Gm} {A : Nat → Prop} {H0 : Heap} {ws wc wr : va_W} {own C : String} {nL : Nat}
theorem runU_X {x y : MethodName} {owner : String} {cb : ByteArray} {mL n idx b : Nat} {ret : Option FieldType} {rm : Room} {Qc : Array Value → State → Outcome → State → Prop} {As : List Value} {ci q0 : Nat} {fs : List Value} {T : u_T} {N : Nat}
    (S : Sta p c cc s args own m) (hml : c.maxLocals = nL) (hK : va_K g.1 vwC (tysG g) s) (hZ : Zs g A s H) (hc : Cut g A H wc wr)
    (hM : Met l y (wsY y cb mL ret) rm (va_Pc (.ref b :: As) (PreX g wc H.size (tot H))) Qc rm.cells rm.slots (va_A wc H.size))
    (h1 : Cond.methodLink own idx x ∈ lw_g) (h2 : Cond.sameMethod x.cls owner x.name x.desc ∈ lw_g) (h3 : Cond.selects C x y ∈ lw_g) (h4 : Cond.instanceMethod y ∈ lw_g) (h5 : Cond.initialized y.cls ∈ lw_g) (h6 : Cond.code y cb mL ret ∈ lw_g)
    (hyx : y = ⟨owner, x.name, x.desc⟩) (hd : owner ≠ "java/lang/invoke/MethodHandle" ∧ owner ≠ "java/lang/invoke/VarHandle" ∧ (parseMethodDescriptor x.desc).map (fun d => d.parameters.length) = some n)
    (hR : rm.frames + 1 ≤ R.frames ∧ 8 + (mL + 11) + rm.locals ≤ R.locals) (hr : wc[q0]? = some (b, .inr (ci, fs))) (hci : vwC[ci]? = some (C, T, N)) (hn : As.length = n) (hls : ls.size = nL) (hst : st0 = As.reverse ++ .ref b :: rest) (hw : (rest.map fun v => v.category).sum ≤ 8) (hdg : decode cc pc = .ok (.invokevirtual idx, 3)) (hf : cells + rm.cells ≤ R.cells ∧ slots + rm.slots ≤ R.slots) :
    va_Run p l e R s m args below meth c H locs cells slots rm.cells rm.slots (F0 m pc ls st0) rest (Qc (Value.ref b :: As).toArray) (va_A wc H.size) := by
  subst hst
  have hg : GoodIn lw_g (va_wsU own idx C owner x y (wsY y cb mL ret)) := by
    intro w hw
    have hm : w ∈ lw_g := by
      rcases List.mem_append.mp hw with h | h
      · simp only [List.mem_cons, List.not_mem_nil, or_false] at h
        rcases h with rfl | rfl | rfl | rfl | rfl <;> assumption
      · exact (gi_Y h6 w h).1
    exact ⟨hm, good_of_word (lw_gg w hm)⟩
  exact va_runU (As := As) (rest := rest) ⟨S.1, S.2.1, hml, S.2.2.2, S.2.2.1⟩ hM (va_cwU n S.2.2.1 hg rfl rfl rfl hyx hd hR) ⟨PreX.blind, va_recv hK hc.1 hci hr, fun U hU hW => ⟨rfl, by rw [hU], by rw [hU], by rw [hU]; exact hc.1, va_K.moved hW.alike hK, hc.2.1, by rw [hU]; exact (hZ.narrow hc.2.2.1).warm hW⟩⟩ rfl hn hls rfl (lv_room hw) hdg hf
theorem runSU_X {y : MethodName} {cb : ByteArray} {mL n idx b : Nat} {ret : Option FieldType} {rm : Room} {Qc : Array Value → State → Outcome → State → Prop} {As : List Value} {ci q0 : Nat} {fs : List Value} {T : u_T} {N : Nat}
    (S : Sta p c cc s args own m) (hml : c.maxLocals = nL) (hK : va_K g.1 vwC (tysG g) s) (hZ : Zs g A s H) (hc : Cut g A H wc wr)
    (hM : Met l y (wsY y cb mL ret) rm (va_Pc (.ref b :: As) (PreX g wc H.size (tot H))) Qc rm.cells rm.slots (va_A wc H.size))
    (h1 : Cond.methodLink own idx y ∈ lw_g) (h2 : Cond.sameMethod y.cls y.cls y.name y.desc ∈ lw_g) (h3 : Cond.superclass own y.cls ∈ lw_g) (h4 : Cond.instanceMethod y ∈ lw_g) (h5 : Cond.initialized y.cls ∈ lw_g) (h6 : Cond.code y cb mL ret ∈ lw_g)
    (hd : y.name ≠ "<init>" ∧ (parseMethodDescriptor y.desc).map (fun d => d.parameters.length) = some n)
    (hR : rm.frames + 1 ≤ R.frames ∧ 8 + (mL + 11) + rm.locals ≤ R.locals) (hr : wc[q0]? = some (b, .inr (ci, fs))) (hci : vwC[ci]? = some (C, T, N)) (hn : As.length = n) (hls : ls.size = nL) (hst : st0 = As.reverse ++ .ref b :: rest) (hw : (rest.map fun v => v.category).sum ≤ 8) (hdg : decode cc pc = .ok (.invokespecial idx, 3)) (hf : cells + rm.cells ≤ R.cells ∧ slots + rm.slots ≤ R.slots) :
    va_Run p l e R s m args below meth c H locs cells slots rm.cells rm.slots (F0 m pc ls st0) rest (Qc (Value.ref b :: As).toArray) (va_A wc H.size) := by
  subst hst
  have hg : GoodIn lw_g (va_wsSU own idx y (wsY y cb mL ret)) := by
    intro w hw
    have hm : w ∈ lw_g := by
      rcases List.mem_append.mp hw with h | h
      · simp only [List.mem_cons, List.not_mem_nil, or_false] at h
        rcases h with rfl | rfl | rfl | rfl | rfl <;> assumption
      · exact (gi_Y h6 w h).1
    exact ⟨hm, good_of_word (lw_gg w hm)⟩
  exact va_runSU (As := As) (rest := rest) (hK.1 ci _ hci).2 ⟨S.1, S.2.1, hml, S.2.2.2, S.2.2.1⟩ hM (va_cwSU n S.2.2.1 hg rfl rfl rfl hd hR) ⟨PreX.blind, va_recv hK hc.1 hci hr, fun U hU hW => ⟨rfl, by rw [hU], by rw [hU], by rw [hU]; exact hc.1, va_K.moved hW.alike hK, hc.2.1, by rw [hU]; exact (hZ.narrow hc.2.2.1).warm hW⟩⟩ rfl hn hls rfl (lv_room hw) hdg hf
theorem w_retr {S : Type} {post : S → Prop} {adr : S → Nat} {wf : S → va_W} {kx : S → Nat × Nat} {a : Array Value} {mc ms : Nat}
    (hr : va_Run p l e R s m args below meth c H locs cells slots mc ms (F0 m pc ls st0) rest (va_Qr post (fun u a t => a = adr u ∧ AtX g (va_A wc H.size) wf kx H.size (tot H) u t) (va_A wc H.size) a) (va_A wc H.size)) (hc : Cut g A H wc wr) (E : Ev g A H0 H locs ws)
    (kk : ∀ (u : S) (H1 : Heap) (locs1 : List Loc), post u → Ev g A H0 H1 locs1 (wr ++ wf u) → W p l e R s m args below meth c H1 locs1 (cells + (kx u).1) (slots + (kx u).2) Q (F0 m (pc + 3) ls (.ref (adr u) :: rest))) : W p l e R s m args below meth c H locs cells slots Q (F0 m pc ls st0) := by
  refine W.know (fun g1 g2 _ => ?_)
  refine va_callr hr E.2.2 (fun q _ h => hc.2.2.1 q h) hc.2.2.1 (fun u ra t H1 locs1 ht hvm hw hB hz1 hk1 hS => ?_)
  obtain ⟨rfl, hP1, -, hD1, n1, n2⟩ := hB
  rw [ht] at hP1 n1 n2
  obtain ⟨hP, hD⟩ := hc.2.2.2 _ H1 hk1 hP1 hD1
  exact W.tight (by omega) (by omega) (kk u H1 locs1 hw ⟨hP, hD, hS⟩)
theorem x_aret {S : Type} {post : S → Prop} {adr : S → Nat} {wf : S → va_W} {kx : S → Nat × Nat} {sz tt mc ms a : Nat} {rt : FieldType} {w0 : va_W} (u : S) (S0 : Sta p c cc s args own m) (hr : meth.sig.returnType = some rt) (hrt : (∃ n, rt = .object n) ∨ ∃ t, rt = .array t) (hlocks : meth.locks = false) (hsz : s.heap.size = sz) (htt : tot s.heap = tt) (hK : va_K g.1 vwC (tysG g) s) (E : Ev g (va_A w0 sz) s.heap H locs ws) (hdg : decode cc pc = .ok (.areturn, 1)) (hp : post u) (ha : a = adr u) (hw : ws = wf u) (hk : cells ≤ (kx u).1 ∧ slots ≤ (kx u).2) (hm : cells ≤ mc ∧ slots ≤ ms) :
    W p l e R s m args below meth c H locs cells slots (MQ below (va_Qr post (fun u a t => a = adr u ∧ AtX g (va_A w0 sz) wf kx sz tt u t) (va_A w0 sz)) args s mc ms (va_A w0 sz)) (F0 m pc ls [.ref a]) := by
  subst hw
  refine W.know (fun g1 g2 _ => ?_)
  refine W.widen hm.1 hm.2 ?_
  exact W.aret S0.1 S0.2.1 hr hrt (Or.inr ⟨a, rfl⟩) (fun t ht hW => ⟨⟨u, a, rfl, hp, ha, by rw [ht]; exact E.1, va_K.moved hW.alike hK, E.2.1, by rw [ht]; omega, by rw [ht]; omega⟩, E.2.2.F ht⟩) E.2.2.2.2 hdg hlocks
theorem w_bld {a n : Nat} {cA : ClassId} {f : Nat → Int32} {i v : Int32} (S : Sta p c cc s args own m) (hK : va_K g.1 vwC (tysG g) s) (E : Ev g A H0 H locs ws) (q0 t0 : Nat) (ha : ws[q0]? = some (a, .inl (cA, n, .inl f))) (ht : (tysG g)[t0]? = some (cA, .byte)) (hin : vp_in i n) (hv : f i.toNatClampNeg = v) (hdg : decode cc pc = .ok (.baload, 1))
    (kk : W p l e R s m args below meth c H locs cells slots Q (F0 m (pc + 1) ls (.int v :: rest))) : W p l e R s m args below meth c H locs cells slots Q (F0 m pc ls (.int i :: .ref a :: rest)) := by
  subst hv
  exact va_bald S.1 S.2.1 hK E.1 q0 t0 ha ht hin hdg kk
theorem w_bst {a n : Nat} {cA : ClassId} {f : Nat → Int32} {i x : Int32} {w' : va_W} (S : Sta p c cc s args own m) (hK : va_K g.1 vwC (tysG g) s) (E : Ev g A H0 H locs ws) (q0 t0 : Nat) (ha : ws[q0]? = some (a, .inl (cA, n, .inl f))) (ht : (tysG g)[t0]? = some (cA, .byte)) (hin : vp_in i n) (hw : ws.set q0 (a, .inl (cA, n, .inl (upd f i.toNatClampNeg (vp_nar .byte x)))) = w') (hdg : decode cc pc = .ok (.bastore, 1))
    (kk : ∀ (H1 : Heap) (locs1 : List Loc), Ev g A H0 H1 locs1 w' → W p l e R s m args below meth c H1 locs1 cells slots Q (F0 m (pc + 1) ls rest)) : W p l e R s m args below meth c H locs cells slots Q (F0 m pc ls (.int x :: .int i :: .ref a :: rest)) := by
  subst hw
  exact va_bast S.1 S.2.1 hK E.1 E.2.1 E.2.2 q0 t0 ha ht hin hdg (fun H1 l1 hP hD hS => kk H1 l1 ⟨hP, hD, hS⟩)
theorem w_alen {a : Nat} {cA : ClassId} {x : vp_A} {ty : FieldType} {v : Int32} (S : Sta p c cc s args own m) (hK : va_K g.1 vwC (tysG g) s) (E : Ev g A H0 H locs ws) (q0 t0 : Nat) (ha : ws[q0]? = some (a, .inl (cA, x))) (ht : (tysG g)[t0]? = some (cA, ty)) (hv : Int32.ofNat x.1 = v) (hdg : decode cc pc = .ok (.arraylength, 1))
    (kk : W p l e R s m args below meth c H locs cells slots Q (F0 m (pc + 1) ls (.int v :: rest))) : W p l e R s m args below meth c H locs cells slots Q (F0 m pc ls (.ref a :: rest)) := va_alen S.1 S.2.1 hK E.1 q0 t0 ha ht hv hdg kk
/-- a new array of a class that the list knows already -/
theorem w_newa {atype : ArrayType} {ty : FieldType} {n : Int32} {N' : Nat} {a0 : vp_A} (t0 : Nat) {cA0 : ClassId} (S : Sta p c cc s args own m) (hK : va_K g.1 vwC (tysG g) s) (E : Ev g A H0 H locs ws) (hA : ∀ q, H0.size ≤ q → A q) (harr : Cond.arrayClass (newarray.typeOf atype) ∈ lw_g) (hty : newarray.typeOf atype = ty) (ht : (tysG g)[t0]? = some (cA0, ty)) (hob : ∀ C, ty ≠ .object C)
    (ha : ∀ cA : ClassId, vp_cell cA a0 = arrV cA N' (fun _ => defaultValue ty)) (hn : ¬ n < 0) (hN : n.toNatClampNeg = N') (hbytes : N' * componentBytes ty ≤ 536870912) (hcells : cells + 1 ≤ R.cells) (hslots : slots + N' ≤ R.slots) (hdg : decode cc pc = .ok (.newarray atype, 2))
    (kk : ∀ (q : Nat) (H1 : Heap), Ev g A H0 H1 locs (ws ++ [(q, .inl (cA0, a0))]) → W p l e R s m args below meth c H1 locs (cells + 1) (slots + N') Q (F0 m (pc + 2) ls (.ref q :: rest))) : W p l e R s m args below meth c H locs cells slots Q (F0 m pc ls (.int n :: rest)) := by
  refine va_newa S.1 S.2.1 (S.2.2.1 _ harr) hty hK E.1 E.2.1 E.2.2 hA ha hn hN hbytes hcells hslots hdg (fun q cA H1 hK1 hP hD hS => ?_)
  have h1 : va_RA s cA ty := (hK1.2 6 (cA, ty) rfl).2
  have h2 : va_RA s cA0 ty := (hK.2 t0 (cA0, ty) ht).2
  have e : cA = cA0 := by
    cases ty with
    | object C => exact absurd rfl (hob C)
    | _ => exact Option.some.inj ((show s.vm.findClass _ = some cA from h1).symm.trans (show s.vm.findClass _ = some cA0 from h2))
  subst e
  exact kk q H1 ⟨hP, hD, hS⟩
theorem w_gets {C n d : String} {v : Value} {index : Nat} (S : Sta p c cc s args own m) (hZ : va_Z C n d v A s s.heap) (E : Ev g A s.heap H locs ws) (hlink : Cond.fieldLink own index C n d ∈ lw_g) (hdg : decode cc pc = .ok (.getstatic index, 3))
    (kk : W p l e R s m args below meth c H locs cells slots Q (F0 m (pc + 3) ls (v :: rest))) : W p l e R s m args below meth c H locs cells slots Q (F0 m pc ls rest) := va_gets S.1 S.2.1 hZ E.2.2 S.2.2.2 (S.2.2.1 _ hlink) (fun _ h => h) hdg kk
end CALLS2
