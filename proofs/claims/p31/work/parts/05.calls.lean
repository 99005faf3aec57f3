/-! CALLS: a callee's world is cut out of the caller's, and what comes back is put beside the rest -/
/-- wc is a part of ws, wr the rest -/
def Cut (g : Gm) (A : Nat → Prop) (H : Heap) (wc wr : va_W) : Prop := va_P g.1 vwC wc H ∧ va_D (fun _ => True) wc ∧ (∀ q, va_A wc H.size q → A q) ∧ ∀ (w1 : va_W) (H1 : Heap), (∀ q : Nat, q < H.size → ¬ va_A wc H.size q → H1[q]? = H[q]?) → va_P g.1 vwC w1 H1 → va_D (va_A wc H.size) w1 → va_P g.1 vwC (wr ++ w1) H1 ∧ va_D A (wr ++ w1)
theorem Cut.full {g : Gm} {A : Nat → Prop} {H0 H : Heap} {locs : List Loc} {ws : va_W} (E : Ev g A H0 H locs ws) (hA : ∀ q, H0.size ≤ q → A q) : Cut g A H ws [] :=
  ⟨E.1, E.2.1.weaken (fun _ _ _ _ => trivial), va_freeAll E.2.1 E.2.2 hA, fun w1 H1 _ hP hD => ⟨hP, hD.weaken (fun _ q _ h => va_freeAll E.2.1 E.2.2 hA q.1 h)⟩⟩
theorem Cut.of {g : Gm} {A : Nat → Prop} {H0 H : Heap} {locs : List Loc} {ws wc wr : va_W} (E : Ev g A H0 H locs ws) (hA : ∀ q, H0.size ≤ q → A q) (isC isR : List Nat) (hC : isC.map (fun i => ws[i]?) = wc.map some) (hR : isR.map (fun i => ws[i]?) = wr.map some) (hnC : va_nd isC = true) (hn : va_nd isR = true) (hdis : ∀ i ∈ isR, i ∉ isC) : Cut g A H wc wr := by
  have hF := va_free (wc := wc) E.2.1 E.2.2 hA isC hC
  have hPc : va_P g.1 vwC wc H := by
    intro k q hk
    have h1 : (isC.map (fun i => ws[i]?))[k]? = some (some q) := by rw [hC, List.getElem?_map, hk]; rfl
    rw [List.getElem?_map] at h1
    cases hi : isC[k]? with
    | none => rw [hi] at h1; cases h1
    | some i => rw [hi] at h1; exact E.1 i q (Option.some.inj h1)
  exact ⟨hPc, (E.2.1.sub isC hnC hC).weaken (fun _ _ _ _ => trivial), hF, fun w1 H1 hk hP hD => va_join E.1 E.2.1 isC isR hC hR hn hdis hk hF hP hD⟩
section CALLS
variable {p : Program} {l : Launch} {e : Env} {R : Room} {s : State} {m : MethodId} {args : Array Value} {below : List Frame} {meth : Method} {c : Code} {H : Heap} {locs : List Loc} {cells slots : Nat} {Q : State → Prop}
variable {cc : ByteArray} {pc : Nat} {ls : Array Slot} {rest st0 : List Value} {g : Gm} {A : Nat → Prop} {H0 : Heap} {ws wc wr : va_W} {own C : String} {nL : Nat}
theorem runV_X {y : MethodName} {cb : ByteArray} {mL n idx b : Nat} {ret : Option FieldType} {rm : Room} {Qc : Array Value → State → Outcome → State → Prop} {As : List Value} {ci q0 : Nat} {fs : List Value} {T : u_T} {N : Nat}
    (S : Sta p c cc s args own m) (hml : c.maxLocals = nL) (hK : va_K g.1 vwC (tysG g) s) (hZ : Zs g A s H) (hc : Cut g A H wc wr)
    (hM : Met l y (wsY y cb mL ret) rm (va_Pc (.ref b :: As) (PreX g wc H.size (tot H))) Qc rm.cells rm.slots (va_A wc H.size))
    (hg : GoodIn lw_g (wsV own idx C y (wsY y cb mL ret))) (hd : y.cls = C ∧ y.cls ≠ "java/lang/invoke/MethodHandle" ∧ y.cls ≠ "java/lang/invoke/VarHandle" ∧ (parseMethodDescriptor y.desc).map (fun d => d.parameters.length) = some n)
    (hR : rm.frames + 1 ≤ R.frames ∧ 8 + (mL + 11) + rm.locals ≤ R.locals) (hr : wc[q0]? = some (b, .inr (ci, fs))) (hci : vwC[ci]? = some (C, T, N)) (hn : As.length = n) (hls : ls.size = nL) (hst : st0 = As.reverse ++ .ref b :: rest) (hw : (rest.map fun v => v.category).sum ≤ 8) (hdg : decode cc pc = .ok (.invokevirtual idx, 3)) (hf : cells + rm.cells ≤ R.cells ∧ slots + rm.slots ≤ R.slots) :
    va_Run p l e R s m args below meth c H locs cells slots rm.cells rm.slots (F0 m pc ls st0) rest (Qc (Value.ref b :: As).toArray) (va_A wc H.size) := by
  subst hst
  exact va_runV (As := As) (rest := rest) ⟨S.1, S.2.1, hml, S.2.2.2, S.2.2.1⟩ hM (cwV n S.2.2.1 hg rfl rfl rfl hd hR) ⟨PreX.blind, va_recv hK hc.1 hci hr, fun U hU hW => ⟨rfl, by rw [hU], by rw [hU], by rw [hU]; exact hc.1, va_K.moved hW.alike hK, hc.2.1, by rw [hU]; exact (hZ.narrow hc.2.2.1).warm hW⟩⟩ rfl hn hls rfl (lv_room hw) hdg hf
theorem runS_X {y : MethodName} {cb : ByteArray} {mL n idx : Nat} {ret : Option FieldType} {rm : Room} {Qc : Array Value → State → Outcome → State → Prop} {As : List Value}
    (S : Sta p c cc s args own m) (hml : c.maxLocals = nL) (hK : va_K g.1 vwC (tysG g) s) (hZ : Zs g A s H) (hc : Cut g A H wc wr)
    (hM : Met l y (wsY y cb mL ret) rm (va_Pc As (PreX g wc H.size (tot H))) Qc rm.cells rm.slots (va_A wc H.size))
    (h1 : Cond.methodLink own idx y ∈ lw_g) (h2 : Cond.static y ∈ lw_g) (h4 : Cond.initialized y.cls ∈ lw_g) (h5 : Cond.code y cb mL ret ∈ lw_g) (hd : y.cls ≠ "java/lang/invoke/MethodHandle" ∧ y.cls ≠ "java/lang/invoke/VarHandle" ∧ (parseMethodDescriptor y.desc).map (fun d => d.parameters.length) = some n)
    (hR : rm.frames + 1 ≤ R.frames ∧ 8 + (mL + 11) + rm.locals ≤ R.locals) (hn : As.length = n) (hls : ls.size = nL) (hst : st0 = As.reverse ++ rest) (hw : (rest.map fun v => v.category).sum ≤ 8) (hdg : decode cc pc = .ok (.invokestatic idx, 3)) (hf : cells + rm.cells ≤ R.cells ∧ slots + rm.slots ≤ R.slots) :
    va_Run p l e R s m args below meth c H locs cells slots rm.cells rm.slots (F0 m pc ls st0) rest (Qc As.toArray) (va_A wc H.size) := by
  subst hst
  exact va_runS (As := As) (rest := rest) ⟨S.1, S.2.1, hml, S.2.2.2, S.2.2.1⟩ hM ⟨callB_of n S.2.2.1 (gi_Y h5) rfl rfl rfl (S.2.2.1 _ h4) (S.2.2.1 _ h1) hd hR, S.2.2.1 _ h2⟩ ⟨PreX.blind, fun U hU hW => ⟨rfl, by rw [hU], by rw [hU], by rw [hU]; exact hc.1, va_K.moved hW.alike hK, hc.2.1, by rw [hU]; exact (hZ.narrow hc.2.2.1).warm hW⟩⟩ rfl hn hls rfl (lv_room hw) hdg hf
theorem runI_X {y : MethodName} {cb : ByteArray} {mL n idx b : Nat} {rm : Room} {Qc : Array Value → State → Outcome → State → Prop} {As : List Value}
    (S : Sta p c cc s args own m) (hml : c.maxLocals = nL) (hK : va_K g.1 vwC (tysG g) s) (hZ : Zs g A s H) (hc : Cut g A H wc wr)
    (hM : Met l y (wsY y cb mL none) rm (va_Pc (.ref b :: As) (PreX g wc H.size (tot H))) Qc rm.cells rm.slots (va_A wc H.size))
    (h1 : Cond.methodLink own idx y ∈ lw_g) (h2 : Cond.instanceMethod y ∈ lw_g) (h4 : Cond.initialized y.cls ∈ lw_g) (h5 : Cond.code y cb mL none ∈ lw_g) (hy : y.name = "<init>") (hd : y.cls ≠ "java/lang/invoke/MethodHandle" ∧ y.cls ≠ "java/lang/invoke/VarHandle" ∧ (parseMethodDescriptor y.desc).map (fun d => d.parameters.length) = some n)
    (hR : rm.frames + 1 ≤ R.frames ∧ 8 + (mL + 11) + rm.locals ≤ R.locals) (hn : As.length = n) (hls : ls.size = nL) (hst : st0 = As.reverse ++ .ref b :: rest) (hw : (rest.map fun v => v.category).sum ≤ 8) (hdg : decode cc pc = .ok (.invokespecial idx, 3)) (hf : cells + rm.cells ≤ R.cells ∧ slots + rm.slots ≤ R.slots) :
    va_Run p l e R s m args below meth c H locs cells slots rm.cells rm.slots (F0 m pc ls st0) rest (Qc (Value.ref b :: As).toArray) (va_A wc H.size) := by
  subst hst
  exact va_runI (As := As) (rest := rest) ⟨S.1, S.2.1, hml, S.2.2.2, S.2.2.1⟩ hM ⟨callB_of n S.2.2.1 (gi_Y h5) rfl rfl rfl (S.2.2.1 _ h4) (S.2.2.1 _ h1) hd hR, hy, S.2.2.1 _ h2⟩ ⟨PreX.blind, fun U hU hW => ⟨rfl, by rw [hU], by rw [hU], by rw [hU]; exact hc.1, va_K.moved hW.alike hK, hc.2.1, by rw [hU]; exact (hZ.narrow hc.2.2.1).warm hW⟩⟩ rfl hn hls rfl (lv_room hw) hdg hf
theorem w_reti {S : Type} {post : Int32 → S → Prop} {wf : S → va_W} {kx : S → Nat × Nat} {a : Array Value} {mc ms : Nat}
    (hr : va_Run p l e R s m args below meth c H locs cells slots mc ms (F0 m pc ls st0) rest (va_Qi post (AtX g (va_A wc H.size) wf kx H.size (tot H)) (va_A wc H.size) a) (va_A wc H.size)) (hc : Cut g A H wc wr) (E : Ev g A H0 H locs ws)
    (kk : ∀ (r : Int32) (u : S) (H1 : Heap) (locs1 : List Loc), post r u → Ev g A H0 H1 locs1 (wr ++ wf u) → W p l e R s m args below meth c H1 locs1 (cells + (kx u).1) (slots + (kx u).2) Q (F0 m (pc + 3) ls (.int r :: rest))) : W p l e R s m args below meth c H locs cells slots Q (F0 m pc ls st0) := by
  refine W.know (fun g1 g2 _ => ?_)
  refine va_calli hr E.2.2 (fun q _ h => hc.2.2.1 q h) hc.2.2.1 (fun r u t H1 locs1 ht hvm hw hB hz1 hk1 hS => ?_)
  obtain ⟨hP1, -, hD1, n1, n2⟩ := hB
  rw [ht] at hP1 n1 n2
  obtain ⟨hP, hD⟩ := hc.2.2.2 _ H1 hk1 hP1 hD1
  exact W.tight (by omega) (by omega) (kk r u H1 locs1 hw ⟨hP, hD, hS⟩)
theorem w_retl {S : Type} {post : Int64 → S → Prop} {wf : S → va_W} {kx : S → Nat × Nat} {a : Array Value} {mc ms : Nat}
    (hr : va_Run p l e R s m args below meth c H locs cells slots mc ms (F0 m pc ls st0) rest (va_Ql post (AtX g (va_A wc H.size) wf kx H.size (tot H)) (va_A wc H.size) a) (va_A wc H.size)) (hc : Cut g A H wc wr) (E : Ev g A H0 H locs ws)
    (kk : ∀ (r : Int64) (u : S) (H1 : Heap) (locs1 : List Loc), post r u → Ev g A H0 H1 locs1 (wr ++ wf u) → W p l e R s m args below meth c H1 locs1 (cells + (kx u).1) (slots + (kx u).2) Q (F0 m (pc + 3) ls (.long r :: rest))) : W p l e R s m args below meth c H locs cells slots Q (F0 m pc ls st0) := by
  refine W.know (fun g1 g2 _ => ?_)
  refine va_calll hr E.2.2 (fun q _ h => hc.2.2.1 q h) hc.2.2.1 (fun r u t H1 locs1 ht hvm hw hB hz1 hk1 hS => ?_)
  obtain ⟨hP1, -, hD1, n1, n2⟩ := hB
  rw [ht] at hP1 n1 n2
  obtain ⟨hP, hD⟩ := hc.2.2.2 _ H1 hk1 hP1 hD1
  exact W.tight (by omega) (by omega) (kk r u H1 locs1 hw ⟨hP, hD, hS⟩)
theorem w_retv {S : Type} {post : S → Prop} {wf : S → va_W} {kx : S → Nat × Nat} {a : Array Value} {mc ms : Nat}
    (hr : va_Run p l e R s m args below meth c H locs cells slots mc ms (F0 m pc ls st0) rest (va_Qv post (AtX g (va_A wc H.size) wf kx H.size (tot H)) (va_A wc H.size) a) (va_A wc H.size)) (hc : Cut g A H wc wr) (E : Ev g A H0 H locs ws)
    (kk : ∀ (u : S) (H1 : Heap) (locs1 : List Loc), post u → Ev g A H0 H1 locs1 (wr ++ wf u) → W p l e R s m args below meth c H1 locs1 (cells + (kx u).1) (slots + (kx u).2) Q (F0 m (pc + 3) ls rest)) : W p l e R s m args below meth c H locs cells slots Q (F0 m pc ls st0) := by
  refine W.know (fun g1 g2 _ => ?_)
  refine va_callv hr E.2.2 (fun q _ h => hc.2.2.1 q h) hc.2.2.1 (fun u t H1 locs1 ht hvm hw hB hz1 hk1 hS => ?_)
  obtain ⟨hP1, -, hD1, n1, n2⟩ := hB
  rw [ht] at hP1 n1 n2
  obtain ⟨hP, hD⟩ := hc.2.2.2 _ H1 hk1 hP1 hD1
  exact W.tight (by omega) (by omega) (kk u H1 locs1 hw ⟨hP, hD, hS⟩)
/-- a method's ends -/
theorem x_iret {S : Type} {post : Int32 → S → Prop} {wf : S → va_W} {kx : S → Nat × Nat} {sz tt mc ms : Nat} {v : Int32} {w0 : va_W} (u : S) (S0 : Sta p c cc s args own m) (hr : meth.sig.returnType = some .int) (hlocks : meth.locks = false) (hsz : s.heap.size = sz) (htt : tot s.heap = tt) (hK : va_K g.1 vwC (tysG g) s) (E : Ev g (va_A w0 sz) s.heap H locs ws) (hdg : decode cc pc = .ok (.ireturn, 1)) (hp : post v u) (hw : ws = wf u) (hk : cells ≤ (kx u).1 ∧ slots ≤ (kx u).2) (hm : cells ≤ mc ∧ slots ≤ ms) :
    W p l e R s m args below meth c H locs cells slots (MQ below (va_Qi post (AtX g (va_A w0 sz) wf kx sz tt) (va_A w0 sz)) args s mc ms (va_A w0 sz)) (F0 m pc ls [.int v]) := by
  subst hw
  refine W.know (fun g1 g2 _ => ?_)
  refine W.widen hm.1 hm.2 ?_
  exact W.iret S0.1 S0.2.1 hr (fun t ht hW => ⟨⟨v, u, rfl, hp, by rw [ht]; exact E.1, va_K.moved hW.alike hK, E.2.1, by rw [ht]; omega, by rw [ht]; omega⟩, E.2.2.F ht⟩) E.2.2.2.2 hdg hlocks
theorem x_zret {S : Type} {post : Int32 → S → Prop} {wf : S → va_W} {kx : S → Nat × Nat} {sz tt mc ms : Nat} {v : Int32} {w0 : va_W} (u : S) (S0 : Sta p c cc s args own m) (hr : meth.sig.returnType = some .boolean) (hlocks : meth.locks = false) (hsz : s.heap.size = sz) (htt : tot s.heap = tt) (hK : va_K g.1 vwC (tysG g) s) (E : Ev g (va_A w0 sz) s.heap H locs ws) (hdg : decode cc pc = .ok (.ireturn, 1)) (hn : narrow .boolean (.int v) = .int v) (hp : post v u) (hw : ws = wf u) (hk : cells ≤ (kx u).1 ∧ slots ≤ (kx u).2) (hm : cells ≤ mc ∧ slots ≤ ms) :
    W p l e R s m args below meth c H locs cells slots (MQ below (va_Qi post (AtX g (va_A w0 sz) wf kx sz tt) (va_A w0 sz)) args s mc ms (va_A w0 sz)) (F0 m pc ls [.int v]) := by
  subst hw
  refine W.know (fun g1 g2 _ => ?_)
  refine W.widen hm.1 hm.2 ?_
  exact W.zret S0.1 S0.2.1 hr hn (fun t ht hW => ⟨⟨v, u, rfl, hp, by rw [ht]; exact E.1, va_K.moved hW.alike hK, E.2.1, by rw [ht]; omega, by rw [ht]; omega⟩, E.2.2.F ht⟩) E.2.2.2.2 hdg hlocks
theorem x_lret {S : Type} {post : Int64 → S → Prop} {wf : S → va_W} {kx : S → Nat × Nat} {sz tt mc ms : Nat} {v : Int64} {w0 : va_W} (u : S) (S0 : Sta p c cc s args own m) (hr : meth.sig.returnType = some .long) (hlocks : meth.locks = false) (hsz : s.heap.size = sz) (htt : tot s.heap = tt) (hK : va_K g.1 vwC (tysG g) s) (E : Ev g (va_A w0 sz) s.heap H locs ws) (hdg : decode cc pc = .ok (.lreturn, 1)) (hp : post v u) (hw : ws = wf u) (hk : cells ≤ (kx u).1 ∧ slots ≤ (kx u).2) (hm : cells ≤ mc ∧ slots ≤ ms) :
    W p l e R s m args below meth c H locs cells slots (MQ below (va_Ql post (AtX g (va_A w0 sz) wf kx sz tt) (va_A w0 sz)) args s mc ms (va_A w0 sz)) (F0 m pc ls [.long v]) := by
  subst hw
  refine W.know (fun g1 g2 _ => ?_)
  refine W.widen hm.1 hm.2 ?_
  exact W.lret S0.1 S0.2.1 hr (fun t ht hW => ⟨⟨v, u, rfl, hp, by rw [ht]; exact E.1, va_K.moved hW.alike hK, E.2.1, by rw [ht]; omega, by rw [ht]; omega⟩, E.2.2.F ht⟩) E.2.2.2.2 hdg hlocks
theorem x_vret {S : Type} {post : S → Prop} {wf : S → va_W} {kx : S → Nat × Nat} {sz tt mc ms : Nat} {w0 : va_W} (u : S) (S0 : Sta p c cc s args own m) (hr : meth.sig.returnType = none) (hlocks : meth.locks = false) (hsz : s.heap.size = sz) (htt : tot s.heap = tt) (hK : va_K g.1 vwC (tysG g) s) (E : Ev g (va_A w0 sz) s.heap H locs ws) (hdg : decode cc pc = .ok (.return_, 1)) (hp : post u) (hw : ws = wf u) (hk : cells ≤ (kx u).1 ∧ slots ≤ (kx u).2) (hm : cells ≤ mc ∧ slots ≤ ms) :
    W p l e R s m args below meth c H locs cells slots (MQ below (va_Qv post (AtX g (va_A w0 sz) wf kx sz tt) (va_A w0 sz)) args s mc ms (va_A w0 sz)) (F0 m pc ls []) := by
  subst hw
  refine W.know (fun g1 g2 _ => ?_)
  refine W.widen hm.1 hm.2 ?_
  exact W.vret S0.1 S0.2.1 hr (fun t ht hW => ⟨⟨u, rfl, hp, by rw [ht]; exact E.1, va_K.moved hW.alike hK, E.2.1, by rw [ht]; omega, by rw [ht]; omega⟩, E.2.2.F ht⟩) E.2.2.2.2 hdg hlocks
end CALLS
