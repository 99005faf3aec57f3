/-! THROWS: methods that may throw, over the layer's worlds -/
/-- behind a throw: which class (PX), the world wx, what was made -/
def XB (g : Gm) (A : Nat → Prop) (wx : va_W) (PX : String → Prop) : String → Unit → State → Prop := fun En _ t => PX En ∧ va_P g.1 vwC wx t.heap ∧ va_K g.1 vwC (tysG g) t ∧ va_D A wx
abbrev XX (g : Gm) (ws wx : va_W) (PX : String → Prop) (sz : Nat) : String → State → State → Prop := vx_X (fun _ : Unit => True) (XB g (va_A ws sz) wx PX) (va_A ws sz)
def YXi {S : Type} (l : Launch) (g : Gm) (y : MethodName) (cc : ByteArray) (maxL : Nat) (rt : FieldType) (rm : Room) (As : List Value) (ws : va_W) (post : Int32 → S → Prop) (wf : S → va_W) (kx : S → Nat × Nat) (wx : va_W) (PX : String → Prop) : Prop := ∀ sz tt : Nat, vx_Met l y (wsY y cc maxL (some rt)) rm (va_Pc As (PreX g ws sz tt)) (va_Qi post (AtX g (va_A ws sz) wf kx sz tt) (va_A ws sz)) (XX g ws wx PX sz) rm.cells rm.slots (va_A ws sz)
def YXl {S : Type} (l : Launch) (g : Gm) (y : MethodName) (cc : ByteArray) (maxL : Nat) (rm : Room) (As : List Value) (ws : va_W) (post : Int64 → S → Prop) (wf : S → va_W) (kx : S → Nat × Nat) (wx : va_W) (PX : String → Prop) : Prop := ∀ sz tt : Nat, vx_Met l y (wsY y cc maxL (some .long)) rm (va_Pc As (PreX g ws sz tt)) (va_Ql post (AtX g (va_A ws sz) wf kx sz tt) (va_A ws sz)) (XX g ws wx PX sz) rm.cells rm.slots (va_A ws sz)
def YXv {S : Type} (l : Launch) (g : Gm) (y : MethodName) (cc : ByteArray) (maxL : Nat) (rm : Room) (As : List Value) (ws : va_W) (post : S → Prop) (wf : S → va_W) (kx : S → Nat × Nat) (wx : va_W) (PX : String → Prop) : Prop := ∀ sz tt : Nat, vx_Met l y (wsY y cc maxL none) rm (va_Pc As (PreX g ws sz tt)) (va_Qv post (AtX g (va_A ws sz) wf kx sz tt) (va_A ws sz)) (XX g ws wx PX sz) rm.cells rm.slots (va_A ws sz)
abbrev wsH (y : MethodName) (b : ByteArray) (n : Nat) (r : Option FieldType) (hh : List (Nat × Nat × Nat × Nat)) : List Cond := Cond.codeWith y b n r hh :: lw_g
/-- a static method with a table of its own, that lets nothing out -/
def HXi {S : Type} (l : Launch) (g : Gm) (y : MethodName) (cc : ByteArray) (maxL : Nat) (rt : FieldType) (hh : List (Nat × Nat × Nat × Nat)) (rm : Room) (As : List Value) (ws : va_W) (post : Int32 → S → Prop) (wf : S → va_W) (kx : S → Nat × Nat) : Prop := ∀ sz tt : Nat, vx_Met l y (wsH y cc maxL (some rt) hh) rm (va_Pc As (PreX g ws sz tt)) (va_Qi post (AtX g (va_A ws sz) wf kx sz tt) (va_A ws sz)) (XX g ws [] (fun _ => False) sz) rm.cells rm.slots (va_A ws sz)
section ENTRYY
variable {l : Launch} {g : Gm} {y : MethodName} {cc : ByteArray} {maxL : Nat} {rm : Room} {As : List Value} {ws : va_W}
theorem ofY {ret : Option FieldType} {Qc : Array Value → State → Outcome → State → Prop} {XC : String → State → State → Prop} {sz tt : Nat} {mc ms : Nat} (own : String) (hown : own = y.cls) (hy : plainName y.cls = true) (hn : (lg_sl As).length ≤ maxL)
    (body : ∀ (p : Program) (e : Env) (s : State) (m : MethodId) (args : Array Value) (below : List Frame) (meth : Method) (c : Code), args = As.toArray → Sta p c cc s args own m → c.maxLocals = maxL → meth.sig.returnType = ret → meth.locks = false → (∀ x ∈ c.exceptionTable.toList, False) → s.heap.size = sz → tot s.heap = tt → va_K g.1 vwC (tysG g) s → (∀ q : Nat, s.heap.size ≤ q → va_A ws sz q) → Zs g (va_A ws sz) s s.heap → Ev g (va_A ws sz) s.heap s.heap [] ws → ∀ ls : Array Slot, lv_has ls maxL (lv_args 0 As) →
      W p l e rm s m args below meth c s.heap [] 0 0 (vx_MQ below Qc XC args s mc ms (va_A ws sz)) (F0 m 0 ls [])) : vx_Met l y (wsY y cc maxL ret) rm (va_Pc As (PreX g ws sz tt)) Qc XC mc ms (va_A ws sz) := by
  refine vx_ofW (cc := cc) (maxL := maxL) (ret := ret) hy rfl ?_
  intro p e s m args below meth c s₁ B hml hex hv
  obtain ⟨rfl, hsz, htt, hP, hK, hD0, hZ⟩ := hv
  have hts := atoms_spec (ws := wsY y cc maxL ret) B.pre
  have ho : s.vm.findClass own = some m.cls := by rw [hown]; exact findClass_of_methodNamed B.named
  rw [lg_entry_eq]
  exact body p e s m _ below meth c rfl ⟨B.exec, B.bytes, fun w h => hts w (List.mem_cons_of_mem _ h), ho⟩ hml B.returns B.notSynchronized hex hsz htt hK (fun q h => Or.inr (by rw [← hsz]; exact h)) hZ ⟨hP, hD0.self, va_S.rf⟩ _ (lv_entry As hn)
theorem ofH {ret : Option FieldType} {hh : List (Nat × Nat × Nat × Nat)} {Qc : Array Value → State → Outcome → State → Prop} {XC : String → State → State → Prop} {sz tt : Nat} {mc ms : Nat} (own : String) (hown : own = y.cls) (hy : plainName y.cls = true) (hn : (lg_sl As).length ≤ maxL)
    (body : ∀ (p : Program) (e : Env) (s : State) (m : MethodId) (args : Array Value) (below : List Frame) (meth : Method) (c : Code), args = As.toArray → Sta p c cc s args own m → c.maxLocals = maxL → meth.sig.returnType = ret → meth.locks = false → c.exceptionTable.toList = tableOf hh → s.heap.size = sz → tot s.heap = tt → va_K g.1 vwC (tysG g) s → (∀ q : Nat, s.heap.size ≤ q → va_A ws sz q) → Zs g (va_A ws sz) s s.heap → Ev g (va_A ws sz) s.heap s.heap [] ws → ∀ ls : Array Slot, lv_has ls maxL (lv_args 0 As) →
      W p l e rm s m args below meth c s.heap [] 0 0 (vx_MQ below Qc XC args s mc ms (va_A ws sz)) (F0 m 0 ls [])) : vx_Met l y (wsH y cc maxL ret hh) rm (va_Pc As (PreX g ws sz tt)) Qc XC mc ms (va_A ws sz) := by
  refine vx_ofWH (cc := cc) (maxL := maxL) (ret := ret) (hh := hh) hy rfl ?_
  intro p e s m args below meth c s₁ B hml hv
  obtain ⟨rfl, hsz, htt, hP, hK, hD0, hZ⟩ := hv
  have hts := atoms_spec (ws := wsH y cc maxL ret hh) B.pre
  have ho : s.vm.findClass own = some m.cls := by rw [hown]; exact findClass_of_methodNamed B.named
  have htab : c.exceptionTable.toList = tableOf hh := vx_table (x := y) B (hts _ List.mem_cons_self)
  rw [lg_entry_eq]
  exact body p e s m _ below meth c rfl ⟨B.exec, B.bytes, fun w h => hts w (List.mem_cons_of_mem _ h), ho⟩ hml B.returns B.notSynchronized htab hsz htt hK (fun q h => Or.inr (by rw [← hsz]; exact h)) hZ ⟨hP, hD0.self, va_S.rf⟩ _ (lv_entry As hn)
end ENTRYY
section CALLSY
variable {p : Program} {l : Launch} {e : Env} {R : Room} {s : State} {m : MethodId} {args : Array Value} {below : List Frame} {meth : Method} {c : Code} {H : Heap} {locs : List Loc} {cells slots : Nat} {Q : State → Prop}
variable {cc : ByteArray} {pc : Nat} {ls : Array Slot} {rest st0 : List Value} {g : Gm} {A : Nat → Prop} {H0 : Heap} {ws wc wr : va_W} {own C : String} {nL : Nat}
theorem yrunV {y : MethodName} {cb : ByteArray} {mL n idx b : Nat} {ret : Option FieldType} {rm : Room} {Qc : Array Value → State → Outcome → State → Prop} {XC : String → State → State → Prop} {As : List Value} {ci q0 : Nat} {fs : List Value} {T : u_T} {N : Nat}
    (S : Sta p c cc s args own m) (hml : c.maxLocals = nL) (hK : va_K g.1 vwC (tysG g) s) (hZ : Zs g A s H) (hc : Cut g A H wc wr)
    (hM : vx_Met l y (wsY y cb mL ret) rm (va_Pc (.ref b :: As) (PreX g wc H.size (tot H))) Qc XC rm.cells rm.slots (va_A wc H.size))
    (hg : GoodIn lw_g (wsV own idx C y (wsY y cb mL ret))) (hd : y.cls = C ∧ y.cls ≠ "java/lang/invoke/MethodHandle" ∧ y.cls ≠ "java/lang/invoke/VarHandle" ∧ (parseMethodDescriptor y.desc).map (fun d => d.parameters.length) = some n)
    (hR : rm.frames + 1 ≤ R.frames ∧ 8 + (mL + 11) + rm.locals ≤ R.locals) (hr : wc[q0]? = some (b, .inr (ci, fs))) (hci : vwC[ci]? = some (C, T, N)) (hn : As.length = n) (hls : ls.size = nL) (hst : st0 = As.reverse ++ .ref b :: rest) (hw : (rest.map fun v => v.category).sum ≤ 8) (hdg : decode cc pc = .ok (.invokevirtual idx, 3)) (hf : cells + rm.cells ≤ R.cells ∧ slots + rm.slots ≤ R.slots) :
    vx_Run p l e R s m args below meth c H locs cells slots rm.cells rm.slots (F0 m pc ls st0) rest (Qc (Value.ref b :: As).toArray) XC (va_A wc H.size) := by
  subst hst
  exact vx_runV (As := As) (rest := rest) ⟨S.1, S.2.1, hml, S.2.2.2, S.2.2.1⟩ hM (cwV n S.2.2.1 hg rfl rfl rfl hd hR) ⟨PreX.blind, va_recv hK hc.1 hci hr, fun U hU hW => ⟨rfl, by rw [hU], by rw [hU], by rw [hU]; exact hc.1, va_K.moved hW.alike hK, hc.2.1, by rw [hU]; exact (hZ.narrow hc.2.2.1).warm hW⟩⟩ rfl hn hls rfl (lv_room hw) hdg hf
theorem yrunS {y : MethodName} {cb : ByteArray} {mL n idx : Nat} {ret : Option FieldType} {rm : Room} {Qc : Array Value → State → Outcome → State → Prop} {XC : String → State → State → Prop} {As : List Value}
    (S : Sta p c cc s args own m) (hml : c.maxLocals = nL) (hK : va_K g.1 vwC (tysG g) s) (hZ : Zs g A s H) (hc : Cut g A H wc wr)
    (hM : vx_Met l y (wsY y cb mL ret) rm (va_Pc As (PreX g wc H.size (tot H))) Qc XC rm.cells rm.slots (va_A wc H.size))
    (h1 : Cond.methodLink own idx y ∈ lw_g) (h2 : Cond.static y ∈ lw_g) (h4 : Cond.initialized y.cls ∈ lw_g) (h5 : Cond.code y cb mL ret ∈ lw_g) (hd : y.cls ≠ "java/lang/invoke/MethodHandle" ∧ y.cls ≠ "java/lang/invoke/VarHandle" ∧ (parseMethodDescriptor y.desc).map (fun d => d.parameters.length) = some n)
    (hR : rm.frames + 1 ≤ R.frames ∧ 8 + (mL + 11) + rm.locals ≤ R.locals) (hn : As.length = n) (hls : ls.size = nL) (hst : st0 = As.reverse ++ rest) (hw : (rest.map fun v => v.category).sum ≤ 8) (hdg : decode cc pc = .ok (.invokestatic idx, 3)) (hf : cells + rm.cells ≤ R.cells ∧ slots + rm.slots ≤ R.slots) :
    vx_Run p l e R s m args below meth c H locs cells slots rm.cells rm.slots (F0 m pc ls st0) rest (Qc As.toArray) XC (va_A wc H.size) := by
  subst hst
  exact vx_runS (As := As) (rest := rest) ⟨S.1, S.2.1, hml, S.2.2.2, S.2.2.1⟩ hM ⟨callB_of n S.2.2.1 (gi_Y h5) rfl rfl rfl (S.2.2.1 _ h4) (S.2.2.1 _ h1) hd hR, S.2.2.1 _ h2⟩ ⟨PreX.blind, fun U hU hW => ⟨rfl, by rw [hU], by rw [hU], by rw [hU]; exact hc.1, va_K.moved hW.alike hK, hc.2.1, by rw [hU]; exact (hZ.narrow hc.2.2.1).warm hW⟩⟩ rfl hn hls rfl (lv_room hw) hdg hf
theorem yrunH {y : MethodName} {cb : ByteArray} {mL n idx : Nat} {ret : Option FieldType} {hh : List (Nat × Nat × Nat × Nat)} {rm : Room} {Qc : Array Value → State → Outcome → State → Prop} {XC : String → State → State → Prop} {As : List Value}
    (S : Sta p c cc s args own m) (hml : c.maxLocals = nL) (hK : va_K g.1 vwC (tysG g) s) (hZ : Zs g A s H) (hc : Cut g A H wc wr)
    (hM : vx_Met l y (wsH y cb mL ret hh) rm (va_Pc As (PreX g wc H.size (tot H))) Qc XC rm.cells rm.slots (va_A wc H.size))
    (h1 : Cond.methodLink own idx y ∈ lw_g) (h2 : Cond.static y ∈ lw_g) (h4 : Cond.initialized own ∈ lw_g) (hcls : y.cls = own) (h5 : Cond.codeWith y cb mL ret hh ∈ lw_g) (hd : y.cls ≠ "java/lang/invoke/MethodHandle" ∧ y.cls ≠ "java/lang/invoke/VarHandle" ∧ (parseMethodDescriptor y.desc).map (fun d => d.parameters.length) = some n)
    (hR : rm.frames + 1 ≤ R.frames ∧ 8 + (mL + 11) + rm.locals ≤ R.locals) (hn : As.length = n) (hls : ls.size = nL) (hst : st0 = As.reverse ++ rest) (hw : (rest.map fun v => v.category).sum ≤ 8) (hdg : decode cc pc = .ok (.invokestatic idx, 3)) (hf : cells + rm.cells ≤ R.cells ∧ slots + rm.slots ≤ R.slots) :
    vx_Run p l e R s m args below meth c H locs cells slots rm.cells rm.slots (F0 m pc ls st0) rest (Qc As.toArray) XC (va_A wc H.size) := by
  subst hst
  have hg : GoodIn lw_g (va_wsS own idx y (wsH y cb mL ret hh)) := by
    intro w hw
    have hm : w ∈ lw_g := by
      rcases List.mem_append.mp hw with h | h
      · simp only [List.mem_cons, List.not_mem_nil, or_false] at h
        rcases h with rfl | rfl | rfl
        · exact h1
        · exact h2
        · rw [hcls]; exact h4
      · rcases List.mem_cons.mp h with rfl | h
        · exact h5
        · exact h
    exact ⟨hm, good_of_word (lw_gg w hm)⟩
  exact vx_runSX (hh := hh) (As := As) (rest := rest) ⟨S.1, S.2.1, hml, S.2.2.2, S.2.2.1⟩ hM (vx_cwSW n S.2.2.1 hg rfl rfl rfl hd hR) ⟨PreX.blind, fun U hU hW => ⟨rfl, by rw [hU], by rw [hU], by rw [hU]; exact hc.1, va_K.moved hW.alike hK, hc.2.1, by rw [hU]; exact (hZ.narrow hc.2.2.1).warm hW⟩⟩ rfl hn hls rfl (lv_room hw) hdg hf
section
variable {wx : va_W} {PX : String → Prop} {S : Type} {wf : S → va_W} {kx : S → Nat × Nat} {a : Array Value} {mc ms : Nat}
theorem y_reti {post : Int32 → S → Prop}
    (hr : vx_Run p l e R s m args below meth c H locs cells slots mc ms (F0 m pc ls st0) rest (va_Qi post (AtX g (va_A wc H.size) wf kx H.size (tot H)) (va_A wc H.size) a) (XX g wc wx PX H.size) (va_A wc H.size)) (hc : Cut g A H wc wr) (E : Ev g A H0 H locs ws)
    (kt : ∀ (En : String) (ce : Cell) (q9 : Addr) (H1 : Heap) (locs1 : List Loc), PX En → Ev g A H0 H1 locs1 (wr ++ wx) → H1[q9]? = some ce → ce.vm = .none → s.vm.findClass En = some ce.cls → vx_W p l e R s m args below meth c H1 locs1 (cells + mc) (slots + ms) Q (F0 m pc ls rest) q9)
    (kk : ∀ (r : Int32) (u : S) (H1 : Heap) (locs1 : List Loc), post r u → Ev g A H0 H1 locs1 (wr ++ wf u) → W p l e R s m args below meth c H1 locs1 (cells + (kx u).1) (slots + (kx u).2) Q (F0 m (pc + 3) ls (.int r :: rest))) : W p l e R s m args below meth c H locs cells slots Q (F0 m pc ls st0) := by
  refine W.know (fun g1 g2 _ => ?_)
  refine vx_calli hr E.2.2 (fun q _ h => hc.2.2.1 q h) hc.2.2.1 (fun q _ h => hc.2.2.1 q h) (fun En ce q9 u t H1 locs1 ht hvm hp hB hz1 hk1 hS hce hcv hcl => ?_) (fun r u t H1 locs1 ht hvm hw hB hz1 hk1 hS => ?_)
  · obtain ⟨hpx, hP1, -, hD1⟩ := hB
    rw [ht] at hP1
    obtain ⟨hP, hD⟩ := hc.2.2.2 _ H1 hk1 hP1 hD1
    exact kt En ce q9 H1 locs1 hpx ⟨hP, hD, hS⟩ hce hcv hcl
  · obtain ⟨hP1, -, hD1, n1, n2⟩ := hB
    rw [ht] at hP1 n1 n2
    obtain ⟨hP, hD⟩ := hc.2.2.2 _ H1 hk1 hP1 hD1
    exact W.tight (by omega) (by omega) (kk r u H1 locs1 hw ⟨hP, hD, hS⟩)
theorem y_retl {post : Int64 → S → Prop}
    (hr : vx_Run p l e R s m args below meth c H locs cells slots mc ms (F0 m pc ls st0) rest (va_Ql post (AtX g (va_A wc H.size) wf kx H.size (tot H)) (va_A wc H.size) a) (XX g wc wx PX H.size) (va_A wc H.size)) (hc : Cut g A H wc wr) (E : Ev g A H0 H locs ws)
    (kt : ∀ (En : String) (ce : Cell) (q9 : Addr) (H1 : Heap) (locs1 : List Loc), PX En → Ev g A H0 H1 locs1 (wr ++ wx) → H1[q9]? = some ce → ce.vm = .none → s.vm.findClass En = some ce.cls → vx_W p l e R s m args below meth c H1 locs1 (cells + mc) (slots + ms) Q (F0 m pc ls rest) q9)
    (kk : ∀ (r : Int64) (u : S) (H1 : Heap) (locs1 : List Loc), post r u → Ev g A H0 H1 locs1 (wr ++ wf u) → W p l e R s m args below meth c H1 locs1 (cells + (kx u).1) (slots + (kx u).2) Q (F0 m (pc + 3) ls (.long r :: rest))) : W p l e R s m args below meth c H locs cells slots Q (F0 m pc ls st0) := by
  refine W.know (fun g1 g2 _ => ?_)
  refine vx_calll hr E.2.2 (fun q _ h => hc.2.2.1 q h) hc.2.2.1 (fun q _ h => hc.2.2.1 q h) (fun En ce q9 u t H1 locs1 ht hvm hp hB hz1 hk1 hS hce hcv hcl => ?_) (fun r u t H1 locs1 ht hvm hw hB hz1 hk1 hS => ?_)
  · obtain ⟨hpx, hP1, -, hD1⟩ := hB
    rw [ht] at hP1
    obtain ⟨hP, hD⟩ := hc.2.2.2 _ H1 hk1 hP1 hD1
    exact kt En ce q9 H1 locs1 hpx ⟨hP, hD, hS⟩ hce hcv hcl
  · obtain ⟨hP1, -, hD1, n1, n2⟩ := hB
    rw [ht] at hP1 n1 n2
    obtain ⟨hP, hD⟩ := hc.2.2.2 _ H1 hk1 hP1 hD1
    exact W.tight (by omega) (by omega) (kk r u H1 locs1 hw ⟨hP, hD, hS⟩)
theorem y_retv {post : S → Prop}
    (hr : vx_Run p l e R s m args below meth c H locs cells slots mc ms (F0 m pc ls st0) rest (va_Qv post (AtX g (va_A wc H.size) wf kx H.size (tot H)) (va_A wc H.size) a) (XX g wc wx PX H.size) (va_A wc H.size)) (hc : Cut g A H wc wr) (E : Ev g A H0 H locs ws)
    (kt : ∀ (En : String) (ce : Cell) (q9 : Addr) (H1 : Heap) (locs1 : List Loc), PX En → Ev g A H0 H1 locs1 (wr ++ wx) → H1[q9]? = some ce → ce.vm = .none → s.vm.findClass En = some ce.cls → vx_W p l e R s m args below meth c H1 locs1 (cells + mc) (slots + ms) Q (F0 m pc ls rest) q9)
    (kk : ∀ (u : S) (H1 : Heap) (locs1 : List Loc), post u → Ev g A H0 H1 locs1 (wr ++ wf u) → W p l e R s m args below meth c H1 locs1 (cells + (kx u).1) (slots + (kx u).2) Q (F0 m (pc + 3) ls rest)) : W p l e R s m args below meth c H locs cells slots Q (F0 m pc ls st0) := by
  refine W.know (fun g1 g2 _ => ?_)
  refine vx_callv hr E.2.2 (fun q _ h => hc.2.2.1 q h) hc.2.2.1 (fun q _ h => hc.2.2.1 q h) (fun En ce q9 u t H1 locs1 ht hvm hp hB hz1 hk1 hS hce hcv hcl => ?_) (fun u t H1 locs1 ht hvm hw hB hz1 hk1 hS => ?_)
  · obtain ⟨hpx, hP1, -, hD1⟩ := hB
    rw [ht] at hP1
    obtain ⟨hP, hD⟩ := hc.2.2.2 _ H1 hk1 hP1 hD1
    exact kt En ce q9 H1 locs1 hpx ⟨hP, hD, hS⟩ hce hcv hcl
  · obtain ⟨hP1, -, hD1, n1, n2⟩ := hB
    rw [ht] at hP1 n1 n2
    obtain ⟨hP, hD⟩ := hc.2.2.2 _ H1 hk1 hP1 hD1
    exact W.tight (by omega) (by omega) (kk u H1 locs1 hw ⟨hP, hD, hS⟩)
end
/-- a throw goes on to the caller -/
theorem y_out {Qc : Array Value → State → Outcome → State → Prop} {w0 wx : va_W} {PX : String → Prop} {sz mc ms : Nat} {En : String} {ce : Cell} {q9 : Addr} (hex : ∀ x ∈ c.exceptionTable.toList, False) (hlocks : meth.locks = false) (hK : va_K g.1 vwC (tysG g) s) (E : Ev g (va_A w0 sz) s.heap H locs ws) (hw : ws = wx) (hp : PX En) (hce : H[q9]? = some ce) (hcv : ce.vm = .none) (hcl : s.vm.findClass En = some ce.cls) (hm : cells ≤ mc ∧ slots ≤ ms) :
    vx_W p l e R s m args below meth c H locs cells slots (vx_MQ below Qc (XX g w0 wx PX sz) args s mc ms (va_A w0 sz)) (F0 m pc ls rest) q9 := by
  subst hw
  refine vx_out (E := En) (fun x hx => (hex x hx).elim) hlocks hce hcv hcl (fun t ht hvm => ⟨(), trivial, ⟨hp, by rw [ht]; exact E.1, va_K.moved hvm hK, E.2.1⟩, E.2.2.F ht⟩) E.2.2.2.2 hm.1 hm.2
/-- throw new E("text") -/
theorem y_throw {Qc : Array Value → State → Outcome → State → Prop} {w0 wx : va_W} {PX : String → Prop} {sz mc ms : Nat} {cls text : String} {names : List String} {ik is ic : Nat} {lv : List (Nat × Value)} (S : Sta p c cc s args own m) (hst : l.stackTraces = false) (hml : c.maxLocals = nL) (hl : lv_has ls nL lv) (hex : ∀ x ∈ c.exceptionTable.toList, False) (hlocks : meth.locks = false) (hK : va_K g.1 vwC (tysG g) s) (hZ : Zs g (va_A w0 sz) s s.heap) (E : Ev g (va_A w0 sz) s.heap H locs ws) (hw : ws = wx) (hp : PX cls)
    (hcls : Bundle.fit cls = true) (hnames : ∀ n ∈ names, Bundle.fit n = true) (hk : Cond.classLink own ik cls ∈ lw_g) (hini : Cond.initialized cls ∈ lw_g) (hstr : (own, is, text) ∈ lw_st) (hat : ∀ w ∈ vx_atS own ic cls names, w ∈ lw_tbl ∧ (goodWord w = true ∨ isDC w = true))
    (d0 : decode cc pc = .ok (.new ik, 3)) (d3 : decode cc (pc + 3) = .ok (.dup, 1)) (d4 : decode cc (pc + 4) = .ok (.ldc is, 2)) (d6 : decode cc (pc + 6) = .ok (.invokespecial ic, 3)) (d9 : decode cc (pc + 9) = .ok (.athrow, 1))
    (hRf : names.length + 3 < R.frames) (hRl : (rest.map fun v => v.category).sum + (13 * (names.length + 1) + 43) ≤ R.locals) (hRc : cells + 1 ≤ R.cells ∧ slots + 6 ≤ R.slots) (hm : cells + 1 ≤ mc ∧ slots + 6 ≤ ms) :
    W p l e R s m args below meth c H locs cells slots (vx_MQ below Qc (XX g w0 wx PX sz) args s mc ms (va_A w0 sz)) (F0 m pc ls rest) := by
  subst hw
  obtain ⟨sa, hsa⟩ := hZ.2.2.2.2.2.2.2.2.1 _ hstr
  have hot : ∀ w : Cond, goodWord w = true ∨ isDC w = true → vx_ot w = true := by
    intro w h
    unfold vx_ot
    rcases h with h | h
    · rw [h, Bool.or_true]
    · cases w <;> first | rfl | cases h
  refine vx_throwS (text := text) (names := names) (is := is) (ic := ic) S.1 S.2.1 hst S.2.2.2 hcls hnames (S.2.2.1 _ hk) (S.2.2.1 _ hini) hsa (fun w h => ?_) (fun w h => ?_) hZ.2.2.2.2.1 hZ.2.2.2.2.2.1 E.2.2 (hl.1.trans hml.symm) d0 d3 d4 d6 d9 (fun x hx => (hex x hx).elim) hRf hRl hRc.1 hRc.2 hlocks (fun t hvm h1 h2 => ⟨(), trivial, ⟨hp, va_P_iff.mpr fun q hq => (va_P_iff.mp E.1 q hq).kept (h2 q.1 (va_P_iff.mp E.1 q hq).lt), va_K.moved hvm hK, E.2.1⟩, ⟨Nat.le_trans E.2.2.1 h1, fun q hq hn => (h2 q (Nat.lt_of_lt_of_le hq E.2.2.1)).trans (E.2.2.2.1 q hq hn)⟩⟩) E.2.2.2.2 hm.1 hm.2
  · obtain ⟨h1, h2⟩ := hat w h
    rcases h2 with h2 | h2
    · exact S.2.2.1 w (List.mem_filter.mpr ⟨List.mem_append_left _ h1, h2⟩)
    · exact va_Nw.use (by cases w <;> first | rfl | cases h2) (hZ.2.2.2.2.2.2.1 w h1 h2)
  · rcases List.mem_cons.mp h with rfl | h
    · exact hot _ (Or.inl (lw_gg _ hk))
    · rcases List.mem_cons.mp h with rfl | h
      · exact hot _ (Or.inl (lw_gg _ hini))
      · exact hot _ (hat w h).2
end CALLSY
/-- where the words of a throw stand -/
def atOK (own : String) (ic : Nat) (X : String) (names : List String) : Bool := (vx_atS own ic X names).all (fun w => decide (w ∈ lw_tbl) && (goodWord w || isDC w))
theorem at_of {own X : String} {ic : Nat} {names : List String} (h : atOK own ic X names = true) : ∀ w ∈ vx_atS own ic X names, w ∈ lw_tbl ∧ (goodWord w = true ∨ isDC w = true) := fun w hw => by
  have h1 := List.all_eq_true.mp h w hw
  simp only [Bool.and_eq_true, decide_eq_true_eq, Bool.or_eq_true] at h1
  exact h1
