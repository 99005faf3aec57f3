
/-! NEST mates; a field by its subclass's name -/
theorem sf_mod : Cond.sameField "java/util/ArrayList" "java/util/AbstractList" "modCount" "I" ∈ lw_g := lw_gi 305 (by decide +kernel) (by decide +kernel)
section NROWS
variable {p : Program} {l : Launch} {e : Env} {R : Room} {s : State} {m : MethodId} {args : Array Value} {below : List Frame} {meth : Method} {c : Code} {H : Heap} {locs : List Loc} {cells slots : Nat} {Q : State → Prop}
variable {cc : ByteArray} {pc : Nat} {ls : Array Slot} {rest : List Value} {g : Gm} {A : Nat → Prop} {H0 : Heap} {ws : va_W}
theorem wg_Jx4a65c_63 {a : Nat} {fs : List Value} {v : Value} (S : Sta p c cc s args RJx4a65c m) (hK : va_K g.1 vwC (tysG g) s) (E : Ev g A H0 H locs ws) (q0 : Nat) (he : ws[q0]? = some (a, .inr (8, fs))) (hv : fs[0]? = some v) (hdg : decode cc pc = .ok (.getfield 63, 3)) (kk : W p l e R s m args below meth c H locs cells slots Q (F0 m (pc + 3) ls (v :: rest))) : W p l e R s m args below meth c H locs cells slots Q (F0 m pc ls (.ref a :: rest)) := va_get S.1 S.2.1 S.2.2.1 fw_Jx4a65c S.2.2.2 hK E.1 q0 he rfl 0 (by decide) (S.2.2.1 _ fl_Jx4a65c_63) (u_same (S.2.2.1 _ sf_mod)) hv hdg kk
theorem wp_Jx4a65c_63 {a : Nat} {fs : List Value} {v : Value} {w' : va_W} (S : Sta p c cc s args RJx4a65c m) (hK : va_K g.1 vwC (tysG g) s) (E : Ev g A H0 H locs ws) (q0 : Nat) (he : ws[q0]? = some (a, .inr (8, fs))) (hn : narrow (tyJx4a65c 0) v = v) (hfit : fits (tyJx4a65c 0) v = true) (hl : 0 < fs.length) (hw : ws.set q0 (a, .inr (8, fs.set 0 v)) = w') (hdg : decode cc pc = .ok (.putfield 63, 3)) (kk : ∀ (H1 : Heap) (locs1 : List Loc), Ev g A H0 H1 locs1 w' → W p l e R s m args below meth c H1 locs1 cells slots Q (F0 m (pc + 3) ls rest)) : W p l e R s m args below meth c H locs cells slots Q (F0 m pc ls (v :: .ref a :: rest)) := by
  subst hw
  exact va_put S.1 S.2.1 S.2.2.1 fw_Jx4a65c tyJx4a65c tyJx4a65c_ok nmJx4a65c S.2.2.2 hK E.1 E.2.1 E.2.2 q0 he rfl 0 (by decide) (S.2.2.1 _ fl_Jx4a65c_63) (u_same (S.2.2.1 _ sf_mod)) rfl rfl hn hfit hl hdg (fun H1 l1 hP hD hS => kk H1 l1 ⟨hP, hD, hS⟩)
theorem mn_X5_27 : Cond.methodLinkNest RX5 27 yX4_init "Aquiferward" ∈ lw_tbl := List.mem_of_getElem? (i := 146) (by decide +kernel)
theorem mn_X5_34 : Cond.methodLinkNest RX5 34 yX0_init "Aquiferward" ∈ lw_tbl := List.mem_of_getElem? (i := 202) (by decide +kernel)
theorem runIN_X {own host : String} {nL : Nat} {wc wr : va_W} {st0 : List Value} {y : MethodName} {cb : ByteArray} {mL n idx b : Nat} {rm : Room} {Qc : Array Value → State → Outcome → State → Prop} {As : List Value}
    (S : Sta p c cc s args own m) (hml : c.maxLocals = nL) (hK : va_K g.1 vwC (tysG g) s) (hZ : Zs g A s H) (hc : Cut g A H wc wr)
    (hM : Met l y (wsY y cb mL none) rm (va_Pc (.ref b :: As) (PreX g wc H.size (tot H))) Qc rm.cells rm.slots (va_A wc H.size))
    (h1 : Cond.methodLinkNest own idx y host ∈ lw_tbl) (h2 : Cond.instanceMethod y ∈ lw_g) (h4 : Cond.initialized y.cls ∈ lw_g) (h5 : Cond.code y cb mL none ∈ lw_g) (hy : y.name = "<init>") (hd : y.cls ≠ "java/lang/invoke/MethodHandle" ∧ y.cls ≠ "java/lang/invoke/VarHandle" ∧ (parseMethodDescriptor y.desc).map (fun d => d.parameters.length) = some n)
    (hR : rm.frames + 1 ≤ R.frames ∧ 8 + (mL + 11) + rm.locals ≤ R.locals) (hn : As.length = n) (hls : ls.size = nL) (hst : st0 = As.reverse ++ .ref b :: rest) (hw : (rest.map fun v => v.category).sum ≤ 8) (hdg : decode cc pc = .ok (.invokespecial idx, 3)) (hf : cells + rm.cells ≤ R.cells ∧ slots + rm.slots ≤ R.slots) :
    va_Run p l e R s m args below meth c H locs cells slots rm.cells rm.slots (F0 m pc ls st0) rest (Qc (Value.ref b :: As).toArray) (va_A wc H.size) := by
  subst hst
  exact va_runIN (host := host) (As := As) (rest := rest) ⟨S.1, S.2.1, hml, S.2.2.2, S.2.2.1⟩ hM ⟨va_cnB n S.2.2.1 (gi_Y h5) rfl rfl rfl (hZ.2.2.2.2.2.2.1 _ h1 rfl) (S.2.2.1 _ h4) hd hR, hy, S.2.2.1 _ h2⟩ ⟨PreX.blind, fun U hU hW => ⟨rfl, by rw [hU], by rw [hU], by rw [hU]; exact hc.1, va_K.moved hW.alike hK, hc.2.1, by rw [hU]; exact (hZ.narrow hc.2.2.1).warm hW⟩⟩ rfl hn hls rfl (lv_room hw) hdg hf
end NROWS
