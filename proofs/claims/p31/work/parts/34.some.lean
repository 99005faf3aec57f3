/-! THE SCRIPT: a method that reads it; the script is no cell of the world, it is never written -/
theorem dL_some_0 : decode cL_some 0 = .ok (.aload_n 0, 1) := by decide +kernel
theorem dL_some_1 : decode cL_some 1 = .ok (.iload_n 1, 1) := by decide +kernel
theorem dL_some_2 : decode cL_some 2 = .ok (.invokestatic 7, 3) := by decide +kernel
theorem dL_some_5 : decode cL_some 5 = .ok (.iconst 3, 1) := by decide +kernel
theorem dL_some_6 : decode cL_some 6 = .ok (.iushr, 1) := by decide +kernel
theorem dL_some_7 : decode cL_some 7 = .ok (.iload_n 2, 1) := by decide +kernel
theorem dL_some_8 : decode cL_some 8 = .ok (.irem, 1) := by decide +kernel
theorem dL_some_9 : decode cL_some 9 = .ok (.ireturn, 1) := by decide +kernel
theorem dL_cell_0 : decode cL_cell 0 = .ok (.iload_n 1, 1) := by decide +kernel
theorem dL_cell_1 : decode cL_cell 1 = .ok (.aload_n 0, 1) := by decide +kernel
theorem dL_cell_2 : decode cL_cell 2 = .ok (.arraylength, 1) := by decide +kernel
theorem dL_cell_3 : decode cL_cell 3 = .ok (.if_icmp .ge 9, 3) := by decide +kernel
theorem dL_cell_6 : decode cL_cell 6 = .ok (.aload_n 0, 1) := by decide +kernel
theorem dL_cell_7 : decode cL_cell 7 = .ok (.iload_n 1, 1) := by decide +kernel
theorem dL_cell_8 : decode cL_cell 8 = .ok (.iaload, 1) := by decide +kernel
theorem dL_cell_9 : decode cL_cell 9 = .ok (.goto 11, 3) := by decide +kernel
theorem dL_cell_12 : decode cL_cell 12 = .ok (.sipush 7919, 3) := by decide +kernel
theorem dL_cell_15 : decode cL_cell 15 = .ok (.iload_n 1, 1) := by decide +kernel
theorem dL_cell_16 : decode cL_cell 16 = .ok (.imul, 1) := by decide +kernel
theorem dL_cell_17 : decode cL_cell 17 = .ok (.bipush 12, 2) := by decide +kernel
theorem dL_cell_19 : decode cL_cell 19 = .ok (.iadd, 1) := by decide +kernel
theorem dL_cell_20 : decode cL_cell 20 = .ok (.ireturn, 1) := by decide +kernel
/-- a method's start, with the script at b -/
def PreScr (g : Gm) (b L : Nat) (xs : Nat → Int32) (sz tt : Nat) : State → Prop := fun U => PreX g [] sz tt U ∧ va_X b L xs U U.heap ∧ b < sz
def MSi (l : Launch) (g : Gm) (y : MethodName) (cc : ByteArray) (maxL : Nat) (rm : Room) (As : List Value) (b L : Nat) (xs : Nat → Int32) (post : Int32 → Prop) : Prop := ∀ sz tt : Nat, Met l y (wsY y cc maxL (some .int)) rm (va_Pc As (PreScr g b L xs sz tt)) (va_Qi (S := Unit) (fun r _ => post r) (AtX g (va_A [] sz) (fun _ => []) (fun _ => (0, 0)) sz tt) (va_A [] sz)) rm.cells rm.slots (va_A [] sz)
theorem PreScr.blind {g : Gm} {b L : Nat} {xs : Nat → Int32} {sz tt : Nat} {As : List Value} : FrameBlind (va_Pc As (PreScr g b L xs sz tt)) := fun a U gf mk q => by
  obtain ⟨q0, q1, q2, q3⟩ := q
  obtain ⟨-, q1'⟩ := PreX.blind (As := As) a U gf mk ⟨q0, q1⟩
  exact ⟨q0, q1', va_X.moved (u := U) (U := U.calling gf mk a) (Vm.Alike.refl U.vm) q2, q3⟩
theorem nin_e {sz b : Nat} (h : b < sz) : ¬ va_A [] sz b := by
  rintro (⟨k, e, hk⟩ | h2)
  · cases hk
  · omega
section ENTRYS
variable {l : Launch} {g : Gm} {y : MethodName} {cc : ByteArray} {maxL : Nat} {rm : Room} {As : List Value} {b L : Nat} {xs : Nat → Int32}
theorem ofScr {ret : Option FieldType} {Qc : Array Value → State → Outcome → State → Prop} {sz tt : Nat} {mc ms : Nat} (own : String) (hown : own = y.cls) (hy : plainName y.cls = true) (hn : (lg_sl As).length ≤ maxL)
    (body : ∀ (p : Program) (e : Env) (s : State) (m : MethodId) (args : Array Value) (below : List Frame) (meth : Method) (c : Code), args = As.toArray → Sta p c cc s args own m → c.maxLocals = maxL → meth.sig.returnType = ret → meth.locks = false → s.heap.size = sz → tot s.heap = tt → va_K g.1 vwC (tysG g) s → (∀ q : Nat, s.heap.size ≤ q → va_A [] sz q) → Zs g (va_A [] sz) s s.heap → Ev g (va_A [] sz) s.heap s.heap [] [] → va_X b L xs s s.heap → b < s.heap.size → ∀ ls : Array Slot, lv_has ls maxL (lv_args 0 As) →
      W p l e rm s m args below meth c s.heap [] 0 0 (MQ below Qc args s mc ms (va_A [] sz)) (F0 m 0 ls [])) : Met l y (wsY y cc maxL ret) rm (va_Pc As (PreScr g b L xs sz tt)) Qc mc ms (va_A [] sz) := by
  refine Met.ofW (cc := cc) (maxL := maxL) (ret := ret) hy rfl ?_
  intro p e s m args below meth c s₁ B hml hv
  obtain ⟨rfl, ⟨hsz, htt, hP, hK, hD0, hZ⟩, hX, hbs⟩ := hv
  have hts := atoms_spec (ws := wsY y cc maxL ret) B.pre
  have ho : s.vm.findClass own = some m.cls := by rw [hown]; exact findClass_of_methodNamed B.named
  rw [lg_entry_eq]
  exact body p e s m _ below meth c rfl ⟨B.exec, B.bytes, fun w h => hts w (List.mem_cons_of_mem _ h), ho⟩ hml B.returns B.notSynchronized hsz htt hK (fun q h => Or.inr (by rw [← hsz]; exact h)) hZ ⟨hP, hD0.self, va_S.rf⟩ hX (by rw [hsz]; exact hbs) _ (lv_entry As hn)
end ENTRYS
section CALLSS
variable {p : Program} {l : Launch} {e : Env} {R : Room} {s : State} {m : MethodId} {args : Array Value} {below : List Frame} {meth : Method} {c : Code} {H : Heap} {locs : List Loc} {cells slots : Nat} {Q : State → Prop}
variable {cc : ByteArray} {pc : Nat} {ls : Array Slot} {rest st0 : List Value} {g : Gm} {A : Nat → Prop} {H0 : Heap} {ws : va_W} {own : String} {nL b L : Nat} {xs : Nat → Int32}
theorem runS_S {y : MethodName} {cb : ByteArray} {mL n idx : Nat} {ret : Option FieldType} {rm : Room} {Qc : Array Value → State → Outcome → State → Prop} {As : List Value}
    (S : Sta p c cc s args own m) (hml : c.maxLocals = nL) (hK : va_K g.1 vwC (tysG g) s) (hZ : Zs g A s H) (hc : Cut g A H [] ws) (hX : va_X b L xs s H) (hbs : b < H.size)
    (hM : Met l y (wsY y cb mL ret) rm (va_Pc As (PreScr g b L xs H.size (tot H))) Qc rm.cells rm.slots (va_A [] H.size))
    (h1 : Cond.methodLink own idx y ∈ lw_g) (h2 : Cond.static y ∈ lw_g) (h4 : Cond.initialized y.cls ∈ lw_g) (h5 : Cond.code y cb mL ret ∈ lw_g) (hd : y.cls ≠ "java/lang/invoke/MethodHandle" ∧ y.cls ≠ "java/lang/invoke/VarHandle" ∧ (parseMethodDescriptor y.desc).map (fun d => d.parameters.length) = some n)
    (hR : rm.frames + 1 ≤ R.frames ∧ 8 + (mL + 11) + rm.locals ≤ R.locals) (hn : As.length = n) (hls : ls.size = nL) (hst : st0 = As.reverse ++ rest) (hw : (rest.map fun v => v.category).sum ≤ 8) (hdg : decode cc pc = .ok (.invokestatic idx, 3)) (hf : cells + rm.cells ≤ R.cells ∧ slots + rm.slots ≤ R.slots) :
    va_Run p l e R s m args below meth c H locs cells slots rm.cells rm.slots (F0 m pc ls st0) rest (Qc As.toArray) (va_A [] H.size) := by
  subst hst
  exact va_runS (As := As) (rest := rest) ⟨S.1, S.2.1, hml, S.2.2.2, S.2.2.1⟩ hM ⟨callB_of n S.2.2.1 (gi_Y h5) rfl rfl rfl (S.2.2.1 _ h4) (S.2.2.1 _ h1) hd hR, S.2.2.1 _ h2⟩ ⟨PreScr.blind, fun U hU hW => ⟨rfl, ⟨by rw [hU], by rw [hU], by rw [hU]; exact hc.1, va_K.moved hW.alike hK, hc.2.1, by rw [hU]; exact (hZ.narrow hc.2.2.1).warm hW⟩, by rw [hU]; exact va_X.moved hW.alike hX, hbs⟩⟩ rfl hn hls rfl (lv_room hw) hdg hf
end CALLSS
set_option maxHeartbeats 1000000 in
/-- cell: whatever it is -/
theorem c_L_cell (l : Launch) (g : Gm) (b L : Nat) (xs : Nat → Int32) (hL : L ≤ 260) (k : Nat) (hk : k < 1000) : MSi l g yL_cell cL_cell 2 ({ frames := 0, cells := 0, slots := 0, locals := 0 } : Room) [.ref b, .int (nI k)] b L xs (fun _ => True) := by
  intro sz tt
  refine ofScr RL rfl (by decide +kernel) (Nat.le_of_ble_eq_true rfl) (fun p e s m args below meth c hargs S hml hr hlk hsz htt hK hA hZ E hX hbs ls hl => ?_)
  have hx := S.1
  have hb := S.2.1
  have hl : lv_has ls 2 [(0, .ref b), (1, .int (nI k))] := hl
  have hnb : ¬ va_A [] sz b := nin_e (by rw [← hsz]; exact hbs)
  refine lv_iload_n hx hb dL_cell_0 rfl (lv_at hl 1 rfl) ?_
  refine lv_aload_n hx hb dL_cell_1 rfl (lv_at hl 0 rfl) ?_
  refine va_slen hx hb hX hbs hnb E.2.2 dL_cell_2 ?_
  refine lv_icmp_ge (tgt := 12) hx hb dL_cell_3 (by decide) (fun _ => ?_) (fun h => ?_)
  · refine lv_sipush (v := 7919) hx hb dL_cell_12 (by decide) ?_
    refine lv_iload_n hx hb dL_cell_15 rfl (lv_at hl 1 rfl) ?_
    refine k_imul hx hb rfl dL_cell_16 ?_
    refine lv_bipush (v := 12) hx hb dL_cell_17 (by decide) ?_
    refine k_iadd hx hb rfl dL_cell_19 ?_
    exact x_iret () S hr hlk hsz htt hK E dL_cell_20 trivial rfl ⟨Nat.le_of_ble_eq_true rfl, Nat.le_of_ble_eq_true rfl⟩ ⟨Nat.le_of_ble_eq_true rfl, Nat.le_of_ble_eq_true rfl⟩
  · have hlt : k < L := by
      have h3 : ¬ nI L ≤ nI k := h
      rw [nI_leI (by omega) (by omega)] at h3
      omega
    refine lv_aload_n hx hb dL_cell_6 rfl (lv_at hl 0 rfl) ?_
    refine lv_iload_n hx hb dL_cell_7 rfl (lv_at hl 1 rfl) ?_
    refine va_sld hx hb hX hbs hnb E.2.2 (vp_in_nI hlt (by omega)) dL_cell_8 ?_
    refine lv_goto (tgt := 20) hx hb dL_cell_9 (by decide) ?_
    exact x_iret () S hr hlk hsz htt hK E dL_cell_20 trivial rfl ⟨Nat.le_of_ble_eq_true rfl, Nat.le_of_ble_eq_true rfl⟩ ⟨Nat.le_of_ble_eq_true rfl, Nat.le_of_ble_eq_true rfl⟩
theorem ushr3 (x : Int32) : ∃ j : Nat, j < 536870912 ∧ (x.toUInt32 >>> ((3 : Int32).toUInt32 &&& Int32.toUInt32 31)).toInt32 = nI j := by
  have h := pk_ushr x 3 3 (by decide)
  have hlt := x.toBitVec.isLt
  refine ⟨x.toBitVec.toNat / 2 ^ 3, by omega, ?_⟩
  apply Int32.toBitVec_inj.mp
  apply BitVec.eq_of_toNat_eq
  rw [h, pk_tn (by omega)]
set_option maxHeartbeats 1000000 in
/-- some: a number below n -/
theorem c_L_some (l : Launch) (g : Gm) (b L : Nat) (xs : Nat → Int32) (hL : L ≤ 260) (k n : Nat) (hk : k < 1000) (hn0 : 0 < n) (hn : n ≤ 1000) : MSi l g yL_some cL_some 3 ({ frames := 1, cells := 0, slots := 0, locals := 21 } : Room) [.ref b, .int (nI k), .int (nI n)] b L xs (fun r => ∃ j : Nat, j < n ∧ r = nI j) := by
  intro sz tt
  refine ofScr RL rfl (by decide +kernel) (Nat.le_of_ble_eq_true rfl) (fun p e s m args below meth c hargs S hml hr hlk hsz htt hK hA hZ E hX hbs ls hl => ?_)
  have hx := S.1
  have hb := S.2.1
  have hl : lv_has ls 3 [(0, .ref b), (1, .int (nI k)), (2, .int (nI n))] := hl
  refine lv_aload_n hx hb dL_some_0 rfl (lv_at hl 0 rfl) ?_
  refine lv_iload_n hx hb dL_some_1 rfl (lv_at hl 1 rfl) ?_
  refine w_reti (runS_S (As := [.ref b, .int (nI k)]) (rest := []) (n := 2) S hml hK (hZ.at E) (Cut.none E hA) hX hbs (c_L_cell l g b L xs hL k hk _ _) ml_L_7 st_L_cell in_L co_L_cell ⟨by decide +kernel, by decide +kernel, by decide +kernel⟩ ⟨Nat.le_of_ble_eq_true rfl, Nat.le_of_ble_eq_true rfl⟩ rfl hl.1 rfl (Nat.le_of_ble_eq_true rfl) dL_some_2 ⟨Nat.le_of_ble_eq_true rfl, Nat.le_of_ble_eq_true rfl⟩) (Cut.none E hA) E (fun r u H locs hp E => ?_)
  obtain ⟨j, hj, ej⟩ := ushr3 r
  refine lv_iconst (v := 3) hx hb dL_some_5 (by decide) ?_
  refine lv_iushr (v := nI j) hx hb dL_some_6 ej ?_
  refine lv_iload_n hx hb dL_some_7 rfl (lv_at hl 2 rfl) ?_
  refine k_irem (v := nI (j % n)) hx hb (fun z => absurd z (nI_ne0 hn0 (by omega))) (pk_rem (a := j) (d := n) (by omega) hn0 (by omega)) dL_some_8 ?_
  exact x_iret () S hr hlk hsz htt hK (by rwa [List.append_nil] at E) dL_some_9 ⟨j % n, Nat.mod_lt _ hn0, rfl⟩ rfl ⟨Nat.le_of_ble_eq_true rfl, Nat.le_of_ble_eq_true rfl⟩ ⟨Nat.le_of_ble_eq_true rfl, Nat.le_of_ble_eq_true rfl⟩
