/-! THE LAW'S BEGINNING -/
section START
variable {s : State} {args : Array Value}
theorem st_arr {t : FieldType} (h : (Cond.arrayClass t).before args s = true) : ∃ cA : ClassId, ArrOfT s cA t ∧ s.vm.findClass ("[" ++ t.toString) = some cA := by
  obtain ⟨cA, kA, comp, h1, h2, h3⟩ := Cond.arrayClass_spec h
  exact ⟨cA, fun n z => ⟨fun k h => (by cases h), kA, h2, comp, h3⟩, h1⟩
theorem st_ao {C : String} (h : (Cond.arrayOver (.object C)).before args s = true) : ∃ cA : ClassId, ArrOfT s cA (.object C) ∧ va_RA s cA (.object C) := by
  obtain ⟨comp, cA, kA, h1, -, h2, h3, h4⟩ := Cond.arrayOver_spec h
  exact ⟨cA, fun n z => ⟨fun k h => (by cases h), kA, h2, comp, h3⟩, kA, comp, h2, h3, h1, h4⟩
theorem st_sel {C : String} {n : Nat} {y x z : MethodName} (hy : y.cls ≠ "java/lang/invoke/MethodHandle" ∧ y.cls ≠ "java/lang/invoke/VarHandle") (hins : (Cond.instantiable C n).before args s = true) (hpriv : (Cond.privateMethod y).before args s = true) (hinst : (Cond.instanceMethod y).before args s = true) (hz : (Cond.selects C x z).before args s = true) (hc : z.cls = y.cls) : (Cond.selects C y y).before args s = true := by
  obtain ⟨c, k, hc0, hk, -, -, -, -⟩ := Cond.instantiable_spec hins
  obtain ⟨mk, methM, hnamed, hmethM, -, -⟩ := Cond.instanceMethod_spec hinst
  have hfound : s.methodFound? y.cls y.name y.desc = some mk := State.methodFound?_of_named hnamed hy
  obtain ⟨c', r', m', -, -, hm', -, k2, hk2, hni⟩ := Cond.selects_spec hz
  have hf : s.vm.findClass y.cls = some m'.cls := by rw [← hc]; exact findClass_of_methodNamed hm'
  have hcls : mk.cls = m'.cls := Option.some.inj ((findClass_of_methodNamed hnamed).symm.trans hf)
  have hk3 : s.vm.classes[mk.cls]? = some k2 := by rw [hcls]; exact hk2
  have hsel : selectMethod {} s.vm c mk = .method mk := selectMethod_private hmethM (Cond.privateMethod_at hpriv mk methM hnamed hmethM)
  simp only [Cond.before, Cond.holds, Cond.value, hc0, hfound, hnamed, hsel, hk3]
  simp; exact hni
theorem st_g (h : ∀ w ∈ lw_tbl, w.before args s = true) : ∀ w ∈ lw_g, w.before args s = true := by
  intro w hw
  rcases List.mem_append.mp (lw_gt w hw) with h1 | h1
  · exact h w h1
  · simp only [lw_xw, List.mem_cons, List.not_mem_nil, or_false] at h1
    rcases h1 with rfl | rfl
    · exact st_sel (n := 4) (x := ⟨"java/lang/AbstractStringBuilder", "isLatin1", "()Z"⟩) (z := ⟨"java/lang/AbstractStringBuilder", "isLatin1", "()Z"⟩) ⟨by decide +kernel, by decide +kernel⟩ (h _ (List.mem_of_getElem? (i := 213) (by decide +kernel))) (h _ (List.mem_of_getElem? (i := 437) (by decide +kernel))) (h _ (List.mem_of_getElem? (i := 438) (by decide +kernel))) (h _ (List.mem_of_getElem? (i := 470) (by decide +kernel))) (by decide +kernel)
    · exact st_sel (n := 4) (x := ⟨"java/lang/AbstractStringBuilder", "isLatin1", "()Z"⟩) (z := ⟨"java/lang/AbstractStringBuilder", "isLatin1", "()Z"⟩) ⟨by decide +kernel, by decide +kernel⟩ (h _ (List.mem_of_getElem? (i := 213) (by decide +kernel))) (h _ (List.mem_of_getElem? (i := 441) (by decide +kernel))) (h _ (List.mem_of_getElem? (i := 442) (by decide +kernel))) (h _ (List.mem_of_getElem? (i := 470) (by decide +kernel))) (by decide +kernel)
theorem st_K (h : ∀ w ∈ lw_tbl, w.before args s = true) (tx : Nat → Nat) : ∃ g : Gm, g.2.2 = tx ∧ va_K g.1 vwC (tysG g) s := by
  have hg := st_g h
  obtain ⟨c0, i0, k0⟩ := u_known (N := 1) hg fw_X0 (hg _ ib_X0)
  obtain ⟨c1, i1, k1⟩ := u_known (N := 5) hg fw_X1 (hg _ ib_X1)
  obtain ⟨c2, i2, k2⟩ := u_known (N := 4) hg fw_X2 (hg _ ib_X2)
  obtain ⟨c3, i3, k3⟩ := u_known (N := 8) hg fw_X3 (hg _ ib_X3)
  obtain ⟨c4, i4, k4⟩ := u_known (N := 11) hg fw_X4 (hg _ ib_X4)
  obtain ⟨c5, i5, k5⟩ := u_known (N := 12) hg fw_X5 (hg _ ib_X5)
  obtain ⟨c6, i6, k6⟩ := u_known (N := 4) hg fw_X6 (hg _ ib_X6)
  obtain ⟨c7, i7, k7⟩ := u_known (N := 4) hg fw_J4 (hg _ ib_J4)
  obtain ⟨c8, i8, k8⟩ := u_known (N := 3) hg fw_Jx4a65c (hg _ ib_Jx4a65c)
  obtain ⟨t0, a0, b0⟩ := st_arr (h (.arrayClass .int) (List.mem_of_getElem? (i := 98) (by decide +kernel)))
  obtain ⟨t1, a1, b1⟩ := st_arr (h (.arrayClass .long) (List.mem_of_getElem? (i := 198) (by decide +kernel)))
  obtain ⟨t2, a2, b2⟩ := st_arr (h (.arrayClass .boolean) (List.mem_of_getElem? (i := 199) (by decide +kernel)))
  obtain ⟨t3, a3, b3⟩ := st_arr (h (.arrayClass .byte) (List.mem_of_getElem? (i := 242) (by decide +kernel)))
  obtain ⟨t4, a4, b4⟩ := st_ao (h (.arrayOver (.object "java/lang/Object")) (List.mem_of_getElem? (i := 794) (by decide +kernel)))
  obtain ⟨t5, a5, b5⟩ := st_ao (h (.arrayOver (.object "Aquiferward$World")) (List.mem_of_getElem? (i := 286) (by decide +kernel)))
  refine ⟨((fun n => match n with | 0 => c0 | 1 => c1 | 2 => c2 | 3 => c3 | 4 => c4 | 5 => c5 | 6 => c6 | 7 => c7 | 8 => c8 | _ => c0, fun n => match n with | 0 => i0 | 1 => i1 | 2 => i2 | 3 => i3 | 4 => i4 | 5 => i5 | 6 => i6 | 7 => i7 | 8 => i8 | _ => i0), (fun n => match n with | 0 => t0 | 1 => t1 | 2 => t2 | 3 => t3 | 4 => t4 | 5 => t5 | _ => t0), tx), rfl, ?_, ?_⟩
  · intro n q hq
    match n, hq with
    | 0, hq => cases hq; exact k0
    | 1, hq => cases hq; exact k1
    | 2, hq => cases hq; exact k2
    | 3, hq => cases hq; exact k3
    | 4, hq => cases hq; exact k4
    | 5, hq => cases hq; exact k5
    | 6, hq => cases hq; exact k6
    | 7, hq => cases hq; exact k7
    | 8, hq => cases hq; exact k8
    | n + 9, hq => exact absurd hq (by simp [vwC])
  · intro n q hq
    match n, hq with
    | 0, hq => cases hq; exact ⟨a0, b0⟩
    | 1, hq => cases hq; exact ⟨a1, b1⟩
    | 2, hq => cases hq; exact ⟨a2, b2⟩
    | 3, hq => cases hq; exact ⟨a3, b3⟩
    | 4, hq => cases hq; exact ⟨a4, b4⟩
    | 5, hq => cases hq; exact ⟨a5, b5⟩
    | n + 6, hq => exact absurd hq (by simp [tysG])
theorem st_on {w : Cond} (h : isDC w = true) : w.onTables = true := by
  cases w <;> first | rfl | cases h
theorem st_str {own : String} {k : Nat} (h : (Cond.exactly (.string own k) "java/lang/String").before args s = true) : ∃ a : Nat, (Term.string own k).eval args s none [] s = some (.ref a) := by
  obtain ⟨a, c, cA, kA, q1, -⟩ := Cond.exactly_spec (args := args) (first := s) (o := none) (s := s) (idx := []) (t := .string own k) (cls := "java/lang/String") h
  exact ⟨a, q1⟩
theorem st_R {own tx : String} {k a : Nat} (h1 : (Cond.stringRef own k tx).before args s = true) (h2 : (Term.string own k).eval args s none [] s = some (.ref a)) : vk_R own k tx a s := vk_R.of h1 h2
/-- statics and texts at the start -/
theorem st_Z {b : Nat} (h : ∀ w ∈ lw_tbl, w.before #[.ref b] s = true) (hgv : (Jvm.Cond.and given_1 narrow_1).before #[.ref b] s = true) : ∃ tx : Nat → Nat, ∀ g : Gm, g.2.2 = tx → Zs g (fun q => s.heap.size ≤ q) s s.heap := by
  have hs := flat_of_before _ hgv
  have hA : ∀ a : Nat, a < s.heap.size → ¬ s.heap.size ≤ a := fun a h => Nat.not_le.mpr h
  obtain ⟨e0, he0, hT⟩ := va_Tof (f := fun _ => Value.null) (N := 0) (A := fun q => s.heap.size ≤ q) (by decide) (hs (.arrayOf (.static "java/util/ArrayList" "DEFAULTCAPACITY_EMPTY_ELEMENTDATA" "[Ljava/lang/Object;") (.object "java/lang/Object")) (by decide +kernel)) (va_eqt (hs (.eq (.length (.static "java/util/ArrayList" "DEFAULTCAPACITY_EMPTY_ELEMENTDATA" "[Ljava/lang/Object;")) (.int 0)) (by decide +kernel))) (fun j hj => absurd hj (Nat.not_lt_zero j)) hA
  obtain ⟨adK, adV, hS, hKe⟩ := vk_Sof (N := 1) (tm := fun _ => .string "Aquiferward" 182) (len := [9]) (byt := [bytN]) (A := fun q => s.heap.size ≤ q) (fun i hi => by
      obtain rfl : i = 0 := by omega
      decide) (fun i hi => (hs (.exactly (.string "Aquiferward" 182) "java/lang/String") (by decide +kernel))) (fun i hi => (hs (.eq (.field (.string "Aquiferward" 182) "java/lang/String" "coder" "B") (.int 0)) (by decide +kernel))) (fun i hi => (hs (.arrayOf (.field (.string "Aquiferward" 182) "java/lang/String" "value" "[B") .byte) (by decide +kernel))) (fun i hi => by
      obtain rfl : i = 0 := by omega
      exact (hs (.eq (.length (.field (.string "Aquiferward" 182) "java/lang/String" "value" "[B")) (.int 9)) (by decide +kernel))) (fun i hi j hj => by
      obtain rfl : i = 0 := by omega
      have hj : j < 9 := hj
      rcases (show j = 0 ∨ j = 1 ∨ j = 2 ∨ j = 3 ∨ j = 4 ∨ j = 5 ∨ j = 6 ∨ j = 7 ∨ j = 8 by omega) with rfl | rfl | rfl | rfl | rfl | rfl | rfl | rfl | rfl
      · exact (hs (.eq (.elem (.field (.string "Aquiferward" 182) "java/lang/String" "value" "[B") (.int 0)) (.int 119)) (by decide +kernel))
      · exact (hs (.eq (.elem (.field (.string "Aquiferward" 182) "java/lang/String" "value" "[B") (.int 1)) (.int 114)) (by decide +kernel))
      · exact (hs (.eq (.elem (.field (.string "Aquiferward" 182) "java/lang/String" "value" "[B") (.int 2)) (.int 112)) (by decide +kernel))
      · exact (hs (.eq (.elem (.field (.string "Aquiferward" 182) "java/lang/String" "value" "[B") (.int 3)) (.int 105)) (by decide +kernel))
      · exact (hs (.eq (.elem (.field (.string "Aquiferward" 182) "java/lang/String" "value" "[B") (.int 4)) (.int 111)) (by decide +kernel))
      · exact (hs (.eq (.elem (.field (.string "Aquiferward" 182) "java/lang/String" "value" "[B") (.int 5)) (.int 115)) (by decide +kernel))
      · exact (hs (.eq (.elem (.field (.string "Aquiferward" 182) "java/lang/String" "value" "[B") (.int 6)) (.int 110)) (by decide +kernel))
      · exact (hs (.eq (.elem (.field (.string "Aquiferward" 182) "java/lang/String" "value" "[B") (.int 7)) (.int 109)) (by decide +kernel))
      · exact (hs (.eq (.elem (.field (.string "Aquiferward" 182) "java/lang/String" "value" "[B") (.int 8)) (.int 108)) (by decide +kernel))) (fun i j hi hj hn => by omega) hA
  have hK0 := hKe 0 (by decide)
  obtain ⟨mi, hM⟩ := va_Mi.of (hs (.isRef (.mirror "[Ljava/lang/Object;")) (by decide +kernel))
  refine ⟨fun n => match n with | 0 => e0 | 1 => adK 0 | 2 => adV 0 | _ => mi, fun g hg => ?_⟩
  have g0 : g.2.2 0 = e0 := by rw [hg]; rfl
  have g1 : g.2.2 1 = adK 0 := by rw [hg]; rfl
  have g2 : g.2.2 2 = adV 0 := by rw [hg]; rfl
  have g3 : g.2.2 3 = mi := by rw [hg]; rfl
  refine ⟨va_Zof (h _ (List.mem_of_getElem? (i := 222) (by decide +kernel))) (h _ (List.mem_of_getElem? (i := 33) (by decide +kernel))) (va_eqt (hs (.eq (.static "java/lang/String" "COMPACT_STRINGS" "Z") (.int 1)) (by decide +kernel))) hA, va_Zof (h _ (List.mem_of_getElem? (i := 300) (by decide +kernel))) (h _ (List.mem_of_getElem? (i := 37) (by decide +kernel))) (by rw [g0]; exact he0) hA, by rw [g0]; exact hT, ⟨va_AO.of (h _ (List.mem_of_getElem? (i := 794) (by decide +kernel))), va_AO.of (h _ (List.mem_of_getElem? (i := 286) (by decide +kernel)))⟩, vx_Zqof (h _ (List.mem_of_getElem? (i := 617) (by decide +kernel))) (h _ (List.mem_of_getElem? (i := 38) (by decide +kernel))) (hs (.isRef (.static "java/lang/Throwable" "UNASSIGNED_STACK" "[Ljava/lang/StackTraceElement;")) (by decide +kernel)) hA, vx_Zqof (h _ (List.mem_of_getElem? (i := 619) (by decide +kernel))) (h _ (List.mem_of_getElem? (i := 38) (by decide +kernel))) (hs (.isRef (.static "java/lang/Throwable" "SUPPRESSED_SENTINEL" "Ljava/util/List;")) (by decide +kernel)) hA, fun w hw hd => va_Nw.of (st_on hd) (h w hw), fun q hq => ?_, fun q hq => ?_, (by unfold FWs; rw [g3]; exact hM), ⟨by rw [g1]; exact st_R (h _ (List.mem_of_getElem? (i := 1053) (by decide +kernel))) hK0, trivial⟩, ?_, va_Zqof (h _ (List.mem_of_getElem? (i := 495) (by decide +kernel))) (h _ (List.mem_of_getElem? (i := 49) (by decide +kernel))) (hs (.isRef (.static "jdk/internal/util/Preconditions" "SIOOBE_FORMATTER" "Ljava/util/function/BiFunction;")) (by decide +kernel)) hA⟩
  · simp only [lw_nc, List.mem_cons, List.not_mem_nil, or_false] at hq
    rcases hq with rfl | rfl | rfl | rfl | rfl | rfl
    · exact va_Nc.of (hs (.not (.castable "java/lang/IllegalArgumentException" "java/lang/IndexOutOfBoundsException")) (by decide +kernel))
    · exact va_Nc.of (hs (.not (.castable "java/lang/IllegalStateException" "java/lang/IndexOutOfBoundsException")) (by decide +kernel))
    · exact va_Nc.of (hs (.not (.castable "java/lang/IllegalStateException" "java/lang/IllegalArgumentException")) (by decide +kernel))
    · exact va_Nc.of (hs (.not (.castable "java/lang/UnsupportedOperationException" "java/lang/IndexOutOfBoundsException")) (by decide +kernel))
    · exact va_Nc.of (hs (.not (.castable "java/lang/UnsupportedOperationException" "java/lang/IllegalArgumentException")) (by decide +kernel))
    · exact va_Nc.of (hs (.not (.castable "java/lang/ArithmeticException" "java/lang/IllegalArgumentException")) (by decide +kernel))
  · simp only [lw_st, List.mem_cons, List.not_mem_nil, or_false] at hq
    rcases hq with rfl | rfl | rfl | rfl | rfl | rfl | rfl
    · obtain ⟨a, ha⟩ := st_str (hs (.exactly (.string "Aquiferward" 150) "java/lang/String") (by decide +kernel))
      exact ⟨a, st_R (h _ (List.mem_of_getElem? (i := 695) (by decide +kernel))) ha⟩
    · obtain ⟨a, ha⟩ := st_str (hs (.exactly (.string "Aquiferward" 227) "java/lang/String") (by decide +kernel))
      exact ⟨a, st_R (h _ (List.mem_of_getElem? (i := 711) (by decide +kernel))) ha⟩
    · obtain ⟨a, ha⟩ := st_str (hs (.exactly (.string "Aquiferward" 98) "java/lang/String") (by decide +kernel))
      exact ⟨a, st_R (h _ (List.mem_of_getElem? (i := 867) (by decide +kernel))) ha⟩
    · obtain ⟨a, ha⟩ := st_str (hs (.exactly (.string "Aquiferward" 116) "java/lang/String") (by decide +kernel))
      exact ⟨a, st_R (h _ (List.mem_of_getElem? (i := 904) (by decide +kernel))) ha⟩
    · obtain ⟨a, ha⟩ := st_str (hs (.exactly (.string "Aquiferward" 127) "java/lang/String") (by decide +kernel))
      exact ⟨a, st_R (h _ (List.mem_of_getElem? (i := 1034) (by decide +kernel))) ha⟩
    · obtain ⟨a, ha⟩ := st_str (hs (.exactly (.string "Aquiferward" 156) "java/lang/String") (by decide +kernel))
      exact ⟨a, st_R (h _ (List.mem_of_getElem? (i := 987) (by decide +kernel))) ha⟩
    · obtain ⟨a, ha⟩ := st_str (hs (.exactly (.string "Aquiferward" 191) "java/lang/String") (by decide +kernel))
      exact ⟨a, st_R (h _ (List.mem_of_getElem? (i := 1122) (by decide +kernel))) ha⟩
  · refine ⟨fun i hi => ?_, fun i j hi hj _ => by omega⟩
    obtain rfl : i = 0 := by omega
    have h0 := hS.1 0 (by decide)
    show va_O _ (g.2.2 1) _ _ _ ∧ va_OF _ _ _ _ (g.2.2 1) _ _ _ ∧ va_OF _ _ _ (.ref (g.2.2 2)) (g.2.2 1) _ _ _ ∧ va_T _ (g.2.2 2) _ _ _ _ _
    rw [g1, g2]
    exact h0
end START
section PERMS44
variable {A B C : va_W}
theorem pm_st : (C ++ (B ++ A)).Perm ((A ++ B) ++ C) := by
  have h := perm_ix [A, B, C] (is := [2, 1, 0]) (js := [0, 1, 2]) (by decide)
  simpa [cat] using h
end PERMS44
theorem ti_0 {yf : Nat → Int32} {a b : Nat} : TI 0 0 0 0 yf (a, 0, 0, 10, []) (b, 0, 0, 10, []) σ0 [] := by
  have z : Sm (rI 20 σ0) 6 = 0 := Sm_z (fun k _ => (by decide : (0 : Int32).toInt = 0))
  exact ⟨nw_di, Nat.le_refl _, (nw_di (ea := b)).2.1, fun w hw => absurd hw (by rw [cnt0]; omega), by rw [z]; exact Int.le_refl _, Nat.le_refl _, fun h => absurd h (by decide)⟩
set_option maxHeartbeats 4000000 in
set_option maxRecDepth 100000 in
/-- behind the turns -/
theorem law_k {p : Program} {l : Launch} {e : Env} {s : State} {m : MethodId} {below : List Frame} {meth : Method} {c : Code} {sb : Nat} {g : Gm} {yr : Nat} {qo qp : Fx} (hst : l.stackTraces = false) (S : Sta p c cL_law s #[.ref sb] RL m) (hml : c.maxLocals = 20) (hK : va_K g.1 vwC (tysG g) s) (hZ : Zs g (fun q => s.heap.size ≤ q) s s.heap) {L : Nat} {xs : Nat → Int32} (hL : L ≤ 260) (C0 : lw_At p s m meth c sb L xs) : ∀ (C M A : Nat) (yf : Nat → Int32) (uo up : SOB) (σ : Sg) (cvs : List CV) (H : Heap) (locs : List Loc) (ls : Array Slot) (k0 n0 : Nat), TI 60 C M A yf uo up σ cvs → k0 ≤ 100 * 60 + 2 * eg σ + 400 → n0 ≤ 20000 * 60 + 4 * ec σ + 5000 → Ev g (fun q => s.heap.size ≤ q) s.heap H locs (LW g yr yf qo qp uo up σ σ) → lv_has ls 20 [(7, .int (nI 60)), (6, .ref yr), (5, .int (nI A)), (4, .int (nI M)), (3, .int (nI (cnt σ))), (2, .ref qp.1), (1, .ref qo.1), (0, .ref sb)] → W p l e room_1 s m #[.ref sb] below meth c H locs k0 n0 (lw_Z below #[.ref sb] s) (F0 m 1185 ls []) := by
  intro C M A yf uo up σ cvs H locs ls k0 n0 hT hk0 hn0 E hl
  have hC : C ≤ 500 := by have := hT.2.1; omega
  have hne : uo.2.2.2.2 ≠ [] := (hT.2.2.2.2.2.2 (by decide)).1
  obtain ⟨g1, g2⟩ := nt_c hT.1.1.ev (Nat.le_trans hT.1.1.en (by decide))
  have E1 : Ev g _ s.heap H locs (([(yr, .inl (g.2.1 0, 6, .inl yf))] ++ OB g qp up σ) ++ OB g qo uo σ) := E.perm pm_lo
  rw [OB_ne hne] at E1
  have E2 : Ev g _ s.heap H locs (([(yr, .inl (g.2.1 0, 6, .inl yf))] ++ OB g qp up σ) ++ ((AG g qo ++ WN g qo) ++ SW g qo uo σ)) := E1
  refine W.widen (k := 6500) (n := 1400000) (by omega) (by omega) ?_
  exact le_o hst S hml hK hZ hT.1 hC (fun T H locs ls E hl => le_q0 hst S hml hK hZ hL C0.2.2.2.2.2.2.1 C0.2.2.2.2.2.2.2.1 (le_f hst S hml hK hZ C0 hT.1 hC) E hl) E2 (lv_sub hl [4, 6, 7] rfl)
set_option maxHeartbeats 4000000 in
set_option maxRecDepth 100000 in
/-- from the law's entry -/
theorem law_start {p : Program} {l : Launch} {e : Env} {s : State} {m : MethodId} {below : List Frame} {meth : Method} {c : Code} {sb : Nat} {g : Gm} {ls : Array Slot} (hst : l.stackTraces = false) (S : Sta p c cL_law s #[.ref sb] RL m) (hml : c.maxLocals = 20) (hK : va_K g.1 vwC (tysG g) s) (hZ : Zs g (fun q => s.heap.size ≤ q) s s.heap) {L : Nat} {xs : Nat → Int32} (hL : L ≤ 260) (C0 : lw_At p s m meth c sb L xs) (hl : lv_has ls 20 [(0, .ref sb)]) : W p l e room_1 s m #[.ref sb] below meth c s.heap [] 0 0 (lw_Z below #[.ref sb] s) (F0 m 0 ls []) := by
  have hx := S.1
  have hb := S.2.1
  have hA : ∀ q : Nat, s.heap.size ≤ q → s.heap.size ≤ q := fun _ h => h
  have E : Ev g (fun q => s.heap.size ≤ q) s.heap s.heap [] [] := ⟨fun k q h => absurd h (by simp), ⟨fun i j p q h => absurd h (by simp), fun k q h => absurd h (by simp)⟩, va_S.rf⟩
  refine w_new (ci := 6) (fs := [.null, .null, .null, .null]) (C := RX6) (T := TX6) (N := 4) S hK E hA fw_X6 tyX6 tyX6_ok cl_L_14 ib_X6 in_X6 rfl (fun j hj => by rcases (show j = 0 ∨ j = 1 ∨ j = 2 ∨ j = 3 by omega) with rfl | rfl | rfl | rfl <;> rfl) (Nat.le_of_ble_eq_true rfl) (Nat.le_of_ble_eq_true rfl) dL_law_0 (fun q1 H E => ?_)
  have E : Ev g _ s.heap H _ [(q1, .inr (6, [.null, .null, .null, .null]))] := E
  refine lv_dup hx hb dL_law_3 rfl ?_
  refine w_retv (runI_X (As := []) (rest := [.ref q1]) (n := 0) S hml hK (hZ.at E) (Cut.full E hA) (c_X6_init l g q1 _ _) ml_L_135 im_X6_init in_X6 co_X6_init rfl ⟨by decide +kernel, by decide +kernel, by decide +kernel⟩ ⟨Nat.le_of_ble_eq_true rfl, Nat.le_of_ble_eq_true rfl⟩ rfl hl.1 rfl (Nat.le_of_ble_eq_true rfl) dL_law_4 ⟨Nat.le_of_ble_eq_true rfl, Nat.le_of_ble_eq_true rfl⟩) (Cut.full E hA) E (fun u1 H locs hp E2 => ?_)
  have E : Ev g _ s.heap H locs (OB g (q1, u1.2.1, u1.1, u1.2.2.1, u1.2.2.2.1, u1.2.2.2.2.2) (u1.2.2.2.2.1, 0, 0, 10, []) σ0) := E2.perm nw_ob
  refine lv_astore_n (lv' := [(1, .ref q1), (0, .ref sb)]) hx hb dL_law_7 rfl hl (by decide) rfl (fun ls hl => ?_)
  refine w_new (ci := 6) (fs := [.null, .null, .null, .null]) (C := RX6) (T := TX6) (N := 4) S hK E hA fw_X6 tyX6 tyX6_ok cl_L_14 ib_X6 in_X6 rfl (fun j hj => by rcases (show j = 0 ∨ j = 1 ∨ j = 2 ∨ j = 3 by omega) with rfl | rfl | rfl | rfl <;> rfl) (Nat.le_of_ble_eq_true rfl) (Nat.le_of_ble_eq_true rfl) dL_law_8 (fun q3 H E => ?_)
  refine lv_dup hx hb dL_law_11 rfl ?_
  refine w_retv (runI_X (As := []) (rest := [.ref q3]) (n := 0) S hml hK (hZ.at E) (Cut.app E hA) (c_X6_init l g q3 _ _) ml_L_135 im_X6_init in_X6 co_X6_init rfl ⟨by decide +kernel, by decide +kernel, by decide +kernel⟩ ⟨Nat.le_of_ble_eq_true rfl, Nat.le_of_ble_eq_true rfl⟩ rfl hl.1 rfl (Nat.le_of_ble_eq_true rfl) dL_law_12 ⟨Nat.le_of_ble_eq_true rfl, Nat.le_of_ble_eq_true rfl⟩) (Cut.app E hA) E (fun u3 H locs hp E2 => ?_)
  have E : Ev g _ s.heap H locs (OB g (q1, u1.2.1, u1.1, u1.2.2.1, u1.2.2.2.1, u1.2.2.2.2.2) (u1.2.2.2.2.1, 0, 0, 10, []) σ0 ++ OB g (q3, u3.2.1, u3.1, u3.2.2.1, u3.2.2.2.1, u3.2.2.2.2.2) (u3.2.2.2.2.1, 0, 0, 10, []) σ0) := E2.perm (List.Perm.append_left _ nw_ob)
  refine lv_astore_n (lv' := [(2, .ref q3), (1, .ref q1), (0, .ref sb)]) hx hb dL_law_15 rfl hl (by decide) rfl (fun ls hl => ?_)
  refine lv_iconst (v := 0) hx hb dL_law_16 (by decide) ?_
  refine lv_istore_n (lv' := [(3, .int 0), (2, .ref q3), (1, .ref q1), (0, .ref sb)]) hx hb dL_law_17 rfl hl (by decide) rfl (fun ls hl => ?_)
  refine lv_iconst (v := 0) hx hb dL_law_18 (by decide) ?_
  refine lv_istore (lv' := [(4, .int 0), (3, .int 0), (2, .ref q3), (1, .ref q1), (0, .ref sb)]) hx hb dL_law_19 hl (by decide) rfl (fun ls hl => ?_)
  refine lv_iconst (v := 0) hx hb dL_law_21 (by decide) ?_
  refine lv_istore (lv' := [(5, .int 0), (4, .int 0), (3, .int 0), (2, .ref q3), (1, .ref q1), (0, .ref sb)]) hx hb dL_law_22 hl (by decide) rfl (fun ls hl => ?_)
  refine lv_bipush (v := 6) hx hb dL_law_24 (by decide) ?_
  refine w_newa (atype := .int) (ty := .int) (a0 := (6, .inl (fun _ => 0))) (N' := 6) 0 S hK E hA ac_int rfl rfl (fun C h => by cases h) (fun cA => by first | rfl | (rw [vp_cell_i]; rfl)) (by decide) (by decide) (by decide) (Nat.le_of_ble_eq_true rfl) (Nat.le_of_ble_eq_true rfl) dL_law_26 (fun q5 H E => ?_)
  refine lv_astore (lv' := [(6, .ref q5), (5, .int 0), (4, .int 0), (3, .int 0), (2, .ref q3), (1, .ref q1), (0, .ref sb)]) hx hb dL_law_28 hl (by decide) rfl (fun ls hl => ?_)
  refine lv_iconst (v := 0) hx hb dL_law_30 (by decide) ?_
  refine lv_istore (lv' := [(7, .int 0), (6, .ref q5), (5, .int 0), (4, .int 0), (3, .int 0), (2, .ref q3), (1, .ref q1), (0, .ref sb)]) hx hb dL_law_31 hl (by decide) rfl (fun ls hl => ?_)
  have E : Ev g (fun q => s.heap.size ≤ q) s.heap H _ (LW g q5 (fun _ => 0) (q1, u1.2.1, u1.1, u1.2.2.1, u1.2.2.2.1, u1.2.2.2.2.2) (q3, u3.2.1, u3.1, u3.2.2.1, u3.2.2.2.1, u3.2.2.2.2.2) (u1.2.2.2.2.1, 0, 0, 10, []) (u3.2.2.2.2.1, 0, 0, 10, []) σ0 σ0) := E.perm pm_st
  have hl : lv_has ls 20 [(7, .int (nI 0)), (6, .ref q5), (5, .int (nI 0)), (4, .int (nI 0)), (3, .int (nI (cnt σ0))), (2, .ref q3), (1, .ref q1), (0, .ref sb)] := by
    rw [cnt0]
    exact hl
  refine W.widen (k := 200) (n := 2000) (Nat.le_of_ble_eq_true rfl) (Nat.le_of_ble_eq_true rfl) ?_
  exact law_turns (qo := (q1, u1.2.1, u1.1, u1.2.2.1, u1.2.2.2.1, u1.2.2.2.2.2)) (qp := (q3, u3.2.1, u3.1, u3.2.2.1, u3.2.2.2.1, u3.2.2.2.2.2)) hst S hml hK hZ hL C0.2.2.2.2.2.2.1 C0.2.2.2.2.2.2.2.1 (law_k hst S hml hK hZ hL C0) 60 0 rfl 0 0 0 (fun _ => 0) (u1.2.2.2.2.1, 0, 0, 10, []) (u3.2.2.2.2.1, 0, 0, 10, []) σ0 [] H _ ls 200 2000 ti_0 (by omega) (by omega) E hl
