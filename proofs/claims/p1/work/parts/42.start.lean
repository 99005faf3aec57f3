/-! THE LAW'S BEGINNING -/
section START
variable {s : State} {args : Array Value}
theorem st_arr {t : FieldType} (h : (Cond.arrayClass t).before args s = true) : ∃ cA : ClassId, ArrOfT s cA t ∧ s.vm.findClass ("[" ++ t.toString) = some cA := by
  obtain ⟨cA, kA, comp, h1, h2, h3⟩ := Cond.arrayClass_spec h
  exact ⟨cA, fun n z => ⟨fun k h => (by cases h), kA, h2, comp, h3⟩, h1⟩
theorem st_ao {C : String} (h : (Cond.arrayOver (.object C)).before args s = true) : ∃ cA : ClassId, ArrOfT s cA (.object C) ∧ va_RA s cA (.object C) := by
  obtain ⟨comp, cA, kA, h1, -, h2, h3, h4⟩ := Cond.arrayOver_spec h
  exact ⟨cA, fun n z => ⟨fun k h => (by cases h), kA, h2, comp, h3⟩, kA, comp, h2, h3, h1, h4⟩
theorem st_sel {C : String} {n : Nat} {y x z : MethodName} (hy : y.cls ≠ "java/lang/invoke/MethodHandle" ∧ y.cls ≠ "java/lang/invoke/VarHandle") (hins : (Cond.instantiable C n).before args s = true) (hpriv : (Cond.privateMethod y).before args s = true) (hinst : (Cond.instanceMethod y).before args s = true) (hz : (Cond.selects C x z).before args s = true) (hc : z.cls = y.cls) : (Cond.selects C y y).before args s = true := by
  obtain ⟨c, k, hc0, hk, -, -, -, -⟩ := Cond.instantiable_spec hins
  obtain ⟨mk, methM, hnamed, hmethM, -, -⟩ := Cond.instanceMethod_spec hinst
  have hfound : s.methodFound? y.cls y.name y.desc = some mk := State.methodFound?_of_named hnamed hy
  obtain ⟨c', r', m', -, -, hm', -, k2, hk2, hni⟩ := Cond.selects_spec hz
  have hf : s.vm.findClass y.cls = some m'.cls := by rw [← hc]; exact findClass_of_methodNamed hm'
  have hcls : mk.cls = m'.cls := Option.some.inj ((findClass_of_methodNamed hnamed).symm.trans hf)
  have hk3 : s.vm.classes[mk.cls]? = some k2 := by rw [hcls]; exact hk2
  have hsel : selectMethod {} s.vm c mk = .method mk := selectMethod_private hmethM (Cond.privateMethod_at hpriv mk methM hnamed hmethM)
  simp only [Cond.before, Cond.holds, Cond.value, hc0, hfound, hnamed, hsel, hk3]
  simp; exact hni
theorem st_g (h : ∀ w ∈ lw_tbl, w.before args s = true) : ∀ w ∈ lw_g, w.before args s = true := by
  intro w hw
  rcases List.mem_append.mp (lw_gt w hw) with h1 | h1
  · exact h w h1
  · simp only [lw_xw, List.mem_cons, List.not_mem_nil, or_false] at h1
    rcases h1 with rfl | rfl
    · exact st_sel (n := 4) (x := ⟨"java/lang/AbstractStringBuilder", "isLatin1", "()Z"⟩) (z := ⟨"java/lang/AbstractStringBuilder", "isLatin1", "()Z"⟩) ⟨by decide +kernel, by decide +kernel⟩ (h _ (List.mem_of_getElem? (i := 228) (by decide +kernel))) (h _ (List.mem_of_getElem? (i := 470) (by decide +kernel))) (h _ (List.mem_of_getElem? (i := 471) (by decide +kernel))) (h _ (List.mem_of_getElem? (i := 503) (by decide +kernel))) (by decide +kernel)
    · exact st_sel (n := 4) (x := ⟨"java/lang/AbstractStringBuilder", "isLatin1", "()Z"⟩) (z := ⟨"java/lang/AbstractStringBuilder", "isLatin1", "()Z"⟩) ⟨by decide +kernel, by decide +kernel⟩ (h _ (List.mem_of_getElem? (i := 228) (by decide +kernel))) (h _ (List.mem_of_getElem? (i := 474) (by decide +kernel))) (h _ (List.mem_of_getElem? (i := 475) (by decide +kernel))) (h _ (List.mem_of_getElem? (i := 503) (by decide +kernel))) (by decide +kernel)
theorem st_K (h : ∀ w ∈ lw_tbl, w.before args s = true) (tx : Nat → Nat) : ∃ g : Gm, g.2.2 = tx ∧ va_K g.1 vwC (tysG g) s := by
  have hg := st_g h
  obtain ⟨c0, i0, k0⟩ := u_known (N := 1) hg fw_X0 (hg _ ib_X0)
  obtain ⟨c1, i1, k1⟩ := u_known (N := 5) hg fw_X1 (hg _ ib_X1)
  obtain ⟨c2, i2, k2⟩ := u_known (N := 4) hg fw_X2 (hg _ ib_X2)
  obtain ⟨c3, i3, k3⟩ := u_known (N := 8) hg fw_X3 (hg _ ib_X3)
  obtain ⟨c4, i4, k4⟩ := u_known (N := 11) hg fw_X4 (hg _ ib_X4)
  obtain ⟨c5, i5, k5⟩ := u_known (N := 12) hg fw_X5 (hg _ ib_X5)
  obtain ⟨c6, i6, k6⟩ := u_known (N := 4) hg fw_X6 (hg _ ib_X6)
  obtain ⟨c7, i7, k7⟩ := u_known (N := 4) hg fw_J4 (hg _ ib_J4)
  obtain ⟨c8, i8, k8⟩ := u_known (N := 3) hg fw_Jx4a65c (hg _ ib_Jx4a65c)
  obtain ⟨c9, i9, k9⟩ := u_known (N := 3) hg fw_X9 (hg _ ib_X9)
  obtain ⟨c10, i10, k10⟩ := u_known (N := 18) hg fw_X7 (hg _ ib_X7)
  obtain ⟨c11, i11, k11⟩ := u_known (N := 9) hg fw_X8 (hg _ ib_X8)
  obtain ⟨c12, i12, k12⟩ := u_known (N := 4) hg fw_Jx35411 (hg _ ib_Jx35411)
  obtain ⟨t0, a0, b0⟩ := st_arr (h (.arrayClass .int) (List.mem_of_getElem? (i := 113) (by decide +kernel)))
  obtain ⟨t1, a1, b1⟩ := st_arr (h (.arrayClass .long) (List.mem_of_getElem? (i := 213) (by decide +kernel)))
  obtain ⟨t2, a2, b2⟩ := st_arr (h (.arrayClass .boolean) (List.mem_of_getElem? (i := 214) (by decide +kernel)))
  obtain ⟨t3, a3, b3⟩ := st_arr (h (.arrayClass .byte) (List.mem_of_getElem? (i := 258) (by decide +kernel)))
  obtain ⟨t4, a4, b4⟩ := st_ao (h (.arrayOver (.object "java/lang/Object")) (List.mem_of_getElem? (i := 824) (by decide +kernel)))
  obtain ⟨t5, a5, b5⟩ := st_ao (h (.arrayOver (.object "Aquiferward$World")) (List.mem_of_getElem? (i := 302) (by decide +kernel)))
  refine ⟨((fun n => match n with | 0 => c0 | 1 => c1 | 2 => c2 | 3 => c3 | 4 => c4 | 5 => c5 | 6 => c6 | 7 => c7 | 8 => c8 | 9 => c9 | 10 => c10 | 11 => c11 | 12 => c12 | _ => c0, fun n => match n with | 0 => i0 | 1 => i1 | 2 => i2 | 3 => i3 | 4 => i4 | 5 => i5 | 6 => i6 | 7 => i7 | 8 => i8 | 9 => i9 | 10 => i10 | 11 => i11 | 12 => i12 | _ => i0), (fun n => match n with | 0 => t0 | 1 => t1 | 2 => t2 | 3 => t3 | 4 => t4 | 5 => t5 | _ => t0), tx), rfl, ?_, ?_⟩
  · intro n q hq
    match n, hq with
    | 0, hq => cases hq; exact k0
    | 1, hq => cases hq; exact k1
    | 2, hq => cases hq; exact k2
    | 3, hq => cases hq; exact k3
    | 4, hq => cases hq; exact k4
    | 5, hq => cases hq; exact k5
    | 6, hq => cases hq; exact k6
    | 7, hq => cases hq; exact k7
    | 8, hq => cases hq; exact k8
    | 9, hq => cases hq; exact k9
    | 10, hq => cases hq; exact k10
    | 11, hq => cases hq; exact k11
    | 12, hq => cases hq; exact k12
    | n + 13, hq => exact absurd hq (by simp [vwC])
  · intro n q hq
    match n, hq with
    | 0, hq => cases hq; exact ⟨a0, b0⟩
    | 1, hq => cases hq; exact ⟨a1, b1⟩
    | 2, hq => cases hq; exact ⟨a2, b2⟩
    | 3, hq => cases hq; exact ⟨a3, b3⟩
    | 4, hq => cases hq; exact ⟨a4, b4⟩
    | 5, hq => cases hq; exact ⟨a5, b5⟩
    | n + 6, hq => exact absurd hq (by simp [tysG])
theorem st_on {w : Cond} (h : isDC w = true) : w.onTables = true := by
  cases w <;> first | rfl | cases h
theorem st_str {own : String} {k : Nat} (h : (Cond.exactly (.string own k) "java/lang/String").before args s = true) : ∃ a : Nat, (Term.string own k).eval args s none [] s = some (.ref a) := by
  obtain ⟨a, c, cA, kA, q1, -⟩ := Cond.exactly_spec (args := args) (first := s) (o := none) (s := s) (idx := []) (t := .string own k) (cls := "java/lang/String") h
  exact ⟨a, q1⟩
theorem st_R {own tx : String} {k a : Nat} (h1 : (Cond.stringRef own k tx).before args s = true) (h2 : (Term.string own k).eval args s none [] s = some (.ref a)) : vk_R own k tx a s := vk_R.of h1 h2
/-- statics and texts at the start -/
theorem st_Z {b : Nat} (h : ∀ w ∈ lw_tbl, w.before #[.ref b] s = true) (hgv : (Jvm.Cond.and given_1 narrow_1).before #[.ref b] s = true) : ∃ tx : Nat → Nat, ∀ g : Gm, g.2.2 = tx → Zs g (fun q => s.heap.size ≤ q) s s.heap := by
  have hs := flat_of_before _ hgv
  have hA : ∀ a : Nat, a < s.heap.size → ¬ s.heap.size ≤ a := fun a h => Nat.not_le.mpr h
  obtain ⟨e0, he0, hT⟩ := va_Tof (f := fun _ => Value.null) (N := 0) (A := fun q => s.heap.size ≤ q) (by decide) (hs (.arrayOf (.static "java/util/ArrayList" "DEFAULTCAPACITY_EMPTY_ELEMENTDATA" "[Ljava/lang/Object;") (.object "java/lang/Object")) (by decide +kernel)) (va_eqt (hs (.eq (.length (.static "java/util/ArrayList" "DEFAULTCAPACITY_EMPTY_ELEMENTDATA" "[Ljava/lang/Object;")) (.int 0)) (by decide +kernel))) (fun j hj => absurd hj (Nat.not_lt_zero j)) hA
  obtain ⟨adK, adV, hS, hKe⟩ := vk_Sof (N := 1) (tm := fun _ => .string "Aquiferward" 182) (len := [9]) (byt := [bytN]) (A := fun q => s.heap.size ≤ q) (fun i hi => by
      obtain rfl : i = 0 := by omega
      decide) (fun i hi => (hs (.exactly (.string "Aquiferward" 182) "java/lang/String") (by decide +kernel))) (fun i hi => (hs (.eq (.field (.string "Aquiferward" 182) "java/lang/String" "coder" "B") (.int 0)) (by decide +kernel))) (fun i hi => (hs (.arrayOf (.field (.string "Aquiferward" 182) "java/lang/String" "value" "[B") .byte) (by decide +kernel))) (fun i hi => by
      obtain rfl : i = 0 := by omega
      exact (hs (.eq (.length (.field (.string "Aquiferward" 182) "java/lang/String" "value" "[B")) (.int 9)) (by decide +kernel))) (fun i hi j hj => by
      obtain rfl : i = 0 := by omega
      have hj : j < 9 := hj
      rcases (show j = 0 ∨ j = 1 ∨ j = 2 ∨ j = 3 ∨ j = 4 ∨ j = 5 ∨ j = 6 ∨ j = 7 ∨ j = 8 by omega) with rfl | rfl | rfl | rfl | rfl | rfl | rfl | rfl | rfl
      · exact (hs (.eq (.elem (.field (.string "Aquiferward" 182) "java/lang/String" "value" "[B") (.int 0)) (.int 119)) (by decide +kernel))
      · exact (hs (.eq (.elem (.field (.string "Aquiferward" 182) "java/lang/String" "value" "[B") (.int 1)) (.int 114)) (by decide +kernel))
      · exact (hs (.eq (.elem (.field (.string "Aquiferward" 182) "java/lang/String" "value" "[B") (.int 2)) (.int 112)) (by decide +kernel))
      · exact (hs (.eq (.elem (.field (.string "Aquiferward" 182) "java/lang/String" "value" "[B") (.int 3)) (.int 105)) (by decide +kernel))
      · exact (hs (.eq (.elem (.field (.string "Aquiferward" 182) "java/lang/String" "value" "[B") (.int 4)) (.int 111)) (by decide +kernel))
      · exact (hs (.eq (.elem (.field (.string "Aquiferward" 182) "java/lang/String" "value" "[B") (.int 5)) (.int 115)) (by decide +kernel))
      · exact (hs (.eq (.elem (.field (.string "Aquiferward" 182) "java/lang/String" "value" "[B") (.int 6)) (.int 110)) (by decide +kernel))
      · exact (hs (.eq (.elem (.field (.string "Aquiferward" 182) "java/lang/String" "value" "[B") (.int 7)) (.int 109)) (by decide +kernel))
      · exact (hs (.eq (.elem (.field (.string "Aquiferward" 182) "java/lang/String" "value" "[B") (.int 8)) (.int 108)) (by decide +kernel))) (fun i j hi hj hn => by omega) hA
  have hK0 := hKe 0 (by decide)
  have hK1 := va_eqR (hs (.eq (.string "Aquiferward" 182) (.string "AquiferwardModel" 168)) (by decide +kernel)) hK0
  refine ⟨fun n => match n with | 0 => e0 | 1 => adK 0 | _ => adV 0, fun g hg => ?_⟩
  have g0 : g.2.2 0 = e0 := by rw [hg]; rfl
  have g1 : g.2.2 1 = adK 0 := by rw [hg]; rfl
  have g2 : g.2.2 2 = adV 0 := by rw [hg]; rfl
  refine ⟨va_Zof (h _ (List.mem_of_getElem? (i := 237) (by decide +kernel))) (h _ (List.mem_of_getElem? (i := 41) (by decide +kernel))) (va_eqt (hs (.eq (.static "java/lang/String" "COMPACT_STRINGS" "Z") (.int 1)) (by decide +kernel))) hA, va_Zof (h _ (List.mem_of_getElem? (i := 316) (by decide +kernel))) (h _ (List.mem_of_getElem? (i := 45) (by decide +kernel))) (by rw [g0]; exact he0) hA, by rw [g0]; exact hT, ⟨va_AO.of (h _ (List.mem_of_getElem? (i := 824) (by decide +kernel))), va_AO.of (h _ (List.mem_of_getElem? (i := 302) (by decide +kernel)))⟩, vx_Zqof (h _ (List.mem_of_getElem? (i := 641) (by decide +kernel))) (h _ (List.mem_of_getElem? (i := 48) (by decide +kernel))) (hs (.isRef (.static "java/lang/Throwable" "UNASSIGNED_STACK" "[Ljava/lang/StackTraceElement;")) (by decide +kernel)) hA, vx_Zqof (h _ (List.mem_of_getElem? (i := 643) (by decide +kernel))) (h _ (List.mem_of_getElem? (i := 48) (by decide +kernel))) (hs (.isRef (.static "java/lang/Throwable" "SUPPRESSED_SENTINEL" "Ljava/util/List;")) (by decide +kernel)) hA, fun w hw hd => va_Nw.of (st_on hd) (h w hw), fun q hq => ?_, fun q hq => ?_, va_Fw.of (h _ (List.mem_of_getElem? (i := 1542) (by decide +kernel))) (h _ (List.mem_of_getElem? (i := 1541) (by decide +kernel))) (h _ (List.mem_of_getElem? (i := 1547) (by decide +kernel))) (h _ (List.mem_of_getElem? (i := 1545) (by decide +kernel))) (h _ (List.mem_of_getElem? (i := 1543) (by decide +kernel))), ⟨by rw [g1]; exact st_R (h _ (List.mem_of_getElem? (i := 1072) (by decide +kernel))) hK0, by rw [g1]; exact st_R (h _ (List.mem_of_getElem? (i := 1700) (by decide +kernel))) hK1⟩, ?_⟩
  · simp only [lw_nc, List.mem_cons, List.not_mem_nil, or_false] at hq
    rcases hq with rfl | rfl | rfl | rfl | rfl | rfl
    · exact va_Nc.of (hs (.not (.castable "java/lang/IllegalArgumentException" "java/lang/IndexOutOfBoundsException")) (by decide +kernel))
    · exact va_Nc.of (hs (.not (.castable "java/lang/IllegalStateException" "java/lang/IndexOutOfBoundsException")) (by decide +kernel))
    · exact va_Nc.of (hs (.not (.castable "java/lang/IllegalStateException" "java/lang/IllegalArgumentException")) (by decide +kernel))
    · exact va_Nc.of (hs (.not (.castable "java/lang/UnsupportedOperationException" "java/lang/IndexOutOfBoundsException")) (by decide +kernel))
    · exact va_Nc.of (hs (.not (.castable "java/lang/UnsupportedOperationException" "java/lang/IllegalArgumentException")) (by decide +kernel))
    · exact va_Nc.of (hs (.not (.castable "java/lang/ArithmeticException" "java/lang/IllegalArgumentException")) (by decide +kernel))
  · simp only [lw_st, List.mem_cons, List.not_mem_nil, or_false] at hq
    rcases hq with rfl | rfl | rfl | rfl | rfl | rfl | rfl
    · obtain ⟨a, ha⟩ := st_str (hs (.exactly (.string "Aquiferward" 150) "java/lang/String") (by decide +kernel))
      exact ⟨a, st_R (h _ (List.mem_of_getElem? (i := 719) (by decide +kernel))) ha⟩
    · obtain ⟨a, ha⟩ := st_str (hs (.exactly (.string "Aquiferward" 227) "java/lang/String") (by decide +kernel))
      exact ⟨a, st_R (h _ (List.mem_of_getElem? (i := 735) (by decide +kernel))) ha⟩
    · obtain ⟨a, ha⟩ := st_str (hs (.exactly (.string "Aquiferward" 98) "java/lang/String") (by decide +kernel))
      exact ⟨a, st_R (h _ (List.mem_of_getElem? (i := 895) (by decide +kernel))) ha⟩
    · obtain ⟨a, ha⟩ := st_str (hs (.exactly (.string "Aquiferward" 116) "java/lang/String") (by decide +kernel))
      exact ⟨a, st_R (h _ (List.mem_of_getElem? (i := 931) (by decide +kernel))) ha⟩
    · obtain ⟨a, ha⟩ := st_str (hs (.exactly (.string "Aquiferward" 127) "java/lang/String") (by decide +kernel))
      exact ⟨a, st_R (h _ (List.mem_of_getElem? (i := 960) (by decide +kernel))) ha⟩
    · obtain ⟨a, ha⟩ := st_str (hs (.exactly (.string "Aquiferward" 156) "java/lang/String") (by decide +kernel))
      exact ⟨a, st_R (h _ (List.mem_of_getElem? (i := 1041) (by decide +kernel))) ha⟩
    · obtain ⟨a, ha⟩ := st_str (hs (.exactly (.string "Aquiferward" 191) "java/lang/String") (by decide +kernel))
      exact ⟨a, st_R (h _ (List.mem_of_getElem? (i := 1141) (by decide +kernel))) ha⟩
  · refine ⟨fun i hi => ?_, fun i j hi hj _ => by omega⟩
    obtain rfl : i = 0 := by omega
    have h0 := hS.1 0 (by decide)
    show va_O _ (g.2.2 1) _ _ _ ∧ va_OF _ _ _ _ (g.2.2 1) _ _ _ ∧ va_OF _ _ _ (.ref (g.2.2 2)) (g.2.2 1) _ _ _ ∧ va_T _ (g.2.2 2) _ _ _ _ _
    rw [g1, g2]
    exact h0
end START
