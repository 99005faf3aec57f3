set_option maxHeartbeats 4000000 in
set_option maxRecDepth 100000 in
/-- byAge -/
theorem c_G_byAge (l : Launch) (g : Gm) (hst : l.stackTraces = false) (x : Nat) (ag : Nat) (wo : Nat) (dy : Nat) (ad : Nat → Nat) (ea : Nat) (σ : Sg) (p0 : Int32) (hW : WF σ) : YXi (S := Unit) l g yX6_byAge cX6_byAge 2 .int ({ frames := 6, cells := 1, slots := 6, locals := 82 } : Room) [.ref x, .int p0] ([(x, .inr (6, [.ref (ad 0), .ref ag, .ref wo, .ref dy]))] ++ wsW g ad (-1) 1 0 ea σ) (fun r _ => r = gi σ 27 p0 ∧ ixOK p0 (gs σ 4)) (fun _ => ([(x, .inr (6, [.ref (ad 0), .ref ag, .ref wo, .ref dy]))] ++ wsW g ad (-1) 1 0 ea σ)) (fun _ => (0, 0)) ([(x, .inr (6, [.ref (ad 0), .ref ag, .ref wo, .ref dy]))] ++ wsW g ad (-1) 1 0 ea σ) (fun En => En = nseC ∧ ¬ (ixOK p0 (gs σ 4))) := by
  intro sz tt
  refine ofY RX6 rfl (by decide +kernel) (Nat.le_of_ble_eq_true rfl) (fun p e s m args below meth c hargs S hml hr hlk hex hsz htt hK hA hZ E ls hl => ?_)
  have hx := S.1
  have hb := S.2.1
  have hl : lv_has ls 2 [(0, .ref x), (1, .int p0)] := hl
  refine lv_iload_n hx hb dX6_byAge_0 rfl (lv_at hl 1 rfl) ?_
  refine lv_if_lt (tgt := 18) hx hb dX6_byAge_1 (by decide) (fun c1 => ?_) (fun c1 => ?_)
  · have c1 : p0 < 0 := c1
    exact y_throwN (text := "there is no such index") S hst hml hl hex hlk hK hZ E rfl ⟨rfl, fun z => le_nlt z.1 c1⟩ cl_X6_148 in__java_util_NoSuchElementException (by decide +kernel) at_nse dX6_byAge_18 dX6_byAge_21 dX6_byAge_22 dX6_byAge_24 dX6_byAge_27 (Nat.le_of_ble_eq_true rfl) (Nat.le_of_ble_eq_true rfl) ⟨Nat.le_of_ble_eq_true rfl, Nat.le_of_ble_eq_true rfl⟩ ⟨Nat.le_of_ble_eq_true rfl, Nat.le_of_ble_eq_true rfl⟩
  · have c1 : ¬ (p0 < 0) := c1
    refine lv_iload_n hx hb dX6_byAge_4 rfl (lv_at hl 1 rfl) ?_
    refine lv_aload_n hx hb dX6_byAge_5 rfl (lv_at hl 0 rfl) ?_
    refine wg_X6_14 (v := .ref (ad 0)) S hK E 0 rfl rfl dX6_byAge_6 ?_
    refine wg_X6_87 (v := .ref (ad 3)) S hK E 1 rfl rfl dX6_byAge_9 ?_
    refine wg_X6_91 (v := .int (gs σ 4)) S hK E 4 rfl rfl dX6_byAge_12 ?_
    refine lv_icmp_lt (tgt := 28) hx hb dX6_byAge_15 (by decide) (fun c2 => ?_) (fun c2 => ?_)
    · have c2 : p0 < (gs σ 4) := c2
      refine lv_aload_n hx hb dX6_byAge_28 rfl (lv_at hl 0 rfl) ?_
      refine wg_X6_14 (v := .ref (ad 0)) S hK E 0 rfl rfl dX6_byAge_29 ?_
      refine wg_X6_87 (v := .ref (ad 3)) S hK E 1 rfl rfl dX6_byAge_32 ?_
      refine wg_X6_153 (v := .ref (ad 27)) S hK E 4 rfl rfl dX6_byAge_35 ?_
      refine lv_iload_n hx hb dX6_byAge_38 rfl (lv_at hl 1 rfl) ?_
      refine w_ild (v := (gi σ 27 p0)) S hK E 28 0 rfl rfl (ix_in6 hW ⟨nlt_le c1, c2⟩) rfl dX6_byAge_39 ?_
      exact vx_ret (x_iret () S hr hlk hsz htt hK E dX6_byAge_40 ⟨rfl, nlt_le c1, c2⟩ rfl ⟨Nat.le_of_ble_eq_true rfl, Nat.le_of_ble_eq_true rfl⟩ ⟨Nat.le_of_ble_eq_true rfl, Nat.le_of_ble_eq_true rfl⟩)
    · have c2 : ¬ (p0 < (gs σ 4)) := c2
      exact y_throwN (text := "there is no such index") S hst hml hl hex hlk hK hZ E rfl ⟨rfl, fun z => c2 z.2⟩ cl_X6_148 in__java_util_NoSuchElementException (by decide +kernel) at_nse dX6_byAge_18 dX6_byAge_21 dX6_byAge_22 dX6_byAge_24 dX6_byAge_27 (Nat.le_of_ble_eq_true rfl) (Nat.le_of_ble_eq_true rfl) ⟨Nat.le_of_ble_eq_true rfl, Nat.le_of_ble_eq_true rfl⟩ ⟨Nat.le_of_ble_eq_true rfl, Nat.le_of_ble_eq_true rfl⟩

theorem dJ4_length_8abf5_0 : decode cJ4_length_8abf5 0 = .ok (.aload_n 0, 1) := by decide +kernel
theorem dJ4_length_8abf5_1 : decode cJ4_length_8abf5 1 = .ok (.invokespecial 343, 3) := by decide +kernel
theorem dJ4_length_8abf5_4 : decode cJ4_length_8abf5 4 = .ok (.ireturn, 1) := by decide +kernel
theorem dJ5_length_8abf5_0 : decode cJ5_length_8abf5 0 = .ok (.aload_n 0, 1) := by decide +kernel
theorem dJ5_length_8abf5_1 : decode cJ5_length_8abf5 1 = .ok (.getfield 79, 3) := by decide +kernel
theorem dJ5_length_8abf5_4 : decode cJ5_length_8abf5 4 = .ok (.ireturn, 1) := by decide +kernel
set_option maxHeartbeats 4000000 in
set_option maxRecDepth 100000 in
/-- AbstractStringBuilder.length -/
theorem c_J5_length_8abf5 (l : Launch) (g : Gm) (a : Nat) (v : Nat) (n : Int32) : MXi (S := Unit) l g yJ5_length_8abf5 cJ5_length_8abf5 1 .int ({ frames := 0, cells := 0, slots := 0, locals := 0 } : Room) [.ref a] [(a, .inr (7, [.ref v, .int 0, .int 0, .int n]))] (fun r _ => r = n) (fun _ => [(a, .inr (7, [.ref v, .int 0, .int 0, .int n]))]) (fun _ => (0, 0)) := by
  intro sz tt
  refine ofX RJ5 rfl (by decide +kernel) (Nat.le_of_ble_eq_true rfl) (fun p e s m args below meth c hargs S hml hr hlk hnm hsz htt hK hA hZ E ls hl => ?_)
  have hx := S.1
  have hb := S.2.1
  have hl : lv_has ls 1 [(0, .ref a)] := hl
  refine lv_aload_n hx hb dJ5_length_8abf5_0 rfl (lv_at hl 0 rfl) ?_
  refine wg_J5_79 (v := .int n) S hK E 0 rfl rfl dJ5_length_8abf5_1 ?_
  exact x_iret () S hr hlk hsz htt hK E dJ5_length_8abf5_4 rfl rfl ⟨Nat.le_of_ble_eq_true rfl, Nat.le_of_ble_eq_true rfl⟩ ⟨Nat.le_of_ble_eq_true rfl, Nat.le_of_ble_eq_true rfl⟩

set_option maxHeartbeats 4000000 in
set_option maxRecDepth 100000 in
/-- StringBuilder.length -/
theorem c_J4_length_8abf5 (l : Launch) (g : Gm) (a : Nat) (v : Nat) (n : Int32) : MXi (S := Unit) l g yJ4_length_8abf5 cJ4_length_8abf5 1 .int ({ frames := 1, cells := 0, slots := 0, locals := 20 } : Room) [.ref a] [(a, .inr (7, [.ref v, .int 0, .int 0, .int n]))] (fun r _ => r = n) (fun _ => [(a, .inr (7, [.ref v, .int 0, .int 0, .int n]))]) (fun _ => (0, 0)) := by
  intro sz tt
  refine ofX RJ4 rfl (by decide +kernel) (Nat.le_of_ble_eq_true rfl) (fun p e s m args below meth c hargs S hml hr hlk hnm hsz htt hK hA hZ E ls hl => ?_)
  have hx := S.1
  have hb := S.2.1
  have hl : lv_has ls 1 [(0, .ref a)] := hl
  refine lv_aload_n hx hb dJ4_length_8abf5_0 rfl (lv_at hl 0 rfl) ?_
  refine w_reti (runSU_X (As := []) (rest := []) (q0 := 0) (n := 0) S hml hK (hZ.at E) (Cut.full E hA) (c_J5_length_8abf5 l g a v n _ _) ml_J4_343 sm_J5_length su_J4 im_J5_length_8abf5 in_J5 co_J5_length_8abf5 ⟨by decide +kernel, by decide +kernel⟩ ⟨Nat.le_of_ble_eq_true rfl, Nat.le_of_ble_eq_true rfl⟩ rfl rfl rfl hl.1 rfl (Nat.le_of_ble_eq_true rfl) dJ4_length_8abf5_1 ⟨Nat.le_of_ble_eq_true rfl, Nat.le_of_ble_eq_true rfl⟩) (Cut.full E hA) E (fun r1 u1 H locs hp E => ?_)
  have E : Ev g _ s.heap H locs [(a, .inr (7, [.ref v, .int 0, .int 0, .int n]))] := E
  subst hp
  exact x_iret () S hr hlk hsz htt hK E dJ4_length_8abf5_4 rfl rfl ⟨Nat.le_of_ble_eq_true rfl, Nat.le_of_ble_eq_true rfl⟩ ⟨Nat.le_of_ble_eq_true rfl, Nat.le_of_ble_eq_true rfl⟩

theorem dJ0_checkIndex_df160_0 : decode cJ0_checkIndex_df160 0 = .ok (.iload_n 0, 1) := by decide +kernel
theorem dJ0_checkIndex_df160_1 : decode cJ0_checkIndex_df160 1 = .ok (.iload_n 1, 1) := by decide +kernel
theorem dJ0_checkIndex_df160_2 : decode cJ0_checkIndex_df160 2 = .ok (.getstatic 1053, 3) := by decide +kernel
theorem dJ0_checkIndex_df160_5 : decode cJ0_checkIndex_df160 5 = .ok (.invokestatic 1059, 3) := by decide +kernel
theorem dJ0_checkIndex_df160_8 : decode cJ0_checkIndex_df160 8 = .ok (.pop, 1) := by decide +kernel
theorem dJ0_checkIndex_df160_9 : decode cJ0_checkIndex_df160 9 = .ok (.return_, 1) := by decide +kernel
theorem dJ5_charAt_5068e_0 : decode cJ5_charAt_5068e 0 = .ok (.aload_n 0, 1) := by decide +kernel
theorem dJ5_charAt_5068e_1 : decode cJ5_charAt_5068e 1 = .ok (.getfield 22, 3) := by decide +kernel
theorem dJ5_charAt_5068e_4 : decode cJ5_charAt_5068e 4 = .ok (.istore_n 2, 1) := by decide +kernel
theorem dJ5_charAt_5068e_5 : decode cJ5_charAt_5068e 5 = .ok (.aload_n 0, 1) := by decide +kernel
theorem dJ5_charAt_5068e_6 : decode cJ5_charAt_5068e 6 = .ok (.getfield 15, 3) := by decide +kernel
theorem dJ5_charAt_5068e_9 : decode cJ5_charAt_5068e 9 = .ok (.astore_n 3, 1) := by decide +kernel
theorem dJ5_charAt_5068e_10 : decode cJ5_charAt_5068e 10 = .ok (.aload_n 0, 1) := by decide +kernel
theorem dJ5_charAt_5068e_11 : decode cJ5_charAt_5068e 11 = .ok (.getfield 79, 3) := by decide +kernel
theorem dJ5_charAt_5068e_14 : decode cJ5_charAt_5068e 14 = .ok (.aload_n 3, 1) := by decide +kernel
theorem dJ5_charAt_5068e_15 : decode cJ5_charAt_5068e 15 = .ok (.arraylength, 1) := by decide +kernel
theorem dJ5_charAt_5068e_16 : decode cJ5_charAt_5068e 16 = .ok (.iload_n 2, 1) := by decide +kernel
theorem dJ5_charAt_5068e_17 : decode cJ5_charAt_5068e 17 = .ok (.ishr, 1) := by decide +kernel
theorem dJ5_charAt_5068e_18 : decode cJ5_charAt_5068e 18 = .ok (.invokestatic 138, 3) := by decide +kernel
theorem dJ5_charAt_5068e_21 : decode cJ5_charAt_5068e 21 = .ok (.istore 4, 2) := by decide +kernel
theorem dJ5_charAt_5068e_23 : decode cJ5_charAt_5068e 23 = .ok (.iload_n 1, 1) := by decide +kernel
theorem dJ5_charAt_5068e_24 : decode cJ5_charAt_5068e 24 = .ok (.iload 4, 2) := by decide +kernel
theorem dJ5_charAt_5068e_26 : decode cJ5_charAt_5068e 26 = .ok (.invokestatic 144, 3) := by decide +kernel
theorem dJ5_charAt_5068e_29 : decode cJ5_charAt_5068e 29 = .ok (.iload_n 2, 1) := by decide +kernel
theorem dJ5_charAt_5068e_30 : decode cJ5_charAt_5068e 30 = .ok (.ifCond .ne 12, 3) := by decide +kernel
theorem dJ5_charAt_5068e_33 : decode cJ5_charAt_5068e 33 = .ok (.aload_n 3, 1) := by decide +kernel
theorem dJ5_charAt_5068e_34 : decode cJ5_charAt_5068e 34 = .ok (.iload_n 1, 1) := by decide +kernel
theorem dJ5_charAt_5068e_35 : decode cJ5_charAt_5068e 35 = .ok (.baload, 1) := by decide +kernel
theorem dJ5_charAt_5068e_36 : decode cJ5_charAt_5068e 36 = .ok (.sipush 255, 3) := by decide +kernel
theorem dJ5_charAt_5068e_39 : decode cJ5_charAt_5068e 39 = .ok (.iand, 1) := by decide +kernel
theorem dJ5_charAt_5068e_40 : decode cJ5_charAt_5068e 40 = .ok (.i2c, 1) := by decide +kernel
theorem dJ5_charAt_5068e_41 : decode cJ5_charAt_5068e 41 = .ok (.ireturn, 1) := by decide +kernel
theorem dJ5_charAt_5068e_42 : decode cJ5_charAt_5068e 42 = .ok (.aload_n 3, 1) := by decide +kernel
theorem dJ5_charAt_5068e_43 : decode cJ5_charAt_5068e 43 = .ok (.iload_n 1, 1) := by decide +kernel
theorem dJ5_charAt_5068e_44 : decode cJ5_charAt_5068e 44 = .ok (.invokestatic 148, 3) := by decide +kernel
theorem dJ5_charAt_5068e_47 : decode cJ5_charAt_5068e 47 = .ok (.ireturn, 1) := by decide +kernel
theorem dJ4_charAt_5068e_0 : decode cJ4_charAt_5068e 0 = .ok (.aload_n 0, 1) := by decide +kernel
theorem dJ4_charAt_5068e_1 : decode cJ4_charAt_5068e 1 = .ok (.iload_n 1, 1) := by decide +kernel
theorem dJ4_charAt_5068e_2 : decode cJ4_charAt_5068e 2 = .ok (.invokespecial 329, 3) := by decide +kernel
theorem dJ4_charAt_5068e_5 : decode cJ4_charAt_5068e 5 = .ok (.ireturn, 1) := by decide +kernel
set_option maxHeartbeats 4000000 in
set_option maxRecDepth 100000 in
/-- Preconditions.checkIndex, with a formatter -/
theorem c_ckR (l : Launch) (g : Gm) (i : Nat) (n : Nat) (f : Nat) (hi : i < n) (hn : n < 1000000) : MXi (S := Unit) l g yJ3_checkIndex_8e157 cJ3_checkIndex_8e157 3 .int ({ frames := 0, cells := 0, slots := 0, locals := 0 } : Room) [.int (nI i), .int (nI n), .ref f] [] (fun r _ => r = nI i) (fun _ => []) (fun _ => (0, 0)) := by
  intro sz tt
  refine ofX RJ3 rfl (by decide +kernel) (Nat.le_of_ble_eq_true rfl) (fun p e s m args below meth c hargs S hml hr hlk hnm hsz htt hK hA hZ E ls hl => ?_)
  have hx := S.1
  have hb := S.2.1
  have hl : lv_has ls 3 [(0, .int (nI i)), (1, .int (nI n)), (2, .ref f)] := hl
  refine lv_iload_n hx hb dJ3_checkIndex_8e157_0 rfl (lv_at hl 0 rfl) ?_
  refine lv_if_lt (tgt := 9) hx hb dJ3_checkIndex_8e157_1 (by decide) (fun c_ => absurd c_ (nI_pos (by omega))) (fun _ => ?_)
  refine lv_iload_n hx hb dJ3_checkIndex_8e157_4 rfl (lv_at hl 0 rfl) ?_
  refine lv_iload_n hx hb dJ3_checkIndex_8e157_5 rfl (lv_at hl 1 rfl) ?_
  refine lv_icmp_lt (tgt := 16) hx hb dJ3_checkIndex_8e157_6 (by decide) (fun _ => ?_) (fun c_ => absurd (nI_lt hi (by omega)) c_)
  refine lv_iload_n hx hb dJ3_checkIndex_8e157_16 rfl (lv_at hl 0 rfl) ?_
  exact x_iret () S hr hlk hsz htt hK E dJ3_checkIndex_8e157_17 rfl rfl ⟨Nat.le_of_ble_eq_true rfl, Nat.le_of_ble_eq_true rfl⟩ ⟨Nat.le_of_ble_eq_true rfl, Nat.le_of_ble_eq_true rfl⟩

theorem fl_sioobe : Cond.fieldLink RJ0 1053 "jdk/internal/util/Preconditions" "SIOOBE_FORMATTER" "Ljava/util/function/BiFunction;" ∈ lw_g := lw_gi 494 (by decide +kernel) (by decide +kernel)
theorem Zs.sio {g : Gm} {A : Nat → Prop} {s : State} {H : Heap} (hZ : Zs g A s H) : va_Zq "jdk/internal/util/Preconditions" "SIOOBE_FORMATTER" "Ljava/util/function/BiFunction;" A s H := hZ.2.2.2.2.2.2.2.2.2.2.2.2
set_option maxHeartbeats 4000000 in
set_option maxRecDepth 100000 in
/-- String.checkIndex -/
theorem c_J0_checkIndex_df160 (l : Launch) (g : Gm) (i : Nat) (n : Nat) (hi : i < n) (hn : n < 1000000) : MXv (S := Unit) l g yJ0_checkIndex_df160 cJ0_checkIndex_df160 2 ({ frames := 1, cells := 0, slots := 0, locals := 22 } : Room) [.int (nI i), .int (nI n)] [] (fun _ => True) (fun _ => []) (fun _ => (0, 0)) := by
  intro sz tt
  refine ofX RJ0 rfl (by decide +kernel) (Nat.le_of_ble_eq_true rfl) (fun p e s m args below meth c hargs S hml hr hlk hnm hsz htt hK hA hZ E ls hl => ?_)
  have hx := S.1
  have hb := S.2.1
  have hl : lv_has ls 2 [(0, .int (nI i)), (1, .int (nI n))] := hl
  refine lv_iload_n hx hb dJ0_checkIndex_df160_0 rfl (lv_at hl 0 rfl) ?_
  refine lv_iload_n hx hb dJ0_checkIndex_df160_1 rfl (lv_at hl 1 rfl) ?_
  rcases hZ.sio with hq | ⟨t9, hq⟩
  · refine w_gets S hq E fl_sioobe dJ0_checkIndex_df160_2 ?_
    refine w_reti (runS_X (As := [.int (nI i), .int (nI n), .null]) (rest := []) (n := 3) S hml hK (hZ.at E) (Cut.full E hA) (c_J3_checkIndex_8e157 l g i n hi (by omega) _ _) ml_J0_1059 st_J3_checkIndex_8e157 in_J3 co_J3_checkIndex_8e157 ⟨by decide +kernel, by decide +kernel, by decide +kernel⟩ ⟨Nat.le_of_ble_eq_true rfl, Nat.le_of_ble_eq_true rfl⟩ rfl hl.1 rfl (Nat.le_of_ble_eq_true rfl) dJ0_checkIndex_df160_5 ⟨Nat.le_of_ble_eq_true rfl, Nat.le_of_ble_eq_true rfl⟩) (Cut.full E hA) E (fun r1 u1 H locs hp E => ?_)
    have E : Ev g _ s.heap H locs [] := E
    have hq := hp.symm
    subst hq
    refine lv_pop hx hb dJ0_checkIndex_df160_8 rfl ?_
    exact x_vret () S hr hlk hsz htt hK E dJ0_checkIndex_df160_9 trivial rfl ⟨Nat.le_of_ble_eq_true rfl, Nat.le_of_ble_eq_true rfl⟩ ⟨Nat.le_of_ble_eq_true rfl, Nat.le_of_ble_eq_true rfl⟩
  · refine w_gets S hq E fl_sioobe dJ0_checkIndex_df160_2 ?_
    refine w_reti (runS_X (As := [.int (nI i), .int (nI n), .ref t9]) (rest := []) (n := 3) S hml hK (hZ.at E) (Cut.full E hA) (c_ckR l g i n t9 hi (by omega) _ _) ml_J0_1059 st_J3_checkIndex_8e157 in_J3 co_J3_checkIndex_8e157 ⟨by decide +kernel, by decide +kernel, by decide +kernel⟩ ⟨Nat.le_of_ble_eq_true rfl, Nat.le_of_ble_eq_true rfl⟩ rfl hl.1 rfl (Nat.le_of_ble_eq_true rfl) dJ0_checkIndex_df160_5 ⟨Nat.le_of_ble_eq_true rfl, Nat.le_of_ble_eq_true rfl⟩) (Cut.full E hA) E (fun r2 u2 H locs hp E => ?_)
    have E : Ev g _ s.heap H locs [] := E
    have hq := hp.symm
    subst hq
    refine lv_pop hx hb dJ0_checkIndex_df160_8 rfl ?_
    exact x_vret () S hr hlk hsz htt hK E dJ0_checkIndex_df160_9 trivial rfl ⟨Nat.le_of_ble_eq_true rfl, Nat.le_of_ble_eq_true rfl⟩ ⟨Nat.le_of_ble_eq_true rfl, Nat.le_of_ble_eq_true rfl⟩

/-- a byte as a letter -/
def chr (x : Int32) : Int32 := ((x &&& 255).toUInt32 % 65536).toInt32
theorem mn_l2 {a b : Nat} (h : a ≤ b) (hb : b < 2 ^ 31) : mn (nI a) (nI b) = nI a := by
  unfold mn
  by_cases e : nI b < nI a
  · exact absurd e (le_nlt (nI_le h hb))
  · exact if_neg e
theorem nar_chr (x : Int32) : narrow .char (.int (chr x)) = .int (chr x) := by
  unfold chr
  exact pk_nc _
set_option maxHeartbeats 4000000 in
set_option maxRecDepth 100000 in
/-- AbstractStringBuilder.charAt -/
theorem c_J5_charAt_5068e (l : Launch) (g : Gm) (a : Nat) (v : Nat) (n : Nat) (cap : Nat) (f : Nat → Int32) (i : Nat) (hi : i < n) (hnc : n ≤ cap) (hc : cap < 1000000) : MXi (S := Unit) l g yJ5_charAt_5068e cJ5_charAt_5068e 5 .char ({ frames := 2, cells := 0, slots := 0, locals := 43 } : Room) [.ref a, .int (nI i)] [(a, .inr (7, [.ref v, .int 0, .int 0, .int (nI n)])), (v, .inl (g.2.1 3, cap, .inl f))] (fun r _ => r = chr (f i)) (fun _ => [(a, .inr (7, [.ref v, .int 0, .int 0, .int (nI n)])), (v, .inl (g.2.1 3, cap, .inl f))]) (fun _ => (0, 0)) := by
  intro sz tt
  refine ofX RJ5 rfl (by decide +kernel) (Nat.le_of_ble_eq_true rfl) (fun p e s m args below meth c hargs S hml hr hlk hnm hsz htt hK hA hZ E ls hl => ?_)
  have hx := S.1
  have hb := S.2.1
  have hl : lv_has ls 5 [(0, .ref a), (1, .int (nI i))] := hl
  refine lv_aload_n hx hb dJ5_charAt_5068e_0 rfl (lv_at hl 0 rfl) ?_
  refine wg_J5_22 (v := .int 0) S hK E 0 rfl rfl dJ5_charAt_5068e_1 ?_
  refine lv_istore_n (lv' := [(2, .int 0), (0, .ref a), (1, .int (nI i))]) hx hb dJ5_charAt_5068e_4 rfl hl (by decide) rfl (fun ls hl => ?_)
  refine lv_aload_n hx hb dJ5_charAt_5068e_5 rfl (lv_at hl 1 rfl) ?_
  refine wg_J5_15 (v := .ref v) S hK E 0 rfl rfl dJ5_charAt_5068e_6 ?_
  refine lv_astore_n (lv' := [(3, .ref v), (2, .int 0), (0, .ref a), (1, .int (nI i))]) hx hb dJ5_charAt_5068e_9 rfl hl (by decide) rfl (fun ls hl => ?_)
  refine lv_aload_n hx hb dJ5_charAt_5068e_10 rfl (lv_at hl 2 rfl) ?_
  refine wg_J5_79 (v := .int (nI n)) S hK E 0 rfl rfl dJ5_charAt_5068e_11 ?_
  refine lv_aload_n hx hb dJ5_charAt_5068e_14 rfl (lv_at hl 0 rfl) ?_
  refine w_alen (v := (nI cap)) S hK E 1 3 rfl rfl rfl dJ5_charAt_5068e_15 ?_
  refine lv_iload_n hx hb dJ5_charAt_5068e_16 rfl (lv_at hl 1 rfl) ?_
  refine k_ishr (v := (nI cap)) hx hb (show (nI cap) >>> ((0 : Int32) &&& 31) = nI cap by rw [pk_shrN (n := cap) (by omega) ((0 : Int32) &&& 31) 0 (by decide), Nat.pow_zero, Nat.div_one]) dJ5_charAt_5068e_17 ?_
  refine w_min (v := (nI n)) S hml hl ml_J5_138 st_min in_J9 co_min (Nat.le_of_ble_eq_true rfl) (Nat.le_of_ble_eq_true rfl) ⟨Nat.le_of_ble_eq_true rfl, Nat.le_of_ble_eq_true rfl⟩ (mn_l2 (by omega) (by omega)) dJ5_charAt_5068e_18 ?_
  refine lv_istore (lv' := [(4, .int (nI n)), (3, .ref v), (2, .int 0), (0, .ref a), (1, .int (nI i))]) hx hb dJ5_charAt_5068e_21 hl (by decide) rfl (fun ls hl => ?_)
  refine lv_iload_n hx hb dJ5_charAt_5068e_23 rfl (lv_at hl 4 rfl) ?_
  refine lv_iload hx hb dJ5_charAt_5068e_24 (lv_at hl 0 rfl) ?_
  refine w_retv (runS_X (As := [.int (nI i), .int (nI n)]) (rest := []) (n := 2) S hml hK (hZ.at E) (Cut.of (wc := ([] : va_W)) (wr := [(a, .inr (7, [.ref v, .int 0, .int 0, .int (nI n)])), (v, .inl (g.2.1 3, cap, .inl f))]) E hA [] [0, 1] rfl rfl rfl rfl (by decide)) (c_J0_checkIndex_df160 l g i n hi (by omega) _ _) ml_J5_144 st_J0_checkIndex_df160 in_J0 co_J0_checkIndex_df160 ⟨by decide +kernel, by decide +kernel, by decide +kernel⟩ ⟨Nat.le_of_ble_eq_true rfl, Nat.le_of_ble_eq_true rfl⟩ rfl hl.1 rfl (Nat.le_of_ble_eq_true rfl) dJ5_charAt_5068e_26 ⟨Nat.le_of_ble_eq_true rfl, Nat.le_of_ble_eq_true rfl⟩) (Cut.of (wc := ([] : va_W)) (wr := [(a, .inr (7, [.ref v, .int 0, .int 0, .int (nI n)])), (v, .inl (g.2.1 3, cap, .inl f))]) E hA [] [0, 1] rfl rfl rfl rfl (by decide)) E (fun u1 H locs hp E => ?_)
  have E : Ev g _ s.heap H locs [(a, .inr (7, [.ref v, .int 0, .int 0, .int (nI n)])), (v, .inl (g.2.1 3, cap, .inl f))] := E
  refine lv_iload_n hx hb dJ5_charAt_5068e_29 rfl (lv_at hl 2 rfl) ?_
  refine lv_if_ne (tgt := 42) hx hb dJ5_charAt_5068e_30 (by decide) (fun c_ => absurd (show (0 : Int32) = 0 by decide) c_) (fun _ => ?_)
  refine lv_aload_n hx hb dJ5_charAt_5068e_33 rfl (lv_at hl 1 rfl) ?_
  refine lv_iload_n hx hb dJ5_charAt_5068e_34 rfl (lv_at hl 4 rfl) ?_
  refine w_bld (v := (f i)) S hK E 1 3 rfl rfl (vp_in_nI (n := i) (by omega) (by omega)) (by rw [nI_clamp (by omega)]) dJ5_charAt_5068e_35 ?_
  refine lv_sipush (v := 255) hx hb dJ5_charAt_5068e_36 (by decide) ?_
  refine k_iand (v := ((f i) &&& 255)) hx hb rfl dJ5_charAt_5068e_39 ?_
  refine lv_i2c (v := (chr (f i))) hx hb dJ5_charAt_5068e_40 (by unfold chr; rfl) ?_
  exact x_cret () S hr hlk hsz htt hK E dJ5_charAt_5068e_41 (nar_chr _) rfl rfl ⟨Nat.le_of_ble_eq_true rfl, Nat.le_of_ble_eq_true rfl⟩ ⟨Nat.le_of_ble_eq_true rfl, Nat.le_of_ble_eq_true rfl⟩

set_option maxHeartbeats 4000000 in
set_option maxRecDepth 100000 in
/-- StringBuilder.charAt -/
theorem c_J4_charAt_5068e (l : Launch) (g : Gm) (a : Nat) (v : Nat) (n : Nat) (cap : Nat) (f : Nat → Int32) (i : Nat) (hi : i < n) (hnc : n ≤ cap) (hc : cap < 1000000) : MXi (S := Unit) l g yJ4_charAt_5068e cJ4_charAt_5068e 2 .char ({ frames := 3, cells := 0, slots := 0, locals := 67 } : Room) [.ref a, .int (nI i)] [(a, .inr (7, [.ref v, .int 0, .int 0, .int (nI n)])), (v, .inl (g.2.1 3, cap, .inl f))] (fun r _ => r = chr (f i)) (fun _ => [(a, .inr (7, [.ref v, .int 0, .int 0, .int (nI n)])), (v, .inl (g.2.1 3, cap, .inl f))]) (fun _ => (0, 0)) := by
  intro sz tt
  refine ofX RJ4 rfl (by decide +kernel) (Nat.le_of_ble_eq_true rfl) (fun p e s m args below meth c hargs S hml hr hlk hnm hsz htt hK hA hZ E ls hl => ?_)
  have hx := S.1
  have hb := S.2.1
  have hl : lv_has ls 2 [(0, .ref a), (1, .int (nI i))] := hl
  refine lv_aload_n hx hb dJ4_charAt_5068e_0 rfl (lv_at hl 0 rfl) ?_
  refine lv_iload_n hx hb dJ4_charAt_5068e_1 rfl (lv_at hl 1 rfl) ?_
  refine w_reti (runSU_X (As := [.int (nI i)]) (rest := []) (q0 := 0) (n := 1) S hml hK (hZ.at E) (Cut.full E hA) (c_J5_charAt_5068e l g a v n cap f i hi (by omega) (by omega) _ _) ml_J4_329 sm_J5_charAt su_J4 im_J5_charAt_5068e in_J5 co_J5_charAt_5068e ⟨by decide +kernel, by decide +kernel⟩ ⟨Nat.le_of_ble_eq_true rfl, Nat.le_of_ble_eq_true rfl⟩ rfl rfl rfl hl.1 rfl (Nat.le_of_ble_eq_true rfl) dJ4_charAt_5068e_2 ⟨Nat.le_of_ble_eq_true rfl, Nat.le_of_ble_eq_true rfl⟩) (Cut.full E hA) E (fun r1 u1 H locs hp E => ?_)
  have E : Ev g _ s.heap H locs [(a, .inr (7, [.ref v, .int 0, .int 0, .int (nI n)])), (v, .inl (g.2.1 3, cap, .inl f))] := E
  have hq := hp.symm
  subst hq
  exact x_cret () S hr hlk hsz htt hK E dJ4_charAt_5068e_5 (nar_chr _) rfl rfl ⟨Nat.le_of_ble_eq_true rfl, Nat.le_of_ble_eq_true rfl⟩ ⟨Nat.le_of_ble_eq_true rfl, Nat.le_of_ble_eq_true rfl⟩
theorem pm_e {x s t : Nat × va_E} {W : va_W} : ((([x] ++ W) ++ [t]) ++ [s]).Perm ([x] ++ (W ++ [s, t])) := by
  have h := perm_ix [[x], W, [s], [t]] (is := [0, 1, 3, 2]) (js := [0, 1, 2, 3]) (by decide)
  simpa [cat] using h
theorem evc_1 {σ : Sg} : evc 1 σ = ec σ := if_pos rfl
theorem evn_1 {σ : Sg} : evn 1 σ = gs σ 5 := if_pos rfl
theorem evt_1 {σ : Sg} : evt 1 σ = σ.1 30 := if_pos rfl
set_option maxHeartbeats 1000000 in
set_option maxRecDepth 100000 in
/-- events -/
theorem c_G_events (l : Launch) (g : Gm) (q : Fx) (ea : Nat) (σ : Sg) : MXi (S := Unit) l g yX6_events cX6_events 1 .int ({ frames := 3, cells := 0, slots := 0, locals := 60 } : Room) [.ref q.1] (OX g q ea σ) (fun r _ => r = evn 1 σ) (fun _ => OX g q ea σ) (fun _ => (0, 0)) := by
  intro sz tt
  refine ofX RX6 rfl (by decide +kernel) (Nat.le_of_ble_eq_true rfl) (fun p e s m args below meth c hargs S hml hr hlk hnm hsz htt hK hA hZ E ls hl => ?_)
  have hx := S.1
  have hb := S.2.1
  have hl : lv_has ls 1 [(0, .ref q.1)] := hl
  refine lv_aload_n hx hb dX6_events_0 rfl (lv_at hl 0 rfl) ?_
  refine wg_X6_14 (v := .ref (q.2.2.2.1 0)) S hK E 0 rfl rfl dX6_events_1 ?_
  refine wg_X6_166 (v := .ref (q.2.2.2.1 29)) S hK E 1 rfl rfl dX6_events_4 ?_
  have E1 : Ev g _ s.heap s.heap [] ((([(q.1, .inr (6, [.ref (q.2.2.2.1 0), .ref (q.2.2.2.2.1 0), .ref q.2.1, .ref q.2.2.1]))] ++ wsW0 g q.2.2.2.1 (-1) 1 0 σ) ++ [(ea, .inl (g.2.1 3, evc 1 σ, .inl (evt 1 σ)))]) ++ [(q.2.2.2.1 29, .inr (7, [.ref ea, .int 0, .int 0, .int (evn 1 σ)]))]) := E.perm pm_e
  refine w_reti (runV_X (As := []) (rest := []) (q0 := 0) (n := 0) S hml hK (hZ.at E) (Cut.app E1 hA) (c_J4_length_8abf5 l g (q.2.2.2.1 29) ea (evn 1 σ) _ _) (gi_wsV ml_X6_170 im_J4_length_8abf5 sl_J4_length_8abf5 in_J4 co_J4_length_8abf5) ⟨rfl, by decide +kernel, by decide +kernel, by decide +kernel⟩ ⟨Nat.le_of_ble_eq_true rfl, Nat.le_of_ble_eq_true rfl⟩ rfl rfl rfl hl.1 rfl (Nat.le_of_ble_eq_true rfl) dX6_events_7 ⟨Nat.le_of_ble_eq_true rfl, Nat.le_of_ble_eq_true rfl⟩) (Cut.app E1 hA) E1 (fun r u9 H locs hp E2 => ?_)
  have hq := hp.symm
  subst hq
  have E3 : Ev g _ s.heap H locs ([(q.1, .inr (6, [.ref (q.2.2.2.1 0), .ref (q.2.2.2.2.1 0), .ref q.2.1, .ref q.2.2.1]))] ++ (wsW0 g q.2.2.2.1 (-1) 1 0 σ ++ [(q.2.2.2.1 29, .inr (7, [.ref ea, .int 0, .int 0, .int (evn 1 σ)])), (ea, .inl (g.2.1 3, evc 1 σ, .inl (evt 1 σ)))])) := E2.perm pm_e.symm
  have E : Ev g _ s.heap H locs (OX g q ea σ) := E3
  exact x_iret () S hr hlk hsz htt hK E dX6_events_10 rfl rfl ⟨Nat.le_of_ble_eq_true rfl, Nat.le_of_ble_eq_true rfl⟩ ⟨Nat.le_of_ble_eq_true rfl, Nat.le_of_ble_eq_true rfl⟩
theorem Ev.eqw {g : Gm} {A : Nat → Prop} {H0 H : Heap} {locs : List Loc} {ws ws' : va_W} (E : Ev g A H0 H locs ws) (h : ws = ws') : Ev g A H0 H locs ws' := by rwa [h] at E
theorem ox_e {g : Gm} {q : Fx} {ea : Nat} {σ : Sg} (h : EvOK σ) : OX g q ea σ = (([(q.1, .inr (6, [.ref (q.2.2.2.1 0), .ref (q.2.2.2.2.1 0), .ref q.2.1, .ref q.2.2.1]))] ++ wsW0 g q.2.2.2.1 (-1) 1 0 σ) ++ [(q.2.2.2.1 29, .inr (7, [.ref ea, .int 0, .int 0, .int (nI (en σ))])), (ea, .inl (g.2.1 3, ec σ, .inl (evt 1 σ)))]) := by
  have e1 : evn 1 σ = nI (en σ) := by rw [evn_1]; exact h.1
  rw [← e1, ← evc_1]
  rfl
set_option maxHeartbeats 1000000 in
set_option maxRecDepth 100000 in
/-- eventAt, where the index is there -/
theorem c_G_eventAt (l : Launch) (g : Gm) (hst : l.stackTraces = false) (q : Fx) (ea : Nat) (σ : Sg) (i : Nat) (hi : i < en σ) (hE : EvOK σ) (hn : en σ ≤ 20000) : YXi (S := Unit) l g yX6_eventAt cX6_eventAt 2 .char ({ frames := 9, cells := 10, slots := 100, locals := 150 } : Room) [.ref q.1, .int (nI i)] (OX g q ea σ) (fun r _ => r = chr (evt 1 σ i)) (fun _ => OX g q ea σ) (fun _ => (0, 0)) (OX g q ea σ) (fun _ => False) := by
  intro sz tt
  refine ofY RX6 rfl (by decide +kernel) (Nat.le_of_ble_eq_true rfl) (fun p e s m args below meth c hargs S hml hr hlk hex hsz htt hK hA hZ E ls hl => ?_)
  have hx := S.1
  have hb := S.2.1
  have hnc : en σ ≤ ec σ := hE.2.2.2.1
  have hcc : ec σ ≤ 40016 := (nt_c hE hn).2
  have hix : ixOK (nI i) (evn 1 σ) := by
    rw [evn_1, hE.1]
    exact ⟨nI_ge0 (by omega), nI_lt hi (by omega)⟩
  have hl : lv_has ls 2 [(0, .ref q.1), (1, .int (nI i))] := hl
  refine lv_iload_n hx hb dX6_eventAt_0 rfl (lv_at hl 1 rfl) ?_
  refine lv_aload_n hx hb dX6_eventAt_1 rfl (lv_at hl 0 rfl) ?_
  refine wg_X6_14 (v := .ref (q.2.2.2.1 0)) S hK E 0 rfl rfl dX6_eventAt_2 ?_
  refine wg_X6_166 (v := .ref (q.2.2.2.1 29)) S hK E 1 rfl rfl dX6_eventAt_5 ?_
  have E1 : Ev g _ s.heap s.heap [] ((([(q.1, .inr (6, [.ref (q.2.2.2.1 0), .ref (q.2.2.2.2.1 0), .ref q.2.1, .ref q.2.2.1]))] ++ wsW0 g q.2.2.2.1 (-1) 1 0 σ) ++ [(ea, .inl (g.2.1 3, evc 1 σ, .inl (evt 1 σ)))]) ++ [(q.2.2.2.1 29, .inr (7, [.ref ea, .int 0, .int 0, .int (evn 1 σ)]))]) := E.perm pm_e
  refine w_reti (runV_X (As := []) (rest := [.int (nI i)]) (q0 := 0) (n := 0) S hml hK (hZ.at E) (Cut.app E1 hA) (c_J4_length_8abf5 l g (q.2.2.2.1 29) ea (evn 1 σ) _ _) (gi_wsV ml_X6_170 im_J4_length_8abf5 sl_J4_length_8abf5 in_J4 co_J4_length_8abf5) ⟨rfl, by decide +kernel, by decide +kernel, by decide +kernel⟩ ⟨Nat.le_of_ble_eq_true rfl, Nat.le_of_ble_eq_true rfl⟩ rfl rfl rfl hl.1 rfl (Nat.le_of_ble_eq_true rfl) dX6_eventAt_8 ⟨Nat.le_of_ble_eq_true rfl, Nat.le_of_ble_eq_true rfl⟩) (Cut.app E1 hA) E1 (fun r u9 H locs hp E2 => ?_)
  have hq := hp.symm
  subst hq
  have E3 : Ev g _ s.heap H locs ([(q.1, .inr (6, [.ref (q.2.2.2.1 0), .ref (q.2.2.2.2.1 0), .ref q.2.1, .ref q.2.2.1]))] ++ (wsW0 g q.2.2.2.1 (-1) 1 0 σ ++ [(q.2.2.2.1 29, .inr (7, [.ref ea, .int 0, .int 0, .int (evn 1 σ)])), (ea, .inl (g.2.1 3, evc 1 σ, .inl (evt 1 σ)))])) := E2.perm pm_e.symm
  have E : Ev g _ s.heap H locs (OX g q ea σ) := E3
  refine y_retv (yrunS (As := [.int (nI i), .int (evn 1 σ)]) (rest := []) (n := 2) S hml hK (hZ.at E) (Cut.none E hA) (c_X6_requireIndex l g hst (nI i) (evn 1 σ) _ _) ml_X6_32 st_X6_requireIndex in_X6 co_X6_requireIndex ⟨by decide +kernel, by decide +kernel, by decide +kernel⟩ ⟨Nat.le_of_ble_eq_true rfl, Nat.le_of_ble_eq_true rfl⟩ rfl hl.1 rfl (Nat.le_of_ble_eq_true rfl) dX6_eventAt_11 ⟨Nat.le_of_ble_eq_true rfl, Nat.le_of_ble_eq_true rfl⟩) (Cut.none E hA) E (fun En ce q9 H locs hp E hce hcv hcl => absurd hix hp.2) (fun u8 H locs hp E => ?_)
  have E : Ev g _ s.heap H locs (OX g q ea σ) := Ev.nilr E
  refine lv_aload_n hx hb dX6_eventAt_14 rfl (lv_at hl 0 rfl) ?_
  refine wg_X6_14 (v := .ref (q.2.2.2.1 0)) S hK E 0 rfl rfl dX6_eventAt_15 ?_
  refine wg_X6_166 (v := .ref (q.2.2.2.1 29)) S hK E 1 rfl rfl dX6_eventAt_18 ?_
  refine lv_iload_n hx hb dX6_eventAt_21 rfl (lv_at hl 1 rfl) ?_
  have E1 : Ev g _ s.heap H locs (([(q.1, .inr (6, [.ref (q.2.2.2.1 0), .ref (q.2.2.2.2.1 0), .ref q.2.1, .ref q.2.2.1]))] ++ wsW0 g q.2.2.2.1 (-1) 1 0 σ) ++ [(q.2.2.2.1 29, .inr (7, [.ref ea, .int 0, .int 0, .int (nI (en σ))])), (ea, .inl (g.2.1 3, ec σ, .inl (evt 1 σ)))]) := Ev.eqw E (ox_e hE)
  refine w_reti (runV_X (As := [.int (nI i)]) (rest := []) (q0 := 0) (n := 1) S hml hK (hZ.at E) (Cut.app E1 hA) (c_J4_charAt_5068e l g (q.2.2.2.1 29) ea (en σ) (ec σ) (evt 1 σ) i hi hnc (by omega) _ _) (gi_wsV ml_X6_176 im_J4_charAt_5068e sl_J4_charAt_5068e in_J4 co_J4_charAt_5068e) ⟨rfl, by decide +kernel, by decide +kernel, by decide +kernel⟩ ⟨Nat.le_of_ble_eq_true rfl, Nat.le_of_ble_eq_true rfl⟩ rfl rfl rfl hl.1 rfl (Nat.le_of_ble_eq_true rfl) dX6_eventAt_22 ⟨Nat.le_of_ble_eq_true rfl, Nat.le_of_ble_eq_true rfl⟩) (Cut.app E1 hA) E1 (fun r u9 H locs hp E2 => ?_)
  subst hp
  have E3 : Ev g _ s.heap H locs (([(q.1, .inr (6, [.ref (q.2.2.2.1 0), .ref (q.2.2.2.2.1 0), .ref q.2.1, .ref q.2.2.1]))] ++ wsW0 g q.2.2.2.1 (-1) 1 0 σ) ++ [(q.2.2.2.1 29, .inr (7, [.ref ea, .int 0, .int 0, .int (nI (en σ))])), (ea, .inl (g.2.1 3, ec σ, .inl (evt 1 σ)))]) := E2
  have E : Ev g _ s.heap H locs (OX g q ea σ) := Ev.eqw E3 (ox_e hE).symm
  exact vx_ret (x_cret () S hr hlk hsz htt hK E dX6_eventAt_25 (nar_chr _) rfl rfl ⟨Nat.le_of_ble_eq_true rfl, Nat.le_of_ble_eq_true rfl⟩ ⟨Nat.le_of_ble_eq_true rfl, Nat.le_of_ble_eq_true rfl⟩)
