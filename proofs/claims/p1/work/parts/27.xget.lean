/-! THE CLASS AT ITS BEGINNING: what asks -/
set_option maxHeartbeats 4000000 in
set_option maxRecDepth 100000 in
/-- Cells.height, empty -/
theorem c_ht0 (l : Launch) (g : Gm) (ad : Nat → Nat) (i : Int32) (hi : vp_in i 16) : MXi (S := Unit) l g yX2_height cX2_height 3 .int ({ frames := 0, cells := 0, slots := 0, locals := 0 } : Room) [.ref (ad 1), .int i] [((ad 1), .inr (2, [.ref (ad 8), .ref (ad 9), .ref (ad 10), .ref (ad 11)])), ((ad 8), .inl (g.2.1 0, 16, .inl (fun _ => 0))), ((ad 9), .inl (g.2.1 0, 16, .inl (fun _ => 10))), ((ad 10), .inl (g.2.1 0, 16, .inl (fun _ => 0)))] (fun r _ => r = 0) (fun _ => [((ad 1), .inr (2, [.ref (ad 8), .ref (ad 9), .ref (ad 10), .ref (ad 11)])), ((ad 8), .inl (g.2.1 0, 16, .inl (fun _ => 0))), ((ad 9), .inl (g.2.1 0, 16, .inl (fun _ => 10))), ((ad 10), .inl (g.2.1 0, 16, .inl (fun _ => 0)))]) (fun _ => (0, 0)) := by
  intro sz tt
  refine ofX RX2 rfl (by decide +kernel) (Nat.le_of_ble_eq_true rfl) (fun p e s m args below meth c hargs S hml hr hlk hnm hsz htt hK hA hZ E ls hl => ?_)
  have hx := S.1
  have hb := S.2.1
  have hl : lv_has ls 3 [(0, .ref (ad 1)), (1, .int i)] := hl
  refine lv_aload_n hx hb dX2_height_0 rfl (lv_at hl 0 rfl) ?_
  refine wg_X2_15 (v := .ref (ad 9)) S hK E 0 rfl rfl dX2_height_1 ?_
  refine lv_iload_n hx hb dX2_height_4 rfl (lv_at hl 1 rfl) ?_
  refine w_ild (v := 10) S hK E 2 0 rfl rfl hi rfl dX2_height_5 ?_
  refine lv_istore_n (lv' := [(2, .int 10), (0, .ref (ad 1)), (1, .int i)]) hx hb dX2_height_6 rfl hl (by decide) rfl (fun ls hl => ?_)
  refine lv_iload_n hx hb dX2_height_7 rfl (lv_at hl 0 rfl) ?_
  refine lv_iconst (v := 1) hx hb dX2_height_8 (by decide) ?_
  refine lv_icmp_ge (tgt := 21) hx hb dX2_height_9 (by decide) (fun _ => ?_) (fun c_ => absurd (show (1 : Int32) ≤ (10 : Int32) by decide) c_)
  refine lv_aload_n hx hb dX2_height_21 rfl (lv_at hl 1 rfl) ?_
  refine wg_X2_9 (v := .ref (ad 8)) S hK E 0 rfl rfl dX2_height_22 ?_
  refine lv_iload_n hx hb dX2_height_25 rfl (lv_at hl 2 rfl) ?_
  refine w_ild (v := 0) S hK E 1 0 rfl rfl hi rfl dX2_height_26 ?_
  refine lv_aload_n hx hb dX2_height_27 rfl (lv_at hl 1 rfl) ?_
  refine wg_X2_18 (v := .ref (ad 10)) S hK E 0 rfl rfl dX2_height_28 ?_
  refine lv_iload_n hx hb dX2_height_31 rfl (lv_at hl 2 rfl) ?_
  refine w_ild (v := 0) S hK E 3 0 rfl rfl hi rfl dX2_height_32 ?_
  refine lv_iload_n hx hb dX2_height_33 rfl (lv_at hl 0 rfl) ?_
  refine k_idiv (v := 0) hx hb (by decide) (by decide) dX2_height_34 ?_
  refine k_iadd (v := 0) hx hb (by decide) dX2_height_35 ?_
  exact x_iret () S hr hlk hsz htt hK E dX2_height_36 rfl rfl ⟨Nat.le_of_ble_eq_true rfl, Nat.le_of_ble_eq_true rfl⟩ ⟨Nat.le_of_ble_eq_true rfl, Nat.le_of_ble_eq_true rfl⟩

set_option maxHeartbeats 4000000 in
set_option maxRecDepth 100000 in
/-- Cells.waterInAll, empty -/
theorem c_wi0 (l : Launch) (g : Gm) (ad : Nat → Nat) : MXl (S := Unit) l g yX2_waterInAll cX2_waterInAll 4 ({ frames := 0, cells := 0, slots := 0, locals := 0 } : Room) [.ref (ad 1)] [((ad 1), .inr (2, [.ref (ad 8), .ref (ad 9), .ref (ad 10), .ref (ad 11)])), ((ad 10), .inl (g.2.1 0, 16, .inl (fun _ => 0)))] (fun r _ => r = 0) (fun _ => [((ad 1), .inr (2, [.ref (ad 8), .ref (ad 9), .ref (ad 10), .ref (ad 11)])), ((ad 10), .inl (g.2.1 0, 16, .inl (fun _ => 0)))]) (fun _ => (0, 0)) := by
  intro sz tt
  refine ofX RX2 rfl (by decide +kernel) (Nat.le_of_ble_eq_true rfl) (fun p e s m args below meth c hargs S hml hr hlk hnm hsz htt hK hA hZ E ls hl => ?_)
  have hx := S.1
  have hb := S.2.1
  have hl : lv_has ls 4 [(0, .ref (ad 1))] := hl
  refine lv_lconst (v := 0) hx hb dX2_waterInAll_0 (by decide) ?_
  refine lv_lstore_n (lv' := [(1, .long 0), (0, .ref (ad 1))]) hx hb dX2_waterInAll_1 rfl hl (by decide) rfl (fun ls hl => ?_)
  refine lv_iconst (v := 0) hx hb dX2_waterInAll_2 (by decide) ?_
  refine lv_istore_n (lv' := [(3, .int 0), (1, .long 0), (0, .ref (ad 1))]) hx hb dX2_waterInAll_3 rfl hl (by decide) rfl (fun ls hl => ?_)
  have L1 : ∀ (k1 i1 : Nat), i1 + k1 = 16 → ∀ (H : Heap) (locs : List Loc), Ev g (va_A [((ad 1), .inr (2, [.ref (ad 8), .ref (ad 9), .ref (ad 10), .ref (ad 11)])), ((ad 10), .inl (g.2.1 0, 16, .inl (fun _ => 0)))] sz) s.heap H locs [((ad 1), .inr (2, [.ref (ad 8), .ref (ad 9), .ref (ad 10), .ref (ad 11)])), ((ad 10), .inl (g.2.1 0, 16, .inl (fun _ => 0)))] → ∀ ls : Array Slot, lv_has ls 4 [(3, .int (nI i1)), (1, .long 0), (0, .ref (ad 1))] → W p l e ({ frames := 0, cells := 0, slots := 0, locals := 0 } : Room) s m args below meth c H locs 0 0 (MQ below (va_Ql (S := Unit) (fun r _ => r = 0) (AtX g (va_A [((ad 1), .inr (2, [.ref (ad 8), .ref (ad 9), .ref (ad 10), .ref (ad 11)])), ((ad 10), .inl (g.2.1 0, 16, .inl (fun _ => 0)))] sz) (fun _ => [((ad 1), .inr (2, [.ref (ad 8), .ref (ad 9), .ref (ad 10), .ref (ad 11)])), ((ad 10), .inl (g.2.1 0, 16, .inl (fun _ => 0)))]) (fun _ => (0, 0)) sz tt) (va_A [((ad 1), .inr (2, [.ref (ad 8), .ref (ad 9), .ref (ad 10), .ref (ad 11)])), ((ad 10), .inl (g.2.1 0, 16, .inl (fun _ => 0)))] sz)) args s 0 0 (va_A [((ad 1), .inr (2, [.ref (ad 8), .ref (ad 9), .ref (ad 10), .ref (ad 11)])), ((ad 10), .inl (g.2.1 0, 16, .inl (fun _ => 0)))] sz)) (F0 m 4 ls []) := by
    intro k1
    induction k1 with
    | zero =>
      intro i1 hi1 H locs E ls hl
      obtain rfl : i1 = 16 := by omega
      have hl : lv_has ls 4 [(3, .int (nI 16)), (1, .long 0), (0, .ref (ad 1))] := hl
      refine lv_iload_n hx hb dX2_waterInAll_4 rfl (lv_at hl 0 rfl) ?_
      refine lv_bipush (v := 16) hx hb dX2_waterInAll_5 (by decide) ?_
      refine lv_icmp_ge (tgt := 26) hx hb dX2_waterInAll_7 (by decide) (fun _ => ?_) (fun c_ => absurd (show 16 ≤ (nI 16) by decide) c_)
      refine lv_lload_n hx hb dX2_waterInAll_26 rfl (lv_at hl 1 rfl) ?_
      exact x_lret () S hr hlk hsz htt hK E dX2_waterInAll_27 rfl rfl ⟨Nat.le_of_ble_eq_true rfl, Nat.le_of_ble_eq_true rfl⟩ ⟨Nat.le_of_ble_eq_true rfl, Nat.le_of_ble_eq_true rfl⟩
    | succ k1 ih1 =>
      intro i1 hi1 H locs E ls hl
      have hl : lv_has ls 4 [(3, .int (nI i1)), (1, .long 0), (0, .ref (ad 1))] := hl
      refine lv_iload_n hx hb dX2_waterInAll_4 rfl (lv_at hl 0 rfl) ?_
      refine lv_bipush (v := 16) hx hb dX2_waterInAll_5 (by decide) ?_
      refine lv_icmp_ge (tgt := 26) hx hb dX2_waterInAll_7 (by decide) (fun c_ => absurd c_ (g_no (a := i1) (b := 16) rfl rfl (by omega) (by decide))) (fun _ => ?_)
      refine lv_lload_n hx hb dX2_waterInAll_10 rfl (lv_at hl 1 rfl) ?_
      refine lv_aload_n hx hb dX2_waterInAll_11 rfl (lv_at hl 2 rfl) ?_
      refine wg_X2_18 (v := .ref (ad 10)) S hK E 0 rfl rfl dX2_waterInAll_12 ?_
      refine lv_iload_n hx hb dX2_waterInAll_15 rfl (lv_at hl 0 rfl) ?_
      refine w_ild (v := 0) S hK E 1 0 rfl rfl (vp_in_nI (n := i1) (by omega) (by decide)) rfl dX2_waterInAll_16 ?_
      refine lv_i2l (v := 0) hx hb dX2_waterInAll_17 (by decide) ?_
      refine k_ladd (v := 0) hx hb (by decide) dX2_waterInAll_18 ?_
      refine lv_lstore_n (lv' := [(1, .long 0), (3, .int (nI i1)), (0, .ref (ad 1))]) hx hb dX2_waterInAll_19 rfl hl (by decide) rfl (fun ls hl => ?_)
      refine lv_iinc (v := (nI (i1 + 1))) (lv' := [(3, .int (nI (i1 + 1))), (1, .long 0), (0, .ref (ad 1))]) hx hb dX2_waterInAll_20 hl (k := 1) rfl (nI_1 i1) (by decide) rfl (fun ls hl => ?_)
      refine lv_goto (tgt := 4) hx hb dX2_waterInAll_23 (by decide) ?_
      exact ih1 (i1 + 1) (by omega) _ _ E ls (lv_sub hl [0, 1, 2] rfl)
  exact L1 16 0 (by omega) _ _ E ls (lv_sub hl [0, 1, 2] rfl)

set_option maxHeartbeats 4000000 in
set_option maxRecDepth 100000 in
/-- Cells.sameWater, both empty -/
theorem c_sw0 (l : Launch) (g : Gm) (ad : Nat → Nat) (bd : Nat → Nat) : MXi (S := Unit) l g yX2_sameWater cX2_sameWater 3 .boolean ({ frames := 0, cells := 0, slots := 0, locals := 0 } : Room) [.ref (ad 1), .ref (bd 1)] [((ad 1), .inr (2, [.ref (ad 8), .ref (ad 9), .ref (ad 10), .ref (ad 11)])), ((ad 10), .inl (g.2.1 0, 16, .inl (fun _ => 0))), ((bd 1), .inr (2, [.ref (bd 8), .ref (bd 9), .ref (bd 10), .ref (bd 11)])), ((bd 10), .inl (g.2.1 0, 16, .inl (fun _ => 0)))] (fun r _ => r = 1) (fun _ => [((ad 1), .inr (2, [.ref (ad 8), .ref (ad 9), .ref (ad 10), .ref (ad 11)])), ((ad 10), .inl (g.2.1 0, 16, .inl (fun _ => 0))), ((bd 1), .inr (2, [.ref (bd 8), .ref (bd 9), .ref (bd 10), .ref (bd 11)])), ((bd 10), .inl (g.2.1 0, 16, .inl (fun _ => 0)))]) (fun _ => (0, 0)) := by
  intro sz tt
  refine ofX RX2 rfl (by decide +kernel) (Nat.le_of_ble_eq_true rfl) (fun p e s m args below meth c hargs S hml hr hlk hnm hsz htt hK hA hZ E ls hl => ?_)
  have hx := S.1
  have hb := S.2.1
  have hl : lv_has ls 3 [(0, .ref (ad 1)), (1, .ref (bd 1))] := hl
  refine lv_iconst (v := 0) hx hb dX2_sameWater_0 (by decide) ?_
  refine lv_istore_n (lv' := [(2, .int 0), (0, .ref (ad 1)), (1, .ref (bd 1))]) hx hb dX2_sameWater_1 rfl hl (by decide) rfl (fun ls hl => ?_)
  have L1 : ∀ (k1 i1 : Nat), i1 + k1 = 16 → ∀ (H : Heap) (locs : List Loc), Ev g (va_A [((ad 1), .inr (2, [.ref (ad 8), .ref (ad 9), .ref (ad 10), .ref (ad 11)])), ((ad 10), .inl (g.2.1 0, 16, .inl (fun _ => 0))), ((bd 1), .inr (2, [.ref (bd 8), .ref (bd 9), .ref (bd 10), .ref (bd 11)])), ((bd 10), .inl (g.2.1 0, 16, .inl (fun _ => 0)))] sz) s.heap H locs [((ad 1), .inr (2, [.ref (ad 8), .ref (ad 9), .ref (ad 10), .ref (ad 11)])), ((ad 10), .inl (g.2.1 0, 16, .inl (fun _ => 0))), ((bd 1), .inr (2, [.ref (bd 8), .ref (bd 9), .ref (bd 10), .ref (bd 11)])), ((bd 10), .inl (g.2.1 0, 16, .inl (fun _ => 0)))] → ∀ ls : Array Slot, lv_has ls 3 [(2, .int (nI i1)), (0, .ref (ad 1)), (1, .ref (bd 1))] → W p l e ({ frames := 0, cells := 0, slots := 0, locals := 0 } : Room) s m args below meth c H locs 0 0 (MQ below (va_Qi (S := Unit) (fun r _ => r = 1) (AtX g (va_A [((ad 1), .inr (2, [.ref (ad 8), .ref (ad 9), .ref (ad 10), .ref (ad 11)])), ((ad 10), .inl (g.2.1 0, 16, .inl (fun _ => 0))), ((bd 1), .inr (2, [.ref (bd 8), .ref (bd 9), .ref (bd 10), .ref (bd 11)])), ((bd 10), .inl (g.2.1 0, 16, .inl (fun _ => 0)))] sz) (fun _ => [((ad 1), .inr (2, [.ref (ad 8), .ref (ad 9), .ref (ad 10), .ref (ad 11)])), ((ad 10), .inl (g.2.1 0, 16, .inl (fun _ => 0))), ((bd 1), .inr (2, [.ref (bd 8), .ref (bd 9), .ref (bd 10), .ref (bd 11)])), ((bd 10), .inl (g.2.1 0, 16, .inl (fun _ => 0)))]) (fun _ => (0, 0)) sz tt) (va_A [((ad 1), .inr (2, [.ref (ad 8), .ref (ad 9), .ref (ad 10), .ref (ad 11)])), ((ad 10), .inl (g.2.1 0, 16, .inl (fun _ => 0))), ((bd 1), .inr (2, [.ref (bd 8), .ref (bd 9), .ref (bd 10), .ref (bd 11)])), ((bd 10), .inl (g.2.1 0, 16, .inl (fun _ => 0)))] sz)) args s 0 0 (va_A [((ad 1), .inr (2, [.ref (ad 8), .ref (ad 9), .ref (ad 10), .ref (ad 11)])), ((ad 10), .inl (g.2.1 0, 16, .inl (fun _ => 0))), ((bd 1), .inr (2, [.ref (bd 8), .ref (bd 9), .ref (bd 10), .ref (bd 11)])), ((bd 10), .inl (g.2.1 0, 16, .inl (fun _ => 0)))] sz)) (F0 m 2 ls []) := by
    intro k1
    induction k1 with
    | zero =>
      intro i1 hi1 H locs E ls hl
      obtain rfl : i1 = 16 := by omega
      have hl : lv_has ls 3 [(2, .int (nI 16)), (0, .ref (ad 1)), (1, .ref (bd 1))] := hl
      refine lv_iload_n hx hb dX2_sameWater_2 rfl (lv_at hl 0 rfl) ?_
      refine lv_bipush (v := 16) hx hb dX2_sameWater_3 (by decide) ?_
      refine lv_icmp_ge (tgt := 31) hx hb dX2_sameWater_5 (by decide) (fun _ => ?_) (fun c_ => absurd (show 16 ≤ (nI 16) by decide) c_)
      refine lv_iconst (v := 1) hx hb dX2_sameWater_31 (by decide) ?_
      exact x_zret () S hr hlk hsz htt hK E dX2_sameWater_32 rfl rfl rfl ⟨Nat.le_of_ble_eq_true rfl, Nat.le_of_ble_eq_true rfl⟩ ⟨Nat.le_of_ble_eq_true rfl, Nat.le_of_ble_eq_true rfl⟩
    | succ k1 ih1 =>
      intro i1 hi1 H locs E ls hl
      have hl : lv_has ls 3 [(2, .int (nI i1)), (0, .ref (ad 1)), (1, .ref (bd 1))] := hl
      refine lv_iload_n hx hb dX2_sameWater_2 rfl (lv_at hl 0 rfl) ?_
      refine lv_bipush (v := 16) hx hb dX2_sameWater_3 (by decide) ?_
      refine lv_icmp_ge (tgt := 31) hx hb dX2_sameWater_5 (by decide) (fun c_ => absurd c_ (g_no (a := i1) (b := 16) rfl rfl (by omega) (by decide))) (fun _ => ?_)
      refine lv_aload_n hx hb dX2_sameWater_8 rfl (lv_at hl 1 rfl) ?_
      refine wg_X2_18 (v := .ref (ad 10)) S hK E 0 rfl rfl dX2_sameWater_9 ?_
      refine lv_iload_n hx hb dX2_sameWater_12 rfl (lv_at hl 0 rfl) ?_
      refine w_ild (v := 0) S hK E 1 0 rfl rfl (vp_in_nI (n := i1) (by omega) (by decide)) rfl dX2_sameWater_13 ?_
      refine lv_aload_n hx hb dX2_sameWater_14 rfl (lv_at hl 2 rfl) ?_
      refine wg_X2_18 (v := .ref (bd 10)) S hK E 2 rfl rfl dX2_sameWater_15 ?_
      refine lv_iload_n hx hb dX2_sameWater_18 rfl (lv_at hl 0 rfl) ?_
      refine w_ild (v := 0) S hK E 3 0 rfl rfl (vp_in_nI (n := i1) (by omega) (by decide)) rfl dX2_sameWater_19 ?_
      refine lv_icmp_eq (tgt := 25) hx hb dX2_sameWater_20 (by decide) (fun _ => ?_) (fun c_ => absurd (show (0 : Int32) = (0 : Int32) by decide) c_)
      refine lv_iinc (v := (nI (i1 + 1))) (lv' := [(2, .int (nI (i1 + 1))), (0, .ref (ad 1)), (1, .ref (bd 1))]) hx hb dX2_sameWater_25 hl (k := 0) rfl (nI_1 i1) (by decide) rfl (fun ls hl => ?_)
      refine lv_goto (tgt := 2) hx hb dX2_sameWater_28 (by decide) ?_
      exact ih1 (i1 + 1) (by omega) _ _ E ls (lv_sub hl [0, 1, 2] rfl)
  exact L1 16 0 (by omega) _ _ E ls (lv_sub hl [0, 1, 2] rfl)

set_option maxHeartbeats 4000000 in
set_option maxRecDepth 100000 in
/-- Wells.keptToAmounts, no wells -/
theorem c_kt0 (l : Launch) (g : Gm) (ad : Nat → Nat) : MXi (S := Unit) l g yX4_keptToAmounts cX4_keptToAmounts 2 .boolean ({ frames := 0, cells := 0, slots := 0, locals := 0 } : Room) [.ref (ad 3)] [((ad 3), .inr (4, [.ref (ad 18), .ref (ad 19), .ref (ad 20), .ref (ad 21), .ref (ad 22), .ref (ad 23), .ref (ad 24), .ref (ad 25), .ref (ad 26), .ref (ad 27), .int 0]))] (fun r _ => r = 1) (fun _ => [((ad 3), .inr (4, [.ref (ad 18), .ref (ad 19), .ref (ad 20), .ref (ad 21), .ref (ad 22), .ref (ad 23), .ref (ad 24), .ref (ad 25), .ref (ad 26), .ref (ad 27), .int 0]))]) (fun _ => (0, 0)) := by
  intro sz tt
  refine ofX RX4 rfl (by decide +kernel) (Nat.le_of_ble_eq_true rfl) (fun p e s m args below meth c hargs S hml hr hlk hnm hsz htt hK hA hZ E ls hl => ?_)
  have hx := S.1
  have hb := S.2.1
  have hl : lv_has ls 2 [(0, .ref (ad 3))] := hl
  refine lv_iconst (v := 0) hx hb dX4_keptToAmounts_0 (by decide) ?_
  refine lv_istore_n (lv' := [(1, .int 0), (0, .ref (ad 3))]) hx hb dX4_keptToAmounts_1 rfl hl (by decide) rfl (fun ls hl => ?_)
  refine lv_iload_n hx hb dX4_keptToAmounts_2 rfl (lv_at hl 0 rfl) ?_
  refine lv_aload_n hx hb dX4_keptToAmounts_3 rfl (lv_at hl 1 rfl) ?_
  refine wg_X4_44 (v := .int 0) S hK E 0 rfl rfl dX4_keptToAmounts_4 ?_
  refine lv_icmp_ge (tgt := 40) hx hb dX4_keptToAmounts_7 (by decide) (fun _ => ?_) (fun c_ => absurd (show (0 : Int32) ≤ (0 : Int32) by decide) c_)
  refine lv_iconst (v := 1) hx hb dX4_keptToAmounts_40 (by decide) ?_
  exact x_zret () S hr hlk hsz htt hK E dX4_keptToAmounts_41 rfl rfl rfl ⟨Nat.le_of_ble_eq_true rfl, Nat.le_of_ble_eq_true rfl⟩ ⟨Nat.le_of_ble_eq_true rfl, Nat.le_of_ble_eq_true rfl⟩

set_option maxHeartbeats 4000000 in
set_option maxRecDepth 100000 in
/-- Books.balanceWith, empty -/
theorem c_bw0 (l : Launch) (g : Gm) (ad : Nat → Nat) : MXi (S := Unit) l g yX0_balanceWith cX0_balanceWith 7 .boolean ({ frames := 0, cells := 0, slots := 0, locals := 0 } : Room) [.ref (ad 4), .long 0] [((ad 4), .inr (0, [.ref (ad 28)])), ((ad 28), .inl (g.2.1 1, 9, .inr (.inl (fun _ => 0))))] (fun r _ => r = 1) (fun _ => [((ad 4), .inr (0, [.ref (ad 28)])), ((ad 28), .inl (g.2.1 1, 9, .inr (.inl (fun _ => 0))))]) (fun _ => (0, 0)) := by
  intro sz tt
  refine ofX RX0 rfl (by decide +kernel) (Nat.le_of_ble_eq_true rfl) (fun p e s m args below meth c hargs S hml hr hlk hnm hsz htt hK hA hZ E ls hl => ?_)
  have hx := S.1
  have hb := S.2.1
  have hl : lv_has ls 7 [(0, .ref (ad 4)), (1, .long 0)] := hl
  refine lv_aload_n hx hb dX0_balanceWith_0 rfl (lv_at hl 0 rfl) ?_
  refine wg_X0_7 (v := .ref (ad 28)) S hK E 0 rfl rfl dX0_balanceWith_1 ?_
  refine lv_iconst (v := 0) hx hb dX0_balanceWith_4 (by decide) ?_
  refine w_lld (v := 0) S hK E 1 1 rfl rfl (show vp_in 0 9 by unfold vp_in; decide) rfl dX0_balanceWith_5 ?_
  refine lv_aload_n hx hb dX0_balanceWith_6 rfl (lv_at hl 0 rfl) ?_
  refine wg_X0_7 (v := .ref (ad 28)) S hK E 0 rfl rfl dX0_balanceWith_7 ?_
  refine lv_iconst (v := 1) hx hb dX0_balanceWith_10 (by decide) ?_
  refine w_lld (v := 0) S hK E 1 1 rfl rfl (show vp_in 1 9 by unfold vp_in; decide) rfl dX0_balanceWith_11 ?_
  refine k_ladd (v := 0) hx hb (by decide) dX0_balanceWith_12 ?_
  refine lv_aload_n hx hb dX0_balanceWith_13 rfl (lv_at hl 0 rfl) ?_
  refine wg_X0_7 (v := .ref (ad 28)) S hK E 0 rfl rfl dX0_balanceWith_14 ?_
  refine lv_iconst (v := 3) hx hb dX0_balanceWith_17 (by decide) ?_
  refine w_lld (v := 0) S hK E 1 1 rfl rfl (show vp_in 3 9 by unfold vp_in; decide) rfl dX0_balanceWith_18 ?_
  refine k_ladd (v := 0) hx hb (by decide) dX0_balanceWith_19 ?_
  refine lv_aload_n hx hb dX0_balanceWith_20 rfl (lv_at hl 0 rfl) ?_
  refine wg_X0_7 (v := .ref (ad 28)) S hK E 0 rfl rfl dX0_balanceWith_21 ?_
  refine lv_bipush (v := 6) hx hb dX0_balanceWith_24 (by decide) ?_
  refine w_lld (v := 0) S hK E 1 1 rfl rfl (show vp_in 6 9 by unfold vp_in; decide) rfl dX0_balanceWith_26 ?_
  refine k_ladd (v := 0) hx hb (by decide) dX0_balanceWith_27 ?_
  refine lv_lstore_n (lv' := [(3, .long 0), (0, .ref (ad 4)), (1, .long 0)]) hx hb dX0_balanceWith_28 rfl hl (by decide) rfl (fun ls hl => ?_)
  refine lv_aload_n hx hb dX0_balanceWith_29 rfl (lv_at hl 1 rfl) ?_
  refine wg_X0_7 (v := .ref (ad 28)) S hK E 0 rfl rfl dX0_balanceWith_30 ?_
  refine lv_iconst (v := 2) hx hb dX0_balanceWith_33 (by decide) ?_
  refine w_lld (v := 0) S hK E 1 1 rfl rfl (show vp_in 2 9 by unfold vp_in; decide) rfl dX0_balanceWith_34 ?_
  refine lv_aload_n hx hb dX0_balanceWith_35 rfl (lv_at hl 1 rfl) ?_
  refine wg_X0_7 (v := .ref (ad 28)) S hK E 0 rfl rfl dX0_balanceWith_36 ?_
  refine lv_iconst (v := 4) hx hb dX0_balanceWith_39 (by decide) ?_
  refine w_lld (v := 0) S hK E 1 1 rfl rfl (show vp_in 4 9 by unfold vp_in; decide) rfl dX0_balanceWith_40 ?_
  refine k_ladd (v := 0) hx hb (by decide) dX0_balanceWith_41 ?_
  refine lv_aload_n hx hb dX0_balanceWith_42 rfl (lv_at hl 1 rfl) ?_
  refine wg_X0_7 (v := .ref (ad 28)) S hK E 0 rfl rfl dX0_balanceWith_43 ?_
  refine lv_iconst (v := 5) hx hb dX0_balanceWith_46 (by decide) ?_
  refine w_lld (v := 0) S hK E 1 1 rfl rfl (show vp_in 5 9 by unfold vp_in; decide) rfl dX0_balanceWith_47 ?_
  refine k_ladd (v := 0) hx hb (by decide) dX0_balanceWith_48 ?_
  refine lv_aload_n hx hb dX0_balanceWith_49 rfl (lv_at hl 1 rfl) ?_
  refine wg_X0_7 (v := .ref (ad 28)) S hK E 0 rfl rfl dX0_balanceWith_50 ?_
  refine lv_bipush (v := 7) hx hb dX0_balanceWith_53 (by decide) ?_
  refine w_lld (v := 0) S hK E 1 1 rfl rfl (show vp_in 7 9 by unfold vp_in; decide) rfl dX0_balanceWith_55 ?_
  refine k_ladd (v := 0) hx hb (by decide) dX0_balanceWith_56 ?_
  refine lv_lstore (lv' := [(5, .long 0), (3, .long 0), (0, .ref (ad 4)), (1, .long 0)]) hx hb dX0_balanceWith_57 hl (by decide) rfl (fun ls hl => ?_)
  refine lv_lload_n hx hb dX0_balanceWith_59 rfl (lv_at hl 1 rfl) ?_
  refine lv_lload hx hb dX0_balanceWith_60 (lv_at hl 0 rfl) ?_
  refine lv_lload_n hx hb dX0_balanceWith_62 rfl (lv_at hl 3 rfl) ?_
  refine k_ladd (v := 0) hx hb (by decide) dX0_balanceWith_63 ?_
  refine k_lcmp (v := 0) hx hb (by decide) dX0_balanceWith_64 ?_
  refine lv_if_ne (tgt := 72) hx hb dX0_balanceWith_65 (by decide) (fun c_ => absurd (show (0 : Int32) = 0 by decide) c_) (fun _ => ?_)
  refine lv_iconst (v := 1) hx hb dX0_balanceWith_68 (by decide) ?_
  refine lv_goto (tgt := 73) hx hb dX0_balanceWith_69 (by decide) ?_
  exact x_zret () S hr hlk hsz htt hK E dX0_balanceWith_73 rfl rfl rfl ⟨Nat.le_of_ble_eq_true rfl, Nat.le_of_ble_eq_true rfl⟩ ⟨Nat.le_of_ble_eq_true rfl, Nat.le_of_ble_eq_true rfl⟩

set_option maxHeartbeats 4000000 in
set_option maxRecDepth 100000 in
/-- followDiary, nothing done -/
theorem c_fd0 (l : Launch) (g : Gm) (bd : Nat → Nat) (dy : Nat) : MXv (S := Unit) l g yX5_followDiary cX5_followDiary 3 ({ frames := 1, cells := 0, slots := 0, locals := 20 } : Room) [.ref (bd 0), .ref dy] [((bd 0), .inr (5, [.ref (bd 1), .ref (bd 2), .ref (bd 3), .ref (bd 4), .ref (bd 29), .ref (bd 5), .ref (bd 6), .ref (bd 7), .int (-1), .int 0, .int 0, .int 0])), (dy, .inr (8, [.int 0, .ref (g.2.2 0), .int 0]))] (fun _ => True) (fun _ => [((bd 0), .inr (5, [.ref (bd 1), .ref (bd 2), .ref (bd 3), .ref (bd 4), .ref (bd 29), .ref (bd 5), .ref (bd 6), .ref (bd 7), .int (-1), .int 0, .int 0, .int 0])), (dy, .inr (8, [.int 0, .ref (g.2.2 0), .int 0]))]) (fun _ => (0, 0)) := by
  intro sz tt
  refine ofX RX5 rfl (by decide +kernel) (Nat.le_of_ble_eq_true rfl) (fun p e s m args below meth c hargs S hml hr hlk hnm hsz htt hK hA hZ E ls hl => ?_)
  have hx := S.1
  have hb := S.2.1
  have hl : lv_has ls 3 [(0, .ref (bd 0)), (1, .ref dy)] := hl
  refine lv_aload_n hx hb dX5_followDiary_0 rfl (lv_at hl 0 rfl) ?_
  refine wg_X5_64 (v := .int 0) S hK E 0 rfl rfl dX5_followDiary_1 ?_
  refine lv_istore_n (lv' := [(2, .int 0), (0, .ref (bd 0)), (1, .ref dy)]) hx hb dX5_followDiary_4 rfl hl (by decide) rfl (fun ls hl => ?_)
  refine lv_iload_n hx hb dX5_followDiary_5 rfl (lv_at hl 0 rfl) ?_
  refine lv_aload_n hx hb dX5_followDiary_6 rfl (lv_at hl 2 rfl) ?_
  refine w_reti (runV_X (As := []) (rest := [.int 0]) (q0 := 0) (n := 0) S hml hK (hZ.at E) (Cut.of (wc := [(dy, .inr (8, [.int 0, .ref (g.2.2 0), .int 0]))]) (wr := [((bd 0), .inr (5, [.ref (bd 1), .ref (bd 2), .ref (bd 3), .ref (bd 4), .ref (bd 29), .ref (bd 5), .ref (bd 6), .ref (bd 7), .int (-1), .int 0, .int 0, .int 0]))]) E hA [1] [0] rfl rfl rfl rfl (by decide)) (c_Jx4a65c_size_8abf5 l g dy 0 0 (g.2.2 0) _ _) (gi_wsV ml_X5_67 im_Jx4a65c_size_8abf5 sl_Jx4a65c_size_8abf5 in_Jx4a65c co_Jx4a65c_size_8abf5) ⟨rfl, by decide +kernel, by decide +kernel, by decide +kernel⟩ ⟨Nat.le_of_ble_eq_true rfl, Nat.le_of_ble_eq_true rfl⟩ rfl rfl rfl hl.1 rfl (Nat.le_of_ble_eq_true rfl) dX5_followDiary_7 ⟨Nat.le_of_ble_eq_true rfl, Nat.le_of_ble_eq_true rfl⟩) (Cut.of (wc := [(dy, .inr (8, [.int 0, .ref (g.2.2 0), .int 0]))]) (wr := [((bd 0), .inr (5, [.ref (bd 1), .ref (bd 2), .ref (bd 3), .ref (bd 4), .ref (bd 29), .ref (bd 5), .ref (bd 6), .ref (bd 7), .int (-1), .int 0, .int 0, .int 0]))]) E hA [1] [0] rfl rfl rfl rfl (by decide)) E (fun r1 u1 H locs hp E => ?_)
  have E : Ev g _ s.heap H locs [((bd 0), .inr (5, [.ref (bd 1), .ref (bd 2), .ref (bd 3), .ref (bd 4), .ref (bd 29), .ref (bd 5), .ref (bd 6), .ref (bd 7), .int (-1), .int 0, .int 0, .int 0])), (dy, .inr (8, [.int 0, .ref (g.2.2 0), .int 0]))] := E
  subst hp
  refine lv_icmp_ge (tgt := 31) hx hb dX5_followDiary_10 (by decide) (fun _ => ?_) (fun c_ => absurd (show (0 : Int32) ≤ (0 : Int32) by decide) c_)
  refine lv_aload_n hx hb dX5_followDiary_31 rfl (lv_at hl 1 rfl) ?_
  refine lv_aload_n hx hb dX5_followDiary_32 rfl (lv_at hl 2 rfl) ?_
  refine w_reti (runV_X (As := []) (rest := [.ref (bd 0)]) (q0 := 0) (n := 0) S hml hK (hZ.at E) (Cut.of (wc := [(dy, .inr (8, [.int 0, .ref (g.2.2 0), .int 0]))]) (wr := [((bd 0), .inr (5, [.ref (bd 1), .ref (bd 2), .ref (bd 3), .ref (bd 4), .ref (bd 29), .ref (bd 5), .ref (bd 6), .ref (bd 7), .int (-1), .int 0, .int 0, .int 0]))]) E hA [1] [0] rfl rfl rfl rfl (by decide)) (c_Jx4a65c_size_8abf5 l g dy 0 0 (g.2.2 0) _ _) (gi_wsV ml_X5_67 im_Jx4a65c_size_8abf5 sl_Jx4a65c_size_8abf5 in_Jx4a65c co_Jx4a65c_size_8abf5) ⟨rfl, by decide +kernel, by decide +kernel, by decide +kernel⟩ ⟨Nat.le_of_ble_eq_true rfl, Nat.le_of_ble_eq_true rfl⟩ rfl rfl rfl hl.1 rfl (Nat.le_of_ble_eq_true rfl) dX5_followDiary_33 ⟨Nat.le_of_ble_eq_true rfl, Nat.le_of_ble_eq_true rfl⟩) (Cut.of (wc := [(dy, .inr (8, [.int 0, .ref (g.2.2 0), .int 0]))]) (wr := [((bd 0), .inr (5, [.ref (bd 1), .ref (bd 2), .ref (bd 3), .ref (bd 4), .ref (bd 29), .ref (bd 5), .ref (bd 6), .ref (bd 7), .int (-1), .int 0, .int 0, .int 0]))]) E hA [1] [0] rfl rfl rfl rfl (by decide)) E (fun r2 u2 H locs hp E => ?_)
  have E : Ev g _ s.heap H locs [((bd 0), .inr (5, [.ref (bd 1), .ref (bd 2), .ref (bd 3), .ref (bd 4), .ref (bd 29), .ref (bd 5), .ref (bd 6), .ref (bd 7), .int (-1), .int 0, .int 0, .int 0])), (dy, .inr (8, [.int 0, .ref (g.2.2 0), .int 0]))] := E
  subst hp
  refine wp_X5_64 (w' := [((bd 0), .inr (5, [.ref (bd 1), .ref (bd 2), .ref (bd 3), .ref (bd 4), .ref (bd 29), .ref (bd 5), .ref (bd 6), .ref (bd 7), .int (-1), .int 0, .int 0, .int 0])), (dy, .inr (8, [.int 0, .ref (g.2.2 0), .int 0]))]) S hK E 0 rfl rfl rfl (Nat.le_of_ble_eq_true rfl) rfl dX5_followDiary_36 (fun H locs E => ?_)
  exact x_vret () S hr hlk hsz htt hK E dX5_followDiary_39 trivial rfl ⟨Nat.le_of_ble_eq_true rfl, Nat.le_of_ble_eq_true rfl⟩ ⟨Nat.le_of_ble_eq_true rfl, Nat.le_of_ble_eq_true rfl⟩

set_option maxHeartbeats 4000000 in
set_option maxRecDepth 100000 in
/-- water -/
theorem c_X6_water (l : Launch) (g : Gm) (hst : l.stackTraces = false) (x : Nat) (ag : Nat) (wo : Nat) (dy : Nat) (ad : Nat → Nat) (p0 : Int32) : YXi (S := Unit) l g yX6_water cX6_water 2 .int ({ frames := 7, cells := 1, slots := 6, locals := 103 } : Room) [.ref x, .int p0] [(x, .inr (6, [.ref (ad 0), .ref ag, .ref wo, .ref dy])), ((ad 0), .inr (5, [.ref (ad 1), .ref (ad 2), .ref (ad 3), .ref (ad 4), .ref (ad 29), .ref (ad 5), .ref (ad 6), .ref (ad 7), .int (-1), .int 1, .int 0, .int 0])), ((ad 1), .inr (2, [.ref (ad 8), .ref (ad 9), .ref (ad 10), .ref (ad 11)])), ((ad 10), .inl (g.2.1 0, 16, .inl (fun _ => 0)))] (fun r _ => r = 0 ∧ rgOK p0 0 15) (fun _ => [(x, .inr (6, [.ref (ad 0), .ref ag, .ref wo, .ref dy])), ((ad 0), .inr (5, [.ref (ad 1), .ref (ad 2), .ref (ad 3), .ref (ad 4), .ref (ad 29), .ref (ad 5), .ref (ad 6), .ref (ad 7), .int (-1), .int 1, .int 0, .int 0])), ((ad 1), .inr (2, [.ref (ad 8), .ref (ad 9), .ref (ad 10), .ref (ad 11)])), ((ad 10), .inl (g.2.1 0, 16, .inl (fun _ => 0)))]) (fun _ => (0, 0)) [(x, .inr (6, [.ref (ad 0), .ref ag, .ref wo, .ref dy])), ((ad 0), .inr (5, [.ref (ad 1), .ref (ad 2), .ref (ad 3), .ref (ad 4), .ref (ad 29), .ref (ad 5), .ref (ad 6), .ref (ad 7), .int (-1), .int 1, .int 0, .int 0])), ((ad 1), .inr (2, [.ref (ad 8), .ref (ad 9), .ref (ad 10), .ref (ad 11)])), ((ad 10), .inl (g.2.1 0, 16, .inl (fun _ => 0)))] (fun En => En = "java/lang/IndexOutOfBoundsException" ∧ ¬ rgOK p0 0 15) := by
  intro sz tt
  refine ofY RX6 rfl (by decide +kernel) (Nat.le_of_ble_eq_true rfl) (fun p e s m args below meth c hargs S hml hr hlk hex hsz htt hK hA hZ E ls hl => ?_)
  have hx := S.1
  have hb := S.2.1
  have hl : lv_has ls 2 [(0, .ref x), (1, .int p0)] := hl
  refine lv_iload_n hx hb dX6_water_0 rfl (lv_at hl 1 rfl) ?_
  refine lv_bipush (v := 16) hx hb dX6_water_1 (by decide) ?_
  refine y_retv (yrunS (As := [.int p0, .int 16]) (rest := []) (n := 2) S hml hK (hZ.at E) (Cut.of (wc := []) (wr := [(x, .inr (6, [.ref (ad 0), .ref ag, .ref wo, .ref dy])), ((ad 0), .inr (5, [.ref (ad 1), .ref (ad 2), .ref (ad 3), .ref (ad 4), .ref (ad 29), .ref (ad 5), .ref (ad 6), .ref (ad 7), .int (-1), .int 1, .int 0, .int 0])), ((ad 1), .inr (2, [.ref (ad 8), .ref (ad 9), .ref (ad 10), .ref (ad 11)])), ((ad 10), .inl (g.2.1 0, 16, .inl (fun _ => 0)))]) E hA [] [0, 1, 2, 3] rfl rfl rfl rfl (by decide)) (c_X6_requireIndex l g hst p0 16 _ _) ml_X6_32 st_X6_requireIndex in_X6 co_X6_requireIndex ⟨by decide +kernel, by decide +kernel, by decide +kernel⟩ ⟨Nat.le_of_ble_eq_true rfl, Nat.le_of_ble_eq_true rfl⟩ rfl hl.1 rfl (Nat.le_of_ble_eq_true rfl) dX6_water_3 ⟨Nat.le_of_ble_eq_true rfl, Nat.le_of_ble_eq_true rfl⟩) (Cut.of (wc := []) (wr := [(x, .inr (6, [.ref (ad 0), .ref ag, .ref wo, .ref dy])), ((ad 0), .inr (5, [.ref (ad 1), .ref (ad 2), .ref (ad 3), .ref (ad 4), .ref (ad 29), .ref (ad 5), .ref (ad 6), .ref (ad 7), .int (-1), .int 1, .int 0, .int 0])), ((ad 1), .inr (2, [.ref (ad 8), .ref (ad 9), .ref (ad 10), .ref (ad 11)])), ((ad 10), .inl (g.2.1 0, 16, .inl (fun _ => 0)))]) E hA [] [0, 1, 2, 3] rfl rfl rfl rfl (by decide)) E (fun En ce q9 H locs hp E hce hcv hcl => ?_) (fun u1 H locs hp E => ?_)
  · have E : Ev g _ s.heap H locs [(x, .inr (6, [.ref (ad 0), .ref ag, .ref wo, .ref dy])), ((ad 0), .inr (5, [.ref (ad 1), .ref (ad 2), .ref (ad 3), .ref (ad 4), .ref (ad 29), .ref (ad 5), .ref (ad 6), .ref (ad 7), .int (-1), .int 1, .int 0, .int 0])), ((ad 1), .inr (2, [.ref (ad 8), .ref (ad 9), .ref (ad 10), .ref (ad 11)])), ((ad 10), .inl (g.2.1 0, 16, .inl (fun _ => 0)))] := E
    exact y_out hex hlk hK E rfl ⟨hp.1, fun z => hp.2 (ix16.mpr z)⟩ hce hcv hcl ⟨Nat.le_of_ble_eq_true rfl, Nat.le_of_ble_eq_true rfl⟩
  · skip
    have E : Ev g _ s.heap H locs [(x, .inr (6, [.ref (ad 0), .ref ag, .ref wo, .ref dy])), ((ad 0), .inr (5, [.ref (ad 1), .ref (ad 2), .ref (ad 3), .ref (ad 4), .ref (ad 29), .ref (ad 5), .ref (ad 6), .ref (ad 7), .int (-1), .int 1, .int 0, .int 0])), ((ad 1), .inr (2, [.ref (ad 8), .ref (ad 9), .ref (ad 10), .ref (ad 11)])), ((ad 10), .inl (g.2.1 0, 16, .inl (fun _ => 0)))] := E
    have hx2 := hp
    have hA2 := ix16.mp hx2
    refine lv_aload_n hx hb dX6_water_6 rfl (lv_at hl 0 rfl) ?_
    refine wg_X6_14 (v := .ref (ad 0)) S hK E 0 rfl rfl dX6_water_7 ?_
    refine wg_X6_40 (v := .ref (ad 1)) S hK E 1 rfl rfl dX6_water_10 ?_
    refine wg_X6_44 (v := .ref (ad 10)) S hK E 2 rfl rfl dX6_water_13 ?_
    refine lv_iload_n hx hb dX6_water_16 rfl (lv_at hl 1 rfl) ?_
    refine w_ild (v := 0) S hK E 3 0 rfl rfl (rg_in 15 (by decide) (by decide) (by decide) hA2) rfl dX6_water_17 ?_
    exact vx_ret (x_iret () S hr hlk hsz htt hK E dX6_water_18 ⟨rfl, hA2⟩ rfl ⟨Nat.le_of_ble_eq_true rfl, Nat.le_of_ble_eq_true rfl⟩ ⟨Nat.le_of_ble_eq_true rfl, Nat.le_of_ble_eq_true rfl⟩)

set_option maxHeartbeats 4000000 in
set_option maxRecDepth 100000 in
/-- salt -/
theorem c_X6_salt (l : Launch) (g : Gm) (hst : l.stackTraces = false) (x : Nat) (ag : Nat) (wo : Nat) (dy : Nat) (ad : Nat → Nat) (p0 : Int32) : YXi (S := Unit) l g yX6_salt cX6_salt 2 .int ({ frames := 7, cells := 1, slots := 6, locals := 103 } : Room) [.ref x, .int p0] [(x, .inr (6, [.ref (ad 0), .ref ag, .ref wo, .ref dy])), ((ad 0), .inr (5, [.ref (ad 1), .ref (ad 2), .ref (ad 3), .ref (ad 4), .ref (ad 29), .ref (ad 5), .ref (ad 6), .ref (ad 7), .int (-1), .int 1, .int 0, .int 0])), ((ad 1), .inr (2, [.ref (ad 8), .ref (ad 9), .ref (ad 10), .ref (ad 11)])), ((ad 11), .inl (g.2.1 0, 16, .inl (fun _ => 0)))] (fun r _ => r = 0 ∧ rgOK p0 0 15) (fun _ => [(x, .inr (6, [.ref (ad 0), .ref ag, .ref wo, .ref dy])), ((ad 0), .inr (5, [.ref (ad 1), .ref (ad 2), .ref (ad 3), .ref (ad 4), .ref (ad 29), .ref (ad 5), .ref (ad 6), .ref (ad 7), .int (-1), .int 1, .int 0, .int 0])), ((ad 1), .inr (2, [.ref (ad 8), .ref (ad 9), .ref (ad 10), .ref (ad 11)])), ((ad 11), .inl (g.2.1 0, 16, .inl (fun _ => 0)))]) (fun _ => (0, 0)) [(x, .inr (6, [.ref (ad 0), .ref ag, .ref wo, .ref dy])), ((ad 0), .inr (5, [.ref (ad 1), .ref (ad 2), .ref (ad 3), .ref (ad 4), .ref (ad 29), .ref (ad 5), .ref (ad 6), .ref (ad 7), .int (-1), .int 1, .int 0, .int 0])), ((ad 1), .inr (2, [.ref (ad 8), .ref (ad 9), .ref (ad 10), .ref (ad 11)])), ((ad 11), .inl (g.2.1 0, 16, .inl (fun _ => 0)))] (fun En => En = "java/lang/IndexOutOfBoundsException" ∧ ¬ rgOK p0 0 15) := by
  intro sz tt
  refine ofY RX6 rfl (by decide +kernel) (Nat.le_of_ble_eq_true rfl) (fun p e s m args below meth c hargs S hml hr hlk hex hsz htt hK hA hZ E ls hl => ?_)
  have hx := S.1
  have hb := S.2.1
  have hl : lv_has ls 2 [(0, .ref x), (1, .int p0)] := hl
  refine lv_iload_n hx hb dX6_salt_0 rfl (lv_at hl 1 rfl) ?_
  refine lv_bipush (v := 16) hx hb dX6_salt_1 (by decide) ?_
  refine y_retv (yrunS (As := [.int p0, .int 16]) (rest := []) (n := 2) S hml hK (hZ.at E) (Cut.of (wc := []) (wr := [(x, .inr (6, [.ref (ad 0), .ref ag, .ref wo, .ref dy])), ((ad 0), .inr (5, [.ref (ad 1), .ref (ad 2), .ref (ad 3), .ref (ad 4), .ref (ad 29), .ref (ad 5), .ref (ad 6), .ref (ad 7), .int (-1), .int 1, .int 0, .int 0])), ((ad 1), .inr (2, [.ref (ad 8), .ref (ad 9), .ref (ad 10), .ref (ad 11)])), ((ad 11), .inl (g.2.1 0, 16, .inl (fun _ => 0)))]) E hA [] [0, 1, 2, 3] rfl rfl rfl rfl (by decide)) (c_X6_requireIndex l g hst p0 16 _ _) ml_X6_32 st_X6_requireIndex in_X6 co_X6_requireIndex ⟨by decide +kernel, by decide +kernel, by decide +kernel⟩ ⟨Nat.le_of_ble_eq_true rfl, Nat.le_of_ble_eq_true rfl⟩ rfl hl.1 rfl (Nat.le_of_ble_eq_true rfl) dX6_salt_3 ⟨Nat.le_of_ble_eq_true rfl, Nat.le_of_ble_eq_true rfl⟩) (Cut.of (wc := []) (wr := [(x, .inr (6, [.ref (ad 0), .ref ag, .ref wo, .ref dy])), ((ad 0), .inr (5, [.ref (ad 1), .ref (ad 2), .ref (ad 3), .ref (ad 4), .ref (ad 29), .ref (ad 5), .ref (ad 6), .ref (ad 7), .int (-1), .int 1, .int 0, .int 0])), ((ad 1), .inr (2, [.ref (ad 8), .ref (ad 9), .ref (ad 10), .ref (ad 11)])), ((ad 11), .inl (g.2.1 0, 16, .inl (fun _ => 0)))]) E hA [] [0, 1, 2, 3] rfl rfl rfl rfl (by decide)) E (fun En ce q9 H locs hp E hce hcv hcl => ?_) (fun u1 H locs hp E => ?_)
  · have E : Ev g _ s.heap H locs [(x, .inr (6, [.ref (ad 0), .ref ag, .ref wo, .ref dy])), ((ad 0), .inr (5, [.ref (ad 1), .ref (ad 2), .ref (ad 3), .ref (ad 4), .ref (ad 29), .ref (ad 5), .ref (ad 6), .ref (ad 7), .int (-1), .int 1, .int 0, .int 0])), ((ad 1), .inr (2, [.ref (ad 8), .ref (ad 9), .ref (ad 10), .ref (ad 11)])), ((ad 11), .inl (g.2.1 0, 16, .inl (fun _ => 0)))] := E
    exact y_out hex hlk hK E rfl ⟨hp.1, fun z => hp.2 (ix16.mpr z)⟩ hce hcv hcl ⟨Nat.le_of_ble_eq_true rfl, Nat.le_of_ble_eq_true rfl⟩
  · skip
    have E : Ev g _ s.heap H locs [(x, .inr (6, [.ref (ad 0), .ref ag, .ref wo, .ref dy])), ((ad 0), .inr (5, [.ref (ad 1), .ref (ad 2), .ref (ad 3), .ref (ad 4), .ref (ad 29), .ref (ad 5), .ref (ad 6), .ref (ad 7), .int (-1), .int 1, .int 0, .int 0])), ((ad 1), .inr (2, [.ref (ad 8), .ref (ad 9), .ref (ad 10), .ref (ad 11)])), ((ad 11), .inl (g.2.1 0, 16, .inl (fun _ => 0)))] := E
    have hx2 := hp
    have hA2 := ix16.mp hx2
    refine lv_aload_n hx hb dX6_salt_6 rfl (lv_at hl 0 rfl) ?_
    refine wg_X6_14 (v := .ref (ad 0)) S hK E 0 rfl rfl dX6_salt_7 ?_
    refine wg_X6_40 (v := .ref (ad 1)) S hK E 1 rfl rfl dX6_salt_10 ?_
    refine wg_X6_134 (v := .ref (ad 11)) S hK E 2 rfl rfl dX6_salt_13 ?_
    refine lv_iload_n hx hb dX6_salt_16 rfl (lv_at hl 1 rfl) ?_
    refine w_ild (v := 0) S hK E 3 0 rfl rfl (rg_in 15 (by decide) (by decide) (by decide) hA2) rfl dX6_salt_17 ?_
    exact vx_ret (x_iret () S hr hlk hsz htt hK E dX6_salt_18 ⟨rfl, hA2⟩ rfl ⟨Nat.le_of_ble_eq_true rfl, Nat.le_of_ble_eq_true rfl⟩ ⟨Nat.le_of_ble_eq_true rfl, Nat.le_of_ble_eq_true rfl⟩)

set_option maxHeartbeats 4000000 in
set_option maxRecDepth 100000 in
/-- level -/
theorem c_X6_level (l : Launch) (g : Gm) (hst : l.stackTraces = false) (x : Nat) (ag : Nat) (wo : Nat) (dy : Nat) (ad : Nat → Nat) (p0 : Int32) : YXi (S := Unit) l g yX6_level cX6_level 2 .int ({ frames := 7, cells := 1, slots := 6, locals := 103 } : Room) [.ref x, .int p0] [(x, .inr (6, [.ref (ad 0), .ref ag, .ref wo, .ref dy])), ((ad 0), .inr (5, [.ref (ad 1), .ref (ad 2), .ref (ad 3), .ref (ad 4), .ref (ad 29), .ref (ad 5), .ref (ad 6), .ref (ad 7), .int (-1), .int 1, .int 0, .int 0])), ((ad 1), .inr (2, [.ref (ad 8), .ref (ad 9), .ref (ad 10), .ref (ad 11)])), ((ad 8), .inl (g.2.1 0, 16, .inl (fun _ => 0))), ((ad 9), .inl (g.2.1 0, 16, .inl (fun _ => 10))), ((ad 10), .inl (g.2.1 0, 16, .inl (fun _ => 0)))] (fun r _ => r = 0 ∧ rgOK p0 0 15) (fun _ => [(x, .inr (6, [.ref (ad 0), .ref ag, .ref wo, .ref dy])), ((ad 0), .inr (5, [.ref (ad 1), .ref (ad 2), .ref (ad 3), .ref (ad 4), .ref (ad 29), .ref (ad 5), .ref (ad 6), .ref (ad 7), .int (-1), .int 1, .int 0, .int 0])), ((ad 1), .inr (2, [.ref (ad 8), .ref (ad 9), .ref (ad 10), .ref (ad 11)])), ((ad 8), .inl (g.2.1 0, 16, .inl (fun _ => 0))), ((ad 9), .inl (g.2.1 0, 16, .inl (fun _ => 10))), ((ad 10), .inl (g.2.1 0, 16, .inl (fun _ => 0)))]) (fun _ => (0, 0)) [(x, .inr (6, [.ref (ad 0), .ref ag, .ref wo, .ref dy])), ((ad 0), .inr (5, [.ref (ad 1), .ref (ad 2), .ref (ad 3), .ref (ad 4), .ref (ad 29), .ref (ad 5), .ref (ad 6), .ref (ad 7), .int (-1), .int 1, .int 0, .int 0])), ((ad 1), .inr (2, [.ref (ad 8), .ref (ad 9), .ref (ad 10), .ref (ad 11)])), ((ad 8), .inl (g.2.1 0, 16, .inl (fun _ => 0))), ((ad 9), .inl (g.2.1 0, 16, .inl (fun _ => 10))), ((ad 10), .inl (g.2.1 0, 16, .inl (fun _ => 0)))] (fun En => En = "java/lang/IndexOutOfBoundsException" ∧ ¬ rgOK p0 0 15) := by
  intro sz tt
  refine ofY RX6 rfl (by decide +kernel) (Nat.le_of_ble_eq_true rfl) (fun p e s m args below meth c hargs S hml hr hlk hex hsz htt hK hA hZ E ls hl => ?_)
  have hx := S.1
  have hb := S.2.1
  have hl : lv_has ls 2 [(0, .ref x), (1, .int p0)] := hl
  refine lv_iload_n hx hb dX6_level_0 rfl (lv_at hl 1 rfl) ?_
  refine lv_bipush (v := 16) hx hb dX6_level_1 (by decide) ?_
  refine y_retv (yrunS (As := [.int p0, .int 16]) (rest := []) (n := 2) S hml hK (hZ.at E) (Cut.of (wc := []) (wr := [(x, .inr (6, [.ref (ad 0), .ref ag, .ref wo, .ref dy])), ((ad 0), .inr (5, [.ref (ad 1), .ref (ad 2), .ref (ad 3), .ref (ad 4), .ref (ad 29), .ref (ad 5), .ref (ad 6), .ref (ad 7), .int (-1), .int 1, .int 0, .int 0])), ((ad 1), .inr (2, [.ref (ad 8), .ref (ad 9), .ref (ad 10), .ref (ad 11)])), ((ad 8), .inl (g.2.1 0, 16, .inl (fun _ => 0))), ((ad 9), .inl (g.2.1 0, 16, .inl (fun _ => 10))), ((ad 10), .inl (g.2.1 0, 16, .inl (fun _ => 0)))]) E hA [] [0, 1, 2, 3, 4, 5] rfl rfl rfl rfl (by decide)) (c_X6_requireIndex l g hst p0 16 _ _) ml_X6_32 st_X6_requireIndex in_X6 co_X6_requireIndex ⟨by decide +kernel, by decide +kernel, by decide +kernel⟩ ⟨Nat.le_of_ble_eq_true rfl, Nat.le_of_ble_eq_true rfl⟩ rfl hl.1 rfl (Nat.le_of_ble_eq_true rfl) dX6_level_3 ⟨Nat.le_of_ble_eq_true rfl, Nat.le_of_ble_eq_true rfl⟩) (Cut.of (wc := []) (wr := [(x, .inr (6, [.ref (ad 0), .ref ag, .ref wo, .ref dy])), ((ad 0), .inr (5, [.ref (ad 1), .ref (ad 2), .ref (ad 3), .ref (ad 4), .ref (ad 29), .ref (ad 5), .ref (ad 6), .ref (ad 7), .int (-1), .int 1, .int 0, .int 0])), ((ad 1), .inr (2, [.ref (ad 8), .ref (ad 9), .ref (ad 10), .ref (ad 11)])), ((ad 8), .inl (g.2.1 0, 16, .inl (fun _ => 0))), ((ad 9), .inl (g.2.1 0, 16, .inl (fun _ => 10))), ((ad 10), .inl (g.2.1 0, 16, .inl (fun _ => 0)))]) E hA [] [0, 1, 2, 3, 4, 5] rfl rfl rfl rfl (by decide)) E (fun En ce q9 H locs hp E hce hcv hcl => ?_) (fun u1 H locs hp E => ?_)
  · have E : Ev g _ s.heap H locs [(x, .inr (6, [.ref (ad 0), .ref ag, .ref wo, .ref dy])), ((ad 0), .inr (5, [.ref (ad 1), .ref (ad 2), .ref (ad 3), .ref (ad 4), .ref (ad 29), .ref (ad 5), .ref (ad 6), .ref (ad 7), .int (-1), .int 1, .int 0, .int 0])), ((ad 1), .inr (2, [.ref (ad 8), .ref (ad 9), .ref (ad 10), .ref (ad 11)])), ((ad 8), .inl (g.2.1 0, 16, .inl (fun _ => 0))), ((ad 9), .inl (g.2.1 0, 16, .inl (fun _ => 10))), ((ad 10), .inl (g.2.1 0, 16, .inl (fun _ => 0)))] := E
    exact y_out hex hlk hK E rfl ⟨hp.1, fun z => hp.2 (ix16.mpr z)⟩ hce hcv hcl ⟨Nat.le_of_ble_eq_true rfl, Nat.le_of_ble_eq_true rfl⟩
  · skip
    have E : Ev g _ s.heap H locs [(x, .inr (6, [.ref (ad 0), .ref ag, .ref wo, .ref dy])), ((ad 0), .inr (5, [.ref (ad 1), .ref (ad 2), .ref (ad 3), .ref (ad 4), .ref (ad 29), .ref (ad 5), .ref (ad 6), .ref (ad 7), .int (-1), .int 1, .int 0, .int 0])), ((ad 1), .inr (2, [.ref (ad 8), .ref (ad 9), .ref (ad 10), .ref (ad 11)])), ((ad 8), .inl (g.2.1 0, 16, .inl (fun _ => 0))), ((ad 9), .inl (g.2.1 0, 16, .inl (fun _ => 10))), ((ad 10), .inl (g.2.1 0, 16, .inl (fun _ => 0)))] := E
    have hx2 := hp
    have hA2 := ix16.mp hx2
    refine lv_aload_n hx hb dX6_level_6 rfl (lv_at hl 0 rfl) ?_
    refine wg_X6_14 (v := .ref (ad 0)) S hK E 0 rfl rfl dX6_level_7 ?_
    refine wg_X6_40 (v := .ref (ad 1)) S hK E 1 rfl rfl dX6_level_10 ?_
    refine lv_iload_n hx hb dX6_level_13 rfl (lv_at hl 1 rfl) ?_
    refine w_reti (runV_X (As := [.int p0]) (rest := []) (q0 := 0) (n := 1) S hml hK (hZ.at E) (Cut.of (wc := [((ad 1), .inr (2, [.ref (ad 8), .ref (ad 9), .ref (ad 10), .ref (ad 11)])), ((ad 8), .inl (g.2.1 0, 16, .inl (fun _ => 0))), ((ad 9), .inl (g.2.1 0, 16, .inl (fun _ => 10))), ((ad 10), .inl (g.2.1 0, 16, .inl (fun _ => 0)))]) (wr := [(x, .inr (6, [.ref (ad 0), .ref ag, .ref wo, .ref dy])), ((ad 0), .inr (5, [.ref (ad 1), .ref (ad 2), .ref (ad 3), .ref (ad 4), .ref (ad 29), .ref (ad 5), .ref (ad 6), .ref (ad 7), .int (-1), .int 1, .int 0, .int 0]))]) E hA [2, 3, 4, 5] [0, 1] rfl rfl rfl rfl (by decide)) (c_ht0 l g ad p0 (rg_in 15 (by decide) (by decide) (by decide) hA2) _ _) (gi_wsV ml_X6_130 im_X2_height sl_X2_height in_X2 co_X2_height) ⟨rfl, by decide +kernel, by decide +kernel, by decide +kernel⟩ ⟨Nat.le_of_ble_eq_true rfl, Nat.le_of_ble_eq_true rfl⟩ rfl rfl rfl hl.1 rfl (Nat.le_of_ble_eq_true rfl) dX6_level_14 ⟨Nat.le_of_ble_eq_true rfl, Nat.le_of_ble_eq_true rfl⟩) (Cut.of (wc := [((ad 1), .inr (2, [.ref (ad 8), .ref (ad 9), .ref (ad 10), .ref (ad 11)])), ((ad 8), .inl (g.2.1 0, 16, .inl (fun _ => 0))), ((ad 9), .inl (g.2.1 0, 16, .inl (fun _ => 10))), ((ad 10), .inl (g.2.1 0, 16, .inl (fun _ => 0)))]) (wr := [(x, .inr (6, [.ref (ad 0), .ref ag, .ref wo, .ref dy])), ((ad 0), .inr (5, [.ref (ad 1), .ref (ad 2), .ref (ad 3), .ref (ad 4), .ref (ad 29), .ref (ad 5), .ref (ad 6), .ref (ad 7), .int (-1), .int 1, .int 0, .int 0]))]) E hA [2, 3, 4, 5] [0, 1] rfl rfl rfl rfl (by decide)) E (fun r3 u3 H locs hp E => ?_)
    have E : Ev g _ s.heap H locs [(x, .inr (6, [.ref (ad 0), .ref ag, .ref wo, .ref dy])), ((ad 0), .inr (5, [.ref (ad 1), .ref (ad 2), .ref (ad 3), .ref (ad 4), .ref (ad 29), .ref (ad 5), .ref (ad 6), .ref (ad 7), .int (-1), .int 1, .int 0, .int 0])), ((ad 1), .inr (2, [.ref (ad 8), .ref (ad 9), .ref (ad 10), .ref (ad 11)])), ((ad 8), .inl (g.2.1 0, 16, .inl (fun _ => 0))), ((ad 9), .inl (g.2.1 0, 16, .inl (fun _ => 10))), ((ad 10), .inl (g.2.1 0, 16, .inl (fun _ => 0)))] := E
    subst hp
    exact vx_ret (x_iret () S hr hlk hsz htt hK E dX6_level_17 ⟨rfl, hA2⟩ rfl ⟨Nat.le_of_ble_eq_true rfl, Nat.le_of_ble_eq_true rfl⟩ ⟨Nat.le_of_ble_eq_true rfl, Nat.le_of_ble_eq_true rfl⟩)

set_option maxHeartbeats 4000000 in
set_option maxRecDepth 100000 in
/-- requireWell, no wells -/
theorem c_rw0 (l : Launch) (g : Gm) (hst : l.stackTraces = false) (x : Nat) (ag : Nat) (wo : Nat) (dy : Nat) (ad : Nat → Nat) (w : Int32) : YXv (S := Unit) l g yX6_requireWell cX6_requireWell 2 ({ frames := 7, cells := 1, slots := 6, locals := 103 } : Room) [.ref x, .int w] [(x, .inr (6, [.ref (ad 0), .ref ag, .ref wo, .ref dy])), ((ad 0), .inr (5, [.ref (ad 1), .ref (ad 2), .ref (ad 3), .ref (ad 4), .ref (ad 29), .ref (ad 5), .ref (ad 6), .ref (ad 7), .int (-1), .int 1, .int 0, .int 0])), ((ad 3), .inr (4, [.ref (ad 18), .ref (ad 19), .ref (ad 20), .ref (ad 21), .ref (ad 22), .ref (ad 23), .ref (ad 24), .ref (ad 25), .ref (ad 26), .ref (ad 27), .int 0]))] (fun _ => False) (fun _ => [(x, .inr (6, [.ref (ad 0), .ref ag, .ref wo, .ref dy])), ((ad 0), .inr (5, [.ref (ad 1), .ref (ad 2), .ref (ad 3), .ref (ad 4), .ref (ad 29), .ref (ad 5), .ref (ad 6), .ref (ad 7), .int (-1), .int 1, .int 0, .int 0])), ((ad 3), .inr (4, [.ref (ad 18), .ref (ad 19), .ref (ad 20), .ref (ad 21), .ref (ad 22), .ref (ad 23), .ref (ad 24), .ref (ad 25), .ref (ad 26), .ref (ad 27), .int 0]))]) (fun _ => (0, 0)) [(x, .inr (6, [.ref (ad 0), .ref ag, .ref wo, .ref dy])), ((ad 0), .inr (5, [.ref (ad 1), .ref (ad 2), .ref (ad 3), .ref (ad 4), .ref (ad 29), .ref (ad 5), .ref (ad 6), .ref (ad 7), .int (-1), .int 1, .int 0, .int 0])), ((ad 3), .inr (4, [.ref (ad 18), .ref (ad 19), .ref (ad 20), .ref (ad 21), .ref (ad 22), .ref (ad 23), .ref (ad 24), .ref (ad 25), .ref (ad 26), .ref (ad 27), .int 0]))] (fun En => En = "java/lang/IndexOutOfBoundsException") := by
  intro sz tt
  refine ofY RX6 rfl (by decide +kernel) (Nat.le_of_ble_eq_true rfl) (fun p e s m args below meth c hargs S hml hr hlk hex hsz htt hK hA hZ E ls hl => ?_)
  have hx := S.1
  have hb := S.2.1
  have hl : lv_has ls 2 [(0, .ref x), (1, .int w)] := hl
  refine lv_iload_n hx hb dX6_requireWell_0 rfl (lv_at hl 1 rfl) ?_
  refine lv_aload_n hx hb dX6_requireWell_1 rfl (lv_at hl 0 rfl) ?_
  refine wg_X6_14 (v := .ref (ad 0)) S hK E 0 rfl rfl dX6_requireWell_2 ?_
  refine wg_X6_87 (v := .ref (ad 3)) S hK E 1 rfl rfl dX6_requireWell_5 ?_
  refine wg_X6_91 (v := .int 0) S hK E 2 rfl rfl dX6_requireWell_8 ?_
  refine y_retv (yrunS (As := [.int w, .int 0]) (rest := []) (n := 2) S hml hK (hZ.at E) (Cut.of (wc := []) (wr := [(x, .inr (6, [.ref (ad 0), .ref ag, .ref wo, .ref dy])), ((ad 0), .inr (5, [.ref (ad 1), .ref (ad 2), .ref (ad 3), .ref (ad 4), .ref (ad 29), .ref (ad 5), .ref (ad 6), .ref (ad 7), .int (-1), .int 1, .int 0, .int 0])), ((ad 3), .inr (4, [.ref (ad 18), .ref (ad 19), .ref (ad 20), .ref (ad 21), .ref (ad 22), .ref (ad 23), .ref (ad 24), .ref (ad 25), .ref (ad 26), .ref (ad 27), .int 0]))]) E hA [] [0, 1, 2] rfl rfl rfl rfl (by decide)) (c_X6_requireIndex l g hst w 0 _ _) ml_X6_32 st_X6_requireIndex in_X6 co_X6_requireIndex ⟨by decide +kernel, by decide +kernel, by decide +kernel⟩ ⟨Nat.le_of_ble_eq_true rfl, Nat.le_of_ble_eq_true rfl⟩ rfl hl.1 rfl (Nat.le_of_ble_eq_true rfl) dX6_requireWell_11 ⟨Nat.le_of_ble_eq_true rfl, Nat.le_of_ble_eq_true rfl⟩) (Cut.of (wc := []) (wr := [(x, .inr (6, [.ref (ad 0), .ref ag, .ref wo, .ref dy])), ((ad 0), .inr (5, [.ref (ad 1), .ref (ad 2), .ref (ad 3), .ref (ad 4), .ref (ad 29), .ref (ad 5), .ref (ad 6), .ref (ad 7), .int (-1), .int 1, .int 0, .int 0])), ((ad 3), .inr (4, [.ref (ad 18), .ref (ad 19), .ref (ad 20), .ref (ad 21), .ref (ad 22), .ref (ad 23), .ref (ad 24), .ref (ad 25), .ref (ad 26), .ref (ad 27), .int 0]))]) E hA [] [0, 1, 2] rfl rfl rfl rfl (by decide)) E (fun En ce q9 H locs hp E hce hcv hcl => ?_) (fun u1 H locs hp E => ?_)
  · have E : Ev g _ s.heap H locs [(x, .inr (6, [.ref (ad 0), .ref ag, .ref wo, .ref dy])), ((ad 0), .inr (5, [.ref (ad 1), .ref (ad 2), .ref (ad 3), .ref (ad 4), .ref (ad 29), .ref (ad 5), .ref (ad 6), .ref (ad 7), .int (-1), .int 1, .int 0, .int 0])), ((ad 3), .inr (4, [.ref (ad 18), .ref (ad 19), .ref (ad 20), .ref (ad 21), .ref (ad 22), .ref (ad 23), .ref (ad 24), .ref (ad 25), .ref (ad 26), .ref (ad 27), .int 0]))] := E
    exact y_out hex hlk hK E rfl hp.1 hce hcv hcl ⟨Nat.le_of_ble_eq_true rfl, Nat.le_of_ble_eq_true rfl⟩
  · skip
    exact (ix0 hp).elim

set_option maxHeartbeats 4000000 in
set_option maxRecDepth 100000 in
/-- setWish -/
theorem c_X6_setWish (l : Launch) (g : Gm) (hst : l.stackTraces = false) (x : Nat) (ag : Nat) (wo : Nat) (dy : Nat) (ad : Nat → Nat) (p0 : Int32) (p1 : Int32) : YXi (S := Unit) l g yX6_setWish cX6_setWish 4 .int ({ frames := 8, cells := 1, slots := 6, locals := 124 } : Room) [.ref x, .int p0, .int p1] [(x, .inr (6, [.ref (ad 0), .ref ag, .ref wo, .ref dy])), ((ad 0), .inr (5, [.ref (ad 1), .ref (ad 2), .ref (ad 3), .ref (ad 4), .ref (ad 29), .ref (ad 5), .ref (ad 6), .ref (ad 7), .int (-1), .int 1, .int 0, .int 0])), ((ad 3), .inr (4, [.ref (ad 18), .ref (ad 19), .ref (ad 20), .ref (ad 21), .ref (ad 22), .ref (ad 23), .ref (ad 24), .ref (ad 25), .ref (ad 26), .ref (ad 27), .int 0]))] (fun _ _ => False) (fun _ => [(x, .inr (6, [.ref (ad 0), .ref ag, .ref wo, .ref dy])), ((ad 0), .inr (5, [.ref (ad 1), .ref (ad 2), .ref (ad 3), .ref (ad 4), .ref (ad 29), .ref (ad 5), .ref (ad 6), .ref (ad 7), .int (-1), .int 1, .int 0, .int 0])), ((ad 3), .inr (4, [.ref (ad 18), .ref (ad 19), .ref (ad 20), .ref (ad 21), .ref (ad 22), .ref (ad 23), .ref (ad 24), .ref (ad 25), .ref (ad 26), .ref (ad 27), .int 0]))]) (fun _ => (0, 0)) [(x, .inr (6, [.ref (ad 0), .ref ag, .ref wo, .ref dy])), ((ad 0), .inr (5, [.ref (ad 1), .ref (ad 2), .ref (ad 3), .ref (ad 4), .ref (ad 29), .ref (ad 5), .ref (ad 6), .ref (ad 7), .int (-1), .int 1, .int 0, .int 0])), ((ad 3), .inr (4, [.ref (ad 18), .ref (ad 19), .ref (ad 20), .ref (ad 21), .ref (ad 22), .ref (ad 23), .ref (ad 24), .ref (ad 25), .ref (ad 26), .ref (ad 27), .int 0]))] (fun En => En = "java/lang/IndexOutOfBoundsException") := by
  intro sz tt
  refine ofY RX6 rfl (by decide +kernel) (Nat.le_of_ble_eq_true rfl) (fun p e s m args below meth c hargs S hml hr hlk hex hsz htt hK hA hZ E ls hl => ?_)
  have hx := S.1
  have hb := S.2.1
  have hl : lv_has ls 4 [(0, .ref x), (1, .int p0), (2, .int p1)] := hl
  refine lv_aload_n hx hb dX6_setWish_0 rfl (lv_at hl 0 rfl) ?_
  refine lv_iload_n hx hb dX6_setWish_1 rfl (lv_at hl 1 rfl) ?_
  refine y_retv (yrunV (As := [.int p0]) (rest := []) (q0 := 0) (n := 1) S hml hK (hZ.at E) (Cut.full E hA) (c_rw0 l g hst x ag wo dy ad p0 _ _) (gi_wsV ml_X6_103 im_X6_requireWell sl_X6_requireWell in_X6 co_X6_requireWell) ⟨rfl, by decide +kernel, by decide +kernel, by decide +kernel⟩ ⟨Nat.le_of_ble_eq_true rfl, Nat.le_of_ble_eq_true rfl⟩ rfl rfl rfl hl.1 rfl (Nat.le_of_ble_eq_true rfl) dX6_setWish_2 ⟨Nat.le_of_ble_eq_true rfl, Nat.le_of_ble_eq_true rfl⟩) (Cut.full E hA) E (fun En ce q9 H locs hp E hce hcv hcl => ?_) (fun u1 H locs hp E => ?_)
  · have E : Ev g _ s.heap H locs [(x, .inr (6, [.ref (ad 0), .ref ag, .ref wo, .ref dy])), ((ad 0), .inr (5, [.ref (ad 1), .ref (ad 2), .ref (ad 3), .ref (ad 4), .ref (ad 29), .ref (ad 5), .ref (ad 6), .ref (ad 7), .int (-1), .int 1, .int 0, .int 0])), ((ad 3), .inr (4, [.ref (ad 18), .ref (ad 19), .ref (ad 20), .ref (ad 21), .ref (ad 22), .ref (ad 23), .ref (ad 24), .ref (ad 25), .ref (ad 26), .ref (ad 27), .int 0]))] := E
    exact y_out hex hlk hK E rfl hp hce hcv hcl ⟨Nat.le_of_ble_eq_true rfl, Nat.le_of_ble_eq_true rfl⟩
  · skip
    exact hp.elim

set_option maxHeartbeats 4000000 in
set_option maxRecDepth 100000 in
/-- transfer -/
theorem c_X6_transfer (l : Launch) (g : Gm) (hst : l.stackTraces = false) (x : Nat) (ag : Nat) (wo : Nat) (dy : Nat) (ad : Nat → Nat) (p0 : Int32) (p1 : Int32) (p2 : Int32) : YXi (S := Unit) l g yX6_transfer cX6_transfer 4 .int ({ frames := 8, cells := 1, slots := 6, locals := 124 } : Room) [.ref x, .int p0, .int p1, .int p2] [(x, .inr (6, [.ref (ad 0), .ref ag, .ref wo, .ref dy])), ((ad 0), .inr (5, [.ref (ad 1), .ref (ad 2), .ref (ad 3), .ref (ad 4), .ref (ad 29), .ref (ad 5), .ref (ad 6), .ref (ad 7), .int (-1), .int 1, .int 0, .int 0])), ((ad 3), .inr (4, [.ref (ad 18), .ref (ad 19), .ref (ad 20), .ref (ad 21), .ref (ad 22), .ref (ad 23), .ref (ad 24), .ref (ad 25), .ref (ad 26), .ref (ad 27), .int 0]))] (fun _ _ => False) (fun _ => [(x, .inr (6, [.ref (ad 0), .ref ag, .ref wo, .ref dy])), ((ad 0), .inr (5, [.ref (ad 1), .ref (ad 2), .ref (ad 3), .ref (ad 4), .ref (ad 29), .ref (ad 5), .ref (ad 6), .ref (ad 7), .int (-1), .int 1, .int 0, .int 0])), ((ad 3), .inr (4, [.ref (ad 18), .ref (ad 19), .ref (ad 20), .ref (ad 21), .ref (ad 22), .ref (ad 23), .ref (ad 24), .ref (ad 25), .ref (ad 26), .ref (ad 27), .int 0]))]) (fun _ => (0, 0)) [(x, .inr (6, [.ref (ad 0), .ref ag, .ref wo, .ref dy])), ((ad 0), .inr (5, [.ref (ad 1), .ref (ad 2), .ref (ad 3), .ref (ad 4), .ref (ad 29), .ref (ad 5), .ref (ad 6), .ref (ad 7), .int (-1), .int 1, .int 0, .int 0])), ((ad 3), .inr (4, [.ref (ad 18), .ref (ad 19), .ref (ad 20), .ref (ad 21), .ref (ad 22), .ref (ad 23), .ref (ad 24), .ref (ad 25), .ref (ad 26), .ref (ad 27), .int 0]))] (fun En => En = "java/lang/IndexOutOfBoundsException") := by
  intro sz tt
  refine ofY RX6 rfl (by decide +kernel) (Nat.le_of_ble_eq_true rfl) (fun p e s m args below meth c hargs S hml hr hlk hex hsz htt hK hA hZ E ls hl => ?_)
  have hx := S.1
  have hb := S.2.1
  have hl : lv_has ls 4 [(0, .ref x), (1, .int p0), (2, .int p1), (3, .int p2)] := hl
  refine lv_aload_n hx hb dX6_transfer_0 rfl (lv_at hl 0 rfl) ?_
  refine lv_iload_n hx hb dX6_transfer_1 rfl (lv_at hl 1 rfl) ?_
  refine y_retv (yrunV (As := [.int p0]) (rest := []) (q0 := 0) (n := 1) S hml hK (hZ.at E) (Cut.full E hA) (c_rw0 l g hst x ag wo dy ad p0 _ _) (gi_wsV ml_X6_103 im_X6_requireWell sl_X6_requireWell in_X6 co_X6_requireWell) ⟨rfl, by decide +kernel, by decide +kernel, by decide +kernel⟩ ⟨Nat.le_of_ble_eq_true rfl, Nat.le_of_ble_eq_true rfl⟩ rfl rfl rfl hl.1 rfl (Nat.le_of_ble_eq_true rfl) dX6_transfer_2 ⟨Nat.le_of_ble_eq_true rfl, Nat.le_of_ble_eq_true rfl⟩) (Cut.full E hA) E (fun En ce q9 H locs hp E hce hcv hcl => ?_) (fun u1 H locs hp E => ?_)
  · have E : Ev g _ s.heap H locs [(x, .inr (6, [.ref (ad 0), .ref ag, .ref wo, .ref dy])), ((ad 0), .inr (5, [.ref (ad 1), .ref (ad 2), .ref (ad 3), .ref (ad 4), .ref (ad 29), .ref (ad 5), .ref (ad 6), .ref (ad 7), .int (-1), .int 1, .int 0, .int 0])), ((ad 3), .inr (4, [.ref (ad 18), .ref (ad 19), .ref (ad 20), .ref (ad 21), .ref (ad 22), .ref (ad 23), .ref (ad 24), .ref (ad 25), .ref (ad 26), .ref (ad 27), .int 0]))] := E
    exact y_out hex hlk hK E rfl hp hce hcv hcl ⟨Nat.le_of_ble_eq_true rfl, Nat.le_of_ble_eq_true rfl⟩
  · skip
    exact hp.elim

set_option maxHeartbeats 4000000 in
set_option maxRecDepth 100000 in
/-- amount -/
theorem c_X6_amount (l : Launch) (g : Gm) (hst : l.stackTraces = false) (x : Nat) (ag : Nat) (wo : Nat) (dy : Nat) (ad : Nat → Nat) (p0 : Int32) : YXi (S := Unit) l g yX6_amount cX6_amount 2 .int ({ frames := 8, cells := 1, slots := 6, locals := 124 } : Room) [.ref x, .int p0] [(x, .inr (6, [.ref (ad 0), .ref ag, .ref wo, .ref dy])), ((ad 0), .inr (5, [.ref (ad 1), .ref (ad 2), .ref (ad 3), .ref (ad 4), .ref (ad 29), .ref (ad 5), .ref (ad 6), .ref (ad 7), .int (-1), .int 1, .int 0, .int 0])), ((ad 3), .inr (4, [.ref (ad 18), .ref (ad 19), .ref (ad 20), .ref (ad 21), .ref (ad 22), .ref (ad 23), .ref (ad 24), .ref (ad 25), .ref (ad 26), .ref (ad 27), .int 0]))] (fun _ _ => False) (fun _ => [(x, .inr (6, [.ref (ad 0), .ref ag, .ref wo, .ref dy])), ((ad 0), .inr (5, [.ref (ad 1), .ref (ad 2), .ref (ad 3), .ref (ad 4), .ref (ad 29), .ref (ad 5), .ref (ad 6), .ref (ad 7), .int (-1), .int 1, .int 0, .int 0])), ((ad 3), .inr (4, [.ref (ad 18), .ref (ad 19), .ref (ad 20), .ref (ad 21), .ref (ad 22), .ref (ad 23), .ref (ad 24), .ref (ad 25), .ref (ad 26), .ref (ad 27), .int 0]))]) (fun _ => (0, 0)) [(x, .inr (6, [.ref (ad 0), .ref ag, .ref wo, .ref dy])), ((ad 0), .inr (5, [.ref (ad 1), .ref (ad 2), .ref (ad 3), .ref (ad 4), .ref (ad 29), .ref (ad 5), .ref (ad 6), .ref (ad 7), .int (-1), .int 1, .int 0, .int 0])), ((ad 3), .inr (4, [.ref (ad 18), .ref (ad 19), .ref (ad 20), .ref (ad 21), .ref (ad 22), .ref (ad 23), .ref (ad 24), .ref (ad 25), .ref (ad 26), .ref (ad 27), .int 0]))] (fun En => En = "java/lang/IndexOutOfBoundsException") := by
  intro sz tt
  refine ofY RX6 rfl (by decide +kernel) (Nat.le_of_ble_eq_true rfl) (fun p e s m args below meth c hargs S hml hr hlk hex hsz htt hK hA hZ E ls hl => ?_)
  have hx := S.1
  have hb := S.2.1
  have hl : lv_has ls 2 [(0, .ref x), (1, .int p0)] := hl
  refine lv_aload_n hx hb dX6_amount_0 rfl (lv_at hl 0 rfl) ?_
  refine lv_iload_n hx hb dX6_amount_1 rfl (lv_at hl 1 rfl) ?_
  refine y_retv (yrunV (As := [.int p0]) (rest := []) (q0 := 0) (n := 1) S hml hK (hZ.at E) (Cut.full E hA) (c_rw0 l g hst x ag wo dy ad p0 _ _) (gi_wsV ml_X6_103 im_X6_requireWell sl_X6_requireWell in_X6 co_X6_requireWell) ⟨rfl, by decide +kernel, by decide +kernel, by decide +kernel⟩ ⟨Nat.le_of_ble_eq_true rfl, Nat.le_of_ble_eq_true rfl⟩ rfl rfl rfl hl.1 rfl (Nat.le_of_ble_eq_true rfl) dX6_amount_2 ⟨Nat.le_of_ble_eq_true rfl, Nat.le_of_ble_eq_true rfl⟩) (Cut.full E hA) E (fun En ce q9 H locs hp E hce hcv hcl => ?_) (fun u1 H locs hp E => ?_)
  · have E : Ev g _ s.heap H locs [(x, .inr (6, [.ref (ad 0), .ref ag, .ref wo, .ref dy])), ((ad 0), .inr (5, [.ref (ad 1), .ref (ad 2), .ref (ad 3), .ref (ad 4), .ref (ad 29), .ref (ad 5), .ref (ad 6), .ref (ad 7), .int (-1), .int 1, .int 0, .int 0])), ((ad 3), .inr (4, [.ref (ad 18), .ref (ad 19), .ref (ad 20), .ref (ad 21), .ref (ad 22), .ref (ad 23), .ref (ad 24), .ref (ad 25), .ref (ad 26), .ref (ad 27), .int 0]))] := E
    exact y_out hex hlk hK E rfl hp hce hcv hcl ⟨Nat.le_of_ble_eq_true rfl, Nat.le_of_ble_eq_true rfl⟩
  · skip
    exact hp.elim

set_option maxHeartbeats 4000000 in
set_option maxRecDepth 100000 in
/-- yearly -/
theorem c_X6_yearly (l : Launch) (g : Gm) (hst : l.stackTraces = false) (x : Nat) (ag : Nat) (wo : Nat) (dy : Nat) (ad : Nat → Nat) (p0 : Int32) : YXi (S := Unit) l g yX6_yearly cX6_yearly 2 .int ({ frames := 8, cells := 1, slots := 6, locals := 124 } : Room) [.ref x, .int p0] [(x, .inr (6, [.ref (ad 0), .ref ag, .ref wo, .ref dy])), ((ad 0), .inr (5, [.ref (ad 1), .ref (ad 2), .ref (ad 3), .ref (ad 4), .ref (ad 29), .ref (ad 5), .ref (ad 6), .ref (ad 7), .int (-1), .int 1, .int 0, .int 0])), ((ad 3), .inr (4, [.ref (ad 18), .ref (ad 19), .ref (ad 20), .ref (ad 21), .ref (ad 22), .ref (ad 23), .ref (ad 24), .ref (ad 25), .ref (ad 26), .ref (ad 27), .int 0]))] (fun _ _ => False) (fun _ => [(x, .inr (6, [.ref (ad 0), .ref ag, .ref wo, .ref dy])), ((ad 0), .inr (5, [.ref (ad 1), .ref (ad 2), .ref (ad 3), .ref (ad 4), .ref (ad 29), .ref (ad 5), .ref (ad 6), .ref (ad 7), .int (-1), .int 1, .int 0, .int 0])), ((ad 3), .inr (4, [.ref (ad 18), .ref (ad 19), .ref (ad 20), .ref (ad 21), .ref (ad 22), .ref (ad 23), .ref (ad 24), .ref (ad 25), .ref (ad 26), .ref (ad 27), .int 0]))]) (fun _ => (0, 0)) [(x, .inr (6, [.ref (ad 0), .ref ag, .ref wo, .ref dy])), ((ad 0), .inr (5, [.ref (ad 1), .ref (ad 2), .ref (ad 3), .ref (ad 4), .ref (ad 29), .ref (ad 5), .ref (ad 6), .ref (ad 7), .int (-1), .int 1, .int 0, .int 0])), ((ad 3), .inr (4, [.ref (ad 18), .ref (ad 19), .ref (ad 20), .ref (ad 21), .ref (ad 22), .ref (ad 23), .ref (ad 24), .ref (ad 25), .ref (ad 26), .ref (ad 27), .int 0]))] (fun En => En = "java/lang/IndexOutOfBoundsException") := by
  intro sz tt
  refine ofY RX6 rfl (by decide +kernel) (Nat.le_of_ble_eq_true rfl) (fun p e s m args below meth c hargs S hml hr hlk hex hsz htt hK hA hZ E ls hl => ?_)
  have hx := S.1
  have hb := S.2.1
  have hl : lv_has ls 2 [(0, .ref x), (1, .int p0)] := hl
  refine lv_aload_n hx hb dX6_yearly_0 rfl (lv_at hl 0 rfl) ?_
  refine lv_iload_n hx hb dX6_yearly_1 rfl (lv_at hl 1 rfl) ?_
  refine y_retv (yrunV (As := [.int p0]) (rest := []) (q0 := 0) (n := 1) S hml hK (hZ.at E) (Cut.full E hA) (c_rw0 l g hst x ag wo dy ad p0 _ _) (gi_wsV ml_X6_103 im_X6_requireWell sl_X6_requireWell in_X6 co_X6_requireWell) ⟨rfl, by decide +kernel, by decide +kernel, by decide +kernel⟩ ⟨Nat.le_of_ble_eq_true rfl, Nat.le_of_ble_eq_true rfl⟩ rfl rfl rfl hl.1 rfl (Nat.le_of_ble_eq_true rfl) dX6_yearly_2 ⟨Nat.le_of_ble_eq_true rfl, Nat.le_of_ble_eq_true rfl⟩) (Cut.full E hA) E (fun En ce q9 H locs hp E hce hcv hcl => ?_) (fun u1 H locs hp E => ?_)
  · have E : Ev g _ s.heap H locs [(x, .inr (6, [.ref (ad 0), .ref ag, .ref wo, .ref dy])), ((ad 0), .inr (5, [.ref (ad 1), .ref (ad 2), .ref (ad 3), .ref (ad 4), .ref (ad 29), .ref (ad 5), .ref (ad 6), .ref (ad 7), .int (-1), .int 1, .int 0, .int 0])), ((ad 3), .inr (4, [.ref (ad 18), .ref (ad 19), .ref (ad 20), .ref (ad 21), .ref (ad 22), .ref (ad 23), .ref (ad 24), .ref (ad 25), .ref (ad 26), .ref (ad 27), .int 0]))] := E
    exact y_out hex hlk hK E rfl hp hce hcv hcl ⟨Nat.le_of_ble_eq_true rfl, Nat.le_of_ble_eq_true rfl⟩
  · skip
    exact hp.elim

set_option maxHeartbeats 4000000 in
set_option maxRecDepth 100000 in
/-- pumped -/
theorem c_X6_pumped (l : Launch) (g : Gm) (hst : l.stackTraces = false) (x : Nat) (ag : Nat) (wo : Nat) (dy : Nat) (ad : Nat → Nat) (p0 : Int32) : YXl (S := Unit) l g yX6_pumped cX6_pumped 2 ({ frames := 8, cells := 1, slots := 6, locals := 124 } : Room) [.ref x, .int p0] [(x, .inr (6, [.ref (ad 0), .ref ag, .ref wo, .ref dy])), ((ad 0), .inr (5, [.ref (ad 1), .ref (ad 2), .ref (ad 3), .ref (ad 4), .ref (ad 29), .ref (ad 5), .ref (ad 6), .ref (ad 7), .int (-1), .int 1, .int 0, .int 0])), ((ad 3), .inr (4, [.ref (ad 18), .ref (ad 19), .ref (ad 20), .ref (ad 21), .ref (ad 22), .ref (ad 23), .ref (ad 24), .ref (ad 25), .ref (ad 26), .ref (ad 27), .int 0]))] (fun _ _ => False) (fun _ => [(x, .inr (6, [.ref (ad 0), .ref ag, .ref wo, .ref dy])), ((ad 0), .inr (5, [.ref (ad 1), .ref (ad 2), .ref (ad 3), .ref (ad 4), .ref (ad 29), .ref (ad 5), .ref (ad 6), .ref (ad 7), .int (-1), .int 1, .int 0, .int 0])), ((ad 3), .inr (4, [.ref (ad 18), .ref (ad 19), .ref (ad 20), .ref (ad 21), .ref (ad 22), .ref (ad 23), .ref (ad 24), .ref (ad 25), .ref (ad 26), .ref (ad 27), .int 0]))]) (fun _ => (0, 0)) [(x, .inr (6, [.ref (ad 0), .ref ag, .ref wo, .ref dy])), ((ad 0), .inr (5, [.ref (ad 1), .ref (ad 2), .ref (ad 3), .ref (ad 4), .ref (ad 29), .ref (ad 5), .ref (ad 6), .ref (ad 7), .int (-1), .int 1, .int 0, .int 0])), ((ad 3), .inr (4, [.ref (ad 18), .ref (ad 19), .ref (ad 20), .ref (ad 21), .ref (ad 22), .ref (ad 23), .ref (ad 24), .ref (ad 25), .ref (ad 26), .ref (ad 27), .int 0]))] (fun En => En = "java/lang/IndexOutOfBoundsException") := by
  intro sz tt
  refine ofY RX6 rfl (by decide +kernel) (Nat.le_of_ble_eq_true rfl) (fun p e s m args below meth c hargs S hml hr hlk hex hsz htt hK hA hZ E ls hl => ?_)
  have hx := S.1
  have hb := S.2.1
  have hl : lv_has ls 2 [(0, .ref x), (1, .int p0)] := hl
  refine lv_aload_n hx hb dX6_pumped_0 rfl (lv_at hl 0 rfl) ?_
  refine lv_iload_n hx hb dX6_pumped_1 rfl (lv_at hl 1 rfl) ?_
  refine y_retv (yrunV (As := [.int p0]) (rest := []) (q0 := 0) (n := 1) S hml hK (hZ.at E) (Cut.full E hA) (c_rw0 l g hst x ag wo dy ad p0 _ _) (gi_wsV ml_X6_103 im_X6_requireWell sl_X6_requireWell in_X6 co_X6_requireWell) ⟨rfl, by decide +kernel, by decide +kernel, by decide +kernel⟩ ⟨Nat.le_of_ble_eq_true rfl, Nat.le_of_ble_eq_true rfl⟩ rfl rfl rfl hl.1 rfl (Nat.le_of_ble_eq_true rfl) dX6_pumped_2 ⟨Nat.le_of_ble_eq_true rfl, Nat.le_of_ble_eq_true rfl⟩) (Cut.full E hA) E (fun En ce q9 H locs hp E hce hcv hcl => ?_) (fun u1 H locs hp E => ?_)
  · have E : Ev g _ s.heap H locs [(x, .inr (6, [.ref (ad 0), .ref ag, .ref wo, .ref dy])), ((ad 0), .inr (5, [.ref (ad 1), .ref (ad 2), .ref (ad 3), .ref (ad 4), .ref (ad 29), .ref (ad 5), .ref (ad 6), .ref (ad 7), .int (-1), .int 1, .int 0, .int 0])), ((ad 3), .inr (4, [.ref (ad 18), .ref (ad 19), .ref (ad 20), .ref (ad 21), .ref (ad 22), .ref (ad 23), .ref (ad 24), .ref (ad 25), .ref (ad 26), .ref (ad 27), .int 0]))] := E
    exact y_out hex hlk hK E rfl hp hce hcv hcl ⟨Nat.le_of_ble_eq_true rfl, Nat.le_of_ble_eq_true rfl⟩
  · skip
    exact hp.elim

set_option maxHeartbeats 4000000 in
set_option maxRecDepth 100000 in
/-- isShut -/
theorem c_X6_isShut (l : Launch) (g : Gm) (hst : l.stackTraces = false) (x : Nat) (ag : Nat) (wo : Nat) (dy : Nat) (ad : Nat → Nat) (p0 : Int32) : YXi (S := Unit) l g yX6_isShut cX6_isShut 2 .boolean ({ frames := 8, cells := 1, slots := 6, locals := 124 } : Room) [.ref x, .int p0] [(x, .inr (6, [.ref (ad 0), .ref ag, .ref wo, .ref dy])), ((ad 0), .inr (5, [.ref (ad 1), .ref (ad 2), .ref (ad 3), .ref (ad 4), .ref (ad 29), .ref (ad 5), .ref (ad 6), .ref (ad 7), .int (-1), .int 1, .int 0, .int 0])), ((ad 3), .inr (4, [.ref (ad 18), .ref (ad 19), .ref (ad 20), .ref (ad 21), .ref (ad 22), .ref (ad 23), .ref (ad 24), .ref (ad 25), .ref (ad 26), .ref (ad 27), .int 0]))] (fun _ _ => False) (fun _ => [(x, .inr (6, [.ref (ad 0), .ref ag, .ref wo, .ref dy])), ((ad 0), .inr (5, [.ref (ad 1), .ref (ad 2), .ref (ad 3), .ref (ad 4), .ref (ad 29), .ref (ad 5), .ref (ad 6), .ref (ad 7), .int (-1), .int 1, .int 0, .int 0])), ((ad 3), .inr (4, [.ref (ad 18), .ref (ad 19), .ref (ad 20), .ref (ad 21), .ref (ad 22), .ref (ad 23), .ref (ad 24), .ref (ad 25), .ref (ad 26), .ref (ad 27), .int 0]))]) (fun _ => (0, 0)) [(x, .inr (6, [.ref (ad 0), .ref ag, .ref wo, .ref dy])), ((ad 0), .inr (5, [.ref (ad 1), .ref (ad 2), .ref (ad 3), .ref (ad 4), .ref (ad 29), .ref (ad 5), .ref (ad 6), .ref (ad 7), .int (-1), .int 1, .int 0, .int 0])), ((ad 3), .inr (4, [.ref (ad 18), .ref (ad 19), .ref (ad 20), .ref (ad 21), .ref (ad 22), .ref (ad 23), .ref (ad 24), .ref (ad 25), .ref (ad 26), .ref (ad 27), .int 0]))] (fun En => En = "java/lang/IndexOutOfBoundsException") := by
  intro sz tt
  refine ofY RX6 rfl (by decide +kernel) (Nat.le_of_ble_eq_true rfl) (fun p e s m args below meth c hargs S hml hr hlk hex hsz htt hK hA hZ E ls hl => ?_)
  have hx := S.1
  have hb := S.2.1
  have hl : lv_has ls 2 [(0, .ref x), (1, .int p0)] := hl
  refine lv_aload_n hx hb dX6_isShut_0 rfl (lv_at hl 0 rfl) ?_
  refine lv_iload_n hx hb dX6_isShut_1 rfl (lv_at hl 1 rfl) ?_
  refine y_retv (yrunV (As := [.int p0]) (rest := []) (q0 := 0) (n := 1) S hml hK (hZ.at E) (Cut.full E hA) (c_rw0 l g hst x ag wo dy ad p0 _ _) (gi_wsV ml_X6_103 im_X6_requireWell sl_X6_requireWell in_X6 co_X6_requireWell) ⟨rfl, by decide +kernel, by decide +kernel, by decide +kernel⟩ ⟨Nat.le_of_ble_eq_true rfl, Nat.le_of_ble_eq_true rfl⟩ rfl rfl rfl hl.1 rfl (Nat.le_of_ble_eq_true rfl) dX6_isShut_2 ⟨Nat.le_of_ble_eq_true rfl, Nat.le_of_ble_eq_true rfl⟩) (Cut.full E hA) E (fun En ce q9 H locs hp E hce hcv hcl => ?_) (fun u1 H locs hp E => ?_)
  · have E : Ev g _ s.heap H locs [(x, .inr (6, [.ref (ad 0), .ref ag, .ref wo, .ref dy])), ((ad 0), .inr (5, [.ref (ad 1), .ref (ad 2), .ref (ad 3), .ref (ad 4), .ref (ad 29), .ref (ad 5), .ref (ad 6), .ref (ad 7), .int (-1), .int 1, .int 0, .int 0])), ((ad 3), .inr (4, [.ref (ad 18), .ref (ad 19), .ref (ad 20), .ref (ad 21), .ref (ad 22), .ref (ad 23), .ref (ad 24), .ref (ad 25), .ref (ad 26), .ref (ad 27), .int 0]))] := E
    exact y_out hex hlk hK E rfl hp hce hcv hcl ⟨Nat.le_of_ble_eq_true rfl, Nat.le_of_ble_eq_true rfl⟩
  · skip
    exact hp.elim

set_option maxHeartbeats 4000000 in
set_option maxRecDepth 100000 in
/-- pumpedWithout -/
theorem c_X6_pumpedWithout (l : Launch) (g : Gm) (hst : l.stackTraces = false) (x : Nat) (ag : Nat) (wo : Nat) (dy : Nat) (ad : Nat → Nat) (p0 : Int32) (p1 : Int32) : YXl (S := Unit) l g yX6_pumpedWithout cX6_pumpedWithout 4 ({ frames := 8, cells := 1, slots := 6, locals := 124 } : Room) [.ref x, .int p0, .int p1] [(x, .inr (6, [.ref (ad 0), .ref ag, .ref wo, .ref dy])), ((ad 0), .inr (5, [.ref (ad 1), .ref (ad 2), .ref (ad 3), .ref (ad 4), .ref (ad 29), .ref (ad 5), .ref (ad 6), .ref (ad 7), .int (-1), .int 1, .int 0, .int 0])), ((ad 3), .inr (4, [.ref (ad 18), .ref (ad 19), .ref (ad 20), .ref (ad 21), .ref (ad 22), .ref (ad 23), .ref (ad 24), .ref (ad 25), .ref (ad 26), .ref (ad 27), .int 0]))] (fun _ _ => False) (fun _ => [(x, .inr (6, [.ref (ad 0), .ref ag, .ref wo, .ref dy])), ((ad 0), .inr (5, [.ref (ad 1), .ref (ad 2), .ref (ad 3), .ref (ad 4), .ref (ad 29), .ref (ad 5), .ref (ad 6), .ref (ad 7), .int (-1), .int 1, .int 0, .int 0])), ((ad 3), .inr (4, [.ref (ad 18), .ref (ad 19), .ref (ad 20), .ref (ad 21), .ref (ad 22), .ref (ad 23), .ref (ad 24), .ref (ad 25), .ref (ad 26), .ref (ad 27), .int 0]))]) (fun _ => (0, 0)) [(x, .inr (6, [.ref (ad 0), .ref ag, .ref wo, .ref dy])), ((ad 0), .inr (5, [.ref (ad 1), .ref (ad 2), .ref (ad 3), .ref (ad 4), .ref (ad 29), .ref (ad 5), .ref (ad 6), .ref (ad 7), .int (-1), .int 1, .int 0, .int 0])), ((ad 3), .inr (4, [.ref (ad 18), .ref (ad 19), .ref (ad 20), .ref (ad 21), .ref (ad 22), .ref (ad 23), .ref (ad 24), .ref (ad 25), .ref (ad 26), .ref (ad 27), .int 0]))] (fun En => En = "java/lang/IndexOutOfBoundsException") := by
  intro sz tt
  refine ofY RX6 rfl (by decide +kernel) (Nat.le_of_ble_eq_true rfl) (fun p e s m args below meth c hargs S hml hr hlk hex hsz htt hK hA hZ E ls hl => ?_)
  have hx := S.1
  have hb := S.2.1
  have hl : lv_has ls 4 [(0, .ref x), (1, .int p0), (2, .int p1)] := hl
  refine lv_aload_n hx hb dX6_pumpedWithout_0 rfl (lv_at hl 0 rfl) ?_
  refine lv_iload_n hx hb dX6_pumpedWithout_1 rfl (lv_at hl 1 rfl) ?_
  refine y_retv (yrunV (As := [.int p0]) (rest := []) (q0 := 0) (n := 1) S hml hK (hZ.at E) (Cut.full E hA) (c_rw0 l g hst x ag wo dy ad p0 _ _) (gi_wsV ml_X6_103 im_X6_requireWell sl_X6_requireWell in_X6 co_X6_requireWell) ⟨rfl, by decide +kernel, by decide +kernel, by decide +kernel⟩ ⟨Nat.le_of_ble_eq_true rfl, Nat.le_of_ble_eq_true rfl⟩ rfl rfl rfl hl.1 rfl (Nat.le_of_ble_eq_true rfl) dX6_pumpedWithout_2 ⟨Nat.le_of_ble_eq_true rfl, Nat.le_of_ble_eq_true rfl⟩) (Cut.full E hA) E (fun En ce q9 H locs hp E hce hcv hcl => ?_) (fun u1 H locs hp E => ?_)
  · have E : Ev g _ s.heap H locs [(x, .inr (6, [.ref (ad 0), .ref ag, .ref wo, .ref dy])), ((ad 0), .inr (5, [.ref (ad 1), .ref (ad 2), .ref (ad 3), .ref (ad 4), .ref (ad 29), .ref (ad 5), .ref (ad 6), .ref (ad 7), .int (-1), .int 1, .int 0, .int 0])), ((ad 3), .inr (4, [.ref (ad 18), .ref (ad 19), .ref (ad 20), .ref (ad 21), .ref (ad 22), .ref (ad 23), .ref (ad 24), .ref (ad 25), .ref (ad 26), .ref (ad 27), .int 0]))] := E
    exact y_out hex hlk hK E rfl hp hce hcv hcl ⟨Nat.le_of_ble_eq_true rfl, Nat.le_of_ble_eq_true rfl⟩
  · skip
    exact hp.elim

theorem dJ4_length_8abf5_0 : decode cJ4_length_8abf5 0 = .ok (.aload_n 0, 1) := by decide +kernel
theorem dJ4_length_8abf5_1 : decode cJ4_length_8abf5 1 = .ok (.invokespecial 343, 3) := by decide +kernel
theorem dJ4_length_8abf5_4 : decode cJ4_length_8abf5 4 = .ok (.ireturn, 1) := by decide +kernel
theorem dJ5_length_8abf5_0 : decode cJ5_length_8abf5 0 = .ok (.aload_n 0, 1) := by decide +kernel
theorem dJ5_length_8abf5_1 : decode cJ5_length_8abf5 1 = .ok (.getfield 79, 3) := by decide +kernel
theorem dJ5_length_8abf5_4 : decode cJ5_length_8abf5 4 = .ok (.ireturn, 1) := by decide +kernel
set_option maxHeartbeats 4000000 in
set_option maxRecDepth 100000 in
/-- AbstractStringBuilder.length -/
theorem c_J5_length_8abf5 (l : Launch) (g : Gm) (a : Nat) (v : Nat) (n : Int32) : MXi (S := Unit) l g yJ5_length_8abf5 cJ5_length_8abf5 1 .int ({ frames := 0, cells := 0, slots := 0, locals := 0 } : Room) [.ref a] [(a, .inr (7, [.ref v, .int 0, .int 0, .int n]))] (fun r _ => r = n) (fun _ => [(a, .inr (7, [.ref v, .int 0, .int 0, .int n]))]) (fun _ => (0, 0)) := by
  intro sz tt
  refine ofX RJ5 rfl (by decide +kernel) (Nat.le_of_ble_eq_true rfl) (fun p e s m args below meth c hargs S hml hr hlk hnm hsz htt hK hA hZ E ls hl => ?_)
  have hx := S.1
  have hb := S.2.1
  have hl : lv_has ls 1 [(0, .ref a)] := hl
  refine lv_aload_n hx hb dJ5_length_8abf5_0 rfl (lv_at hl 0 rfl) ?_
  refine wg_J5_79 (v := .int n) S hK E 0 rfl rfl dJ5_length_8abf5_1 ?_
  exact x_iret () S hr hlk hsz htt hK E dJ5_length_8abf5_4 rfl rfl ⟨Nat.le_of_ble_eq_true rfl, Nat.le_of_ble_eq_true rfl⟩ ⟨Nat.le_of_ble_eq_true rfl, Nat.le_of_ble_eq_true rfl⟩

set_option maxHeartbeats 4000000 in
set_option maxRecDepth 100000 in
/-- StringBuilder.length -/
theorem c_J4_length_8abf5 (l : Launch) (g : Gm) (a : Nat) (v : Nat) (n : Int32) : MXi (S := Unit) l g yJ4_length_8abf5 cJ4_length_8abf5 1 .int ({ frames := 1, cells := 0, slots := 0, locals := 20 } : Room) [.ref a] [(a, .inr (7, [.ref v, .int 0, .int 0, .int n]))] (fun r _ => r = n) (fun _ => [(a, .inr (7, [.ref v, .int 0, .int 0, .int n]))]) (fun _ => (0, 0)) := by
  intro sz tt
  refine ofX RJ4 rfl (by decide +kernel) (Nat.le_of_ble_eq_true rfl) (fun p e s m args below meth c hargs S hml hr hlk hnm hsz htt hK hA hZ E ls hl => ?_)
  have hx := S.1
  have hb := S.2.1
  have hl : lv_has ls 1 [(0, .ref a)] := hl
  refine lv_aload_n hx hb dJ4_length_8abf5_0 rfl (lv_at hl 0 rfl) ?_
  refine w_reti (runSU_X (As := []) (rest := []) (q0 := 0) (n := 0) S hml hK (hZ.at E) (Cut.full E hA) (c_J5_length_8abf5 l g a v n _ _) ml_J4_343 sm_J5_length su_J4 im_J5_length_8abf5 in_J5 co_J5_length_8abf5 ⟨by decide +kernel, by decide +kernel⟩ ⟨Nat.le_of_ble_eq_true rfl, Nat.le_of_ble_eq_true rfl⟩ rfl rfl rfl hl.1 rfl (Nat.le_of_ble_eq_true rfl) dJ4_length_8abf5_1 ⟨Nat.le_of_ble_eq_true rfl, Nat.le_of_ble_eq_true rfl⟩) (Cut.full E hA) E (fun r1 u1 H locs hp E => ?_)
  have E : Ev g _ s.heap H locs [(a, .inr (7, [.ref v, .int 0, .int 0, .int n]))] := E
  subst hp
  exact x_iret () S hr hlk hsz htt hK E dJ4_length_8abf5_4 rfl rfl ⟨Nat.le_of_ble_eq_true rfl, Nat.le_of_ble_eq_true rfl⟩ ⟨Nat.le_of_ble_eq_true rfl, Nat.le_of_ble_eq_true rfl⟩

set_option maxHeartbeats 4000000 in
set_option maxRecDepth 100000 in
/-- events -/
theorem c_X6_events (l : Launch) (g : Gm) (x : Nat) (ag : Nat) (wo : Nat) (dy : Nat) (ad : Nat → Nat) (ea : Nat) : MXi (S := Unit) l g yX6_events cX6_events 1 .int ({ frames := 2, cells := 0, slots := 0, locals := 40 } : Room) [.ref x] [(x, .inr (6, [.ref (ad 0), .ref ag, .ref wo, .ref dy])), ((ad 0), .inr (5, [.ref (ad 1), .ref (ad 2), .ref (ad 3), .ref (ad 4), .ref (ad 29), .ref (ad 5), .ref (ad 6), .ref (ad 7), .int (-1), .int 1, .int 0, .int 0])), ((ad 29), .inr (7, [.ref ea, .int 0, .int 0, .int 0]))] (fun r _ => r = 0) (fun _ => [(x, .inr (6, [.ref (ad 0), .ref ag, .ref wo, .ref dy])), ((ad 0), .inr (5, [.ref (ad 1), .ref (ad 2), .ref (ad 3), .ref (ad 4), .ref (ad 29), .ref (ad 5), .ref (ad 6), .ref (ad 7), .int (-1), .int 1, .int 0, .int 0])), ((ad 29), .inr (7, [.ref ea, .int 0, .int 0, .int 0]))]) (fun _ => (0, 0)) := by
  intro sz tt
  refine ofX RX6 rfl (by decide +kernel) (Nat.le_of_ble_eq_true rfl) (fun p e s m args below meth c hargs S hml hr hlk hnm hsz htt hK hA hZ E ls hl => ?_)
  have hx := S.1
  have hb := S.2.1
  have hl : lv_has ls 1 [(0, .ref x)] := hl
  refine lv_aload_n hx hb dX6_events_0 rfl (lv_at hl 0 rfl) ?_
  refine wg_X6_14 (v := .ref (ad 0)) S hK E 0 rfl rfl dX6_events_1 ?_
  refine wg_X6_166 (v := .ref (ad 29)) S hK E 1 rfl rfl dX6_events_4 ?_
  refine w_reti (runV_X (As := []) (rest := []) (q0 := 0) (n := 0) S hml hK (hZ.at E) (Cut.of (wc := [((ad 29), .inr (7, [.ref ea, .int 0, .int 0, .int 0]))]) (wr := [(x, .inr (6, [.ref (ad 0), .ref ag, .ref wo, .ref dy])), ((ad 0), .inr (5, [.ref (ad 1), .ref (ad 2), .ref (ad 3), .ref (ad 4), .ref (ad 29), .ref (ad 5), .ref (ad 6), .ref (ad 7), .int (-1), .int 1, .int 0, .int 0]))]) E hA [2] [0, 1] rfl rfl rfl rfl (by decide)) (c_J4_length_8abf5 l g (ad 29) ea 0 _ _) (gi_wsV ml_X6_170 im_J4_length_8abf5 sl_J4_length_8abf5 in_J4 co_J4_length_8abf5) ⟨rfl, by decide +kernel, by decide +kernel, by decide +kernel⟩ ⟨Nat.le_of_ble_eq_true rfl, Nat.le_of_ble_eq_true rfl⟩ rfl rfl rfl hl.1 rfl (Nat.le_of_ble_eq_true rfl) dX6_events_7 ⟨Nat.le_of_ble_eq_true rfl, Nat.le_of_ble_eq_true rfl⟩) (Cut.of (wc := [((ad 29), .inr (7, [.ref ea, .int 0, .int 0, .int 0]))]) (wr := [(x, .inr (6, [.ref (ad 0), .ref ag, .ref wo, .ref dy])), ((ad 0), .inr (5, [.ref (ad 1), .ref (ad 2), .ref (ad 3), .ref (ad 4), .ref (ad 29), .ref (ad 5), .ref (ad 6), .ref (ad 7), .int (-1), .int 1, .int 0, .int 0]))]) E hA [2] [0, 1] rfl rfl rfl rfl (by decide)) E (fun r1 u1 H locs hp E => ?_)
  have E : Ev g _ s.heap H locs [(x, .inr (6, [.ref (ad 0), .ref ag, .ref wo, .ref dy])), ((ad 0), .inr (5, [.ref (ad 1), .ref (ad 2), .ref (ad 3), .ref (ad 4), .ref (ad 29), .ref (ad 5), .ref (ad 6), .ref (ad 7), .int (-1), .int 1, .int 0, .int 0])), ((ad 29), .inr (7, [.ref ea, .int 0, .int 0, .int 0]))] := E
  subst hp
  exact x_iret () S hr hlk hsz htt hK E dX6_events_10 rfl rfl ⟨Nat.le_of_ble_eq_true rfl, Nat.le_of_ble_eq_true rfl⟩ ⟨Nat.le_of_ble_eq_true rfl, Nat.le_of_ble_eq_true rfl⟩

set_option maxHeartbeats 4000000 in
set_option maxRecDepth 100000 in
/-- eventAt -/
theorem c_X6_eventAt (l : Launch) (g : Gm) (hst : l.stackTraces = false) (x : Nat) (ag : Nat) (wo : Nat) (dy : Nat) (ad : Nat → Nat) (ea : Nat) (p0 : Int32) : YXi (S := Unit) l g yX6_eventAt cX6_eventAt 2 .char ({ frames := 7, cells := 1, slots := 6, locals := 103 } : Room) [.ref x, .int p0] [(x, .inr (6, [.ref (ad 0), .ref ag, .ref wo, .ref dy])), ((ad 0), .inr (5, [.ref (ad 1), .ref (ad 2), .ref (ad 3), .ref (ad 4), .ref (ad 29), .ref (ad 5), .ref (ad 6), .ref (ad 7), .int (-1), .int 1, .int 0, .int 0])), ((ad 29), .inr (7, [.ref ea, .int 0, .int 0, .int 0]))] (fun _ _ => False) (fun _ => [(x, .inr (6, [.ref (ad 0), .ref ag, .ref wo, .ref dy])), ((ad 0), .inr (5, [.ref (ad 1), .ref (ad 2), .ref (ad 3), .ref (ad 4), .ref (ad 29), .ref (ad 5), .ref (ad 6), .ref (ad 7), .int (-1), .int 1, .int 0, .int 0])), ((ad 29), .inr (7, [.ref ea, .int 0, .int 0, .int 0]))]) (fun _ => (0, 0)) [(x, .inr (6, [.ref (ad 0), .ref ag, .ref wo, .ref dy])), ((ad 0), .inr (5, [.ref (ad 1), .ref (ad 2), .ref (ad 3), .ref (ad 4), .ref (ad 29), .ref (ad 5), .ref (ad 6), .ref (ad 7), .int (-1), .int 1, .int 0, .int 0])), ((ad 29), .inr (7, [.ref ea, .int 0, .int 0, .int 0]))] (fun En => En = "java/lang/IndexOutOfBoundsException") := by
  intro sz tt
  refine ofY RX6 rfl (by decide +kernel) (Nat.le_of_ble_eq_true rfl) (fun p e s m args below meth c hargs S hml hr hlk hex hsz htt hK hA hZ E ls hl => ?_)
  have hx := S.1
  have hb := S.2.1
  have hl : lv_has ls 2 [(0, .ref x), (1, .int p0)] := hl
  refine lv_iload_n hx hb dX6_eventAt_0 rfl (lv_at hl 1 rfl) ?_
  refine lv_aload_n hx hb dX6_eventAt_1 rfl (lv_at hl 0 rfl) ?_
  refine wg_X6_14 (v := .ref (ad 0)) S hK E 0 rfl rfl dX6_eventAt_2 ?_
  refine wg_X6_166 (v := .ref (ad 29)) S hK E 1 rfl rfl dX6_eventAt_5 ?_
  refine w_reti (runV_X (As := []) (rest := [.int p0]) (q0 := 0) (n := 0) S hml hK (hZ.at E) (Cut.of (wc := [((ad 29), .inr (7, [.ref ea, .int 0, .int 0, .int 0]))]) (wr := [(x, .inr (6, [.ref (ad 0), .ref ag, .ref wo, .ref dy])), ((ad 0), .inr (5, [.ref (ad 1), .ref (ad 2), .ref (ad 3), .ref (ad 4), .ref (ad 29), .ref (ad 5), .ref (ad 6), .ref (ad 7), .int (-1), .int 1, .int 0, .int 0]))]) E hA [2] [0, 1] rfl rfl rfl rfl (by decide)) (c_J4_length_8abf5 l g (ad 29) ea 0 _ _) (gi_wsV ml_X6_170 im_J4_length_8abf5 sl_J4_length_8abf5 in_J4 co_J4_length_8abf5) ⟨rfl, by decide +kernel, by decide +kernel, by decide +kernel⟩ ⟨Nat.le_of_ble_eq_true rfl, Nat.le_of_ble_eq_true rfl⟩ rfl rfl rfl hl.1 rfl (Nat.le_of_ble_eq_true rfl) dX6_eventAt_8 ⟨Nat.le_of_ble_eq_true rfl, Nat.le_of_ble_eq_true rfl⟩) (Cut.of (wc := [((ad 29), .inr (7, [.ref ea, .int 0, .int 0, .int 0]))]) (wr := [(x, .inr (6, [.ref (ad 0), .ref ag, .ref wo, .ref dy])), ((ad 0), .inr (5, [.ref (ad 1), .ref (ad 2), .ref (ad 3), .ref (ad 4), .ref (ad 29), .ref (ad 5), .ref (ad 6), .ref (ad 7), .int (-1), .int 1, .int 0, .int 0]))]) E hA [2] [0, 1] rfl rfl rfl rfl (by decide)) E (fun r1 u1 H locs hp E => ?_)
  have E : Ev g _ s.heap H locs [(x, .inr (6, [.ref (ad 0), .ref ag, .ref wo, .ref dy])), ((ad 0), .inr (5, [.ref (ad 1), .ref (ad 2), .ref (ad 3), .ref (ad 4), .ref (ad 29), .ref (ad 5), .ref (ad 6), .ref (ad 7), .int (-1), .int 1, .int 0, .int 0])), ((ad 29), .inr (7, [.ref ea, .int 0, .int 0, .int 0]))] := E
  subst hp
  refine y_retv (yrunS (As := [.int p0, .int 0]) (rest := []) (n := 2) S hml hK (hZ.at E) (Cut.of (wc := []) (wr := [(x, .inr (6, [.ref (ad 0), .ref ag, .ref wo, .ref dy])), ((ad 0), .inr (5, [.ref (ad 1), .ref (ad 2), .ref (ad 3), .ref (ad 4), .ref (ad 29), .ref (ad 5), .ref (ad 6), .ref (ad 7), .int (-1), .int 1, .int 0, .int 0])), ((ad 29), .inr (7, [.ref ea, .int 0, .int 0, .int 0]))]) E hA [] [0, 1, 2] rfl rfl rfl rfl (by decide)) (c_X6_requireIndex l g hst p0 0 _ _) ml_X6_32 st_X6_requireIndex in_X6 co_X6_requireIndex ⟨by decide +kernel, by decide +kernel, by decide +kernel⟩ ⟨Nat.le_of_ble_eq_true rfl, Nat.le_of_ble_eq_true rfl⟩ rfl hl.1 rfl (Nat.le_of_ble_eq_true rfl) dX6_eventAt_11 ⟨Nat.le_of_ble_eq_true rfl, Nat.le_of_ble_eq_true rfl⟩) (Cut.of (wc := []) (wr := [(x, .inr (6, [.ref (ad 0), .ref ag, .ref wo, .ref dy])), ((ad 0), .inr (5, [.ref (ad 1), .ref (ad 2), .ref (ad 3), .ref (ad 4), .ref (ad 29), .ref (ad 5), .ref (ad 6), .ref (ad 7), .int (-1), .int 1, .int 0, .int 0])), ((ad 29), .inr (7, [.ref ea, .int 0, .int 0, .int 0]))]) E hA [] [0, 1, 2] rfl rfl rfl rfl (by decide)) E (fun En ce q9 H locs hp E hce hcv hcl => ?_) (fun u2 H locs hp E => ?_)
  · have E : Ev g _ s.heap H locs [(x, .inr (6, [.ref (ad 0), .ref ag, .ref wo, .ref dy])), ((ad 0), .inr (5, [.ref (ad 1), .ref (ad 2), .ref (ad 3), .ref (ad 4), .ref (ad 29), .ref (ad 5), .ref (ad 6), .ref (ad 7), .int (-1), .int 1, .int 0, .int 0])), ((ad 29), .inr (7, [.ref ea, .int 0, .int 0, .int 0]))] := E
    exact y_out hex hlk hK E rfl hp.1 hce hcv hcl ⟨Nat.le_of_ble_eq_true rfl, Nat.le_of_ble_eq_true rfl⟩
  · skip
    exact (ix0 hp).elim

set_option maxHeartbeats 4000000 in
set_option maxRecDepth 100000 in
/-- checksum -/
theorem c_X6_checksum (l : Launch) (g : Gm) (x : Nat) (ag : Nat) (wo : Nat) (dy : Nat) (ad : Nat → Nat) : MXl (S := Unit) l g yX6_checksum cX6_checksum 4 ({ frames := 0, cells := 0, slots := 0, locals := 0 } : Room) [.ref x] [(x, .inr (6, [.ref (ad 0), .ref ag, .ref wo, .ref dy])), ((ad 0), .inr (5, [.ref (ad 1), .ref (ad 2), .ref (ad 3), .ref (ad 4), .ref (ad 29), .ref (ad 5), .ref (ad 6), .ref (ad 7), .int (-1), .int 1, .int 0, .int 0])), ((ad 1), .inr (2, [.ref (ad 8), .ref (ad 9), .ref (ad 10), .ref (ad 11)])), ((ad 10), .inl (g.2.1 0, 16, .inl (fun _ => 0))), ((ad 11), .inl (g.2.1 0, 16, .inl (fun _ => 0)))] (fun r _ => r = 0) (fun _ => [(x, .inr (6, [.ref (ad 0), .ref ag, .ref wo, .ref dy])), ((ad 0), .inr (5, [.ref (ad 1), .ref (ad 2), .ref (ad 3), .ref (ad 4), .ref (ad 29), .ref (ad 5), .ref (ad 6), .ref (ad 7), .int (-1), .int 1, .int 0, .int 0])), ((ad 1), .inr (2, [.ref (ad 8), .ref (ad 9), .ref (ad 10), .ref (ad 11)])), ((ad 10), .inl (g.2.1 0, 16, .inl (fun _ => 0))), ((ad 11), .inl (g.2.1 0, 16, .inl (fun _ => 0)))]) (fun _ => (0, 0)) := by
  intro sz tt
  refine ofX RX6 rfl (by decide +kernel) (Nat.le_of_ble_eq_true rfl) (fun p e s m args below meth c hargs S hml hr hlk hnm hsz htt hK hA hZ E ls hl => ?_)
  have hx := S.1
  have hb := S.2.1
  have hl : lv_has ls 4 [(0, .ref x)] := hl
  refine lv_lconst (v := 0) hx hb dX6_checksum_0 (by decide) ?_
  refine lv_lstore_n (lv' := [(1, .long 0), (0, .ref x)]) hx hb dX6_checksum_1 rfl hl (by decide) rfl (fun ls hl => ?_)
  refine lv_iconst (v := 0) hx hb dX6_checksum_2 (by decide) ?_
  refine lv_istore_n (lv' := [(3, .int 0), (1, .long 0), (0, .ref x)]) hx hb dX6_checksum_3 rfl hl (by decide) rfl (fun ls hl => ?_)
  have L1 : ∀ (k1 i1 : Nat), i1 + k1 = 16 → ∀ (H : Heap) (locs : List Loc), Ev g (va_A [(x, .inr (6, [.ref (ad 0), .ref ag, .ref wo, .ref dy])), ((ad 0), .inr (5, [.ref (ad 1), .ref (ad 2), .ref (ad 3), .ref (ad 4), .ref (ad 29), .ref (ad 5), .ref (ad 6), .ref (ad 7), .int (-1), .int 1, .int 0, .int 0])), ((ad 1), .inr (2, [.ref (ad 8), .ref (ad 9), .ref (ad 10), .ref (ad 11)])), ((ad 10), .inl (g.2.1 0, 16, .inl (fun _ => 0))), ((ad 11), .inl (g.2.1 0, 16, .inl (fun _ => 0)))] sz) s.heap H locs [(x, .inr (6, [.ref (ad 0), .ref ag, .ref wo, .ref dy])), ((ad 0), .inr (5, [.ref (ad 1), .ref (ad 2), .ref (ad 3), .ref (ad 4), .ref (ad 29), .ref (ad 5), .ref (ad 6), .ref (ad 7), .int (-1), .int 1, .int 0, .int 0])), ((ad 1), .inr (2, [.ref (ad 8), .ref (ad 9), .ref (ad 10), .ref (ad 11)])), ((ad 10), .inl (g.2.1 0, 16, .inl (fun _ => 0))), ((ad 11), .inl (g.2.1 0, 16, .inl (fun _ => 0)))] → ∀ ls : Array Slot, lv_has ls 4 [(3, .int (nI i1)), (1, .long 0), (0, .ref x)] → W p l e ({ frames := 0, cells := 0, slots := 0, locals := 0 } : Room) s m args below meth c H locs 0 0 (MQ below (va_Ql (S := Unit) (fun r _ => r = 0) (AtX g (va_A [(x, .inr (6, [.ref (ad 0), .ref ag, .ref wo, .ref dy])), ((ad 0), .inr (5, [.ref (ad 1), .ref (ad 2), .ref (ad 3), .ref (ad 4), .ref (ad 29), .ref (ad 5), .ref (ad 6), .ref (ad 7), .int (-1), .int 1, .int 0, .int 0])), ((ad 1), .inr (2, [.ref (ad 8), .ref (ad 9), .ref (ad 10), .ref (ad 11)])), ((ad 10), .inl (g.2.1 0, 16, .inl (fun _ => 0))), ((ad 11), .inl (g.2.1 0, 16, .inl (fun _ => 0)))] sz) (fun _ => [(x, .inr (6, [.ref (ad 0), .ref ag, .ref wo, .ref dy])), ((ad 0), .inr (5, [.ref (ad 1), .ref (ad 2), .ref (ad 3), .ref (ad 4), .ref (ad 29), .ref (ad 5), .ref (ad 6), .ref (ad 7), .int (-1), .int 1, .int 0, .int 0])), ((ad 1), .inr (2, [.ref (ad 8), .ref (ad 9), .ref (ad 10), .ref (ad 11)])), ((ad 10), .inl (g.2.1 0, 16, .inl (fun _ => 0))), ((ad 11), .inl (g.2.1 0, 16, .inl (fun _ => 0)))]) (fun _ => (0, 0)) sz tt) (va_A [(x, .inr (6, [.ref (ad 0), .ref ag, .ref wo, .ref dy])), ((ad 0), .inr (5, [.ref (ad 1), .ref (ad 2), .ref (ad 3), .ref (ad 4), .ref (ad 29), .ref (ad 5), .ref (ad 6), .ref (ad 7), .int (-1), .int 1, .int 0, .int 0])), ((ad 1), .inr (2, [.ref (ad 8), .ref (ad 9), .ref (ad 10), .ref (ad 11)])), ((ad 10), .inl (g.2.1 0, 16, .inl (fun _ => 0))), ((ad 11), .inl (g.2.1 0, 16, .inl (fun _ => 0)))] sz)) args s 0 0 (va_A [(x, .inr (6, [.ref (ad 0), .ref ag, .ref wo, .ref dy])), ((ad 0), .inr (5, [.ref (ad 1), .ref (ad 2), .ref (ad 3), .ref (ad 4), .ref (ad 29), .ref (ad 5), .ref (ad 6), .ref (ad 7), .int (-1), .int 1, .int 0, .int 0])), ((ad 1), .inr (2, [.ref (ad 8), .ref (ad 9), .ref (ad 10), .ref (ad 11)])), ((ad 10), .inl (g.2.1 0, 16, .inl (fun _ => 0))), ((ad 11), .inl (g.2.1 0, 16, .inl (fun _ => 0)))] sz)) (F0 m 4 ls []) := by
    intro k1
    induction k1 with
    | zero =>
      intro i1 hi1 H locs E ls hl
      obtain rfl : i1 = 16 := by omega
      have hl : lv_has ls 4 [(3, .int (nI 16)), (1, .long 0), (0, .ref x)] := hl
      refine lv_iload_n hx hb dX6_checksum_4 rfl (lv_at hl 0 rfl) ?_
      refine lv_bipush (v := 16) hx hb dX6_checksum_5 (by decide) ?_
      refine lv_icmp_ge (tgt := 54) hx hb dX6_checksum_7 (by decide) (fun _ => ?_) (fun c_ => absurd (show 16 ≤ (nI 16) by decide) c_)
      refine lv_lload_n hx hb dX6_checksum_54 rfl (lv_at hl 1 rfl) ?_
      exact x_lret () S hr hlk hsz htt hK E dX6_checksum_55 rfl rfl ⟨Nat.le_of_ble_eq_true rfl, Nat.le_of_ble_eq_true rfl⟩ ⟨Nat.le_of_ble_eq_true rfl, Nat.le_of_ble_eq_true rfl⟩
    | succ k1 ih1 =>
      intro i1 hi1 H locs E ls hl
      have hl : lv_has ls 4 [(3, .int (nI i1)), (1, .long 0), (0, .ref x)] := hl
      refine lv_iload_n hx hb dX6_checksum_4 rfl (lv_at hl 0 rfl) ?_
      refine lv_bipush (v := 16) hx hb dX6_checksum_5 (by decide) ?_
      refine lv_icmp_ge (tgt := 54) hx hb dX6_checksum_7 (by decide) (fun c_ => absurd c_ (g_no (a := i1) (b := 16) rfl rfl (by omega) (by decide))) (fun _ => ?_)
      refine lv_ldc2 (v := 31) hx hb S.2.2.2 (S.2.2.1 _ cn_X6_201) dX6_checksum_10 ?_
      refine lv_lload_n hx hb dX6_checksum_13 rfl (lv_at hl 1 rfl) ?_
      refine k_lmul (v := 0) hx hb (by decide) dX6_checksum_14 ?_
      refine lv_aload_n hx hb dX6_checksum_15 rfl (lv_at hl 2 rfl) ?_
      refine wg_X6_14 (v := .ref (ad 0)) S hK E 0 rfl rfl dX6_checksum_16 ?_
      refine wg_X6_40 (v := .ref (ad 1)) S hK E 1 rfl rfl dX6_checksum_19 ?_
      refine wg_X6_44 (v := .ref (ad 10)) S hK E 2 rfl rfl dX6_checksum_22 ?_
      refine lv_iload_n hx hb dX6_checksum_25 rfl (lv_at hl 0 rfl) ?_
      refine w_ild (v := 0) S hK E 3 0 rfl rfl (vp_in_nI (n := i1) (by omega) (by decide)) rfl dX6_checksum_26 ?_
      refine lv_i2l (v := 0) hx hb dX6_checksum_27 (by decide) ?_
      refine k_ladd (v := 0) hx hb (by decide) dX6_checksum_28 ?_
      refine lv_ldc2 (v := 7) hx hb S.2.2.2 (S.2.2.1 _ cn_X6_203) dX6_checksum_29 ?_
      refine lv_aload_n hx hb dX6_checksum_32 rfl (lv_at hl 2 rfl) ?_
      refine wg_X6_14 (v := .ref (ad 0)) S hK E 0 rfl rfl dX6_checksum_33 ?_
      refine wg_X6_40 (v := .ref (ad 1)) S hK E 1 rfl rfl dX6_checksum_36 ?_
      refine wg_X6_134 (v := .ref (ad 11)) S hK E 2 rfl rfl dX6_checksum_39 ?_
      refine lv_iload_n hx hb dX6_checksum_42 rfl (lv_at hl 0 rfl) ?_
      refine w_ild (v := 0) S hK E 4 0 rfl rfl (vp_in_nI (n := i1) (by omega) (by decide)) rfl dX6_checksum_43 ?_
      refine lv_i2l (v := 0) hx hb dX6_checksum_44 (by decide) ?_
      refine k_lmul (v := 0) hx hb (by decide) dX6_checksum_45 ?_
      refine k_ladd (v := 0) hx hb (by decide) dX6_checksum_46 ?_
      refine lv_lstore_n (lv' := [(1, .long 0), (3, .int (nI i1)), (0, .ref x)]) hx hb dX6_checksum_47 rfl hl (by decide) rfl (fun ls hl => ?_)
      refine lv_iinc (v := (nI (i1 + 1))) (lv' := [(3, .int (nI (i1 + 1))), (1, .long 0), (0, .ref x)]) hx hb dX6_checksum_48 hl (k := 1) rfl (nI_1 i1) (by decide) rfl (fun ls hl => ?_)
      refine lv_goto (tgt := 4) hx hb dX6_checksum_51 (by decide) ?_
      exact ih1 (i1 + 1) (by omega) _ _ E ls (lv_sub hl [0, 1, 2] rfl)
  exact L1 16 0 (by omega) _ _ E ls (lv_sub hl [0, 1, 2] rfl)

set_option maxHeartbeats 4000000 in
set_option maxRecDepth 100000 in
/-- dryShare -/
theorem c_X6_dryShare (l : Launch) (g : Gm) (x : Nat) (ag : Nat) (wo : Nat) (dy : Nat) (ad : Nat → Nat) : MXf (S := Unit) l g yX6_dryShare cX6_dryShare 3 ({ frames := 0, cells := 0, slots := 0, locals := 0 } : Room) [.ref x] [(x, .inr (6, [.ref (ad 0), .ref ag, .ref wo, .ref dy])), ((ad 0), .inr (5, [.ref (ad 1), .ref (ad 2), .ref (ad 3), .ref (ad 4), .ref (ad 29), .ref (ad 5), .ref (ad 6), .ref (ad 7), .int (-1), .int 1, .int 0, .int 0])), ((ad 1), .inr (2, [.ref (ad 8), .ref (ad 9), .ref (ad 10), .ref (ad 11)])), ((ad 10), .inl (g.2.1 0, 16, .inl (fun _ => 0)))] (fun r _ => r = 1065353216) (fun _ => [(x, .inr (6, [.ref (ad 0), .ref ag, .ref wo, .ref dy])), ((ad 0), .inr (5, [.ref (ad 1), .ref (ad 2), .ref (ad 3), .ref (ad 4), .ref (ad 29), .ref (ad 5), .ref (ad 6), .ref (ad 7), .int (-1), .int 1, .int 0, .int 0])), ((ad 1), .inr (2, [.ref (ad 8), .ref (ad 9), .ref (ad 10), .ref (ad 11)])), ((ad 10), .inl (g.2.1 0, 16, .inl (fun _ => 0)))]) (fun _ => (0, 0)) := by
  intro sz tt
  refine ofX RX6 rfl (by decide +kernel) (Nat.le_of_ble_eq_true rfl) (fun p e s m args below meth c hargs S hml hr hlk hnm hsz htt hK hA hZ E ls hl => ?_)
  have hx := S.1
  have hb := S.2.1
  have hl : lv_has ls 3 [(0, .ref x)] := hl
  refine lv_iconst (v := 0) hx hb dX6_dryShare_0 (by decide) ?_
  refine lv_istore_n (lv' := [(1, .int 0), (0, .ref x)]) hx hb dX6_dryShare_1 rfl hl (by decide) rfl (fun ls hl => ?_)
  refine lv_iconst (v := 0) hx hb dX6_dryShare_2 (by decide) ?_
  refine lv_istore_n (lv' := [(2, .int 0), (1, .int 0), (0, .ref x)]) hx hb dX6_dryShare_3 rfl hl (by decide) rfl (fun ls hl => ?_)
  have L1 : ∀ (k1 i1 : Nat), i1 + k1 = 16 → ∀ (H : Heap) (locs : List Loc), Ev g (va_A [(x, .inr (6, [.ref (ad 0), .ref ag, .ref wo, .ref dy])), ((ad 0), .inr (5, [.ref (ad 1), .ref (ad 2), .ref (ad 3), .ref (ad 4), .ref (ad 29), .ref (ad 5), .ref (ad 6), .ref (ad 7), .int (-1), .int 1, .int 0, .int 0])), ((ad 1), .inr (2, [.ref (ad 8), .ref (ad 9), .ref (ad 10), .ref (ad 11)])), ((ad 10), .inl (g.2.1 0, 16, .inl (fun _ => 0)))] sz) s.heap H locs [(x, .inr (6, [.ref (ad 0), .ref ag, .ref wo, .ref dy])), ((ad 0), .inr (5, [.ref (ad 1), .ref (ad 2), .ref (ad 3), .ref (ad 4), .ref (ad 29), .ref (ad 5), .ref (ad 6), .ref (ad 7), .int (-1), .int 1, .int 0, .int 0])), ((ad 1), .inr (2, [.ref (ad 8), .ref (ad 9), .ref (ad 10), .ref (ad 11)])), ((ad 10), .inl (g.2.1 0, 16, .inl (fun _ => 0)))] → ∀ ls : Array Slot, lv_has ls 3 [(2, .int (nI i1)), (1, .int (nI i1)), (0, .ref x)] → W p l e ({ frames := 0, cells := 0, slots := 0, locals := 0 } : Room) s m args below meth c H locs 0 0 (MQ below (va_Qf (S := Unit) (fun r _ => r = 1065353216) (AtX g (va_A [(x, .inr (6, [.ref (ad 0), .ref ag, .ref wo, .ref dy])), ((ad 0), .inr (5, [.ref (ad 1), .ref (ad 2), .ref (ad 3), .ref (ad 4), .ref (ad 29), .ref (ad 5), .ref (ad 6), .ref (ad 7), .int (-1), .int 1, .int 0, .int 0])), ((ad 1), .inr (2, [.ref (ad 8), .ref (ad 9), .ref (ad 10), .ref (ad 11)])), ((ad 10), .inl (g.2.1 0, 16, .inl (fun _ => 0)))] sz) (fun _ => [(x, .inr (6, [.ref (ad 0), .ref ag, .ref wo, .ref dy])), ((ad 0), .inr (5, [.ref (ad 1), .ref (ad 2), .ref (ad 3), .ref (ad 4), .ref (ad 29), .ref (ad 5), .ref (ad 6), .ref (ad 7), .int (-1), .int 1, .int 0, .int 0])), ((ad 1), .inr (2, [.ref (ad 8), .ref (ad 9), .ref (ad 10), .ref (ad 11)])), ((ad 10), .inl (g.2.1 0, 16, .inl (fun _ => 0)))]) (fun _ => (0, 0)) sz tt) (va_A [(x, .inr (6, [.ref (ad 0), .ref ag, .ref wo, .ref dy])), ((ad 0), .inr (5, [.ref (ad 1), .ref (ad 2), .ref (ad 3), .ref (ad 4), .ref (ad 29), .ref (ad 5), .ref (ad 6), .ref (ad 7), .int (-1), .int 1, .int 0, .int 0])), ((ad 1), .inr (2, [.ref (ad 8), .ref (ad 9), .ref (ad 10), .ref (ad 11)])), ((ad 10), .inl (g.2.1 0, 16, .inl (fun _ => 0)))] sz)) args s 0 0 (va_A [(x, .inr (6, [.ref (ad 0), .ref ag, .ref wo, .ref dy])), ((ad 0), .inr (5, [.ref (ad 1), .ref (ad 2), .ref (ad 3), .ref (ad 4), .ref (ad 29), .ref (ad 5), .ref (ad 6), .ref (ad 7), .int (-1), .int 1, .int 0, .int 0])), ((ad 1), .inr (2, [.ref (ad 8), .ref (ad 9), .ref (ad 10), .ref (ad 11)])), ((ad 10), .inl (g.2.1 0, 16, .inl (fun _ => 0)))] sz)) (F0 m 4 ls []) := by
    intro k1
    induction k1 with
    | zero =>
      intro i1 hi1 H locs E ls hl
      obtain rfl : i1 = 16 := by omega
      have hl : lv_has ls 3 [(2, .int (nI 16)), (1, .int (nI 16)), (0, .ref x)] := hl
      refine lv_iload_n hx hb dX6_dryShare_4 rfl (lv_at hl 0 rfl) ?_
      refine lv_bipush (v := 16) hx hb dX6_dryShare_5 (by decide) ?_
      refine lv_icmp_ge (tgt := 34) hx hb dX6_dryShare_7 (by decide) (fun _ => ?_) (fun c_ => absurd (show 16 ≤ (nI 16) by decide) c_)
      refine lv_iload_n hx hb dX6_dryShare_34 rfl (lv_at hl 1 rfl) ?_
      refine k_i2f (v := 1098907648) hx hb (by decide +kernel) dX6_dryShare_35 ?_
      refine lv_ldcf (v := 1098907648) hx hb S.2.2.2 (S.2.2.1 _ cn_X6_205) dX6_dryShare_36 ?_
      refine k_fdiv (v := 1065353216) hx hb ⟨by decide +kernel, by unfold vf_n32; decide +kernel⟩ dX6_dryShare_38 ?_
      exact x_fret () S hr hlk hsz htt hK E dX6_dryShare_39 rfl rfl ⟨Nat.le_of_ble_eq_true rfl, Nat.le_of_ble_eq_true rfl⟩ ⟨Nat.le_of_ble_eq_true rfl, Nat.le_of_ble_eq_true rfl⟩
    | succ k1 ih1 =>
      intro i1 hi1 H locs E ls hl
      have hl : lv_has ls 3 [(2, .int (nI i1)), (1, .int (nI i1)), (0, .ref x)] := hl
      refine lv_iload_n hx hb dX6_dryShare_4 rfl (lv_at hl 0 rfl) ?_
      refine lv_bipush (v := 16) hx hb dX6_dryShare_5 (by decide) ?_
      refine lv_icmp_ge (tgt := 34) hx hb dX6_dryShare_7 (by decide) (fun c_ => absurd c_ (g_no (a := i1) (b := 16) rfl rfl (by omega) (by decide))) (fun _ => ?_)
      refine lv_aload_n hx hb dX6_dryShare_10 rfl (lv_at hl 2 rfl) ?_
      refine wg_X6_14 (v := .ref (ad 0)) S hK E 0 rfl rfl dX6_dryShare_11 ?_
      refine wg_X6_40 (v := .ref (ad 1)) S hK E 1 rfl rfl dX6_dryShare_14 ?_
      refine wg_X6_44 (v := .ref (ad 10)) S hK E 2 rfl rfl dX6_dryShare_17 ?_
      refine lv_iload_n hx hb dX6_dryShare_20 rfl (lv_at hl 0 rfl) ?_
      refine w_ild (v := 0) S hK E 3 0 rfl rfl (vp_in_nI (n := i1) (by omega) (by decide)) rfl dX6_dryShare_21 ?_
      refine lv_if_ne (tgt := 28) hx hb dX6_dryShare_22 (by decide) (fun c_ => absurd (show (0 : Int32) = 0 by decide) c_) (fun _ => ?_)
      refine lv_iinc (v := (nI (i1 + 1))) (lv' := [(1, .int (nI (i1 + 1))), (2, .int (nI i1)), (0, .ref x)]) hx hb dX6_dryShare_25 hl (k := 1) rfl (nI_1 i1) (by decide) rfl (fun ls hl => ?_)
      refine lv_iinc (v := (nI (i1 + 1))) (lv' := [(2, .int (nI (i1 + 1))), (1, .int (nI (i1 + 1))), (0, .ref x)]) hx hb dX6_dryShare_28 hl (k := 1) rfl (nI_1 i1) (by decide) rfl (fun ls hl => ?_)
      refine lv_goto (tgt := 4) hx hb dX6_dryShare_31 (by decide) ?_
      exact ih1 (i1 + 1) (by omega) _ _ E ls (lv_sub hl [0, 1, 2] rfl)
  exact L1 16 0 (by omega) _ _ E ls (lv_sub hl [0, 1, 2] rfl)

set_option maxHeartbeats 4000000 in
set_option maxRecDepth 100000 in
/-- meanLevel -/
theorem c_X6_meanLevel (l : Launch) (g : Gm) (x : Nat) (ag : Nat) (wo : Nat) (dy : Nat) (ad : Nat → Nat) : MXd (S := Unit) l g yX6_meanLevel cX6_meanLevel 3 ({ frames := 1, cells := 0, slots := 0, locals := 22 } : Room) [.ref x] [(x, .inr (6, [.ref (ad 0), .ref ag, .ref wo, .ref dy])), ((ad 0), .inr (5, [.ref (ad 1), .ref (ad 2), .ref (ad 3), .ref (ad 4), .ref (ad 29), .ref (ad 5), .ref (ad 6), .ref (ad 7), .int (-1), .int 1, .int 0, .int 0])), ((ad 1), .inr (2, [.ref (ad 8), .ref (ad 9), .ref (ad 10), .ref (ad 11)])), ((ad 8), .inl (g.2.1 0, 16, .inl (fun _ => 0))), ((ad 9), .inl (g.2.1 0, 16, .inl (fun _ => 10))), ((ad 10), .inl (g.2.1 0, 16, .inl (fun _ => 0)))] (fun r _ => r = 0) (fun _ => [(x, .inr (6, [.ref (ad 0), .ref ag, .ref wo, .ref dy])), ((ad 0), .inr (5, [.ref (ad 1), .ref (ad 2), .ref (ad 3), .ref (ad 4), .ref (ad 29), .ref (ad 5), .ref (ad 6), .ref (ad 7), .int (-1), .int 1, .int 0, .int 0])), ((ad 1), .inr (2, [.ref (ad 8), .ref (ad 9), .ref (ad 10), .ref (ad 11)])), ((ad 8), .inl (g.2.1 0, 16, .inl (fun _ => 0))), ((ad 9), .inl (g.2.1 0, 16, .inl (fun _ => 10))), ((ad 10), .inl (g.2.1 0, 16, .inl (fun _ => 0)))]) (fun _ => (0, 0)) := by
  intro sz tt
  refine ofX RX6 rfl (by decide +kernel) (Nat.le_of_ble_eq_true rfl) (fun p e s m args below meth c hargs S hml hr hlk hnm hsz htt hK hA hZ E ls hl => ?_)
  have hx := S.1
  have hb := S.2.1
  have hl : lv_has ls 3 [(0, .ref x)] := hl
  refine lv_iconst (v := 0) hx hb dX6_meanLevel_0 (by decide) ?_
  refine lv_istore_n (lv' := [(1, .int 0), (0, .ref x)]) hx hb dX6_meanLevel_1 rfl hl (by decide) rfl (fun ls hl => ?_)
  refine lv_iconst (v := 0) hx hb dX6_meanLevel_2 (by decide) ?_
  refine lv_istore_n (lv' := [(2, .int 0), (1, .int 0), (0, .ref x)]) hx hb dX6_meanLevel_3 rfl hl (by decide) rfl (fun ls hl => ?_)
  have L1 : ∀ (k1 i1 : Nat), i1 + k1 = 16 → ∀ (H : Heap) (locs : List Loc), Ev g (va_A [(x, .inr (6, [.ref (ad 0), .ref ag, .ref wo, .ref dy])), ((ad 0), .inr (5, [.ref (ad 1), .ref (ad 2), .ref (ad 3), .ref (ad 4), .ref (ad 29), .ref (ad 5), .ref (ad 6), .ref (ad 7), .int (-1), .int 1, .int 0, .int 0])), ((ad 1), .inr (2, [.ref (ad 8), .ref (ad 9), .ref (ad 10), .ref (ad 11)])), ((ad 8), .inl (g.2.1 0, 16, .inl (fun _ => 0))), ((ad 9), .inl (g.2.1 0, 16, .inl (fun _ => 10))), ((ad 10), .inl (g.2.1 0, 16, .inl (fun _ => 0)))] sz) s.heap H locs [(x, .inr (6, [.ref (ad 0), .ref ag, .ref wo, .ref dy])), ((ad 0), .inr (5, [.ref (ad 1), .ref (ad 2), .ref (ad 3), .ref (ad 4), .ref (ad 29), .ref (ad 5), .ref (ad 6), .ref (ad 7), .int (-1), .int 1, .int 0, .int 0])), ((ad 1), .inr (2, [.ref (ad 8), .ref (ad 9), .ref (ad 10), .ref (ad 11)])), ((ad 8), .inl (g.2.1 0, 16, .inl (fun _ => 0))), ((ad 9), .inl (g.2.1 0, 16, .inl (fun _ => 10))), ((ad 10), .inl (g.2.1 0, 16, .inl (fun _ => 0)))] → ∀ ls : Array Slot, lv_has ls 3 [(2, .int (nI i1)), (1, .int 0), (0, .ref x)] → W p l e ({ frames := 1, cells := 0, slots := 0, locals := 22 } : Room) s m args below meth c H locs 0 0 (MQ below (va_Qd (S := Unit) (fun r _ => r = 0) (AtX g (va_A [(x, .inr (6, [.ref (ad 0), .ref ag, .ref wo, .ref dy])), ((ad 0), .inr (5, [.ref (ad 1), .ref (ad 2), .ref (ad 3), .ref (ad 4), .ref (ad 29), .ref (ad 5), .ref (ad 6), .ref (ad 7), .int (-1), .int 1, .int 0, .int 0])), ((ad 1), .inr (2, [.ref (ad 8), .ref (ad 9), .ref (ad 10), .ref (ad 11)])), ((ad 8), .inl (g.2.1 0, 16, .inl (fun _ => 0))), ((ad 9), .inl (g.2.1 0, 16, .inl (fun _ => 10))), ((ad 10), .inl (g.2.1 0, 16, .inl (fun _ => 0)))] sz) (fun _ => [(x, .inr (6, [.ref (ad 0), .ref ag, .ref wo, .ref dy])), ((ad 0), .inr (5, [.ref (ad 1), .ref (ad 2), .ref (ad 3), .ref (ad 4), .ref (ad 29), .ref (ad 5), .ref (ad 6), .ref (ad 7), .int (-1), .int 1, .int 0, .int 0])), ((ad 1), .inr (2, [.ref (ad 8), .ref (ad 9), .ref (ad 10), .ref (ad 11)])), ((ad 8), .inl (g.2.1 0, 16, .inl (fun _ => 0))), ((ad 9), .inl (g.2.1 0, 16, .inl (fun _ => 10))), ((ad 10), .inl (g.2.1 0, 16, .inl (fun _ => 0)))]) (fun _ => (0, 0)) sz tt) (va_A [(x, .inr (6, [.ref (ad 0), .ref ag, .ref wo, .ref dy])), ((ad 0), .inr (5, [.ref (ad 1), .ref (ad 2), .ref (ad 3), .ref (ad 4), .ref (ad 29), .ref (ad 5), .ref (ad 6), .ref (ad 7), .int (-1), .int 1, .int 0, .int 0])), ((ad 1), .inr (2, [.ref (ad 8), .ref (ad 9), .ref (ad 10), .ref (ad 11)])), ((ad 8), .inl (g.2.1 0, 16, .inl (fun _ => 0))), ((ad 9), .inl (g.2.1 0, 16, .inl (fun _ => 10))), ((ad 10), .inl (g.2.1 0, 16, .inl (fun _ => 0)))] sz)) args s 0 0 (va_A [(x, .inr (6, [.ref (ad 0), .ref ag, .ref wo, .ref dy])), ((ad 0), .inr (5, [.ref (ad 1), .ref (ad 2), .ref (ad 3), .ref (ad 4), .ref (ad 29), .ref (ad 5), .ref (ad 6), .ref (ad 7), .int (-1), .int 1, .int 0, .int 0])), ((ad 1), .inr (2, [.ref (ad 8), .ref (ad 9), .ref (ad 10), .ref (ad 11)])), ((ad 8), .inl (g.2.1 0, 16, .inl (fun _ => 0))), ((ad 9), .inl (g.2.1 0, 16, .inl (fun _ => 10))), ((ad 10), .inl (g.2.1 0, 16, .inl (fun _ => 0)))] sz)) (F0 m 4 ls []) := by
    intro k1
    induction k1 with
    | zero =>
      intro i1 hi1 H locs E ls hl
      obtain rfl : i1 = 16 := by omega
      have hl : lv_has ls 3 [(2, .int (nI 16)), (1, .int 0), (0, .ref x)] := hl
      refine lv_iload_n hx hb dX6_meanLevel_4 rfl (lv_at hl 0 rfl) ?_
      refine lv_bipush (v := 16) hx hb dX6_meanLevel_5 (by decide) ?_
      refine lv_icmp_ge (tgt := 30) hx hb dX6_meanLevel_7 (by decide) (fun _ => ?_) (fun c_ => absurd (show 16 ≤ (nI 16) by decide) c_)
      refine lv_iload_n hx hb dX6_meanLevel_30 rfl (lv_at hl 1 rfl) ?_
      refine k_i2d (v := 0) hx hb (by decide +kernel) dX6_meanLevel_31 ?_
      refine lv_ldc2d (v := 4625196817309499392) hx hb S.2.2.2 (S.2.2.1 _ cn_X6_206) dX6_meanLevel_32 ?_
      refine k_ddiv (v := 0) hx hb ⟨by decide +kernel, by unfold vf_n64; decide +kernel⟩ dX6_meanLevel_35 ?_
      exact x_dret () S hr hlk hsz htt hK E dX6_meanLevel_36 rfl rfl ⟨Nat.le_of_ble_eq_true rfl, Nat.le_of_ble_eq_true rfl⟩ ⟨Nat.le_of_ble_eq_true rfl, Nat.le_of_ble_eq_true rfl⟩
    | succ k1 ih1 =>
      intro i1 hi1 H locs E ls hl
      have hl : lv_has ls 3 [(2, .int (nI i1)), (1, .int 0), (0, .ref x)] := hl
      refine lv_iload_n hx hb dX6_meanLevel_4 rfl (lv_at hl 0 rfl) ?_
      refine lv_bipush (v := 16) hx hb dX6_meanLevel_5 (by decide) ?_
      refine lv_icmp_ge (tgt := 30) hx hb dX6_meanLevel_7 (by decide) (fun c_ => absurd c_ (g_no (a := i1) (b := 16) rfl rfl (by omega) (by decide))) (fun _ => ?_)
      refine lv_iload_n hx hb dX6_meanLevel_10 rfl (lv_at hl 1 rfl) ?_
      refine lv_aload_n hx hb dX6_meanLevel_11 rfl (lv_at hl 2 rfl) ?_
      refine wg_X6_14 (v := .ref (ad 0)) S hK E 0 rfl rfl dX6_meanLevel_12 ?_
      refine wg_X6_40 (v := .ref (ad 1)) S hK E 1 rfl rfl dX6_meanLevel_15 ?_
      refine lv_iload_n hx hb dX6_meanLevel_18 rfl (lv_at hl 0 rfl) ?_
      refine w_reti (runV_X (As := [.int (nI i1)]) (rest := [.int 0]) (q0 := 0) (n := 1) S hml hK (hZ.at E) (Cut.of (wc := [((ad 1), .inr (2, [.ref (ad 8), .ref (ad 9), .ref (ad 10), .ref (ad 11)])), ((ad 8), .inl (g.2.1 0, 16, .inl (fun _ => 0))), ((ad 9), .inl (g.2.1 0, 16, .inl (fun _ => 10))), ((ad 10), .inl (g.2.1 0, 16, .inl (fun _ => 0)))]) (wr := [(x, .inr (6, [.ref (ad 0), .ref ag, .ref wo, .ref dy])), ((ad 0), .inr (5, [.ref (ad 1), .ref (ad 2), .ref (ad 3), .ref (ad 4), .ref (ad 29), .ref (ad 5), .ref (ad 6), .ref (ad 7), .int (-1), .int 1, .int 0, .int 0]))]) E hA [2, 3, 4, 5] [0, 1] rfl rfl rfl rfl (by decide)) (c_ht0 l g ad (nI i1) (vp_in_nI (n := i1) (by omega) (by decide)) _ _) (gi_wsV ml_X6_130 im_X2_height sl_X2_height in_X2 co_X2_height) ⟨rfl, by decide +kernel, by decide +kernel, by decide +kernel⟩ ⟨Nat.le_of_ble_eq_true rfl, Nat.le_of_ble_eq_true rfl⟩ rfl rfl rfl hl.1 rfl (Nat.le_of_ble_eq_true rfl) dX6_meanLevel_19 ⟨Nat.le_of_ble_eq_true rfl, Nat.le_of_ble_eq_true rfl⟩) (Cut.of (wc := [((ad 1), .inr (2, [.ref (ad 8), .ref (ad 9), .ref (ad 10), .ref (ad 11)])), ((ad 8), .inl (g.2.1 0, 16, .inl (fun _ => 0))), ((ad 9), .inl (g.2.1 0, 16, .inl (fun _ => 10))), ((ad 10), .inl (g.2.1 0, 16, .inl (fun _ => 0)))]) (wr := [(x, .inr (6, [.ref (ad 0), .ref ag, .ref wo, .ref dy])), ((ad 0), .inr (5, [.ref (ad 1), .ref (ad 2), .ref (ad 3), .ref (ad 4), .ref (ad 29), .ref (ad 5), .ref (ad 6), .ref (ad 7), .int (-1), .int 1, .int 0, .int 0]))]) E hA [2, 3, 4, 5] [0, 1] rfl rfl rfl rfl (by decide)) E (fun r2 u2 H locs hp E => ?_)
      have E : Ev g _ s.heap H locs [(x, .inr (6, [.ref (ad 0), .ref ag, .ref wo, .ref dy])), ((ad 0), .inr (5, [.ref (ad 1), .ref (ad 2), .ref (ad 3), .ref (ad 4), .ref (ad 29), .ref (ad 5), .ref (ad 6), .ref (ad 7), .int (-1), .int 1, .int 0, .int 0])), ((ad 1), .inr (2, [.ref (ad 8), .ref (ad 9), .ref (ad 10), .ref (ad 11)])), ((ad 8), .inl (g.2.1 0, 16, .inl (fun _ => 0))), ((ad 9), .inl (g.2.1 0, 16, .inl (fun _ => 10))), ((ad 10), .inl (g.2.1 0, 16, .inl (fun _ => 0)))] := E
      subst hp
      refine k_iadd (v := 0) hx hb (by decide) dX6_meanLevel_22 ?_
      refine lv_istore_n (lv' := [(1, .int 0), (2, .int (nI i1)), (0, .ref x)]) hx hb dX6_meanLevel_23 rfl hl (by decide) rfl (fun ls hl => ?_)
      refine lv_iinc (v := (nI (i1 + 1))) (lv' := [(2, .int (nI (i1 + 1))), (1, .int 0), (0, .ref x)]) hx hb dX6_meanLevel_24 hl (k := 1) rfl (nI_1 i1) (by decide) rfl (fun ls hl => ?_)
      refine lv_goto (tgt := 4) hx hb dX6_meanLevel_27 (by decide) ?_
      exact ih1 (i1 + 1) (by omega) _ _ E ls (lv_sub hl [0, 1, 2] rfl)
  exact L1 16 0 (by omega) _ _ E ls (lv_sub hl [0, 1, 2] rfl)

set_option maxHeartbeats 4000000 in
set_option maxRecDepth 100000 in
/-- isSound -/
theorem c_X6_isSound (l : Launch) (g : Gm) (x : Nat) (wo : Nat) (dy : Nat) (ad : Nat → Nat) (bd : Nat → Nat) : MXi (S := Unit) l g yX6_isSound cX6_isSound 1 .boolean ({ frames := 2, cells := 0, slots := 0, locals := 42 } : Room) [.ref x] [(x, .inr (6, [.ref (ad 0), .ref (bd 0), .ref wo, .ref dy])), (dy, .inr (8, [.int 0, .ref (g.2.2 0), .int 0])), ((ad 0), .inr (5, [.ref (ad 1), .ref (ad 2), .ref (ad 3), .ref (ad 4), .ref (ad 29), .ref (ad 5), .ref (ad 6), .ref (ad 7), .int (-1), .int 1, .int 0, .int 0])), ((ad 1), .inr (2, [.ref (ad 8), .ref (ad 9), .ref (ad 10), .ref (ad 11)])), ((ad 3), .inr (4, [.ref (ad 18), .ref (ad 19), .ref (ad 20), .ref (ad 21), .ref (ad 22), .ref (ad 23), .ref (ad 24), .ref (ad 25), .ref (ad 26), .ref (ad 27), .int 0])), ((ad 4), .inr (0, [.ref (ad 28)])), ((ad 10), .inl (g.2.1 0, 16, .inl (fun _ => 0))), ((ad 28), .inl (g.2.1 1, 9, .inr (.inl (fun _ => 0)))), ((bd 0), .inr (5, [.ref (bd 1), .ref (bd 2), .ref (bd 3), .ref (bd 4), .ref (bd 29), .ref (bd 5), .ref (bd 6), .ref (bd 7), .int (-1), .int 0, .int 0, .int 0])), ((bd 1), .inr (2, [.ref (bd 8), .ref (bd 9), .ref (bd 10), .ref (bd 11)])), ((bd 10), .inl (g.2.1 0, 16, .inl (fun _ => 0)))] (fun r _ => r = 1) (fun _ => [(x, .inr (6, [.ref (ad 0), .ref (bd 0), .ref wo, .ref dy])), (dy, .inr (8, [.int 0, .ref (g.2.2 0), .int 0])), ((ad 0), .inr (5, [.ref (ad 1), .ref (ad 2), .ref (ad 3), .ref (ad 4), .ref (ad 29), .ref (ad 5), .ref (ad 6), .ref (ad 7), .int (-1), .int 1, .int 0, .int 0])), ((ad 1), .inr (2, [.ref (ad 8), .ref (ad 9), .ref (ad 10), .ref (ad 11)])), ((ad 3), .inr (4, [.ref (ad 18), .ref (ad 19), .ref (ad 20), .ref (ad 21), .ref (ad 22), .ref (ad 23), .ref (ad 24), .ref (ad 25), .ref (ad 26), .ref (ad 27), .int 0])), ((ad 4), .inr (0, [.ref (ad 28)])), ((ad 10), .inl (g.2.1 0, 16, .inl (fun _ => 0))), ((ad 28), .inl (g.2.1 1, 9, .inr (.inl (fun _ => 0)))), ((bd 0), .inr (5, [.ref (bd 1), .ref (bd 2), .ref (bd 3), .ref (bd 4), .ref (bd 29), .ref (bd 5), .ref (bd 6), .ref (bd 7), .int (-1), .int 0, .int 0, .int 0])), ((bd 1), .inr (2, [.ref (bd 8), .ref (bd 9), .ref (bd 10), .ref (bd 11)])), ((bd 10), .inl (g.2.1 0, 16, .inl (fun _ => 0)))]) (fun _ => (0, 0)) := by
  intro sz tt
  refine ofX RX6 rfl (by decide +kernel) (Nat.le_of_ble_eq_true rfl) (fun p e s m args below meth c hargs S hml hr hlk hnm hsz htt hK hA hZ E ls hl => ?_)
  have hx := S.1
  have hb := S.2.1
  have hl : lv_has ls 1 [(0, .ref x)] := hl
  refine lv_aload_n hx hb dX6_isSound_0 rfl (lv_at hl 0 rfl) ?_
  refine wg_X6_18 (v := .ref (bd 0)) S hK E 0 rfl rfl dX6_isSound_1 ?_
  refine lv_aload_n hx hb dX6_isSound_4 rfl (lv_at hl 0 rfl) ?_
  refine wg_X6_28 (v := .ref dy) S hK E 0 rfl rfl dX6_isSound_5 ?_
  refine w_retv (runV_X (As := [.ref dy]) (rest := []) (q0 := 0) (n := 1) S hml hK (hZ.at E) (Cut.of (wc := [((bd 0), .inr (5, [.ref (bd 1), .ref (bd 2), .ref (bd 3), .ref (bd 4), .ref (bd 29), .ref (bd 5), .ref (bd 6), .ref (bd 7), .int (-1), .int 0, .int 0, .int 0])), (dy, .inr (8, [.int 0, .ref (g.2.2 0), .int 0]))]) (wr := [(x, .inr (6, [.ref (ad 0), .ref (bd 0), .ref wo, .ref dy])), ((ad 0), .inr (5, [.ref (ad 1), .ref (ad 2), .ref (ad 3), .ref (ad 4), .ref (ad 29), .ref (ad 5), .ref (ad 6), .ref (ad 7), .int (-1), .int 1, .int 0, .int 0])), ((ad 1), .inr (2, [.ref (ad 8), .ref (ad 9), .ref (ad 10), .ref (ad 11)])), ((ad 3), .inr (4, [.ref (ad 18), .ref (ad 19), .ref (ad 20), .ref (ad 21), .ref (ad 22), .ref (ad 23), .ref (ad 24), .ref (ad 25), .ref (ad 26), .ref (ad 27), .int 0])), ((ad 4), .inr (0, [.ref (ad 28)])), ((ad 10), .inl (g.2.1 0, 16, .inl (fun _ => 0))), ((ad 28), .inl (g.2.1 1, 9, .inr (.inl (fun _ => 0)))), ((bd 1), .inr (2, [.ref (bd 8), .ref (bd 9), .ref (bd 10), .ref (bd 11)])), ((bd 10), .inl (g.2.1 0, 16, .inl (fun _ => 0)))]) E hA [8, 1] [0, 2, 3, 4, 5, 6, 7, 9, 10] rfl rfl rfl rfl (by decide)) (c_fd0 l g bd dy _ _) (gi_wsV ml_X6_162 im_X5_followDiary sl_X5_followDiary in_X5 co_X5_followDiary) ⟨rfl, by decide +kernel, by decide +kernel, by decide +kernel⟩ ⟨Nat.le_of_ble_eq_true rfl, Nat.le_of_ble_eq_true rfl⟩ rfl rfl rfl hl.1 rfl (Nat.le_of_ble_eq_true rfl) dX6_isSound_8 ⟨Nat.le_of_ble_eq_true rfl, Nat.le_of_ble_eq_true rfl⟩) (Cut.of (wc := [((bd 0), .inr (5, [.ref (bd 1), .ref (bd 2), .ref (bd 3), .ref (bd 4), .ref (bd 29), .ref (bd 5), .ref (bd 6), .ref (bd 7), .int (-1), .int 0, .int 0, .int 0])), (dy, .inr (8, [.int 0, .ref (g.2.2 0), .int 0]))]) (wr := [(x, .inr (6, [.ref (ad 0), .ref (bd 0), .ref wo, .ref dy])), ((ad 0), .inr (5, [.ref (ad 1), .ref (ad 2), .ref (ad 3), .ref (ad 4), .ref (ad 29), .ref (ad 5), .ref (ad 6), .ref (ad 7), .int (-1), .int 1, .int 0, .int 0])), ((ad 1), .inr (2, [.ref (ad 8), .ref (ad 9), .ref (ad 10), .ref (ad 11)])), ((ad 3), .inr (4, [.ref (ad 18), .ref (ad 19), .ref (ad 20), .ref (ad 21), .ref (ad 22), .ref (ad 23), .ref (ad 24), .ref (ad 25), .ref (ad 26), .ref (ad 27), .int 0])), ((ad 4), .inr (0, [.ref (ad 28)])), ((ad 10), .inl (g.2.1 0, 16, .inl (fun _ => 0))), ((ad 28), .inl (g.2.1 1, 9, .inr (.inl (fun _ => 0)))), ((bd 1), .inr (2, [.ref (bd 8), .ref (bd 9), .ref (bd 10), .ref (bd 11)])), ((bd 10), .inl (g.2.1 0, 16, .inl (fun _ => 0)))]) E hA [8, 1] [0, 2, 3, 4, 5, 6, 7, 9, 10] rfl rfl rfl rfl (by decide)) E (fun u1 H locs hp E => ?_)
  have E : Ev g _ s.heap H locs [(x, .inr (6, [.ref (ad 0), .ref (bd 0), .ref wo, .ref dy])), ((ad 0), .inr (5, [.ref (ad 1), .ref (ad 2), .ref (ad 3), .ref (ad 4), .ref (ad 29), .ref (ad 5), .ref (ad 6), .ref (ad 7), .int (-1), .int 1, .int 0, .int 0])), ((ad 1), .inr (2, [.ref (ad 8), .ref (ad 9), .ref (ad 10), .ref (ad 11)])), ((ad 3), .inr (4, [.ref (ad 18), .ref (ad 19), .ref (ad 20), .ref (ad 21), .ref (ad 22), .ref (ad 23), .ref (ad 24), .ref (ad 25), .ref (ad 26), .ref (ad 27), .int 0])), ((ad 4), .inr (0, [.ref (ad 28)])), ((ad 10), .inl (g.2.1 0, 16, .inl (fun _ => 0))), ((ad 28), .inl (g.2.1 1, 9, .inr (.inl (fun _ => 0)))), ((bd 1), .inr (2, [.ref (bd 8), .ref (bd 9), .ref (bd 10), .ref (bd 11)])), ((bd 10), .inl (g.2.1 0, 16, .inl (fun _ => 0))), ((bd 0), .inr (5, [.ref (bd 1), .ref (bd 2), .ref (bd 3), .ref (bd 4), .ref (bd 29), .ref (bd 5), .ref (bd 6), .ref (bd 7), .int (-1), .int 0, .int 0, .int 0])), (dy, .inr (8, [.int 0, .ref (g.2.2 0), .int 0]))] := E
  refine lv_aload_n hx hb dX6_isSound_11 rfl (lv_at hl 0 rfl) ?_
  refine wg_X6_14 (v := .ref (ad 0)) S hK E 0 rfl rfl dX6_isSound_12 ?_
  refine wg_X6_194 (v := .ref (ad 4)) S hK E 1 rfl rfl dX6_isSound_15 ?_
  refine lv_aload_n hx hb dX6_isSound_18 rfl (lv_at hl 0 rfl) ?_
  refine wg_X6_14 (v := .ref (ad 0)) S hK E 0 rfl rfl dX6_isSound_19 ?_
  refine wg_X6_40 (v := .ref (ad 1)) S hK E 1 rfl rfl dX6_isSound_22 ?_
  refine w_retl (runV_X (As := []) (rest := [.ref (ad 4)]) (q0 := 0) (n := 0) S hml hK (hZ.at E) (Cut.of (wc := [((ad 1), .inr (2, [.ref (ad 8), .ref (ad 9), .ref (ad 10), .ref (ad 11)])), ((ad 10), .inl (g.2.1 0, 16, .inl (fun _ => 0)))]) (wr := [(x, .inr (6, [.ref (ad 0), .ref (bd 0), .ref wo, .ref dy])), ((ad 0), .inr (5, [.ref (ad 1), .ref (ad 2), .ref (ad 3), .ref (ad 4), .ref (ad 29), .ref (ad 5), .ref (ad 6), .ref (ad 7), .int (-1), .int 1, .int 0, .int 0])), ((ad 3), .inr (4, [.ref (ad 18), .ref (ad 19), .ref (ad 20), .ref (ad 21), .ref (ad 22), .ref (ad 23), .ref (ad 24), .ref (ad 25), .ref (ad 26), .ref (ad 27), .int 0])), ((ad 4), .inr (0, [.ref (ad 28)])), ((ad 28), .inl (g.2.1 1, 9, .inr (.inl (fun _ => 0)))), ((bd 1), .inr (2, [.ref (bd 8), .ref (bd 9), .ref (bd 10), .ref (bd 11)])), ((bd 10), .inl (g.2.1 0, 16, .inl (fun _ => 0))), ((bd 0), .inr (5, [.ref (bd 1), .ref (bd 2), .ref (bd 3), .ref (bd 4), .ref (bd 29), .ref (bd 5), .ref (bd 6), .ref (bd 7), .int (-1), .int 0, .int 0, .int 0])), (dy, .inr (8, [.int 0, .ref (g.2.2 0), .int 0]))]) E hA [2, 5] [0, 1, 3, 4, 6, 7, 8, 9, 10] rfl rfl rfl rfl (by decide)) (c_wi0 l g ad _ _) (gi_wsV ml_X6_208 im_X2_waterInAll sl_X2_waterInAll in_X2 co_X2_waterInAll) ⟨rfl, by decide +kernel, by decide +kernel, by decide +kernel⟩ ⟨Nat.le_of_ble_eq_true rfl, Nat.le_of_ble_eq_true rfl⟩ rfl rfl rfl hl.1 rfl (Nat.le_of_ble_eq_true rfl) dX6_isSound_25 ⟨Nat.le_of_ble_eq_true rfl, Nat.le_of_ble_eq_true rfl⟩) (Cut.of (wc := [((ad 1), .inr (2, [.ref (ad 8), .ref (ad 9), .ref (ad 10), .ref (ad 11)])), ((ad 10), .inl (g.2.1 0, 16, .inl (fun _ => 0)))]) (wr := [(x, .inr (6, [.ref (ad 0), .ref (bd 0), .ref wo, .ref dy])), ((ad 0), .inr (5, [.ref (ad 1), .ref (ad 2), .ref (ad 3), .ref (ad 4), .ref (ad 29), .ref (ad 5), .ref (ad 6), .ref (ad 7), .int (-1), .int 1, .int 0, .int 0])), ((ad 3), .inr (4, [.ref (ad 18), .ref (ad 19), .ref (ad 20), .ref (ad 21), .ref (ad 22), .ref (ad 23), .ref (ad 24), .ref (ad 25), .ref (ad 26), .ref (ad 27), .int 0])), ((ad 4), .inr (0, [.ref (ad 28)])), ((ad 28), .inl (g.2.1 1, 9, .inr (.inl (fun _ => 0)))), ((bd 1), .inr (2, [.ref (bd 8), .ref (bd 9), .ref (bd 10), .ref (bd 11)])), ((bd 10), .inl (g.2.1 0, 16, .inl (fun _ => 0))), ((bd 0), .inr (5, [.ref (bd 1), .ref (bd 2), .ref (bd 3), .ref (bd 4), .ref (bd 29), .ref (bd 5), .ref (bd 6), .ref (bd 7), .int (-1), .int 0, .int 0, .int 0])), (dy, .inr (8, [.int 0, .ref (g.2.2 0), .int 0]))]) E hA [2, 5] [0, 1, 3, 4, 6, 7, 8, 9, 10] rfl rfl rfl rfl (by decide)) E (fun r2 u2 H locs hp E => ?_)
  have E : Ev g _ s.heap H locs [(x, .inr (6, [.ref (ad 0), .ref (bd 0), .ref wo, .ref dy])), ((ad 0), .inr (5, [.ref (ad 1), .ref (ad 2), .ref (ad 3), .ref (ad 4), .ref (ad 29), .ref (ad 5), .ref (ad 6), .ref (ad 7), .int (-1), .int 1, .int 0, .int 0])), ((ad 3), .inr (4, [.ref (ad 18), .ref (ad 19), .ref (ad 20), .ref (ad 21), .ref (ad 22), .ref (ad 23), .ref (ad 24), .ref (ad 25), .ref (ad 26), .ref (ad 27), .int 0])), ((ad 4), .inr (0, [.ref (ad 28)])), ((ad 28), .inl (g.2.1 1, 9, .inr (.inl (fun _ => 0)))), ((bd 1), .inr (2, [.ref (bd 8), .ref (bd 9), .ref (bd 10), .ref (bd 11)])), ((bd 10), .inl (g.2.1 0, 16, .inl (fun _ => 0))), ((bd 0), .inr (5, [.ref (bd 1), .ref (bd 2), .ref (bd 3), .ref (bd 4), .ref (bd 29), .ref (bd 5), .ref (bd 6), .ref (bd 7), .int (-1), .int 0, .int 0, .int 0])), (dy, .inr (8, [.int 0, .ref (g.2.2 0), .int 0])), ((ad 1), .inr (2, [.ref (ad 8), .ref (ad 9), .ref (ad 10), .ref (ad 11)])), ((ad 10), .inl (g.2.1 0, 16, .inl (fun _ => 0)))] := E
  subst hp
  refine w_reti (runV_X (As := [.long 0]) (rest := []) (q0 := 0) (n := 1) S hml hK (hZ.at E) (Cut.of (wc := [((ad 4), .inr (0, [.ref (ad 28)])), ((ad 28), .inl (g.2.1 1, 9, .inr (.inl (fun _ => 0))))]) (wr := [(x, .inr (6, [.ref (ad 0), .ref (bd 0), .ref wo, .ref dy])), ((ad 0), .inr (5, [.ref (ad 1), .ref (ad 2), .ref (ad 3), .ref (ad 4), .ref (ad 29), .ref (ad 5), .ref (ad 6), .ref (ad 7), .int (-1), .int 1, .int 0, .int 0])), ((ad 3), .inr (4, [.ref (ad 18), .ref (ad 19), .ref (ad 20), .ref (ad 21), .ref (ad 22), .ref (ad 23), .ref (ad 24), .ref (ad 25), .ref (ad 26), .ref (ad 27), .int 0])), ((bd 1), .inr (2, [.ref (bd 8), .ref (bd 9), .ref (bd 10), .ref (bd 11)])), ((bd 10), .inl (g.2.1 0, 16, .inl (fun _ => 0))), ((bd 0), .inr (5, [.ref (bd 1), .ref (bd 2), .ref (bd 3), .ref (bd 4), .ref (bd 29), .ref (bd 5), .ref (bd 6), .ref (bd 7), .int (-1), .int 0, .int 0, .int 0])), (dy, .inr (8, [.int 0, .ref (g.2.2 0), .int 0])), ((ad 1), .inr (2, [.ref (ad 8), .ref (ad 9), .ref (ad 10), .ref (ad 11)])), ((ad 10), .inl (g.2.1 0, 16, .inl (fun _ => 0)))]) E hA [3, 4] [0, 1, 2, 5, 6, 7, 8, 9, 10] rfl rfl rfl rfl (by decide)) (c_bw0 l g ad _ _) (gi_wsV ml_X6_212 im_X0_balanceWith sl_X0_balanceWith in_X0 co_X0_balanceWith) ⟨rfl, by decide +kernel, by decide +kernel, by decide +kernel⟩ ⟨Nat.le_of_ble_eq_true rfl, Nat.le_of_ble_eq_true rfl⟩ rfl rfl rfl hl.1 rfl (Nat.le_of_ble_eq_true rfl) dX6_isSound_28 ⟨Nat.le_of_ble_eq_true rfl, Nat.le_of_ble_eq_true rfl⟩) (Cut.of (wc := [((ad 4), .inr (0, [.ref (ad 28)])), ((ad 28), .inl (g.2.1 1, 9, .inr (.inl (fun _ => 0))))]) (wr := [(x, .inr (6, [.ref (ad 0), .ref (bd 0), .ref wo, .ref dy])), ((ad 0), .inr (5, [.ref (ad 1), .ref (ad 2), .ref (ad 3), .ref (ad 4), .ref (ad 29), .ref (ad 5), .ref (ad 6), .ref (ad 7), .int (-1), .int 1, .int 0, .int 0])), ((ad 3), .inr (4, [.ref (ad 18), .ref (ad 19), .ref (ad 20), .ref (ad 21), .ref (ad 22), .ref (ad 23), .ref (ad 24), .ref (ad 25), .ref (ad 26), .ref (ad 27), .int 0])), ((bd 1), .inr (2, [.ref (bd 8), .ref (bd 9), .ref (bd 10), .ref (bd 11)])), ((bd 10), .inl (g.2.1 0, 16, .inl (fun _ => 0))), ((bd 0), .inr (5, [.ref (bd 1), .ref (bd 2), .ref (bd 3), .ref (bd 4), .ref (bd 29), .ref (bd 5), .ref (bd 6), .ref (bd 7), .int (-1), .int 0, .int 0, .int 0])), (dy, .inr (8, [.int 0, .ref (g.2.2 0), .int 0])), ((ad 1), .inr (2, [.ref (ad 8), .ref (ad 9), .ref (ad 10), .ref (ad 11)])), ((ad 10), .inl (g.2.1 0, 16, .inl (fun _ => 0)))]) E hA [3, 4] [0, 1, 2, 5, 6, 7, 8, 9, 10] rfl rfl rfl rfl (by decide)) E (fun r3 u3 H locs hp E => ?_)
  have E : Ev g _ s.heap H locs [(x, .inr (6, [.ref (ad 0), .ref (bd 0), .ref wo, .ref dy])), ((ad 0), .inr (5, [.ref (ad 1), .ref (ad 2), .ref (ad 3), .ref (ad 4), .ref (ad 29), .ref (ad 5), .ref (ad 6), .ref (ad 7), .int (-1), .int 1, .int 0, .int 0])), ((ad 3), .inr (4, [.ref (ad 18), .ref (ad 19), .ref (ad 20), .ref (ad 21), .ref (ad 22), .ref (ad 23), .ref (ad 24), .ref (ad 25), .ref (ad 26), .ref (ad 27), .int 0])), ((bd 1), .inr (2, [.ref (bd 8), .ref (bd 9), .ref (bd 10), .ref (bd 11)])), ((bd 10), .inl (g.2.1 0, 16, .inl (fun _ => 0))), ((bd 0), .inr (5, [.ref (bd 1), .ref (bd 2), .ref (bd 3), .ref (bd 4), .ref (bd 29), .ref (bd 5), .ref (bd 6), .ref (bd 7), .int (-1), .int 0, .int 0, .int 0])), (dy, .inr (8, [.int 0, .ref (g.2.2 0), .int 0])), ((ad 1), .inr (2, [.ref (ad 8), .ref (ad 9), .ref (ad 10), .ref (ad 11)])), ((ad 10), .inl (g.2.1 0, 16, .inl (fun _ => 0))), ((ad 4), .inr (0, [.ref (ad 28)])), ((ad 28), .inl (g.2.1 1, 9, .inr (.inl (fun _ => 0))))] := E
  subst hp
  refine lv_if_eq (tgt := 71) hx hb dX6_isSound_31 (by decide) (fun c_ => absurd c_ (show ¬ ((1 : Int32) = 0) by decide)) (fun _ => ?_)
  refine lv_aload_n hx hb dX6_isSound_34 rfl (lv_at hl 0 rfl) ?_
  refine wg_X6_14 (v := .ref (ad 0)) S hK E 0 rfl rfl dX6_isSound_35 ?_
  refine wg_X6_40 (v := .ref (ad 1)) S hK E 1 rfl rfl dX6_isSound_38 ?_
  refine lv_aload_n hx hb dX6_isSound_41 rfl (lv_at hl 0 rfl) ?_
  refine wg_X6_18 (v := .ref (bd 0)) S hK E 0 rfl rfl dX6_isSound_42 ?_
  refine wg_X6_40 (v := .ref (bd 1)) S hK E 5 rfl rfl dX6_isSound_45 ?_
  refine w_reti (runV_X (As := [.ref (bd 1)]) (rest := []) (q0 := 0) (n := 1) S hml hK (hZ.at E) (Cut.of (wc := [((ad 1), .inr (2, [.ref (ad 8), .ref (ad 9), .ref (ad 10), .ref (ad 11)])), ((ad 10), .inl (g.2.1 0, 16, .inl (fun _ => 0))), ((bd 1), .inr (2, [.ref (bd 8), .ref (bd 9), .ref (bd 10), .ref (bd 11)])), ((bd 10), .inl (g.2.1 0, 16, .inl (fun _ => 0)))]) (wr := [(x, .inr (6, [.ref (ad 0), .ref (bd 0), .ref wo, .ref dy])), ((ad 0), .inr (5, [.ref (ad 1), .ref (ad 2), .ref (ad 3), .ref (ad 4), .ref (ad 29), .ref (ad 5), .ref (ad 6), .ref (ad 7), .int (-1), .int 1, .int 0, .int 0])), ((ad 3), .inr (4, [.ref (ad 18), .ref (ad 19), .ref (ad 20), .ref (ad 21), .ref (ad 22), .ref (ad 23), .ref (ad 24), .ref (ad 25), .ref (ad 26), .ref (ad 27), .int 0])), ((bd 0), .inr (5, [.ref (bd 1), .ref (bd 2), .ref (bd 3), .ref (bd 4), .ref (bd 29), .ref (bd 5), .ref (bd 6), .ref (bd 7), .int (-1), .int 0, .int 0, .int 0])), (dy, .inr (8, [.int 0, .ref (g.2.2 0), .int 0])), ((ad 4), .inr (0, [.ref (ad 28)])), ((ad 28), .inl (g.2.1 1, 9, .inr (.inl (fun _ => 0))))]) E hA [7, 8, 3, 4] [0, 1, 2, 5, 6, 9, 10] rfl rfl rfl rfl (by decide)) (c_sw0 l g ad bd _ _) (gi_wsV ml_X6_216 im_X2_sameWater sl_X2_sameWater in_X2 co_X2_sameWater) ⟨rfl, by decide +kernel, by decide +kernel, by decide +kernel⟩ ⟨Nat.le_of_ble_eq_true rfl, Nat.le_of_ble_eq_true rfl⟩ rfl rfl rfl hl.1 rfl (Nat.le_of_ble_eq_true rfl) dX6_isSound_48 ⟨Nat.le_of_ble_eq_true rfl, Nat.le_of_ble_eq_true rfl⟩) (Cut.of (wc := [((ad 1), .inr (2, [.ref (ad 8), .ref (ad 9), .ref (ad 10), .ref (ad 11)])), ((ad 10), .inl (g.2.1 0, 16, .inl (fun _ => 0))), ((bd 1), .inr (2, [.ref (bd 8), .ref (bd 9), .ref (bd 10), .ref (bd 11)])), ((bd 10), .inl (g.2.1 0, 16, .inl (fun _ => 0)))]) (wr := [(x, .inr (6, [.ref (ad 0), .ref (bd 0), .ref wo, .ref dy])), ((ad 0), .inr (5, [.ref (ad 1), .ref (ad 2), .ref (ad 3), .ref (ad 4), .ref (ad 29), .ref (ad 5), .ref (ad 6), .ref (ad 7), .int (-1), .int 1, .int 0, .int 0])), ((ad 3), .inr (4, [.ref (ad 18), .ref (ad 19), .ref (ad 20), .ref (ad 21), .ref (ad 22), .ref (ad 23), .ref (ad 24), .ref (ad 25), .ref (ad 26), .ref (ad 27), .int 0])), ((bd 0), .inr (5, [.ref (bd 1), .ref (bd 2), .ref (bd 3), .ref (bd 4), .ref (bd 29), .ref (bd 5), .ref (bd 6), .ref (bd 7), .int (-1), .int 0, .int 0, .int 0])), (dy, .inr (8, [.int 0, .ref (g.2.2 0), .int 0])), ((ad 4), .inr (0, [.ref (ad 28)])), ((ad 28), .inl (g.2.1 1, 9, .inr (.inl (fun _ => 0))))]) E hA [7, 8, 3, 4] [0, 1, 2, 5, 6, 9, 10] rfl rfl rfl rfl (by decide)) E (fun r4 u4 H locs hp E => ?_)
  have E : Ev g _ s.heap H locs [(x, .inr (6, [.ref (ad 0), .ref (bd 0), .ref wo, .ref dy])), ((ad 0), .inr (5, [.ref (ad 1), .ref (ad 2), .ref (ad 3), .ref (ad 4), .ref (ad 29), .ref (ad 5), .ref (ad 6), .ref (ad 7), .int (-1), .int 1, .int 0, .int 0])), ((ad 3), .inr (4, [.ref (ad 18), .ref (ad 19), .ref (ad 20), .ref (ad 21), .ref (ad 22), .ref (ad 23), .ref (ad 24), .ref (ad 25), .ref (ad 26), .ref (ad 27), .int 0])), ((bd 0), .inr (5, [.ref (bd 1), .ref (bd 2), .ref (bd 3), .ref (bd 4), .ref (bd 29), .ref (bd 5), .ref (bd 6), .ref (bd 7), .int (-1), .int 0, .int 0, .int 0])), (dy, .inr (8, [.int 0, .ref (g.2.2 0), .int 0])), ((ad 4), .inr (0, [.ref (ad 28)])), ((ad 28), .inl (g.2.1 1, 9, .inr (.inl (fun _ => 0)))), ((ad 1), .inr (2, [.ref (ad 8), .ref (ad 9), .ref (ad 10), .ref (ad 11)])), ((ad 10), .inl (g.2.1 0, 16, .inl (fun _ => 0))), ((bd 1), .inr (2, [.ref (bd 8), .ref (bd 9), .ref (bd 10), .ref (bd 11)])), ((bd 10), .inl (g.2.1 0, 16, .inl (fun _ => 0)))] := E
  subst hp
  refine lv_if_eq (tgt := 71) hx hb dX6_isSound_51 (by decide) (fun c_ => absurd c_ (show ¬ ((1 : Int32) = 0) by decide)) (fun _ => ?_)
  refine lv_aload_n hx hb dX6_isSound_54 rfl (lv_at hl 0 rfl) ?_
  refine wg_X6_14 (v := .ref (ad 0)) S hK E 0 rfl rfl dX6_isSound_55 ?_
  refine wg_X6_87 (v := .ref (ad 3)) S hK E 1 rfl rfl dX6_isSound_58 ?_
  refine w_reti (runV_X (As := []) (rest := []) (q0 := 0) (n := 0) S hml hK (hZ.at E) (Cut.of (wc := [((ad 3), .inr (4, [.ref (ad 18), .ref (ad 19), .ref (ad 20), .ref (ad 21), .ref (ad 22), .ref (ad 23), .ref (ad 24), .ref (ad 25), .ref (ad 26), .ref (ad 27), .int 0]))]) (wr := [(x, .inr (6, [.ref (ad 0), .ref (bd 0), .ref wo, .ref dy])), ((ad 0), .inr (5, [.ref (ad 1), .ref (ad 2), .ref (ad 3), .ref (ad 4), .ref (ad 29), .ref (ad 5), .ref (ad 6), .ref (ad 7), .int (-1), .int 1, .int 0, .int 0])), ((bd 0), .inr (5, [.ref (bd 1), .ref (bd 2), .ref (bd 3), .ref (bd 4), .ref (bd 29), .ref (bd 5), .ref (bd 6), .ref (bd 7), .int (-1), .int 0, .int 0, .int 0])), (dy, .inr (8, [.int 0, .ref (g.2.2 0), .int 0])), ((ad 4), .inr (0, [.ref (ad 28)])), ((ad 28), .inl (g.2.1 1, 9, .inr (.inl (fun _ => 0)))), ((ad 1), .inr (2, [.ref (ad 8), .ref (ad 9), .ref (ad 10), .ref (ad 11)])), ((ad 10), .inl (g.2.1 0, 16, .inl (fun _ => 0))), ((bd 1), .inr (2, [.ref (bd 8), .ref (bd 9), .ref (bd 10), .ref (bd 11)])), ((bd 10), .inl (g.2.1 0, 16, .inl (fun _ => 0)))]) E hA [2] [0, 1, 3, 4, 5, 6, 7, 8, 9, 10] rfl rfl rfl rfl (by decide)) (c_kt0 l g ad _ _) (gi_wsV ml_X6_220 im_X4_keptToAmounts sl_X4_keptToAmounts in_X4 co_X4_keptToAmounts) ⟨rfl, by decide +kernel, by decide +kernel, by decide +kernel⟩ ⟨Nat.le_of_ble_eq_true rfl, Nat.le_of_ble_eq_true rfl⟩ rfl rfl rfl hl.1 rfl (Nat.le_of_ble_eq_true rfl) dX6_isSound_61 ⟨Nat.le_of_ble_eq_true rfl, Nat.le_of_ble_eq_true rfl⟩) (Cut.of (wc := [((ad 3), .inr (4, [.ref (ad 18), .ref (ad 19), .ref (ad 20), .ref (ad 21), .ref (ad 22), .ref (ad 23), .ref (ad 24), .ref (ad 25), .ref (ad 26), .ref (ad 27), .int 0]))]) (wr := [(x, .inr (6, [.ref (ad 0), .ref (bd 0), .ref wo, .ref dy])), ((ad 0), .inr (5, [.ref (ad 1), .ref (ad 2), .ref (ad 3), .ref (ad 4), .ref (ad 29), .ref (ad 5), .ref (ad 6), .ref (ad 7), .int (-1), .int 1, .int 0, .int 0])), ((bd 0), .inr (5, [.ref (bd 1), .ref (bd 2), .ref (bd 3), .ref (bd 4), .ref (bd 29), .ref (bd 5), .ref (bd 6), .ref (bd 7), .int (-1), .int 0, .int 0, .int 0])), (dy, .inr (8, [.int 0, .ref (g.2.2 0), .int 0])), ((ad 4), .inr (0, [.ref (ad 28)])), ((ad 28), .inl (g.2.1 1, 9, .inr (.inl (fun _ => 0)))), ((ad 1), .inr (2, [.ref (ad 8), .ref (ad 9), .ref (ad 10), .ref (ad 11)])), ((ad 10), .inl (g.2.1 0, 16, .inl (fun _ => 0))), ((bd 1), .inr (2, [.ref (bd 8), .ref (bd 9), .ref (bd 10), .ref (bd 11)])), ((bd 10), .inl (g.2.1 0, 16, .inl (fun _ => 0)))]) E hA [2] [0, 1, 3, 4, 5, 6, 7, 8, 9, 10] rfl rfl rfl rfl (by decide)) E (fun r5 u5 H locs hp E => ?_)
  have E : Ev g _ s.heap H locs [(x, .inr (6, [.ref (ad 0), .ref (bd 0), .ref wo, .ref dy])), ((ad 0), .inr (5, [.ref (ad 1), .ref (ad 2), .ref (ad 3), .ref (ad 4), .ref (ad 29), .ref (ad 5), .ref (ad 6), .ref (ad 7), .int (-1), .int 1, .int 0, .int 0])), ((bd 0), .inr (5, [.ref (bd 1), .ref (bd 2), .ref (bd 3), .ref (bd 4), .ref (bd 29), .ref (bd 5), .ref (bd 6), .ref (bd 7), .int (-1), .int 0, .int 0, .int 0])), (dy, .inr (8, [.int 0, .ref (g.2.2 0), .int 0])), ((ad 4), .inr (0, [.ref (ad 28)])), ((ad 28), .inl (g.2.1 1, 9, .inr (.inl (fun _ => 0)))), ((ad 1), .inr (2, [.ref (ad 8), .ref (ad 9), .ref (ad 10), .ref (ad 11)])), ((ad 10), .inl (g.2.1 0, 16, .inl (fun _ => 0))), ((bd 1), .inr (2, [.ref (bd 8), .ref (bd 9), .ref (bd 10), .ref (bd 11)])), ((bd 10), .inl (g.2.1 0, 16, .inl (fun _ => 0))), ((ad 3), .inr (4, [.ref (ad 18), .ref (ad 19), .ref (ad 20), .ref (ad 21), .ref (ad 22), .ref (ad 23), .ref (ad 24), .ref (ad 25), .ref (ad 26), .ref (ad 27), .int 0]))] := E
  subst hp
  refine lv_if_eq (tgt := 71) hx hb dX6_isSound_64 (by decide) (fun c_ => absurd c_ (show ¬ ((1 : Int32) = 0) by decide)) (fun _ => ?_)
  refine lv_iconst (v := 1) hx hb dX6_isSound_67 (by decide) ?_
  refine lv_goto (tgt := 72) hx hb dX6_isSound_68 (by decide) ?_
  have E : Ev g _ s.heap H locs [(x, .inr (6, [.ref (ad 0), .ref (bd 0), .ref wo, .ref dy])), (dy, .inr (8, [.int 0, .ref (g.2.2 0), .int 0])), ((ad 0), .inr (5, [.ref (ad 1), .ref (ad 2), .ref (ad 3), .ref (ad 4), .ref (ad 29), .ref (ad 5), .ref (ad 6), .ref (ad 7), .int (-1), .int 1, .int 0, .int 0])), ((ad 1), .inr (2, [.ref (ad 8), .ref (ad 9), .ref (ad 10), .ref (ad 11)])), ((ad 3), .inr (4, [.ref (ad 18), .ref (ad 19), .ref (ad 20), .ref (ad 21), .ref (ad 22), .ref (ad 23), .ref (ad 24), .ref (ad 25), .ref (ad 26), .ref (ad 27), .int 0])), ((ad 4), .inr (0, [.ref (ad 28)])), ((ad 10), .inl (g.2.1 0, 16, .inl (fun _ => 0))), ((ad 28), .inl (g.2.1 1, 9, .inr (.inl (fun _ => 0)))), ((bd 0), .inr (5, [.ref (bd 1), .ref (bd 2), .ref (bd 3), .ref (bd 4), .ref (bd 29), .ref (bd 5), .ref (bd 6), .ref (bd 7), .int (-1), .int 0, .int 0, .int 0])), ((bd 1), .inr (2, [.ref (bd 8), .ref (bd 9), .ref (bd 10), .ref (bd 11)])), ((bd 10), .inl (g.2.1 0, 16, .inl (fun _ => 0)))] := Ev.sub E [0, 3, 1, 6, 10, 4, 7, 5, 2, 8, 9] rfl rfl
  exact x_zret () S hr hlk hsz htt hK E dX6_isSound_72 rfl rfl rfl ⟨Nat.le_of_ble_eq_true rfl, Nat.le_of_ble_eq_true rfl⟩ ⟨Nat.le_of_ble_eq_true rfl, Nat.le_of_ble_eq_true rfl⟩

