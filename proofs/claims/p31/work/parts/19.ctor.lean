/-! CONSTRUCTORS, and Arrays.fill -/
theorem dJ7_fill_53178_0 : decode cJ7_fill_53178 0 = .ok (.iconst 0, 1) := by decide +kernel
theorem dJ7_fill_53178_1 : decode cJ7_fill_53178 1 = .ok (.istore_n 2, 1) := by decide +kernel
theorem dJ7_fill_53178_2 : decode cJ7_fill_53178 2 = .ok (.aload_n 0, 1) := by decide +kernel
theorem dJ7_fill_53178_3 : decode cJ7_fill_53178 3 = .ok (.arraylength, 1) := by decide +kernel
theorem dJ7_fill_53178_4 : decode cJ7_fill_53178 4 = .ok (.istore_n 3, 1) := by decide +kernel
theorem dJ7_fill_53178_5 : decode cJ7_fill_53178 5 = .ok (.iload_n 2, 1) := by decide +kernel
theorem dJ7_fill_53178_6 : decode cJ7_fill_53178 6 = .ok (.iload_n 3, 1) := by decide +kernel
theorem dJ7_fill_53178_7 : decode cJ7_fill_53178 7 = .ok (.if_icmp .ge 13, 3) := by decide +kernel
theorem dJ7_fill_53178_10 : decode cJ7_fill_53178 10 = .ok (.aload_n 0, 1) := by decide +kernel
theorem dJ7_fill_53178_11 : decode cJ7_fill_53178 11 = .ok (.iload_n 2, 1) := by decide +kernel
theorem dJ7_fill_53178_12 : decode cJ7_fill_53178 12 = .ok (.iload_n 1, 1) := by decide +kernel
theorem dJ7_fill_53178_13 : decode cJ7_fill_53178 13 = .ok (.iastore, 1) := by decide +kernel
theorem dJ7_fill_53178_14 : decode cJ7_fill_53178 14 = .ok (.iinc 2 1, 3) := by decide +kernel
theorem dJ7_fill_53178_17 : decode cJ7_fill_53178 17 = .ok (.goto (-12), 3) := by decide +kernel
theorem dJ7_fill_53178_20 : decode cJ7_fill_53178 20 = .ok (.return_, 1) := by decide +kernel
def filled (n : Nat) (v : Int32) (f : Nat → Int32) : Nat → Int32 := fun j => if j < n then v else f j
theorem filled_0 {v : Int32} {f : Nat → Int32} : filled 0 v f = f := by funext j; unfold filled; rw [if_neg (Nat.not_lt_zero j)]
theorem filled_1 {i : Nat} {v : Int32} {f : Nat → Int32} (hi : i < 2 ^ 31) : upd (filled i v f) (nI i).toNatClampNeg v = filled (i + 1) v f := by
  rw [nI_clamp hi]
  funext j
  unfold upd filled
  by_cases h : j = i
  · rw [if_pos h, if_pos (by omega)]
  · rw [if_neg h]
    by_cases h2 : j < i
    · rw [if_pos h2, if_pos (by omega)]
    · rw [if_neg h2, if_neg (by omega)]
set_option maxHeartbeats 4000000 in
set_option maxRecDepth 100000 in
/-- Arrays.fill(int[], int) -/
theorem c_J7_fill_53178 (l : Launch) (g : Gm) (a n : Nat) (v : Int32) (f : Nat → Int32) (hn : n < 1000000) : MXv (S := Unit) l g yJ7_fill_53178 cJ7_fill_53178 4 ({ frames := 0, cells := 0, slots := 0, locals := 0 } : Room) [.ref a, .int v] [(a, .inl (g.2.1 0, n, .inl f))] (fun _ => True) (fun _ => [(a, .inl (g.2.1 0, n, .inl (filled n v f)))]) (fun _ => (0, 0)) := by
  intro sz tt
  refine ofX RJ7 rfl (by decide +kernel) (Nat.le_of_ble_eq_true rfl) (fun p e s m args below meth c hargs S hml hr hlk hnm hsz htt hK hA hZ E ls hl => ?_)
  have hx := S.1
  have hb := S.2.1
  have hl : lv_has ls 4 [(0, .ref a), (1, .int v)] := hl
  have L5 : ∀ (k i : Nat), i + k = n → ∀ (H : Heap) (locs : List Loc), Ev g (va_A [(a, .inl (g.2.1 0, n, .inl f))] sz) s.heap H locs [(a, .inl (g.2.1 0, n, .inl (filled i v f)))] → ∀ ls : Array Slot, lv_has ls 4 [(0, .ref a), (1, .int v), (2, .int (nI i)), (3, .int (nI n))] → W p l e ({ frames := 0, cells := 0, slots := 0, locals := 0 } : Room) s m args below meth c H locs 0 0 (MQ below (va_Qv (fun _ => True) (AtX g (va_A [(a, .inl (g.2.1 0, n, .inl f))] sz) (fun _ : Unit => [(a, .inl (g.2.1 0, n, .inl (filled n v f)))]) (fun _ => (0, 0)) sz tt) (va_A [(a, .inl (g.2.1 0, n, .inl f))] sz)) args s 0 0 (va_A [(a, .inl (g.2.1 0, n, .inl f))] sz)) (F0 m 5 ls []) := by
    intro k
    induction k with
    | zero =>
      intro i hi H locs E ls hl
      have hin : i = n := by omega
      subst hin
      refine lv_iload_n hx hb dJ7_fill_53178_5 rfl (lv_at hl 2 rfl) ?_
      refine lv_iload_n hx hb dJ7_fill_53178_6 rfl (lv_at hl 3 rfl) ?_
      refine lv_icmp_ge (tgt := 20) hx hb dJ7_fill_53178_7 (by decide) (fun _ => ?_) (fun c_ => absurd (nI_le (Nat.le_refl _) (by omega)) c_)
      exact x_vret () S hr hlk hsz htt hK E dJ7_fill_53178_20 trivial rfl ⟨Nat.le_of_ble_eq_true rfl, Nat.le_of_ble_eq_true rfl⟩ ⟨Nat.le_of_ble_eq_true rfl, Nat.le_of_ble_eq_true rfl⟩
    | succ k ih =>
      intro i hi H locs E ls hl
      refine lv_iload_n hx hb dJ7_fill_53178_5 rfl (lv_at hl 2 rfl) ?_
      refine lv_iload_n hx hb dJ7_fill_53178_6 rfl (lv_at hl 3 rfl) ?_
      refine lv_icmp_ge (tgt := 20) hx hb dJ7_fill_53178_7 (by decide) (fun c_ => absurd c_ (nI_ge (by omega) (by omega))) (fun _ => ?_)
      refine lv_aload_n hx hb dJ7_fill_53178_10 rfl (lv_at hl 0 rfl) ?_
      refine lv_iload_n hx hb dJ7_fill_53178_11 rfl (lv_at hl 2 rfl) ?_
      refine lv_iload_n hx hb dJ7_fill_53178_12 rfl (lv_at hl 1 rfl) ?_
      refine w_ist (w' := [(a, .inl (g.2.1 0, n, .inl (filled (i + 1) v f)))]) S hK E 0 0 rfl rfl (vp_in_nI (by omega) (by omega)) (by rw [filled_1 (by omega)]; rfl) dJ7_fill_53178_13 (fun H locs E => ?_)
      refine lv_iinc (v := (nI (i + 1))) (lv' := [(2, .int (nI (i + 1))), (0, .ref a), (1, .int v), (3, .int (nI n))]) hx hb dJ7_fill_53178_14 hl (k := 2) rfl (nI_1 i) (by decide) rfl (fun ls hl => ?_)
      refine lv_goto (tgt := 5) hx hb dJ7_fill_53178_17 (by decide) ?_
      exact ih (i + 1) (by omega) _ _ E ls (lv_sub hl [1, 2, 0, 3] rfl)
  refine lv_iconst (v := 0) hx hb dJ7_fill_53178_0 (by decide) ?_
  refine lv_istore_n (lv' := [(2, .int 0), (0, .ref a), (1, .int v)]) hx hb dJ7_fill_53178_1 rfl hl (by decide) rfl (fun ls hl => ?_)
  refine lv_aload_n hx hb dJ7_fill_53178_2 rfl (lv_at hl 1 rfl) ?_
  refine w_alen (v := nI n) S hK E 0 0 rfl rfl rfl dJ7_fill_53178_3 ?_
  refine lv_istore_n (lv' := [(3, .int (nI n)), (2, .int 0), (0, .ref a), (1, .int v)]) hx hb dJ7_fill_53178_4 rfl hl (by decide) rfl (fun ls hl => ?_)
  exact L5 n 0 (by omega) _ _ (by rw [filled_0]; exact E) ls (lv_sub hl [2, 3, 1, 0] rfl)
set_option maxHeartbeats 4000000 in
set_option maxRecDepth 100000 in
/-- new Call -/
theorem c_X1_init (l : Launch) (g : Gm) (q : Nat) (f0 f1 f2 f3 f4 x y z w v : Int32) : MXv (S := Unit) l g yX1_init cX1_init 6 ({ frames := 1, cells := 0, slots := 0, locals := 12 } : Room) [.ref q, .int x, .int y, .int z, .int w, .int v] [(q, .inr (1, [.int f0, .int f1, .int f2, .int f3, .int f4]))] (fun _ => True) (fun _ => [(q, .inr (1, [.int x, .int y, .int z, .int w, .int v]))]) (fun _ => (0, 0)) := by
  intro sz tt
  refine ofX RX1 rfl (by decide +kernel) (Nat.le_of_ble_eq_true rfl) (fun p e s m args below meth c hargs S hml hr hlk hnm hsz htt hK hA hZ E ls hl => ?_)
  have hx := S.1
  have hb := S.2.1
  have hl : lv_has ls 6 [(0, .ref q), (1, .int x), (2, .int y), (3, .int z), (4, .int w), (5, .int v)] := hl
  refine lv_aload_n hx hb dX1_init_0 rfl (lv_at hl 0 rfl) ?_
  refine w_obj S hml hl ml_X1_1 (Nat.le_of_ble_eq_true rfl) (Nat.le_of_ble_eq_true rfl) dX1_init_1 ?_
  refine lv_aload_n hx hb dX1_init_4 rfl (lv_at hl 0 rfl) ?_
  refine lv_iload_n hx hb dX1_init_5 rfl (lv_at hl 1 rfl) ?_
  refine wpF_X1_7 (w' := [(q, .inr (1, [.int x, .int f1, .int f2, .int f3, .int f4]))]) S hK E 0 hnm rfl rfl rfl (Nat.le_of_ble_eq_true rfl) rfl dX1_init_6 (fun H locs E => ?_)
  refine lv_aload_n hx hb dX1_init_9 rfl (lv_at hl 0 rfl) ?_
  refine lv_iload_n hx hb dX1_init_10 rfl (lv_at hl 2 rfl) ?_
  refine wpF_X1_13 (w' := [(q, .inr (1, [.int x, .int y, .int f2, .int f3, .int f4]))]) S hK E 0 hnm rfl rfl rfl (Nat.le_of_ble_eq_true rfl) rfl dX1_init_11 (fun H locs E => ?_)
  refine lv_aload_n hx hb dX1_init_14 rfl (lv_at hl 0 rfl) ?_
  refine lv_iload_n hx hb dX1_init_15 rfl (lv_at hl 3 rfl) ?_
  refine wpF_X1_16 (w' := [(q, .inr (1, [.int x, .int y, .int z, .int f3, .int f4]))]) S hK E 0 hnm rfl rfl rfl (Nat.le_of_ble_eq_true rfl) rfl dX1_init_16 (fun H locs E => ?_)
  refine lv_aload_n hx hb dX1_init_19 rfl (lv_at hl 0 rfl) ?_
  refine lv_iload hx hb dX1_init_20 (lv_at hl 4 rfl) ?_
  refine wpF_X1_19 (w' := [(q, .inr (1, [.int x, .int y, .int z, .int w, .int f4]))]) S hK E 0 hnm rfl rfl rfl (Nat.le_of_ble_eq_true rfl) rfl dX1_init_22 (fun H locs E => ?_)
  refine lv_aload_n hx hb dX1_init_25 rfl (lv_at hl 0 rfl) ?_
  refine lv_iload hx hb dX1_init_26 (lv_at hl 5 rfl) ?_
  refine wpF_X1_22 (w' := [(q, .inr (1, [.int x, .int y, .int z, .int w, .int v]))]) S hK E 0 hnm rfl rfl rfl (Nat.le_of_ble_eq_true rfl) rfl dX1_init_28 (fun H locs E => ?_)
  exact x_vret () S hr hlk hsz htt hK E dX1_init_31 trivial rfl ⟨Nat.le_of_ble_eq_true rfl, Nat.le_of_ble_eq_true rfl⟩ ⟨Nat.le_of_ble_eq_true rfl, Nat.le_of_ble_eq_true rfl⟩

set_option maxHeartbeats 4000000 in
set_option maxRecDepth 100000 in
/-- new Books -/
theorem c_X0_init (l : Launch) (g : Gm) (a : Nat) : MXv (S := Nat → Nat) l g yX0_init cX0_init 1 ({ frames := 1, cells := 1, slots := 9, locals := 12 } : Room) [.ref a] [(a, .inr (0, [.null]))] (fun _ => True) (fun u => [(a, .inr (0, [.ref (u 0)])), (u 0, .inl (g.2.1 1, 9, .inr (.inl (fun _ => 0))))]) (fun _ => (1, 9)) := by
  intro sz tt
  refine ofX RX0 rfl (by decide +kernel) (Nat.le_of_ble_eq_true rfl) (fun p e s m args below meth c hargs S hml hr hlk hnm hsz htt hK hA hZ E ls hl => ?_)
  have hx := S.1
  have hb := S.2.1
  have hl : lv_has ls 1 [(0, .ref a)] := hl
  refine lv_aload_n hx hb dX0_init_0 rfl (lv_at hl 0 rfl) ?_
  refine w_obj S hml hl ml_X0_1 (Nat.le_of_ble_eq_true rfl) (Nat.le_of_ble_eq_true rfl) dX0_init_1 ?_
  refine lv_aload_n hx hb dX0_init_4 rfl (lv_at hl 0 rfl) ?_
  refine lv_bipush (v := 9) hx hb dX0_init_5 (by decide) ?_
  refine w_newa (atype := .long) (ty := .long) (a0 := (9, .inr (.inl (fun _ => 0)))) (N' := 9) 1 S hK E hA ac_long rfl rfl (fun C h => by cases h) (fun cA => by first | rfl | (rw [vp_cell_l]; rfl)) (by decide) (by decide) (by decide) (Nat.le_of_ble_eq_true rfl) (Nat.le_of_ble_eq_true rfl) dX0_init_7 (fun q1 H E => ?_)
  have E : Ev g _ s.heap H _ [(a, .inr (0, [.null])), (q1, .inl (g.2.1 1, 9, .inr (.inl (fun _ => 0))))] := E
  refine wpF_X0_7 (w' := [(a, .inr (0, [.ref q1])), (q1, .inl (g.2.1 1, 9, .inr (.inl (fun _ => 0))))]) S hK E 0 hnm rfl rfl rfl (Nat.le_of_ble_eq_true rfl) rfl dX0_init_9 (fun H locs E => ?_)
  exact x_vret (fun _ => q1) S hr hlk hsz htt hK E dX0_init_12 trivial rfl ⟨Nat.le_of_ble_eq_true rfl, Nat.le_of_ble_eq_true rfl⟩ ⟨Nat.le_of_ble_eq_true rfl, Nat.le_of_ble_eq_true rfl⟩

set_option maxHeartbeats 4000000 in
set_option maxRecDepth 100000 in
/-- new Cells -/
theorem c_X2_init (l : Launch) (g : Gm) (a : Nat) : MXv (S := Nat → Nat) l g yX2_init cX2_init 1 ({ frames := 1, cells := 4, slots := 64, locals := 23 } : Room) [.ref a] [(a, .inr (2, [.null, .null, .null, .null]))] (fun _ => True) (fun u => [(a, .inr (2, [.ref (u 0), .ref (u 1), .ref (u 2), .ref (u 3)])), (u 0, .inl (g.2.1 0, 16, .inl (fun _ => 0))), (u 2, .inl (g.2.1 0, 16, .inl (fun _ => 0))), (u 3, .inl (g.2.1 0, 16, .inl (fun _ => 0))), (u 1, .inl (g.2.1 0, 16, .inl (filled 16 10 (fun _ => 0))))]) (fun _ => (4, 64)) := by
  intro sz tt
  refine ofX RX2 rfl (by decide +kernel) (Nat.le_of_ble_eq_true rfl) (fun p e s m args below meth c hargs S hml hr hlk hnm hsz htt hK hA hZ E ls hl => ?_)
  have hx := S.1
  have hb := S.2.1
  have hl : lv_has ls 1 [(0, .ref a)] := hl
  refine lv_aload_n hx hb dX2_init_0 rfl (lv_at hl 0 rfl) ?_
  refine w_obj S hml hl ml_X2_3 (Nat.le_of_ble_eq_true rfl) (Nat.le_of_ble_eq_true rfl) dX2_init_1 ?_
  refine lv_aload_n hx hb dX2_init_4 rfl (lv_at hl 0 rfl) ?_
  refine lv_bipush (v := 16) hx hb dX2_init_5 (by decide) ?_
  refine w_newa (atype := .int) (ty := .int) (a0 := (16, .inl (fun _ => 0))) (N' := 16) 0 S hK E hA ac_int rfl rfl (fun C h => by cases h) (fun cA => by first | rfl | (rw [vp_cell_i]; rfl)) (by decide) (by decide) (by decide) (Nat.le_of_ble_eq_true rfl) (Nat.le_of_ble_eq_true rfl) dX2_init_7 (fun q1 H E => ?_)
  have E : Ev g _ s.heap H _ [(a, .inr (2, [.null, .null, .null, .null])), (q1, .inl (g.2.1 0, 16, .inl (fun _ => 0)))] := E
  refine wpF_X2_9 (w' := [(a, .inr (2, [.ref q1, .null, .null, .null])), (q1, .inl (g.2.1 0, 16, .inl (fun _ => 0)))]) S hK E 0 hnm rfl rfl rfl (Nat.le_of_ble_eq_true rfl) rfl dX2_init_9 (fun H locs E => ?_)
  refine lv_aload_n hx hb dX2_init_12 rfl (lv_at hl 0 rfl) ?_
  refine lv_bipush (v := 16) hx hb dX2_init_13 (by decide) ?_
  refine w_newa (atype := .int) (ty := .int) (a0 := (16, .inl (fun _ => 0))) (N' := 16) 0 S hK E hA ac_int rfl rfl (fun C h => by cases h) (fun cA => by first | rfl | (rw [vp_cell_i]; rfl)) (by decide) (by decide) (by decide) (Nat.le_of_ble_eq_true rfl) (Nat.le_of_ble_eq_true rfl) dX2_init_15 (fun q2 H E => ?_)
  have E : Ev g _ s.heap H _ [(a, .inr (2, [.ref q1, .null, .null, .null])), (q1, .inl (g.2.1 0, 16, .inl (fun _ => 0))), (q2, .inl (g.2.1 0, 16, .inl (fun _ => 0)))] := E
  refine wpF_X2_15 (w' := [(a, .inr (2, [.ref q1, .ref q2, .null, .null])), (q1, .inl (g.2.1 0, 16, .inl (fun _ => 0))), (q2, .inl (g.2.1 0, 16, .inl (fun _ => 0)))]) S hK E 0 hnm rfl rfl rfl (Nat.le_of_ble_eq_true rfl) rfl dX2_init_17 (fun H locs E => ?_)
  refine lv_aload_n hx hb dX2_init_20 rfl (lv_at hl 0 rfl) ?_
  refine lv_bipush (v := 16) hx hb dX2_init_21 (by decide) ?_
  refine w_newa (atype := .int) (ty := .int) (a0 := (16, .inl (fun _ => 0))) (N' := 16) 0 S hK E hA ac_int rfl rfl (fun C h => by cases h) (fun cA => by first | rfl | (rw [vp_cell_i]; rfl)) (by decide) (by decide) (by decide) (Nat.le_of_ble_eq_true rfl) (Nat.le_of_ble_eq_true rfl) dX2_init_23 (fun q3 H E => ?_)
  have E : Ev g _ s.heap H _ [(a, .inr (2, [.ref q1, .ref q2, .null, .null])), (q1, .inl (g.2.1 0, 16, .inl (fun _ => 0))), (q2, .inl (g.2.1 0, 16, .inl (fun _ => 0))), (q3, .inl (g.2.1 0, 16, .inl (fun _ => 0)))] := E
  refine wpF_X2_18 (w' := [(a, .inr (2, [.ref q1, .ref q2, .ref q3, .null])), (q1, .inl (g.2.1 0, 16, .inl (fun _ => 0))), (q2, .inl (g.2.1 0, 16, .inl (fun _ => 0))), (q3, .inl (g.2.1 0, 16, .inl (fun _ => 0)))]) S hK E 0 hnm rfl rfl rfl (Nat.le_of_ble_eq_true rfl) rfl dX2_init_25 (fun H locs E => ?_)
  refine lv_aload_n hx hb dX2_init_28 rfl (lv_at hl 0 rfl) ?_
  refine lv_bipush (v := 16) hx hb dX2_init_29 (by decide) ?_
  refine w_newa (atype := .int) (ty := .int) (a0 := (16, .inl (fun _ => 0))) (N' := 16) 0 S hK E hA ac_int rfl rfl (fun C h => by cases h) (fun cA => by first | rfl | (rw [vp_cell_i]; rfl)) (by decide) (by decide) (by decide) (Nat.le_of_ble_eq_true rfl) (Nat.le_of_ble_eq_true rfl) dX2_init_31 (fun q4 H E => ?_)
  have E : Ev g _ s.heap H _ [(a, .inr (2, [.ref q1, .ref q2, .ref q3, .null])), (q1, .inl (g.2.1 0, 16, .inl (fun _ => 0))), (q2, .inl (g.2.1 0, 16, .inl (fun _ => 0))), (q3, .inl (g.2.1 0, 16, .inl (fun _ => 0))), (q4, .inl (g.2.1 0, 16, .inl (fun _ => 0)))] := E
  refine wpF_X2_21 (w' := [(a, .inr (2, [.ref q1, .ref q2, .ref q3, .ref q4])), (q1, .inl (g.2.1 0, 16, .inl (fun _ => 0))), (q2, .inl (g.2.1 0, 16, .inl (fun _ => 0))), (q3, .inl (g.2.1 0, 16, .inl (fun _ => 0))), (q4, .inl (g.2.1 0, 16, .inl (fun _ => 0)))]) S hK E 0 hnm rfl rfl rfl (Nat.le_of_ble_eq_true rfl) rfl dX2_init_33 (fun H locs E => ?_)
  refine lv_aload_n hx hb dX2_init_36 rfl (lv_at hl 0 rfl) ?_
  refine wg_X2_15 (v := .ref q2) S hK E 0 rfl rfl dX2_init_37 ?_
  refine lv_bipush (v := 10) hx hb dX2_init_40 (by decide) ?_
  refine w_retv (runS_X (As := [.ref q2, .int 10]) (rest := []) (n := 2) S hml hK (hZ.at E) (Cut.of (wc := [(q2, .inl (g.2.1 0, 16, .inl (fun _ => 0)))]) (wr := [(a, .inr (2, [.ref q1, .ref q2, .ref q3, .ref q4])), (q1, .inl (g.2.1 0, 16, .inl (fun _ => 0))), (q3, .inl (g.2.1 0, 16, .inl (fun _ => 0))), (q4, .inl (g.2.1 0, 16, .inl (fun _ => 0)))]) E hA [2] [0, 1, 3, 4] rfl rfl rfl rfl (by decide)) (c_J7_fill_53178 l g q2 16 10 (fun _ => 0) (by decide) _ _) ml_X2_24 st_J7_fill_53178 in_J7 co_J7_fill_53178 ⟨by decide +kernel, by decide +kernel, by decide +kernel⟩ ⟨Nat.le_of_ble_eq_true rfl, Nat.le_of_ble_eq_true rfl⟩ rfl hl.1 rfl (Nat.le_of_ble_eq_true rfl) dX2_init_42 ⟨Nat.le_of_ble_eq_true rfl, Nat.le_of_ble_eq_true rfl⟩) (Cut.of (wc := [(q2, .inl (g.2.1 0, 16, .inl (fun _ => 0)))]) (wr := [(a, .inr (2, [.ref q1, .ref q2, .ref q3, .ref q4])), (q1, .inl (g.2.1 0, 16, .inl (fun _ => 0))), (q3, .inl (g.2.1 0, 16, .inl (fun _ => 0))), (q4, .inl (g.2.1 0, 16, .inl (fun _ => 0)))]) E hA [2] [0, 1, 3, 4] rfl rfl rfl rfl (by decide)) E (fun u H locs hp E => ?_)
  have E : Ev g _ s.heap H locs [(a, .inr (2, [.ref q1, .ref q2, .ref q3, .ref q4])), (q1, .inl (g.2.1 0, 16, .inl (fun _ => 0))), (q3, .inl (g.2.1 0, 16, .inl (fun _ => 0))), (q4, .inl (g.2.1 0, 16, .inl (fun _ => 0))), (q2, .inl (g.2.1 0, 16, .inl (filled 16 10 (fun _ => 0))))] := E
  exact x_vret (fun k => match k with | 0 => q1 | 1 => q2 | 2 => q3 | _ => q4) S hr hlk hsz htt hK E dX2_init_45 trivial rfl ⟨Nat.le_of_ble_eq_true rfl, Nat.le_of_ble_eq_true rfl⟩ ⟨Nat.le_of_ble_eq_true rfl, Nat.le_of_ble_eq_true rfl⟩

set_option maxHeartbeats 4000000 in
set_option maxRecDepth 100000 in
/-- new Land -/
theorem c_X3_init (l : Launch) (g : Gm) (a : Nat) : MXv (S := Nat → Nat) l g yX3_init cX3_init 1 ({ frames := 1, cells := 6, slots := 42, locals := 23 } : Room) [.ref a] [(a, .inr (3, [.null, .null, .null, .null, .null, .null, .int 0, .int 0]))] (fun _ => True) (fun u => [(a, .inr (3, [.ref (u 0), .ref (u 1), .ref (u 2), .ref (u 3), .ref (u 4), .ref (u 5), .int 0, .int 0])), (u 2, .inl (g.2.1 0, 8, .inl (fun _ => 0))), (u 3, .inl (g.2.1 0, 8, .inl (fun _ => 0))), (u 4, .inl (g.2.1 0, 8, .inl (fun _ => 0))), (u 5, .inl (g.2.1 0, 8, .inl (fun _ => 0))), (u 0, .inl (g.2.1 0, 8, .inl (filled 8 100 (fun _ => 0)))), (u 1, .inl (g.2.1 0, 2, .inl (filled 2 4 (fun _ => 0))))]) (fun _ => (6, 42)) := by
  intro sz tt
  refine ofX RX3 rfl (by decide +kernel) (Nat.le_of_ble_eq_true rfl) (fun p e s m args below meth c hargs S hml hr hlk hnm hsz htt hK hA hZ E ls hl => ?_)
  have hx := S.1
  have hb := S.2.1
  have hl : lv_has ls 1 [(0, .ref a)] := hl
  refine lv_aload_n hx hb dX3_init_0 rfl (lv_at hl 0 rfl) ?_
  refine w_obj S hml hl ml_X3_3 (Nat.le_of_ble_eq_true rfl) (Nat.le_of_ble_eq_true rfl) dX3_init_1 ?_
  refine lv_aload_n hx hb dX3_init_4 rfl (lv_at hl 0 rfl) ?_
  refine lv_bipush (v := 8) hx hb dX3_init_5 (by decide) ?_
  refine w_newa (atype := .int) (ty := .int) (a0 := (8, .inl (fun _ => 0))) (N' := 8) 0 S hK E hA ac_int rfl rfl (fun C h => by cases h) (fun cA => by first | rfl | (rw [vp_cell_i]; rfl)) (by decide) (by decide) (by decide) (Nat.le_of_ble_eq_true rfl) (Nat.le_of_ble_eq_true rfl) dX3_init_7 (fun q1 H E => ?_)
  have E : Ev g _ s.heap H _ [(a, .inr (3, [.null, .null, .null, .null, .null, .null, .int 0, .int 0])), (q1, .inl (g.2.1 0, 8, .inl (fun _ => 0)))] := E
  refine wpF_X3_9 (w' := [(a, .inr (3, [.ref q1, .null, .null, .null, .null, .null, .int 0, .int 0])), (q1, .inl (g.2.1 0, 8, .inl (fun _ => 0)))]) S hK E 0 hnm rfl rfl rfl (Nat.le_of_ble_eq_true rfl) rfl dX3_init_9 (fun H locs E => ?_)
  refine lv_aload_n hx hb dX3_init_12 rfl (lv_at hl 0 rfl) ?_
  refine lv_iconst (v := 2) hx hb dX3_init_13 (by decide) ?_
  refine w_newa (atype := .int) (ty := .int) (a0 := (2, .inl (fun _ => 0))) (N' := 2) 0 S hK E hA ac_int rfl rfl (fun C h => by cases h) (fun cA => by first | rfl | (rw [vp_cell_i]; rfl)) (by decide) (by decide) (by decide) (Nat.le_of_ble_eq_true rfl) (Nat.le_of_ble_eq_true rfl) dX3_init_14 (fun q2 H E => ?_)
  have E : Ev g _ s.heap H _ [(a, .inr (3, [.ref q1, .null, .null, .null, .null, .null, .int 0, .int 0])), (q1, .inl (g.2.1 0, 8, .inl (fun _ => 0))), (q2, .inl (g.2.1 0, 2, .inl (fun _ => 0)))] := E
  refine wpF_X3_15 (w' := [(a, .inr (3, [.ref q1, .ref q2, .null, .null, .null, .null, .int 0, .int 0])), (q1, .inl (g.2.1 0, 8, .inl (fun _ => 0))), (q2, .inl (g.2.1 0, 2, .inl (fun _ => 0)))]) S hK E 0 hnm rfl rfl rfl (Nat.le_of_ble_eq_true rfl) rfl dX3_init_16 (fun H locs E => ?_)
  refine lv_aload_n hx hb dX3_init_19 rfl (lv_at hl 0 rfl) ?_
  refine lv_bipush (v := 8) hx hb dX3_init_20 (by decide) ?_
  refine w_newa (atype := .int) (ty := .int) (a0 := (8, .inl (fun _ => 0))) (N' := 8) 0 S hK E hA ac_int rfl rfl (fun C h => by cases h) (fun cA => by first | rfl | (rw [vp_cell_i]; rfl)) (by decide) (by decide) (by decide) (Nat.le_of_ble_eq_true rfl) (Nat.le_of_ble_eq_true rfl) dX3_init_22 (fun q3 H E => ?_)
  have E : Ev g _ s.heap H _ [(a, .inr (3, [.ref q1, .ref q2, .null, .null, .null, .null, .int 0, .int 0])), (q1, .inl (g.2.1 0, 8, .inl (fun _ => 0))), (q2, .inl (g.2.1 0, 2, .inl (fun _ => 0))), (q3, .inl (g.2.1 0, 8, .inl (fun _ => 0)))] := E
  refine wpF_X3_18 (w' := [(a, .inr (3, [.ref q1, .ref q2, .ref q3, .null, .null, .null, .int 0, .int 0])), (q1, .inl (g.2.1 0, 8, .inl (fun _ => 0))), (q2, .inl (g.2.1 0, 2, .inl (fun _ => 0))), (q3, .inl (g.2.1 0, 8, .inl (fun _ => 0)))]) S hK E 0 hnm rfl rfl rfl (Nat.le_of_ble_eq_true rfl) rfl dX3_init_24 (fun H locs E => ?_)
  refine lv_aload_n hx hb dX3_init_27 rfl (lv_at hl 0 rfl) ?_
  refine lv_bipush (v := 8) hx hb dX3_init_28 (by decide) ?_
  refine w_newa (atype := .int) (ty := .int) (a0 := (8, .inl (fun _ => 0))) (N' := 8) 0 S hK E hA ac_int rfl rfl (fun C h => by cases h) (fun cA => by first | rfl | (rw [vp_cell_i]; rfl)) (by decide) (by decide) (by decide) (Nat.le_of_ble_eq_true rfl) (Nat.le_of_ble_eq_true rfl) dX3_init_30 (fun q4 H E => ?_)
  have E : Ev g _ s.heap H _ [(a, .inr (3, [.ref q1, .ref q2, .ref q3, .null, .null, .null, .int 0, .int 0])), (q1, .inl (g.2.1 0, 8, .inl (fun _ => 0))), (q2, .inl (g.2.1 0, 2, .inl (fun _ => 0))), (q3, .inl (g.2.1 0, 8, .inl (fun _ => 0))), (q4, .inl (g.2.1 0, 8, .inl (fun _ => 0)))] := E
  refine wpF_X3_21 (w' := [(a, .inr (3, [.ref q1, .ref q2, .ref q3, .ref q4, .null, .null, .int 0, .int 0])), (q1, .inl (g.2.1 0, 8, .inl (fun _ => 0))), (q2, .inl (g.2.1 0, 2, .inl (fun _ => 0))), (q3, .inl (g.2.1 0, 8, .inl (fun _ => 0))), (q4, .inl (g.2.1 0, 8, .inl (fun _ => 0)))]) S hK E 0 hnm rfl rfl rfl (Nat.le_of_ble_eq_true rfl) rfl dX3_init_32 (fun H locs E => ?_)
  refine lv_aload_n hx hb dX3_init_35 rfl (lv_at hl 0 rfl) ?_
  refine lv_bipush (v := 8) hx hb dX3_init_36 (by decide) ?_
  refine w_newa (atype := .int) (ty := .int) (a0 := (8, .inl (fun _ => 0))) (N' := 8) 0 S hK E hA ac_int rfl rfl (fun C h => by cases h) (fun cA => by first | rfl | (rw [vp_cell_i]; rfl)) (by decide) (by decide) (by decide) (Nat.le_of_ble_eq_true rfl) (Nat.le_of_ble_eq_true rfl) dX3_init_38 (fun q5 H E => ?_)
  have E : Ev g _ s.heap H _ [(a, .inr (3, [.ref q1, .ref q2, .ref q3, .ref q4, .null, .null, .int 0, .int 0])), (q1, .inl (g.2.1 0, 8, .inl (fun _ => 0))), (q2, .inl (g.2.1 0, 2, .inl (fun _ => 0))), (q3, .inl (g.2.1 0, 8, .inl (fun _ => 0))), (q4, .inl (g.2.1 0, 8, .inl (fun _ => 0))), (q5, .inl (g.2.1 0, 8, .inl (fun _ => 0)))] := E
  refine wpF_X3_24 (w' := [(a, .inr (3, [.ref q1, .ref q2, .ref q3, .ref q4, .ref q5, .null, .int 0, .int 0])), (q1, .inl (g.2.1 0, 8, .inl (fun _ => 0))), (q2, .inl (g.2.1 0, 2, .inl (fun _ => 0))), (q3, .inl (g.2.1 0, 8, .inl (fun _ => 0))), (q4, .inl (g.2.1 0, 8, .inl (fun _ => 0))), (q5, .inl (g.2.1 0, 8, .inl (fun _ => 0)))]) S hK E 0 hnm rfl rfl rfl (Nat.le_of_ble_eq_true rfl) rfl dX3_init_40 (fun H locs E => ?_)
  refine lv_aload_n hx hb dX3_init_43 rfl (lv_at hl 0 rfl) ?_
  refine lv_bipush (v := 8) hx hb dX3_init_44 (by decide) ?_
  refine w_newa (atype := .int) (ty := .int) (a0 := (8, .inl (fun _ => 0))) (N' := 8) 0 S hK E hA ac_int rfl rfl (fun C h => by cases h) (fun cA => by first | rfl | (rw [vp_cell_i]; rfl)) (by decide) (by decide) (by decide) (Nat.le_of_ble_eq_true rfl) (Nat.le_of_ble_eq_true rfl) dX3_init_46 (fun q6 H E => ?_)
  have E : Ev g _ s.heap H _ [(a, .inr (3, [.ref q1, .ref q2, .ref q3, .ref q4, .ref q5, .null, .int 0, .int 0])), (q1, .inl (g.2.1 0, 8, .inl (fun _ => 0))), (q2, .inl (g.2.1 0, 2, .inl (fun _ => 0))), (q3, .inl (g.2.1 0, 8, .inl (fun _ => 0))), (q4, .inl (g.2.1 0, 8, .inl (fun _ => 0))), (q5, .inl (g.2.1 0, 8, .inl (fun _ => 0))), (q6, .inl (g.2.1 0, 8, .inl (fun _ => 0)))] := E
  refine wpF_X3_27 (w' := [(a, .inr (3, [.ref q1, .ref q2, .ref q3, .ref q4, .ref q5, .ref q6, .int 0, .int 0])), (q1, .inl (g.2.1 0, 8, .inl (fun _ => 0))), (q2, .inl (g.2.1 0, 2, .inl (fun _ => 0))), (q3, .inl (g.2.1 0, 8, .inl (fun _ => 0))), (q4, .inl (g.2.1 0, 8, .inl (fun _ => 0))), (q5, .inl (g.2.1 0, 8, .inl (fun _ => 0))), (q6, .inl (g.2.1 0, 8, .inl (fun _ => 0)))]) S hK E 0 hnm rfl rfl rfl (Nat.le_of_ble_eq_true rfl) rfl dX3_init_48 (fun H locs E => ?_)
  refine lv_aload_n hx hb dX3_init_51 rfl (lv_at hl 0 rfl) ?_
  refine wg_X3_9 (v := .ref q1) S hK E 0 rfl rfl dX3_init_52 ?_
  refine lv_bipush (v := 100) hx hb dX3_init_55 (by decide) ?_
  refine w_retv (runS_X (As := [.ref q1, .int 100]) (rest := []) (n := 2) S hml hK (hZ.at E) (Cut.of (wc := [(q1, .inl (g.2.1 0, 8, .inl (fun _ => 0)))]) (wr := [(a, .inr (3, [.ref q1, .ref q2, .ref q3, .ref q4, .ref q5, .ref q6, .int 0, .int 0])), (q2, .inl (g.2.1 0, 2, .inl (fun _ => 0))), (q3, .inl (g.2.1 0, 8, .inl (fun _ => 0))), (q4, .inl (g.2.1 0, 8, .inl (fun _ => 0))), (q5, .inl (g.2.1 0, 8, .inl (fun _ => 0))), (q6, .inl (g.2.1 0, 8, .inl (fun _ => 0)))]) E hA [1] [0, 2, 3, 4, 5, 6] rfl rfl rfl rfl (by decide)) (c_J7_fill_53178 l g q1 8 100 (fun _ => 0) (by decide) _ _) ml_X3_30 st_J7_fill_53178 in_J7 co_J7_fill_53178 ⟨by decide +kernel, by decide +kernel, by decide +kernel⟩ ⟨Nat.le_of_ble_eq_true rfl, Nat.le_of_ble_eq_true rfl⟩ rfl hl.1 rfl (Nat.le_of_ble_eq_true rfl) dX3_init_57 ⟨Nat.le_of_ble_eq_true rfl, Nat.le_of_ble_eq_true rfl⟩) (Cut.of (wc := [(q1, .inl (g.2.1 0, 8, .inl (fun _ => 0)))]) (wr := [(a, .inr (3, [.ref q1, .ref q2, .ref q3, .ref q4, .ref q5, .ref q6, .int 0, .int 0])), (q2, .inl (g.2.1 0, 2, .inl (fun _ => 0))), (q3, .inl (g.2.1 0, 8, .inl (fun _ => 0))), (q4, .inl (g.2.1 0, 8, .inl (fun _ => 0))), (q5, .inl (g.2.1 0, 8, .inl (fun _ => 0))), (q6, .inl (g.2.1 0, 8, .inl (fun _ => 0)))]) E hA [1] [0, 2, 3, 4, 5, 6] rfl rfl rfl rfl (by decide)) E (fun u H locs hp E => ?_)
  have E : Ev g _ s.heap H locs [(a, .inr (3, [.ref q1, .ref q2, .ref q3, .ref q4, .ref q5, .ref q6, .int 0, .int 0])), (q2, .inl (g.2.1 0, 2, .inl (fun _ => 0))), (q3, .inl (g.2.1 0, 8, .inl (fun _ => 0))), (q4, .inl (g.2.1 0, 8, .inl (fun _ => 0))), (q5, .inl (g.2.1 0, 8, .inl (fun _ => 0))), (q6, .inl (g.2.1 0, 8, .inl (fun _ => 0))), (q1, .inl (g.2.1 0, 8, .inl (filled 8 100 (fun _ => 0))))] := E
  refine lv_aload_n hx hb dX3_init_60 rfl (lv_at hl 0 rfl) ?_
  refine wg_X3_15 (v := .ref q2) S hK E 0 rfl rfl dX3_init_61 ?_
  refine lv_iconst (v := 4) hx hb dX3_init_64 (by decide) ?_
  refine w_retv (runS_X (As := [.ref q2, .int 4]) (rest := []) (n := 2) S hml hK (hZ.at E) (Cut.of (wc := [(q2, .inl (g.2.1 0, 2, .inl (fun _ => 0)))]) (wr := [(a, .inr (3, [.ref q1, .ref q2, .ref q3, .ref q4, .ref q5, .ref q6, .int 0, .int 0])), (q3, .inl (g.2.1 0, 8, .inl (fun _ => 0))), (q4, .inl (g.2.1 0, 8, .inl (fun _ => 0))), (q5, .inl (g.2.1 0, 8, .inl (fun _ => 0))), (q6, .inl (g.2.1 0, 8, .inl (fun _ => 0))), (q1, .inl (g.2.1 0, 8, .inl (filled 8 100 (fun _ => 0))))]) E hA [1] [0, 2, 3, 4, 5, 6] rfl rfl rfl rfl (by decide)) (c_J7_fill_53178 l g q2 2 4 (fun _ => 0) (by decide) _ _) ml_X3_30 st_J7_fill_53178 in_J7 co_J7_fill_53178 ⟨by decide +kernel, by decide +kernel, by decide +kernel⟩ ⟨Nat.le_of_ble_eq_true rfl, Nat.le_of_ble_eq_true rfl⟩ rfl hl.1 rfl (Nat.le_of_ble_eq_true rfl) dX3_init_65 ⟨Nat.le_of_ble_eq_true rfl, Nat.le_of_ble_eq_true rfl⟩) (Cut.of (wc := [(q2, .inl (g.2.1 0, 2, .inl (fun _ => 0)))]) (wr := [(a, .inr (3, [.ref q1, .ref q2, .ref q3, .ref q4, .ref q5, .ref q6, .int 0, .int 0])), (q3, .inl (g.2.1 0, 8, .inl (fun _ => 0))), (q4, .inl (g.2.1 0, 8, .inl (fun _ => 0))), (q5, .inl (g.2.1 0, 8, .inl (fun _ => 0))), (q6, .inl (g.2.1 0, 8, .inl (fun _ => 0))), (q1, .inl (g.2.1 0, 8, .inl (filled 8 100 (fun _ => 0))))]) E hA [1] [0, 2, 3, 4, 5, 6] rfl rfl rfl rfl (by decide)) E (fun u H locs hp E => ?_)
  have E : Ev g _ s.heap H locs [(a, .inr (3, [.ref q1, .ref q2, .ref q3, .ref q4, .ref q5, .ref q6, .int 0, .int 0])), (q3, .inl (g.2.1 0, 8, .inl (fun _ => 0))), (q4, .inl (g.2.1 0, 8, .inl (fun _ => 0))), (q5, .inl (g.2.1 0, 8, .inl (fun _ => 0))), (q6, .inl (g.2.1 0, 8, .inl (fun _ => 0))), (q1, .inl (g.2.1 0, 8, .inl (filled 8 100 (fun _ => 0)))), (q2, .inl (g.2.1 0, 2, .inl (filled 2 4 (fun _ => 0))))] := E
  exact x_vret (fun k => match k with | 0 => q1 | 1 => q2 | 2 => q3 | 3 => q4 | 4 => q5 | _ => q6) S hr hlk hsz htt hK E dX3_init_68 trivial rfl ⟨Nat.le_of_ble_eq_true rfl, Nat.le_of_ble_eq_true rfl⟩ ⟨Nat.le_of_ble_eq_true rfl, Nat.le_of_ble_eq_true rfl⟩

set_option maxHeartbeats 4000000 in
set_option maxRecDepth 100000 in
/-- new Wells -/
theorem c_X4_init (l : Launch) (g : Gm) (a : Nat) : MXv (S := Nat → Nat) l g yX4_init cX4_init 1 ({ frames := 1, cells := 10, slots := 60, locals := 12 } : Room) [.ref a] [(a, .inr (4, [.null, .null, .null, .null, .null, .null, .null, .null, .null, .null, .int 0]))] (fun _ => True) (fun u => [(a, .inr (4, [.ref (u 0), .ref (u 1), .ref (u 2), .ref (u 3), .ref (u 4), .ref (u 5), .ref (u 6), .ref (u 7), .ref (u 8), .ref (u 9), .int 0])), (u 0, .inl (g.2.1 0, 6, .inl (fun _ => 0))), (u 1, .inl (g.2.1 0, 6, .inl (fun _ => 0))), (u 2, .inl (g.2.1 0, 6, .inl (fun _ => 0))), (u 3, .inl (g.2.1 0, 6, .inl (fun _ => 0))), (u 4, .inl (g.2.1 0, 6, .inl (fun _ => 0))), (u 5, .inl (g.2.1 1, 6, .inr (.inl (fun _ => 0)))), (u 6, .inl (g.2.1 2, 6, .inl (fun _ => 0))), (u 7, .inl (g.2.1 0, 6, .inl (fun _ => 0))), (u 8, .inl (g.2.1 0, 6, .inl (fun _ => 0))), (u 9, .inl (g.2.1 0, 6, .inl (fun _ => 0)))]) (fun _ => (10, 60)) := by
  intro sz tt
  refine ofX RX4 rfl (by decide +kernel) (Nat.le_of_ble_eq_true rfl) (fun p e s m args below meth c hargs S hml hr hlk hnm hsz htt hK hA hZ E ls hl => ?_)
  have hx := S.1
  have hb := S.2.1
  have hl : lv_has ls 1 [(0, .ref a)] := hl
  refine lv_aload_n hx hb dX4_init_0 rfl (lv_at hl 0 rfl) ?_
  refine w_obj S hml hl ml_X4_3 (Nat.le_of_ble_eq_true rfl) (Nat.le_of_ble_eq_true rfl) dX4_init_1 ?_
  refine lv_aload_n hx hb dX4_init_4 rfl (lv_at hl 0 rfl) ?_
  refine lv_bipush (v := 6) hx hb dX4_init_5 (by decide) ?_
  refine w_newa (atype := .int) (ty := .int) (a0 := (6, .inl (fun _ => 0))) (N' := 6) 0 S hK E hA ac_int rfl rfl (fun C h => by cases h) (fun cA => by first | rfl | (rw [vp_cell_i]; rfl)) (by decide) (by decide) (by decide) (Nat.le_of_ble_eq_true rfl) (Nat.le_of_ble_eq_true rfl) dX4_init_7 (fun q1 H E => ?_)
  have E : Ev g _ s.heap H _ [(a, .inr (4, [.null, .null, .null, .null, .null, .null, .null, .null, .null, .null, .int 0])), (q1, .inl (g.2.1 0, 6, .inl (fun _ => 0)))] := E
  refine wpF_X4_9 (w' := [(a, .inr (4, [.ref q1, .null, .null, .null, .null, .null, .null, .null, .null, .null, .int 0])), (q1, .inl (g.2.1 0, 6, .inl (fun _ => 0)))]) S hK E 0 hnm rfl rfl rfl (Nat.le_of_ble_eq_true rfl) rfl dX4_init_9 (fun H locs E => ?_)
  refine lv_aload_n hx hb dX4_init_12 rfl (lv_at hl 0 rfl) ?_
  refine lv_bipush (v := 6) hx hb dX4_init_13 (by decide) ?_
  refine w_newa (atype := .int) (ty := .int) (a0 := (6, .inl (fun _ => 0))) (N' := 6) 0 S hK E hA ac_int rfl rfl (fun C h => by cases h) (fun cA => by first | rfl | (rw [vp_cell_i]; rfl)) (by decide) (by decide) (by decide) (Nat.le_of_ble_eq_true rfl) (Nat.le_of_ble_eq_true rfl) dX4_init_15 (fun q2 H E => ?_)
  have E : Ev g _ s.heap H _ [(a, .inr (4, [.ref q1, .null, .null, .null, .null, .null, .null, .null, .null, .null, .int 0])), (q1, .inl (g.2.1 0, 6, .inl (fun _ => 0))), (q2, .inl (g.2.1 0, 6, .inl (fun _ => 0)))] := E
  refine wpF_X4_15 (w' := [(a, .inr (4, [.ref q1, .ref q2, .null, .null, .null, .null, .null, .null, .null, .null, .int 0])), (q1, .inl (g.2.1 0, 6, .inl (fun _ => 0))), (q2, .inl (g.2.1 0, 6, .inl (fun _ => 0)))]) S hK E 0 hnm rfl rfl rfl (Nat.le_of_ble_eq_true rfl) rfl dX4_init_17 (fun H locs E => ?_)
  refine lv_aload_n hx hb dX4_init_20 rfl (lv_at hl 0 rfl) ?_
  refine lv_bipush (v := 6) hx hb dX4_init_21 (by decide) ?_
  refine w_newa (atype := .int) (ty := .int) (a0 := (6, .inl (fun _ => 0))) (N' := 6) 0 S hK E hA ac_int rfl rfl (fun C h => by cases h) (fun cA => by first | rfl | (rw [vp_cell_i]; rfl)) (by decide) (by decide) (by decide) (Nat.le_of_ble_eq_true rfl) (Nat.le_of_ble_eq_true rfl) dX4_init_23 (fun q3 H E => ?_)
  have E : Ev g _ s.heap H _ [(a, .inr (4, [.ref q1, .ref q2, .null, .null, .null, .null, .null, .null, .null, .null, .int 0])), (q1, .inl (g.2.1 0, 6, .inl (fun _ => 0))), (q2, .inl (g.2.1 0, 6, .inl (fun _ => 0))), (q3, .inl (g.2.1 0, 6, .inl (fun _ => 0)))] := E
  refine wpF_X4_18 (w' := [(a, .inr (4, [.ref q1, .ref q2, .ref q3, .null, .null, .null, .null, .null, .null, .null, .int 0])), (q1, .inl (g.2.1 0, 6, .inl (fun _ => 0))), (q2, .inl (g.2.1 0, 6, .inl (fun _ => 0))), (q3, .inl (g.2.1 0, 6, .inl (fun _ => 0)))]) S hK E 0 hnm rfl rfl rfl (Nat.le_of_ble_eq_true rfl) rfl dX4_init_25 (fun H locs E => ?_)
  refine lv_aload_n hx hb dX4_init_28 rfl (lv_at hl 0 rfl) ?_
  refine lv_bipush (v := 6) hx hb dX4_init_29 (by decide) ?_
  refine w_newa (atype := .int) (ty := .int) (a0 := (6, .inl (fun _ => 0))) (N' := 6) 0 S hK E hA ac_int rfl rfl (fun C h => by cases h) (fun cA => by first | rfl | (rw [vp_cell_i]; rfl)) (by decide) (by decide) (by decide) (Nat.le_of_ble_eq_true rfl) (Nat.le_of_ble_eq_true rfl) dX4_init_31 (fun q4 H E => ?_)
  have E : Ev g _ s.heap H _ [(a, .inr (4, [.ref q1, .ref q2, .ref q3, .null, .null, .null, .null, .null, .null, .null, .int 0])), (q1, .inl (g.2.1 0, 6, .inl (fun _ => 0))), (q2, .inl (g.2.1 0, 6, .inl (fun _ => 0))), (q3, .inl (g.2.1 0, 6, .inl (fun _ => 0))), (q4, .inl (g.2.1 0, 6, .inl (fun _ => 0)))] := E
  refine wpF_X4_21 (w' := [(a, .inr (4, [.ref q1, .ref q2, .ref q3, .ref q4, .null, .null, .null, .null, .null, .null, .int 0])), (q1, .inl (g.2.1 0, 6, .inl (fun _ => 0))), (q2, .inl (g.2.1 0, 6, .inl (fun _ => 0))), (q3, .inl (g.2.1 0, 6, .inl (fun _ => 0))), (q4, .inl (g.2.1 0, 6, .inl (fun _ => 0)))]) S hK E 0 hnm rfl rfl rfl (Nat.le_of_ble_eq_true rfl) rfl dX4_init_33 (fun H locs E => ?_)
  refine lv_aload_n hx hb dX4_init_36 rfl (lv_at hl 0 rfl) ?_
  refine lv_bipush (v := 6) hx hb dX4_init_37 (by decide) ?_
  refine w_newa (atype := .int) (ty := .int) (a0 := (6, .inl (fun _ => 0))) (N' := 6) 0 S hK E hA ac_int rfl rfl (fun C h => by cases h) (fun cA => by first | rfl | (rw [vp_cell_i]; rfl)) (by decide) (by decide) (by decide) (Nat.le_of_ble_eq_true rfl) (Nat.le_of_ble_eq_true rfl) dX4_init_39 (fun q5 H E => ?_)
  have E : Ev g _ s.heap H _ [(a, .inr (4, [.ref q1, .ref q2, .ref q3, .ref q4, .null, .null, .null, .null, .null, .null, .int 0])), (q1, .inl (g.2.1 0, 6, .inl (fun _ => 0))), (q2, .inl (g.2.1 0, 6, .inl (fun _ => 0))), (q3, .inl (g.2.1 0, 6, .inl (fun _ => 0))), (q4, .inl (g.2.1 0, 6, .inl (fun _ => 0))), (q5, .inl (g.2.1 0, 6, .inl (fun _ => 0)))] := E
  refine wpF_X4_24 (w' := [(a, .inr (4, [.ref q1, .ref q2, .ref q3, .ref q4, .ref q5, .null, .null, .null, .null, .null, .int 0])), (q1, .inl (g.2.1 0, 6, .inl (fun _ => 0))), (q2, .inl (g.2.1 0, 6, .inl (fun _ => 0))), (q3, .inl (g.2.1 0, 6, .inl (fun _ => 0))), (q4, .inl (g.2.1 0, 6, .inl (fun _ => 0))), (q5, .inl (g.2.1 0, 6, .inl (fun _ => 0)))]) S hK E 0 hnm rfl rfl rfl (Nat.le_of_ble_eq_true rfl) rfl dX4_init_41 (fun H locs E => ?_)
  refine lv_aload_n hx hb dX4_init_44 rfl (lv_at hl 0 rfl) ?_
  refine lv_bipush (v := 6) hx hb dX4_init_45 (by decide) ?_
  refine w_newa (atype := .long) (ty := .long) (a0 := (6, .inr (.inl (fun _ => 0)))) (N' := 6) 1 S hK E hA ac_long rfl rfl (fun C h => by cases h) (fun cA => by first | rfl | (rw [vp_cell_l]; rfl)) (by decide) (by decide) (by decide) (Nat.le_of_ble_eq_true rfl) (Nat.le_of_ble_eq_true rfl) dX4_init_47 (fun q6 H E => ?_)
  have E : Ev g _ s.heap H _ [(a, .inr (4, [.ref q1, .ref q2, .ref q3, .ref q4, .ref q5, .null, .null, .null, .null, .null, .int 0])), (q1, .inl (g.2.1 0, 6, .inl (fun _ => 0))), (q2, .inl (g.2.1 0, 6, .inl (fun _ => 0))), (q3, .inl (g.2.1 0, 6, .inl (fun _ => 0))), (q4, .inl (g.2.1 0, 6, .inl (fun _ => 0))), (q5, .inl (g.2.1 0, 6, .inl (fun _ => 0))), (q6, .inl (g.2.1 1, 6, .inr (.inl (fun _ => 0))))] := E
  refine wpF_X4_27 (w' := [(a, .inr (4, [.ref q1, .ref q2, .ref q3, .ref q4, .ref q5, .ref q6, .null, .null, .null, .null, .int 0])), (q1, .inl (g.2.1 0, 6, .inl (fun _ => 0))), (q2, .inl (g.2.1 0, 6, .inl (fun _ => 0))), (q3, .inl (g.2.1 0, 6, .inl (fun _ => 0))), (q4, .inl (g.2.1 0, 6, .inl (fun _ => 0))), (q5, .inl (g.2.1 0, 6, .inl (fun _ => 0))), (q6, .inl (g.2.1 1, 6, .inr (.inl (fun _ => 0))))]) S hK E 0 hnm rfl rfl rfl (Nat.le_of_ble_eq_true rfl) rfl dX4_init_49 (fun H locs E => ?_)
  refine lv_aload_n hx hb dX4_init_52 rfl (lv_at hl 0 rfl) ?_
  refine lv_bipush (v := 6) hx hb dX4_init_53 (by decide) ?_
  refine w_newa (atype := .boolean) (ty := .boolean) (a0 := (6, .inl (fun _ => 0))) (N' := 6) 2 S hK E hA ac_boolean rfl rfl (fun C h => by cases h) (fun cA => by first | rfl | (rw [vp_cell_i]; rfl)) (by decide) (by decide) (by decide) (Nat.le_of_ble_eq_true rfl) (Nat.le_of_ble_eq_true rfl) dX4_init_55 (fun q7 H E => ?_)
  have E : Ev g _ s.heap H _ [(a, .inr (4, [.ref q1, .ref q2, .ref q3, .ref q4, .ref q5, .ref q6, .null, .null, .null, .null, .int 0])), (q1, .inl (g.2.1 0, 6, .inl (fun _ => 0))), (q2, .inl (g.2.1 0, 6, .inl (fun _ => 0))), (q3, .inl (g.2.1 0, 6, .inl (fun _ => 0))), (q4, .inl (g.2.1 0, 6, .inl (fun _ => 0))), (q5, .inl (g.2.1 0, 6, .inl (fun _ => 0))), (q6, .inl (g.2.1 1, 6, .inr (.inl (fun _ => 0)))), (q7, .inl (g.2.1 2, 6, .inl (fun _ => 0)))] := E
  refine wpF_X4_31 (w' := [(a, .inr (4, [.ref q1, .ref q2, .ref q3, .ref q4, .ref q5, .ref q6, .ref q7, .null, .null, .null, .int 0])), (q1, .inl (g.2.1 0, 6, .inl (fun _ => 0))), (q2, .inl (g.2.1 0, 6, .inl (fun _ => 0))), (q3, .inl (g.2.1 0, 6, .inl (fun _ => 0))), (q4, .inl (g.2.1 0, 6, .inl (fun _ => 0))), (q5, .inl (g.2.1 0, 6, .inl (fun _ => 0))), (q6, .inl (g.2.1 1, 6, .inr (.inl (fun _ => 0)))), (q7, .inl (g.2.1 2, 6, .inl (fun _ => 0)))]) S hK E 0 hnm rfl rfl rfl (Nat.le_of_ble_eq_true rfl) rfl dX4_init_57 (fun H locs E => ?_)
  refine lv_aload_n hx hb dX4_init_60 rfl (lv_at hl 0 rfl) ?_
  refine lv_bipush (v := 6) hx hb dX4_init_61 (by decide) ?_
  refine w_newa (atype := .int) (ty := .int) (a0 := (6, .inl (fun _ => 0))) (N' := 6) 0 S hK E hA ac_int rfl rfl (fun C h => by cases h) (fun cA => by first | rfl | (rw [vp_cell_i]; rfl)) (by decide) (by decide) (by decide) (Nat.le_of_ble_eq_true rfl) (Nat.le_of_ble_eq_true rfl) dX4_init_63 (fun q8 H E => ?_)
  have E : Ev g _ s.heap H _ [(a, .inr (4, [.ref q1, .ref q2, .ref q3, .ref q4, .ref q5, .ref q6, .ref q7, .null, .null, .null, .int 0])), (q1, .inl (g.2.1 0, 6, .inl (fun _ => 0))), (q2, .inl (g.2.1 0, 6, .inl (fun _ => 0))), (q3, .inl (g.2.1 0, 6, .inl (fun _ => 0))), (q4, .inl (g.2.1 0, 6, .inl (fun _ => 0))), (q5, .inl (g.2.1 0, 6, .inl (fun _ => 0))), (q6, .inl (g.2.1 1, 6, .inr (.inl (fun _ => 0)))), (q7, .inl (g.2.1 2, 6, .inl (fun _ => 0))), (q8, .inl (g.2.1 0, 6, .inl (fun _ => 0)))] := E
  refine wpF_X4_35 (w' := [(a, .inr (4, [.ref q1, .ref q2, .ref q3, .ref q4, .ref q5, .ref q6, .ref q7, .ref q8, .null, .null, .int 0])), (q1, .inl (g.2.1 0, 6, .inl (fun _ => 0))), (q2, .inl (g.2.1 0, 6, .inl (fun _ => 0))), (q3, .inl (g.2.1 0, 6, .inl (fun _ => 0))), (q4, .inl (g.2.1 0, 6, .inl (fun _ => 0))), (q5, .inl (g.2.1 0, 6, .inl (fun _ => 0))), (q6, .inl (g.2.1 1, 6, .inr (.inl (fun _ => 0)))), (q7, .inl (g.2.1 2, 6, .inl (fun _ => 0))), (q8, .inl (g.2.1 0, 6, .inl (fun _ => 0)))]) S hK E 0 hnm rfl rfl rfl (Nat.le_of_ble_eq_true rfl) rfl dX4_init_65 (fun H locs E => ?_)
  refine lv_aload_n hx hb dX4_init_68 rfl (lv_at hl 0 rfl) ?_
  refine lv_bipush (v := 6) hx hb dX4_init_69 (by decide) ?_
  refine w_newa (atype := .int) (ty := .int) (a0 := (6, .inl (fun _ => 0))) (N' := 6) 0 S hK E hA ac_int rfl rfl (fun C h => by cases h) (fun cA => by first | rfl | (rw [vp_cell_i]; rfl)) (by decide) (by decide) (by decide) (Nat.le_of_ble_eq_true rfl) (Nat.le_of_ble_eq_true rfl) dX4_init_71 (fun q9 H E => ?_)
  have E : Ev g _ s.heap H _ [(a, .inr (4, [.ref q1, .ref q2, .ref q3, .ref q4, .ref q5, .ref q6, .ref q7, .ref q8, .null, .null, .int 0])), (q1, .inl (g.2.1 0, 6, .inl (fun _ => 0))), (q2, .inl (g.2.1 0, 6, .inl (fun _ => 0))), (q3, .inl (g.2.1 0, 6, .inl (fun _ => 0))), (q4, .inl (g.2.1 0, 6, .inl (fun _ => 0))), (q5, .inl (g.2.1 0, 6, .inl (fun _ => 0))), (q6, .inl (g.2.1 1, 6, .inr (.inl (fun _ => 0)))), (q7, .inl (g.2.1 2, 6, .inl (fun _ => 0))), (q8, .inl (g.2.1 0, 6, .inl (fun _ => 0))), (q9, .inl (g.2.1 0, 6, .inl (fun _ => 0)))] := E
  refine wpF_X4_38 (w' := [(a, .inr (4, [.ref q1, .ref q2, .ref q3, .ref q4, .ref q5, .ref q6, .ref q7, .ref q8, .ref q9, .null, .int 0])), (q1, .inl (g.2.1 0, 6, .inl (fun _ => 0))), (q2, .inl (g.2.1 0, 6, .inl (fun _ => 0))), (q3, .inl (g.2.1 0, 6, .inl (fun _ => 0))), (q4, .inl (g.2.1 0, 6, .inl (fun _ => 0))), (q5, .inl (g.2.1 0, 6, .inl (fun _ => 0))), (q6, .inl (g.2.1 1, 6, .inr (.inl (fun _ => 0)))), (q7, .inl (g.2.1 2, 6, .inl (fun _ => 0))), (q8, .inl (g.2.1 0, 6, .inl (fun _ => 0))), (q9, .inl (g.2.1 0, 6, .inl (fun _ => 0)))]) S hK E 0 hnm rfl rfl rfl (Nat.le_of_ble_eq_true rfl) rfl dX4_init_73 (fun H locs E => ?_)
  refine lv_aload_n hx hb dX4_init_76 rfl (lv_at hl 0 rfl) ?_
  refine lv_bipush (v := 6) hx hb dX4_init_77 (by decide) ?_
  refine w_newa (atype := .int) (ty := .int) (a0 := (6, .inl (fun _ => 0))) (N' := 6) 0 S hK E hA ac_int rfl rfl (fun C h => by cases h) (fun cA => by first | rfl | (rw [vp_cell_i]; rfl)) (by decide) (by decide) (by decide) (Nat.le_of_ble_eq_true rfl) (Nat.le_of_ble_eq_true rfl) dX4_init_79 (fun q10 H E => ?_)
  have E : Ev g _ s.heap H _ [(a, .inr (4, [.ref q1, .ref q2, .ref q3, .ref q4, .ref q5, .ref q6, .ref q7, .ref q8, .ref q9, .null, .int 0])), (q1, .inl (g.2.1 0, 6, .inl (fun _ => 0))), (q2, .inl (g.2.1 0, 6, .inl (fun _ => 0))), (q3, .inl (g.2.1 0, 6, .inl (fun _ => 0))), (q4, .inl (g.2.1 0, 6, .inl (fun _ => 0))), (q5, .inl (g.2.1 0, 6, .inl (fun _ => 0))), (q6, .inl (g.2.1 1, 6, .inr (.inl (fun _ => 0)))), (q7, .inl (g.2.1 2, 6, .inl (fun _ => 0))), (q8, .inl (g.2.1 0, 6, .inl (fun _ => 0))), (q9, .inl (g.2.1 0, 6, .inl (fun _ => 0))), (q10, .inl (g.2.1 0, 6, .inl (fun _ => 0)))] := E
  refine wpF_X4_41 (w' := [(a, .inr (4, [.ref q1, .ref q2, .ref q3, .ref q4, .ref q5, .ref q6, .ref q7, .ref q8, .ref q9, .ref q10, .int 0])), (q1, .inl (g.2.1 0, 6, .inl (fun _ => 0))), (q2, .inl (g.2.1 0, 6, .inl (fun _ => 0))), (q3, .inl (g.2.1 0, 6, .inl (fun _ => 0))), (q4, .inl (g.2.1 0, 6, .inl (fun _ => 0))), (q5, .inl (g.2.1 0, 6, .inl (fun _ => 0))), (q6, .inl (g.2.1 1, 6, .inr (.inl (fun _ => 0)))), (q7, .inl (g.2.1 2, 6, .inl (fun _ => 0))), (q8, .inl (g.2.1 0, 6, .inl (fun _ => 0))), (q9, .inl (g.2.1 0, 6, .inl (fun _ => 0))), (q10, .inl (g.2.1 0, 6, .inl (fun _ => 0)))]) S hK E 0 hnm rfl rfl rfl (Nat.le_of_ble_eq_true rfl) rfl dX4_init_81 (fun H locs E => ?_)
  exact x_vret (fun k => match k with | 0 => q1 | 1 => q2 | 2 => q3 | 3 => q4 | 4 => q5 | 5 => q6 | 6 => q7 | 7 => q8 | 8 => q9 | _ => q10) S hr hlk hsz htt hK E dX4_init_84 trivial rfl ⟨Nat.le_of_ble_eq_true rfl, Nat.le_of_ble_eq_true rfl⟩ ⟨Nat.le_of_ble_eq_true rfl, Nat.le_of_ble_eq_true rfl⟩

