set_option maxHeartbeats 4000000 in
set_option maxRecDepth 100000 in
/-- failsSet, 1 -/
theorem c_fs1 (l : Launch) (g : Gm) (m0 : Nat) (b : Nat → Nat) (t : Int32) (at0 : Int32) (most : Int32) : MXi (S := Int32) l g yX9_failsSet cX9_failsSet 4 .boolean ({ frames := 1, cells := 0, slots := 0, locals := 22 } : Room) [.ref m0, .int at0, .int most, .int 1] [(m0, .inr (9, [.int t, .ref (b 0), .ref (b 17)]))] (fun r u => (r = 0 ∧ u = 0 ∧ rgOK at0 0 most) ∨ (r = 1 ∧ u = 1 ∧ ¬ rgOK at0 0 most)) (fun u => [(m0, .inr (9, [.int u, .ref (b 0), .ref (b 17)]))]) (fun _ => (0, 0)) := by
  intro sz tt
  refine ofX RX9 rfl (by decide +kernel) (Nat.le_of_ble_eq_true rfl) (fun p e s m args below meth c hargs S hml hr hlk hnm hsz htt hK hA hZ E ls hl => ?_)
  have hx := S.1
  have hb := S.2.1
  have hl : lv_has ls 4 [(0, .ref m0), (1, .int at0), (2, .int most), (3, .int 1)] := hl
  refine lv_aload_n hx hb dX9_failsSet_0 rfl (lv_at hl 0 rfl) ?_
  refine lv_iload_n hx hb dX9_failsSet_1 rfl (lv_at hl 1 rfl) ?_
  refine lv_iconst (v := 0) hx hb dX9_failsSet_2 (by decide) ?_
  refine lv_iload_n hx hb dX9_failsSet_3 rfl (lv_at hl 2 rfl) ?_
  refine w_reti (runS_X (As := [.int at0, .int 0, .int most]) (rest := [.ref m0]) (n := 3) S hml hK (hZ.at E) (Cut.of (wc := []) (wr := [(m0, .inr (9, [.int t, .ref (b 0), .ref (b 17)]))]) E hA [] [0] rfl rfl rfl rfl (by decide)) (c_X9_in l g at0 0 most _ _) ml_X9_35 st_X9_in in_X9 co_X9_in ⟨by decide +kernel, by decide +kernel, by decide +kernel⟩ ⟨Nat.le_of_ble_eq_true rfl, Nat.le_of_ble_eq_true rfl⟩ rfl hl.1 rfl (Nat.le_of_ble_eq_true rfl) dX9_failsSet_4 ⟨Nat.le_of_ble_eq_true rfl, Nat.le_of_ble_eq_true rfl⟩) (Cut.of (wc := []) (wr := [(m0, .inr (9, [.int t, .ref (b 0), .ref (b 17)]))]) E hA [] [0] rfl rfl rfl rfl (by decide)) E (fun r1 u1 H locs hp E => ?_)
  have E : Ev g _ s.heap H locs [(m0, .inr (9, [.int t, .ref (b 0), .ref (b 17)]))] := E
  rcases hp with ⟨rfl, hR2⟩ | ⟨rfl, hR2⟩
  · skip
    refine lv_if_ne (tgt := 14) hx hb dX9_failsSet_7 (by decide) (fun _ => ?_) (fun c_ => absurd c_ (show ¬ ((1 : Int32) = 0) by decide))
    refine lv_iload_n hx hb dX9_failsSet_14 rfl (lv_at hl 3 rfl) ?_
    refine lv_if_ne (tgt := 22) hx hb dX9_failsSet_15 (by decide) (fun _ => ?_) (fun c_ => absurd c_ (show ¬ ((1 : Int32) = 0) by decide))
    refine lv_iconst (v := 0) hx hb dX9_failsSet_22 (by decide) ?_
    refine w_reti (runV_X (As := [.int 0]) (rest := []) (q0 := 0) (n := 1) S hml hK (hZ.at E) (Cut.full E hA) (c_X9_fails l g m0 b t 0 _ _) (gi_wsV ml_X9_39 im_X9_fails sl_X9_fails in_X9 co_X9_fails) ⟨rfl, by decide +kernel, by decide +kernel, by decide +kernel⟩ ⟨Nat.le_of_ble_eq_true rfl, Nat.le_of_ble_eq_true rfl⟩ rfl rfl rfl hl.1 rfl (Nat.le_of_ble_eq_true rfl) dX9_failsSet_23 ⟨Nat.le_of_ble_eq_true rfl, Nat.le_of_ble_eq_true rfl⟩) (Cut.full E hA) E (fun r3 u3 H locs hp E => ?_)
    have E : Ev g _ s.heap H locs [(m0, .inr (9, [.int 0, .ref (b 0), .ref (b 17)]))] := E
    obtain ⟨rfl, -⟩ := hp.resolve_left (fun z => z.2 (by decide))
    exact x_zret 0 S hr hlk hsz htt hK E dX9_failsSet_26 rfl (Or.inl ⟨rfl, rfl, hR2⟩) rfl ⟨Nat.le_of_ble_eq_true rfl, Nat.le_of_ble_eq_true rfl⟩ ⟨Nat.le_of_ble_eq_true rfl, Nat.le_of_ble_eq_true rfl⟩
  · skip
    refine lv_if_ne (tgt := 14) hx hb dX9_failsSet_7 (by decide) (fun c_ => absurd (show (0 : Int32) = 0 by decide) c_) (fun _ => ?_)
    refine lv_iconst (v := 1) hx hb dX9_failsSet_10 (by decide) ?_
    refine lv_goto (tgt := 23) hx hb dX9_failsSet_11 (by decide) ?_
    refine w_reti (runV_X (As := [.int 1]) (rest := []) (q0 := 0) (n := 1) S hml hK (hZ.at E) (Cut.full E hA) (c_X9_fails l g m0 b t 1 _ _) (gi_wsV ml_X9_39 im_X9_fails sl_X9_fails in_X9 co_X9_fails) ⟨rfl, by decide +kernel, by decide +kernel, by decide +kernel⟩ ⟨Nat.le_of_ble_eq_true rfl, Nat.le_of_ble_eq_true rfl⟩ rfl rfl rfl hl.1 rfl (Nat.le_of_ble_eq_true rfl) dX9_failsSet_23 ⟨Nat.le_of_ble_eq_true rfl, Nat.le_of_ble_eq_true rfl⟩) (Cut.full E hA) E (fun r4 u4 H locs hp E => ?_)
    have E : Ev g _ s.heap H locs [(m0, .inr (9, [.int 1, .ref (b 0), .ref (b 17)]))] := E
    obtain ⟨rfl, -⟩ := hp.resolve_right (fun z => absurd z.2 (by decide))
    exact x_zret 1 S hr hlk hsz htt hK E dX9_failsSet_26 rfl (Or.inr ⟨rfl, rfl, hR2⟩) rfl ⟨Nat.le_of_ble_eq_true rfl, Nat.le_of_ble_eq_true rfl⟩ ⟨Nat.le_of_ble_eq_true rfl, Nat.le_of_ble_eq_true rfl⟩

set_option maxHeartbeats 4000000 in
set_option maxRecDepth 100000 in
/-- failsSet, 0 -/
theorem c_fs0 (l : Launch) (g : Gm) (m0 : Nat) (b : Nat → Nat) (t : Int32) (at0 : Int32) (most : Int32) : MXi (S := Int32) l g yX9_failsSet cX9_failsSet 4 .boolean ({ frames := 1, cells := 0, slots := 0, locals := 22 } : Room) [.ref m0, .int at0, .int most, .int 0] [(m0, .inr (9, [.int t, .ref (b 0), .ref (b 17)]))] (fun r u => (r = 1 ∧ u = 2 ∧ rgOK at0 0 most) ∨ (r = 1 ∧ u = 1 ∧ ¬ rgOK at0 0 most)) (fun u => [(m0, .inr (9, [.int u, .ref (b 0), .ref (b 17)]))]) (fun _ => (0, 0)) := by
  intro sz tt
  refine ofX RX9 rfl (by decide +kernel) (Nat.le_of_ble_eq_true rfl) (fun p e s m args below meth c hargs S hml hr hlk hnm hsz htt hK hA hZ E ls hl => ?_)
  have hx := S.1
  have hb := S.2.1
  have hl : lv_has ls 4 [(0, .ref m0), (1, .int at0), (2, .int most), (3, .int 0)] := hl
  refine lv_aload_n hx hb dX9_failsSet_0 rfl (lv_at hl 0 rfl) ?_
  refine lv_iload_n hx hb dX9_failsSet_1 rfl (lv_at hl 1 rfl) ?_
  refine lv_iconst (v := 0) hx hb dX9_failsSet_2 (by decide) ?_
  refine lv_iload_n hx hb dX9_failsSet_3 rfl (lv_at hl 2 rfl) ?_
  refine w_reti (runS_X (As := [.int at0, .int 0, .int most]) (rest := [.ref m0]) (n := 3) S hml hK (hZ.at E) (Cut.of (wc := []) (wr := [(m0, .inr (9, [.int t, .ref (b 0), .ref (b 17)]))]) E hA [] [0] rfl rfl rfl rfl (by decide)) (c_X9_in l g at0 0 most _ _) ml_X9_35 st_X9_in in_X9 co_X9_in ⟨by decide +kernel, by decide +kernel, by decide +kernel⟩ ⟨Nat.le_of_ble_eq_true rfl, Nat.le_of_ble_eq_true rfl⟩ rfl hl.1 rfl (Nat.le_of_ble_eq_true rfl) dX9_failsSet_4 ⟨Nat.le_of_ble_eq_true rfl, Nat.le_of_ble_eq_true rfl⟩) (Cut.of (wc := []) (wr := [(m0, .inr (9, [.int t, .ref (b 0), .ref (b 17)]))]) E hA [] [0] rfl rfl rfl rfl (by decide)) E (fun r1 u1 H locs hp E => ?_)
  have E : Ev g _ s.heap H locs [(m0, .inr (9, [.int t, .ref (b 0), .ref (b 17)]))] := E
  rcases hp with ⟨rfl, hR2⟩ | ⟨rfl, hR2⟩
  · skip
    refine lv_if_ne (tgt := 14) hx hb dX9_failsSet_7 (by decide) (fun _ => ?_) (fun c_ => absurd c_ (show ¬ ((1 : Int32) = 0) by decide))
    refine lv_iload_n hx hb dX9_failsSet_14 rfl (lv_at hl 3 rfl) ?_
    refine lv_if_ne (tgt := 22) hx hb dX9_failsSet_15 (by decide) (fun c_ => absurd (show (0 : Int32) = 0 by decide) c_) (fun _ => ?_)
    refine lv_iconst (v := 2) hx hb dX9_failsSet_18 (by decide) ?_
    refine lv_goto (tgt := 23) hx hb dX9_failsSet_19 (by decide) ?_
    refine w_reti (runV_X (As := [.int 2]) (rest := []) (q0 := 0) (n := 1) S hml hK (hZ.at E) (Cut.full E hA) (c_X9_fails l g m0 b t 2 _ _) (gi_wsV ml_X9_39 im_X9_fails sl_X9_fails in_X9 co_X9_fails) ⟨rfl, by decide +kernel, by decide +kernel, by decide +kernel⟩ ⟨Nat.le_of_ble_eq_true rfl, Nat.le_of_ble_eq_true rfl⟩ rfl rfl rfl hl.1 rfl (Nat.le_of_ble_eq_true rfl) dX9_failsSet_23 ⟨Nat.le_of_ble_eq_true rfl, Nat.le_of_ble_eq_true rfl⟩) (Cut.full E hA) E (fun r3 u3 H locs hp E => ?_)
    have E : Ev g _ s.heap H locs [(m0, .inr (9, [.int 2, .ref (b 0), .ref (b 17)]))] := E
    obtain ⟨rfl, -⟩ := hp.resolve_right (fun z => absurd z.2 (by decide))
    exact x_zret 2 S hr hlk hsz htt hK E dX9_failsSet_26 rfl (Or.inl ⟨rfl, rfl, hR2⟩) rfl ⟨Nat.le_of_ble_eq_true rfl, Nat.le_of_ble_eq_true rfl⟩ ⟨Nat.le_of_ble_eq_true rfl, Nat.le_of_ble_eq_true rfl⟩
  · skip
    refine lv_if_ne (tgt := 14) hx hb dX9_failsSet_7 (by decide) (fun c_ => absurd (show (0 : Int32) = 0 by decide) c_) (fun _ => ?_)
    refine lv_iconst (v := 1) hx hb dX9_failsSet_10 (by decide) ?_
    refine lv_goto (tgt := 23) hx hb dX9_failsSet_11 (by decide) ?_
    refine w_reti (runV_X (As := [.int 1]) (rest := []) (q0 := 0) (n := 1) S hml hK (hZ.at E) (Cut.full E hA) (c_X9_fails l g m0 b t 1 _ _) (gi_wsV ml_X9_39 im_X9_fails sl_X9_fails in_X9 co_X9_fails) ⟨rfl, by decide +kernel, by decide +kernel, by decide +kernel⟩ ⟨Nat.le_of_ble_eq_true rfl, Nat.le_of_ble_eq_true rfl⟩ rfl rfl rfl hl.1 rfl (Nat.le_of_ble_eq_true rfl) dX9_failsSet_23 ⟨Nat.le_of_ble_eq_true rfl, Nat.le_of_ble_eq_true rfl⟩) (Cut.full E hA) E (fun r4 u4 H locs hp E => ?_)
    have E : Ev g _ s.heap H locs [(m0, .inr (9, [.int 1, .ref (b 0), .ref (b 17)]))] := E
    obtain ⟨rfl, -⟩ := hp.resolve_right (fun z => absurd z.2 (by decide))
    exact x_zret 1 S hr hlk hsz htt hK E dX9_failsSet_26 rfl (Or.inr ⟨rfl, rfl, hR2⟩) rfl ⟨Nat.le_of_ble_eq_true rfl, Nat.le_of_ble_eq_true rfl⟩ ⟨Nat.le_of_ble_eq_true rfl, Nat.le_of_ble_eq_true rfl⟩

set_option maxHeartbeats 4000000 in
set_option maxRecDepth 100000 in
/-- failsCell -/
theorem c_X9_failsCell (l : Launch) (g : Gm) (m0 : Nat) (b : Nat → Nat) (t : Int32) (i : Int32) : MXi (S := Int32) l g yX9_failsCell cX9_failsCell 2 .boolean ({ frames := 1, cells := 0, slots := 0, locals := 22 } : Room) [.ref m0, .int i] [(m0, .inr (9, [.int t, .ref (b 0), .ref (b 17)]))] (fun r u => (r = 0 ∧ u = 0 ∧ rgOK i 0 15) ∨ (r = 1 ∧ u = 1 ∧ ¬ rgOK i 0 15)) (fun u => [(m0, .inr (9, [.int u, .ref (b 0), .ref (b 17)]))]) (fun _ => (0, 0)) := by
  intro sz tt
  refine ofX RX9 rfl (by decide +kernel) (Nat.le_of_ble_eq_true rfl) (fun p e s m args below meth c hargs S hml hr hlk hnm hsz htt hK hA hZ E ls hl => ?_)
  have hx := S.1
  have hb := S.2.1
  have hl : lv_has ls 2 [(0, .ref m0), (1, .int i)] := hl
  refine lv_aload_n hx hb dX9_failsCell_0 rfl (lv_at hl 0 rfl) ?_
  refine lv_iload_n hx hb dX9_failsCell_1 rfl (lv_at hl 1 rfl) ?_
  refine lv_iconst (v := 0) hx hb dX9_failsCell_2 (by decide) ?_
  refine lv_bipush (v := 15) hx hb dX9_failsCell_3 (by decide) ?_
  refine w_reti (runS_X (As := [.int i, .int 0, .int 15]) (rest := [.ref m0]) (n := 3) S hml hK (hZ.at E) (Cut.of (wc := []) (wr := [(m0, .inr (9, [.int t, .ref (b 0), .ref (b 17)]))]) E hA [] [0] rfl rfl rfl rfl (by decide)) (c_X9_in l g i 0 15 _ _) ml_X9_35 st_X9_in in_X9 co_X9_in ⟨by decide +kernel, by decide +kernel, by decide +kernel⟩ ⟨Nat.le_of_ble_eq_true rfl, Nat.le_of_ble_eq_true rfl⟩ rfl hl.1 rfl (Nat.le_of_ble_eq_true rfl) dX9_failsCell_5 ⟨Nat.le_of_ble_eq_true rfl, Nat.le_of_ble_eq_true rfl⟩) (Cut.of (wc := []) (wr := [(m0, .inr (9, [.int t, .ref (b 0), .ref (b 17)]))]) E hA [] [0] rfl rfl rfl rfl (by decide)) E (fun r1 u1 H locs hp E => ?_)
  have E : Ev g _ s.heap H locs [(m0, .inr (9, [.int t, .ref (b 0), .ref (b 17)]))] := E
  rcases hp with ⟨rfl, hR2⟩ | ⟨rfl, hR2⟩
  · skip
    refine lv_if_eq (tgt := 15) hx hb dX9_failsCell_8 (by decide) (fun c_ => absurd c_ (show ¬ ((1 : Int32) = 0) by decide)) (fun _ => ?_)
    refine lv_iconst (v := 0) hx hb dX9_failsCell_11 (by decide) ?_
    refine lv_goto (tgt := 16) hx hb dX9_failsCell_12 (by decide) ?_
    refine w_reti (runV_X (As := [.int 0]) (rest := []) (q0 := 0) (n := 1) S hml hK (hZ.at E) (Cut.full E hA) (c_X9_fails l g m0 b t 0 _ _) (gi_wsV ml_X9_39 im_X9_fails sl_X9_fails in_X9 co_X9_fails) ⟨rfl, by decide +kernel, by decide +kernel, by decide +kernel⟩ ⟨Nat.le_of_ble_eq_true rfl, Nat.le_of_ble_eq_true rfl⟩ rfl rfl rfl hl.1 rfl (Nat.le_of_ble_eq_true rfl) dX9_failsCell_16 ⟨Nat.le_of_ble_eq_true rfl, Nat.le_of_ble_eq_true rfl⟩) (Cut.full E hA) E (fun r3 u3 H locs hp E => ?_)
    have E : Ev g _ s.heap H locs [(m0, .inr (9, [.int 0, .ref (b 0), .ref (b 17)]))] := E
    obtain ⟨rfl, -⟩ := hp.resolve_left (fun z => z.2 (by decide))
    exact x_zret 0 S hr hlk hsz htt hK E dX9_failsCell_19 rfl (Or.inl ⟨rfl, rfl, hR2⟩) rfl ⟨Nat.le_of_ble_eq_true rfl, Nat.le_of_ble_eq_true rfl⟩ ⟨Nat.le_of_ble_eq_true rfl, Nat.le_of_ble_eq_true rfl⟩
  · skip
    refine lv_if_eq (tgt := 15) hx hb dX9_failsCell_8 (by decide) (fun _ => ?_) (fun c_ => absurd (show (0 : Int32) = 0 by decide) c_)
    refine lv_iconst (v := 1) hx hb dX9_failsCell_15 (by decide) ?_
    refine w_reti (runV_X (As := [.int 1]) (rest := []) (q0 := 0) (n := 1) S hml hK (hZ.at E) (Cut.full E hA) (c_X9_fails l g m0 b t 1 _ _) (gi_wsV ml_X9_39 im_X9_fails sl_X9_fails in_X9 co_X9_fails) ⟨rfl, by decide +kernel, by decide +kernel, by decide +kernel⟩ ⟨Nat.le_of_ble_eq_true rfl, Nat.le_of_ble_eq_true rfl⟩ rfl rfl rfl hl.1 rfl (Nat.le_of_ble_eq_true rfl) dX9_failsCell_16 ⟨Nat.le_of_ble_eq_true rfl, Nat.le_of_ble_eq_true rfl⟩) (Cut.full E hA) E (fun r4 u4 H locs hp E => ?_)
    have E : Ev g _ s.heap H locs [(m0, .inr (9, [.int 1, .ref (b 0), .ref (b 17)]))] := E
    obtain ⟨rfl, -⟩ := hp.resolve_right (fun z => absurd z.2 (by decide))
    exact x_zret 1 S hr hlk hsz htt hK E dX9_failsCell_19 rfl (Or.inr ⟨rfl, rfl, hR2⟩) rfl ⟨Nat.le_of_ble_eq_true rfl, Nat.le_of_ble_eq_true rfl⟩ ⟨Nat.le_of_ble_eq_true rfl, Nat.le_of_ble_eq_true rfl⟩

set_option maxHeartbeats 4000000 in
set_option maxRecDepth 100000 in
/-- isWell, no wells -/
theorem c_X9_isWell (l : Launch) (g : Gm) (m0 : Nat) (b : Nat → Nat) (t : Int32) (i : Int32) : MXi (S := Unit) l g yX9_isWell cX9_isWell 2 .boolean ({ frames := 1, cells := 0, slots := 0, locals := 22 } : Room) [.ref m0, .int i] [(m0, .inr (9, [.int t, .ref (b 0), .ref (b 17)])), ((b 0), .inr (10, [.ref (b 1), .ref (b 2), .ref (b 3), .ref (b 4), .ref (b 5), .ref (b 6), .ref (b 7), .ref (b 8), .ref (b 9), .ref (b 10), .ref (b 11), .ref (b 12), .int 0, .int 0, .int (nI 0), .ref (b 13), .ref (b 14), .ref (b 16)])), ((b 13), .inr (8, [.int 0, .ref (g.2.2 0), .int 0]))] (fun r _ => r = 0) (fun _ => [(m0, .inr (9, [.int t, .ref (b 0), .ref (b 17)])), ((b 0), .inr (10, [.ref (b 1), .ref (b 2), .ref (b 3), .ref (b 4), .ref (b 5), .ref (b 6), .ref (b 7), .ref (b 8), .ref (b 9), .ref (b 10), .ref (b 11), .ref (b 12), .int 0, .int 0, .int (nI 0), .ref (b 13), .ref (b 14), .ref (b 16)])), ((b 13), .inr (8, [.int 0, .ref (g.2.2 0), .int 0]))]) (fun _ => (0, 0)) := by
  intro sz tt
  refine ofX RX9 rfl (by decide +kernel) (Nat.le_of_ble_eq_true rfl) (fun p e s m args below meth c hargs S hml hr hlk hnm hsz htt hK hA hZ E ls hl => ?_)
  have hx := S.1
  have hb := S.2.1
  have hl : lv_has ls 2 [(0, .ref m0), (1, .int i)] := hl
  refine lv_iload_n hx hb dX9_isWell_0 rfl (lv_at hl 1 rfl) ?_
  refine lv_iconst (v := 0) hx hb dX9_isWell_1 (by decide) ?_
  refine lv_aload_n hx hb dX9_isWell_2 rfl (lv_at hl 0 rfl) ?_
  refine wg_X9_10 (v := .ref (b 0)) S hK E 0 rfl rfl dX9_isWell_3 ?_
  refine wg_X9_76 (v := .ref (b 13)) S hZ.2.2.2.2.2.2.1 hK E 1 rfl rfl dX9_isWell_6 ?_
  refine w_reti (runV_X (As := []) (rest := [.int 0, .int i]) (q0 := 0) (n := 0) S hml hK (hZ.at E) (Cut.of (wc := [((b 13), .inr (8, [.int 0, .ref (g.2.2 0), .int 0]))]) (wr := [(m0, .inr (9, [.int t, .ref (b 0), .ref (b 17)])), ((b 0), .inr (10, [.ref (b 1), .ref (b 2), .ref (b 3), .ref (b 4), .ref (b 5), .ref (b 6), .ref (b 7), .ref (b 8), .ref (b 9), .ref (b 10), .ref (b 11), .ref (b 12), .int 0, .int 0, .int (nI 0), .ref (b 13), .ref (b 14), .ref (b 16)]))]) E hA [2] [0, 1] rfl rfl rfl rfl (by decide)) (c_Jx4a65c_size_8abf5 l g (b 13) 0 0 (g.2.2 0) _ _) (gi_wsV ml_X9_79 im_Jx4a65c_size_8abf5 sl_Jx4a65c_size_8abf5 in_Jx4a65c co_Jx4a65c_size_8abf5) ⟨rfl, by decide +kernel, by decide +kernel, by decide +kernel⟩ ⟨Nat.le_of_ble_eq_true rfl, Nat.le_of_ble_eq_true rfl⟩ rfl rfl rfl hl.1 rfl (Nat.le_of_ble_eq_true rfl) dX9_isWell_9 ⟨Nat.le_of_ble_eq_true rfl, Nat.le_of_ble_eq_true rfl⟩) (Cut.of (wc := [((b 13), .inr (8, [.int 0, .ref (g.2.2 0), .int 0]))]) (wr := [(m0, .inr (9, [.int t, .ref (b 0), .ref (b 17)])), ((b 0), .inr (10, [.ref (b 1), .ref (b 2), .ref (b 3), .ref (b 4), .ref (b 5), .ref (b 6), .ref (b 7), .ref (b 8), .ref (b 9), .ref (b 10), .ref (b 11), .ref (b 12), .int 0, .int 0, .int (nI 0), .ref (b 13), .ref (b 14), .ref (b 16)]))]) E hA [2] [0, 1] rfl rfl rfl rfl (by decide)) E (fun r1 u1 H locs hp E => ?_)
  have E : Ev g _ s.heap H locs [(m0, .inr (9, [.int t, .ref (b 0), .ref (b 17)])), ((b 0), .inr (10, [.ref (b 1), .ref (b 2), .ref (b 3), .ref (b 4), .ref (b 5), .ref (b 6), .ref (b 7), .ref (b 8), .ref (b 9), .ref (b 10), .ref (b 11), .ref (b 12), .int 0, .int 0, .int (nI 0), .ref (b 13), .ref (b 14), .ref (b 16)])), ((b 13), .inr (8, [.int 0, .ref (g.2.2 0), .int 0]))] := E
  subst hp
  refine lv_iconst (v := 1) hx hb dX9_isWell_12 (by decide) ?_
  refine k_isub (v := (-1)) hx hb (by decide) dX9_isWell_13 ?_
  refine w_reti (runS_X (As := [.int i, .int 0, .int (-1)]) (rest := []) (n := 3) S hml hK (hZ.at E) (Cut.of (wc := []) (wr := [(m0, .inr (9, [.int t, .ref (b 0), .ref (b 17)])), ((b 0), .inr (10, [.ref (b 1), .ref (b 2), .ref (b 3), .ref (b 4), .ref (b 5), .ref (b 6), .ref (b 7), .ref (b 8), .ref (b 9), .ref (b 10), .ref (b 11), .ref (b 12), .int 0, .int 0, .int (nI 0), .ref (b 13), .ref (b 14), .ref (b 16)])), ((b 13), .inr (8, [.int 0, .ref (g.2.2 0), .int 0]))]) E hA [] [0, 1, 2] rfl rfl rfl rfl (by decide)) (c_X9_in l g i 0 (-1) _ _) ml_X9_35 st_X9_in in_X9 co_X9_in ⟨by decide +kernel, by decide +kernel, by decide +kernel⟩ ⟨Nat.le_of_ble_eq_true rfl, Nat.le_of_ble_eq_true rfl⟩ rfl hl.1 rfl (Nat.le_of_ble_eq_true rfl) dX9_isWell_14 ⟨Nat.le_of_ble_eq_true rfl, Nat.le_of_ble_eq_true rfl⟩) (Cut.of (wc := []) (wr := [(m0, .inr (9, [.int t, .ref (b 0), .ref (b 17)])), ((b 0), .inr (10, [.ref (b 1), .ref (b 2), .ref (b 3), .ref (b 4), .ref (b 5), .ref (b 6), .ref (b 7), .ref (b 8), .ref (b 9), .ref (b 10), .ref (b 11), .ref (b 12), .int 0, .int 0, .int (nI 0), .ref (b 13), .ref (b 14), .ref (b 16)])), ((b 13), .inr (8, [.int 0, .ref (g.2.2 0), .int 0]))]) E hA [] [0, 1, 2] rfl rfl rfl rfl (by decide)) E (fun r2 u2 H locs hp E => ?_)
  have E : Ev g _ s.heap H locs [(m0, .inr (9, [.int t, .ref (b 0), .ref (b 17)])), ((b 0), .inr (10, [.ref (b 1), .ref (b 2), .ref (b 3), .ref (b 4), .ref (b 5), .ref (b 6), .ref (b 7), .ref (b 8), .ref (b 9), .ref (b 10), .ref (b 11), .ref (b 12), .int 0, .int 0, .int (nI 0), .ref (b 13), .ref (b 14), .ref (b 16)])), ((b 13), .inr (8, [.int 0, .ref (g.2.2 0), .int 0]))] := E
  obtain ⟨rfl, -⟩ := hp.resolve_left (fun z => rg0 z.2)
  exact x_zret () S hr hlk hsz htt hK E dX9_isWell_17 rfl rfl rfl ⟨Nat.le_of_ble_eq_true rfl, Nat.le_of_ble_eq_true rfl⟩ ⟨Nat.le_of_ble_eq_true rfl, Nat.le_of_ble_eq_true rfl⟩

set_option maxHeartbeats 4000000 in
set_option maxRecDepth 100000 in
/-- failsWell, no wells -/
theorem c_X9_failsWell (l : Launch) (g : Gm) (m0 : Nat) (b : Nat → Nat) (t : Int32) (i : Int32) : MXi (S := Unit) l g yX9_failsWell cX9_failsWell 2 .boolean ({ frames := 2, cells := 0, slots := 0, locals := 43 } : Room) [.ref m0, .int i] [(m0, .inr (9, [.int t, .ref (b 0), .ref (b 17)])), ((b 0), .inr (10, [.ref (b 1), .ref (b 2), .ref (b 3), .ref (b 4), .ref (b 5), .ref (b 6), .ref (b 7), .ref (b 8), .ref (b 9), .ref (b 10), .ref (b 11), .ref (b 12), .int 0, .int 0, .int (nI 0), .ref (b 13), .ref (b 14), .ref (b 16)])), ((b 13), .inr (8, [.int 0, .ref (g.2.2 0), .int 0]))] (fun r _ => r = 1) (fun _ => [(m0, .inr (9, [.int 1, .ref (b 0), .ref (b 17)])), ((b 0), .inr (10, [.ref (b 1), .ref (b 2), .ref (b 3), .ref (b 4), .ref (b 5), .ref (b 6), .ref (b 7), .ref (b 8), .ref (b 9), .ref (b 10), .ref (b 11), .ref (b 12), .int 0, .int 0, .int (nI 0), .ref (b 13), .ref (b 14), .ref (b 16)])), ((b 13), .inr (8, [.int 0, .ref (g.2.2 0), .int 0]))]) (fun _ => (0, 0)) := by
  intro sz tt
  refine ofX RX9 rfl (by decide +kernel) (Nat.le_of_ble_eq_true rfl) (fun p e s m args below meth c hargs S hml hr hlk hnm hsz htt hK hA hZ E ls hl => ?_)
  have hx := S.1
  have hb := S.2.1
  have hl : lv_has ls 2 [(0, .ref m0), (1, .int i)] := hl
  refine lv_aload_n hx hb dX9_failsWell_0 rfl (lv_at hl 0 rfl) ?_
  refine lv_aload_n hx hb dX9_failsWell_1 rfl (lv_at hl 0 rfl) ?_
  refine lv_iload_n hx hb dX9_failsWell_2 rfl (lv_at hl 1 rfl) ?_
  refine w_reti (runV_X (As := [.int i]) (rest := [.ref m0]) (q0 := 0) (n := 1) S hml hK (hZ.at E) (Cut.full E hA) (c_X9_isWell l g m0 b t i _ _) (gi_wsV ml_X9_83 im_X9_isWell sl_X9_isWell in_X9 co_X9_isWell) ⟨rfl, by decide +kernel, by decide +kernel, by decide +kernel⟩ ⟨Nat.le_of_ble_eq_true rfl, Nat.le_of_ble_eq_true rfl⟩ rfl rfl rfl hl.1 rfl (Nat.le_of_ble_eq_true rfl) dX9_failsWell_3 ⟨Nat.le_of_ble_eq_true rfl, Nat.le_of_ble_eq_true rfl⟩) (Cut.full E hA) E (fun r1 u1 H locs hp E => ?_)
  have E : Ev g _ s.heap H locs [(m0, .inr (9, [.int t, .ref (b 0), .ref (b 17)])), ((b 0), .inr (10, [.ref (b 1), .ref (b 2), .ref (b 3), .ref (b 4), .ref (b 5), .ref (b 6), .ref (b 7), .ref (b 8), .ref (b 9), .ref (b 10), .ref (b 11), .ref (b 12), .int 0, .int 0, .int (nI 0), .ref (b 13), .ref (b 14), .ref (b 16)])), ((b 13), .inr (8, [.int 0, .ref (g.2.2 0), .int 0]))] := E
  subst hp
  refine lv_if_eq (tgt := 13) hx hb dX9_failsWell_6 (by decide) (fun _ => ?_) (fun c_ => absurd (show (0 : Int32) = 0 by decide) c_)
  refine lv_iconst (v := 1) hx hb dX9_failsWell_13 (by decide) ?_
  refine w_reti (runV_X (As := [.int 1]) (rest := []) (q0 := 0) (n := 1) S hml hK (hZ.at E) (Cut.of (wc := [(m0, .inr (9, [.int t, .ref (b 0), .ref (b 17)]))]) (wr := [((b 0), .inr (10, [.ref (b 1), .ref (b 2), .ref (b 3), .ref (b 4), .ref (b 5), .ref (b 6), .ref (b 7), .ref (b 8), .ref (b 9), .ref (b 10), .ref (b 11), .ref (b 12), .int 0, .int 0, .int (nI 0), .ref (b 13), .ref (b 14), .ref (b 16)])), ((b 13), .inr (8, [.int 0, .ref (g.2.2 0), .int 0]))]) E hA [0] [1, 2] rfl rfl rfl rfl (by decide)) (c_X9_fails l g m0 b t 1 _ _) (gi_wsV ml_X9_39 im_X9_fails sl_X9_fails in_X9 co_X9_fails) ⟨rfl, by decide +kernel, by decide +kernel, by decide +kernel⟩ ⟨Nat.le_of_ble_eq_true rfl, Nat.le_of_ble_eq_true rfl⟩ rfl rfl rfl hl.1 rfl (Nat.le_of_ble_eq_true rfl) dX9_failsWell_14 ⟨Nat.le_of_ble_eq_true rfl, Nat.le_of_ble_eq_true rfl⟩) (Cut.of (wc := [(m0, .inr (9, [.int t, .ref (b 0), .ref (b 17)]))]) (wr := [((b 0), .inr (10, [.ref (b 1), .ref (b 2), .ref (b 3), .ref (b 4), .ref (b 5), .ref (b 6), .ref (b 7), .ref (b 8), .ref (b 9), .ref (b 10), .ref (b 11), .ref (b 12), .int 0, .int 0, .int (nI 0), .ref (b 13), .ref (b 14), .ref (b 16)])), ((b 13), .inr (8, [.int 0, .ref (g.2.2 0), .int 0]))]) E hA [0] [1, 2] rfl rfl rfl rfl (by decide)) E (fun r2 u2 H locs hp E => ?_)
  have E : Ev g _ s.heap H locs [((b 0), .inr (10, [.ref (b 1), .ref (b 2), .ref (b 3), .ref (b 4), .ref (b 5), .ref (b 6), .ref (b 7), .ref (b 8), .ref (b 9), .ref (b 10), .ref (b 11), .ref (b 12), .int 0, .int 0, .int (nI 0), .ref (b 13), .ref (b 14), .ref (b 16)])), ((b 13), .inr (8, [.int 0, .ref (g.2.2 0), .int 0])), (m0, .inr (9, [.int 1, .ref (b 0), .ref (b 17)]))] := E
  obtain ⟨rfl, -⟩ := hp.resolve_right (fun z => absurd z.2 (by decide))
  have E : Ev g _ s.heap H locs [(m0, .inr (9, [.int 1, .ref (b 0), .ref (b 17)])), ((b 0), .inr (10, [.ref (b 1), .ref (b 2), .ref (b 3), .ref (b 4), .ref (b 5), .ref (b 6), .ref (b 7), .ref (b 8), .ref (b 9), .ref (b 10), .ref (b 11), .ref (b 12), .int 0, .int 0, .int (nI 0), .ref (b 13), .ref (b 14), .ref (b 16)])), ((b 13), .inr (8, [.int 0, .ref (g.2.2 0), .int 0]))] := Ev.sub E [2, 0, 1] rfl rfl
  exact x_zret () S hr hlk hsz htt hK E dX9_failsWell_17 rfl rfl rfl ⟨Nat.le_of_ble_eq_true rfl, Nat.le_of_ble_eq_true rfl⟩ ⟨Nat.le_of_ble_eq_true rfl, Nat.le_of_ble_eq_true rfl⟩

/-- what setCell throws at first: its number, 0 for nothing -/
def kk_setCell (p0 : Int32) (p1 : Int32) (p2 : Int32) (p3 : Int32) : Int32 := if rgOK p0 0 15 then (if rgOK p1 (-100) 100 ∧ rgOK p2 1 50 ∧ rgOK p3 0 5000 then 0 else 2) else 1
theorem dX9_setCell_0 : decode cX9_setCell 0 = .ok (.iload_n 2, 1) := by decide +kernel
theorem dX9_setCell_1 : decode cX9_setCell 1 = .ok (.bipush (-100), 2) := by decide +kernel
theorem dX9_setCell_3 : decode cX9_setCell 3 = .ok (.bipush 100, 2) := by decide +kernel
theorem dX9_setCell_5 : decode cX9_setCell 5 = .ok (.invokestatic 35, 3) := by decide +kernel
theorem dX9_setCell_8 : decode cX9_setCell 8 = .ok (.ifCond .eq 29, 3) := by decide +kernel
theorem dX9_setCell_11 : decode cX9_setCell 11 = .ok (.iload_n 3, 1) := by decide +kernel
theorem dX9_setCell_12 : decode cX9_setCell 12 = .ok (.iconst 1, 1) := by decide +kernel
theorem dX9_setCell_13 : decode cX9_setCell 13 = .ok (.bipush 50, 2) := by decide +kernel
theorem dX9_setCell_15 : decode cX9_setCell 15 = .ok (.invokestatic 35, 3) := by decide +kernel
theorem dX9_setCell_18 : decode cX9_setCell 18 = .ok (.ifCond .eq 19, 3) := by decide +kernel
theorem dX9_setCell_21 : decode cX9_setCell 21 = .ok (.iload 4, 2) := by decide +kernel
theorem dX9_setCell_23 : decode cX9_setCell 23 = .ok (.iconst 0, 1) := by decide +kernel
theorem dX9_setCell_24 : decode cX9_setCell 24 = .ok (.sipush 5000, 3) := by decide +kernel
theorem dX9_setCell_27 : decode cX9_setCell 27 = .ok (.invokestatic 35, 3) := by decide +kernel
theorem dX9_setCell_30 : decode cX9_setCell 30 = .ok (.ifCond .eq 7, 3) := by decide +kernel
theorem dX9_setCell_33 : decode cX9_setCell 33 = .ok (.iconst 1, 1) := by decide +kernel
theorem dX9_setCell_34 : decode cX9_setCell 34 = .ok (.goto 4, 3) := by decide +kernel
theorem dX9_setCell_37 : decode cX9_setCell 37 = .ok (.iconst 0, 1) := by decide +kernel
theorem dX9_setCell_38 : decode cX9_setCell 38 = .ok (.istore 5, 2) := by decide +kernel
theorem dX9_setCell_40 : decode cX9_setCell 40 = .ok (.aload_n 0, 1) := by decide +kernel
theorem dX9_setCell_41 : decode cX9_setCell 41 = .ok (.iload_n 1, 1) := by decide +kernel
theorem dX9_setCell_42 : decode cX9_setCell 42 = .ok (.iconst 0, 1) := by decide +kernel
theorem dX9_setCell_43 : decode cX9_setCell 43 = .ok (.bipush 15, 2) := by decide +kernel
theorem dX9_setCell_45 : decode cX9_setCell 45 = .ok (.invokestatic 35, 3) := by decide +kernel
theorem dX9_setCell_48 : decode cX9_setCell 48 = .ok (.ifCond .ne 7, 3) := by decide +kernel
theorem dX9_setCell_51 : decode cX9_setCell 51 = .ok (.iconst 1, 1) := by decide +kernel
theorem dX9_setCell_52 : decode cX9_setCell 52 = .ok (.goto 13, 3) := by decide +kernel
theorem dX9_setCell_55 : decode cX9_setCell 55 = .ok (.iload 5, 2) := by decide +kernel
theorem dX9_setCell_57 : decode cX9_setCell 57 = .ok (.ifCond .ne 7, 3) := by decide +kernel
theorem dX9_setCell_60 : decode cX9_setCell 60 = .ok (.iconst 2, 1) := by decide +kernel
theorem dX9_setCell_61 : decode cX9_setCell 61 = .ok (.goto 4, 3) := by decide +kernel
theorem dX9_setCell_64 : decode cX9_setCell 64 = .ok (.iconst 0, 1) := by decide +kernel
theorem dX9_setCell_65 : decode cX9_setCell 65 = .ok (.invokevirtual 39, 3) := by decide +kernel
theorem dX9_setCell_68 : decode cX9_setCell 68 = .ok (.ifCond .eq 5, 3) := by decide +kernel
theorem dX9_setCell_71 : decode cX9_setCell 71 = .ok (.iconst 0, 1) := by decide +kernel
theorem dX9_setCell_72 : decode cX9_setCell 72 = .ok (.ireturn, 1) := by decide +kernel
theorem dX9_setCell_73 : decode cX9_setCell 73 = .ok (.aload_n 0, 1) := by decide +kernel
theorem dX9_setCell_74 : decode cX9_setCell 74 = .ok (.getfield 10, 3) := by decide +kernel
theorem dX9_setCell_77 : decode cX9_setCell 77 = .ok (.getfield 43, 3) := by decide +kernel
theorem dX9_setCell_80 : decode cX9_setCell 80 = .ok (.iload_n 1, 1) := by decide +kernel
theorem dX9_setCell_81 : decode cX9_setCell 81 = .ok (.iaload, 1) := by decide +kernel
theorem dX9_setCell_82 : decode cX9_setCell 82 = .ok (.istore 6, 2) := by decide +kernel
theorem dX9_setCell_84 : decode cX9_setCell 84 = .ok (.aload_n 0, 1) := by decide +kernel
theorem dX9_setCell_85 : decode cX9_setCell 85 = .ok (.bipush 99, 2) := by decide +kernel
theorem dX9_setCell_87 : decode cX9_setCell 87 = .ok (.iload_n 1, 1) := by decide +kernel
theorem dX9_setCell_88 : decode cX9_setCell 88 = .ok (.iload_n 2, 1) := by decide +kernel
theorem dX9_setCell_89 : decode cX9_setCell 89 = .ok (.iload_n 3, 1) := by decide +kernel
theorem dX9_setCell_90 : decode cX9_setCell 90 = .ok (.iload 4, 2) := by decide +kernel
theorem dX9_setCell_92 : decode cX9_setCell 92 = .ok (.invokevirtual 47, 3) := by decide +kernel
theorem dX9_setCell_95 : decode cX9_setCell 95 = .ok (.iload 6, 2) := by decide +kernel
theorem dX9_setCell_97 : decode cX9_setCell 97 = .ok (.ireturn, 1) := by decide +kernel
set_option maxHeartbeats 4000000 in
set_option maxRecDepth 100000 in
/-- reference: setCell -/
theorem c_X9_setCell (l : Launch) (g : Gm) (m0 : Nat) (b : Nat → Nat) (p0 : Int32) (p1 : Int32) (p2 : Int32) (p3 : Int32) : MXi (S := Int32) l g yX9_setCell cX9_setCell 7 .int ({ frames := 6, cells := 2, slots := 15, locals := 128 } : Room) [.ref m0, .int p0, .int p1, .int p2, .int p3] [(m0, .inr (9, [.int 0, .ref (b 0), .ref (b 17)])), ((b 17), .inr (8, [.int 0, .ref (g.2.2 0), .int 0])), ((b 0), .inr (10, [.ref (b 1), .ref (b 2), .ref (b 3), .ref (b 4), .ref (b 5), .ref (b 6), .ref (b 7), .ref (b 8), .ref (b 9), .ref (b 10), .ref (b 11), .ref (b 12), .int 0, .int 0, .int (nI 0), .ref (b 13), .ref (b 14), .ref (b 16)])), ((b 1), .inl (g.2.1 0, 16, .inl (fun _ => 0))), ((b 2), .inl (g.2.1 0, 16, .inl (fun _ => 10))), ((b 3), .inl (g.2.1 0, 16, .inl (fun _ => 0))), ((b 4), .inl (g.2.1 0, 16, .inl (fun _ => 0))), ((b 16), .inl (g.2.1 1, 26, .inr (.inl (fun _ => 0))))] (fun r u => u = kk_setCell p0 p1 p2 p3 ∧ (kk_setCell p0 p1 p2 p3 = 0 → r = 0)) (fun u => [(m0, .inr (9, [.int u, .ref (b 0), .ref (b 17)]))]) (fun _ => (2, 15)) := by
  intro sz tt
  refine ofX RX9 rfl (by decide +kernel) (Nat.le_of_ble_eq_true rfl) (fun p e s m args below meth c hargs S hml hr hlk hnm hsz htt hK hA hZ E ls hl => ?_)
  have hx := S.1
  have hb := S.2.1
  have hl : lv_has ls 7 [(0, .ref m0), (1, .int p0), (2, .int p1), (3, .int p2), (4, .int p3)] := hl
  refine lv_iload_n hx hb dX9_setCell_0 rfl (lv_at hl 2 rfl) ?_
  refine lv_bipush (v := (-100)) hx hb dX9_setCell_1 (by decide) ?_
  refine lv_bipush (v := 100) hx hb dX9_setCell_3 (by decide) ?_
  refine w_reti (runS_X (As := [.int p1, .int (-100), .int 100]) (rest := []) (n := 3) S hml hK (hZ.at E) (Cut.of (wc := []) (wr := [(m0, .inr (9, [.int 0, .ref (b 0), .ref (b 17)])), ((b 17), .inr (8, [.int 0, .ref (g.2.2 0), .int 0])), ((b 0), .inr (10, [.ref (b 1), .ref (b 2), .ref (b 3), .ref (b 4), .ref (b 5), .ref (b 6), .ref (b 7), .ref (b 8), .ref (b 9), .ref (b 10), .ref (b 11), .ref (b 12), .int 0, .int 0, .int (nI 0), .ref (b 13), .ref (b 14), .ref (b 16)])), ((b 1), .inl (g.2.1 0, 16, .inl (fun _ => 0))), ((b 2), .inl (g.2.1 0, 16, .inl (fun _ => 10))), ((b 3), .inl (g.2.1 0, 16, .inl (fun _ => 0))), ((b 4), .inl (g.2.1 0, 16, .inl (fun _ => 0))), ((b 16), .inl (g.2.1 1, 26, .inr (.inl (fun _ => 0))))]) E hA [] [0, 1, 2, 3, 4, 5, 6, 7] rfl rfl rfl rfl (by decide)) (c_X9_in l g p1 (-100) 100 _ _) ml_X9_35 st_X9_in in_X9 co_X9_in ⟨by decide +kernel, by decide +kernel, by decide +kernel⟩ ⟨Nat.le_of_ble_eq_true rfl, Nat.le_of_ble_eq_true rfl⟩ rfl hl.1 rfl (Nat.le_of_ble_eq_true rfl) dX9_setCell_5 ⟨Nat.le_of_ble_eq_true rfl, Nat.le_of_ble_eq_true rfl⟩) (Cut.of (wc := []) (wr := [(m0, .inr (9, [.int 0, .ref (b 0), .ref (b 17)])), ((b 17), .inr (8, [.int 0, .ref (g.2.2 0), .int 0])), ((b 0), .inr (10, [.ref (b 1), .ref (b 2), .ref (b 3), .ref (b 4), .ref (b 5), .ref (b 6), .ref (b 7), .ref (b 8), .ref (b 9), .ref (b 10), .ref (b 11), .ref (b 12), .int 0, .int 0, .int (nI 0), .ref (b 13), .ref (b 14), .ref (b 16)])), ((b 1), .inl (g.2.1 0, 16, .inl (fun _ => 0))), ((b 2), .inl (g.2.1 0, 16, .inl (fun _ => 10))), ((b 3), .inl (g.2.1 0, 16, .inl (fun _ => 0))), ((b 4), .inl (g.2.1 0, 16, .inl (fun _ => 0))), ((b 16), .inl (g.2.1 1, 26, .inr (.inl (fun _ => 0))))]) E hA [] [0, 1, 2, 3, 4, 5, 6, 7] rfl rfl rfl rfl (by decide)) E (fun r1 u1 H locs hp E => ?_)
  have E : Ev g _ s.heap H locs [(m0, .inr (9, [.int 0, .ref (b 0), .ref (b 17)])), ((b 17), .inr (8, [.int 0, .ref (g.2.2 0), .int 0])), ((b 0), .inr (10, [.ref (b 1), .ref (b 2), .ref (b 3), .ref (b 4), .ref (b 5), .ref (b 6), .ref (b 7), .ref (b 8), .ref (b 9), .ref (b 10), .ref (b 11), .ref (b 12), .int 0, .int 0, .int (nI 0), .ref (b 13), .ref (b 14), .ref (b 16)])), ((b 1), .inl (g.2.1 0, 16, .inl (fun _ => 0))), ((b 2), .inl (g.2.1 0, 16, .inl (fun _ => 10))), ((b 3), .inl (g.2.1 0, 16, .inl (fun _ => 0))), ((b 4), .inl (g.2.1 0, 16, .inl (fun _ => 0))), ((b 16), .inl (g.2.1 1, 26, .inr (.inl (fun _ => 0))))] := E
  rcases hp with ⟨rfl, hR2⟩ | ⟨rfl, hR2⟩
  · skip
    refine lv_if_eq (tgt := 37) hx hb dX9_setCell_8 (by decide) (fun c_ => absurd c_ (show ¬ ((1 : Int32) = 0) by decide)) (fun _ => ?_)
    refine lv_iload_n hx hb dX9_setCell_11 rfl (lv_at hl 3 rfl) ?_
    refine lv_iconst (v := 1) hx hb dX9_setCell_12 (by decide) ?_
    refine lv_bipush (v := 50) hx hb dX9_setCell_13 (by decide) ?_
    refine w_reti (runS_X (As := [.int p2, .int 1, .int 50]) (rest := []) (n := 3) S hml hK (hZ.at E) (Cut.of (wc := []) (wr := [(m0, .inr (9, [.int 0, .ref (b 0), .ref (b 17)])), ((b 17), .inr (8, [.int 0, .ref (g.2.2 0), .int 0])), ((b 0), .inr (10, [.ref (b 1), .ref (b 2), .ref (b 3), .ref (b 4), .ref (b 5), .ref (b 6), .ref (b 7), .ref (b 8), .ref (b 9), .ref (b 10), .ref (b 11), .ref (b 12), .int 0, .int 0, .int (nI 0), .ref (b 13), .ref (b 14), .ref (b 16)])), ((b 1), .inl (g.2.1 0, 16, .inl (fun _ => 0))), ((b 2), .inl (g.2.1 0, 16, .inl (fun _ => 10))), ((b 3), .inl (g.2.1 0, 16, .inl (fun _ => 0))), ((b 4), .inl (g.2.1 0, 16, .inl (fun _ => 0))), ((b 16), .inl (g.2.1 1, 26, .inr (.inl (fun _ => 0))))]) E hA [] [0, 1, 2, 3, 4, 5, 6, 7] rfl rfl rfl rfl (by decide)) (c_X9_in l g p2 1 50 _ _) ml_X9_35 st_X9_in in_X9 co_X9_in ⟨by decide +kernel, by decide +kernel, by decide +kernel⟩ ⟨Nat.le_of_ble_eq_true rfl, Nat.le_of_ble_eq_true rfl⟩ rfl hl.1 rfl (Nat.le_of_ble_eq_true rfl) dX9_setCell_15 ⟨Nat.le_of_ble_eq_true rfl, Nat.le_of_ble_eq_true rfl⟩) (Cut.of (wc := []) (wr := [(m0, .inr (9, [.int 0, .ref (b 0), .ref (b 17)])), ((b 17), .inr (8, [.int 0, .ref (g.2.2 0), .int 0])), ((b 0), .inr (10, [.ref (b 1), .ref (b 2), .ref (b 3), .ref (b 4), .ref (b 5), .ref (b 6), .ref (b 7), .ref (b 8), .ref (b 9), .ref (b 10), .ref (b 11), .ref (b 12), .int 0, .int 0, .int (nI 0), .ref (b 13), .ref (b 14), .ref (b 16)])), ((b 1), .inl (g.2.1 0, 16, .inl (fun _ => 0))), ((b 2), .inl (g.2.1 0, 16, .inl (fun _ => 10))), ((b 3), .inl (g.2.1 0, 16, .inl (fun _ => 0))), ((b 4), .inl (g.2.1 0, 16, .inl (fun _ => 0))), ((b 16), .inl (g.2.1 1, 26, .inr (.inl (fun _ => 0))))]) E hA [] [0, 1, 2, 3, 4, 5, 6, 7] rfl rfl rfl rfl (by decide)) E (fun r3 u3 H locs hp E => ?_)
    have E : Ev g _ s.heap H locs [(m0, .inr (9, [.int 0, .ref (b 0), .ref (b 17)])), ((b 17), .inr (8, [.int 0, .ref (g.2.2 0), .int 0])), ((b 0), .inr (10, [.ref (b 1), .ref (b 2), .ref (b 3), .ref (b 4), .ref (b 5), .ref (b 6), .ref (b 7), .ref (b 8), .ref (b 9), .ref (b 10), .ref (b 11), .ref (b 12), .int 0, .int 0, .int (nI 0), .ref (b 13), .ref (b 14), .ref (b 16)])), ((b 1), .inl (g.2.1 0, 16, .inl (fun _ => 0))), ((b 2), .inl (g.2.1 0, 16, .inl (fun _ => 10))), ((b 3), .inl (g.2.1 0, 16, .inl (fun _ => 0))), ((b 4), .inl (g.2.1 0, 16, .inl (fun _ => 0))), ((b 16), .inl (g.2.1 1, 26, .inr (.inl (fun _ => 0))))] := E
    rcases hp with ⟨rfl, hR4⟩ | ⟨rfl, hR4⟩
    · skip
      refine lv_if_eq (tgt := 37) hx hb dX9_setCell_18 (by decide) (fun c_ => absurd c_ (show ¬ ((1 : Int32) = 0) by decide)) (fun _ => ?_)
      refine lv_iload hx hb dX9_setCell_21 (lv_at hl 4 rfl) ?_
      refine lv_iconst (v := 0) hx hb dX9_setCell_23 (by decide) ?_
      refine lv_sipush (v := 5000) hx hb dX9_setCell_24 (by decide) ?_
      refine w_reti (runS_X (As := [.int p3, .int 0, .int 5000]) (rest := []) (n := 3) S hml hK (hZ.at E) (Cut.of (wc := []) (wr := [(m0, .inr (9, [.int 0, .ref (b 0), .ref (b 17)])), ((b 17), .inr (8, [.int 0, .ref (g.2.2 0), .int 0])), ((b 0), .inr (10, [.ref (b 1), .ref (b 2), .ref (b 3), .ref (b 4), .ref (b 5), .ref (b 6), .ref (b 7), .ref (b 8), .ref (b 9), .ref (b 10), .ref (b 11), .ref (b 12), .int 0, .int 0, .int (nI 0), .ref (b 13), .ref (b 14), .ref (b 16)])), ((b 1), .inl (g.2.1 0, 16, .inl (fun _ => 0))), ((b 2), .inl (g.2.1 0, 16, .inl (fun _ => 10))), ((b 3), .inl (g.2.1 0, 16, .inl (fun _ => 0))), ((b 4), .inl (g.2.1 0, 16, .inl (fun _ => 0))), ((b 16), .inl (g.2.1 1, 26, .inr (.inl (fun _ => 0))))]) E hA [] [0, 1, 2, 3, 4, 5, 6, 7] rfl rfl rfl rfl (by decide)) (c_X9_in l g p3 0 5000 _ _) ml_X9_35 st_X9_in in_X9 co_X9_in ⟨by decide +kernel, by decide +kernel, by decide +kernel⟩ ⟨Nat.le_of_ble_eq_true rfl, Nat.le_of_ble_eq_true rfl⟩ rfl hl.1 rfl (Nat.le_of_ble_eq_true rfl) dX9_setCell_27 ⟨Nat.le_of_ble_eq_true rfl, Nat.le_of_ble_eq_true rfl⟩) (Cut.of (wc := []) (wr := [(m0, .inr (9, [.int 0, .ref (b 0), .ref (b 17)])), ((b 17), .inr (8, [.int 0, .ref (g.2.2 0), .int 0])), ((b 0), .inr (10, [.ref (b 1), .ref (b 2), .ref (b 3), .ref (b 4), .ref (b 5), .ref (b 6), .ref (b 7), .ref (b 8), .ref (b 9), .ref (b 10), .ref (b 11), .ref (b 12), .int 0, .int 0, .int (nI 0), .ref (b 13), .ref (b 14), .ref (b 16)])), ((b 1), .inl (g.2.1 0, 16, .inl (fun _ => 0))), ((b 2), .inl (g.2.1 0, 16, .inl (fun _ => 10))), ((b 3), .inl (g.2.1 0, 16, .inl (fun _ => 0))), ((b 4), .inl (g.2.1 0, 16, .inl (fun _ => 0))), ((b 16), .inl (g.2.1 1, 26, .inr (.inl (fun _ => 0))))]) E hA [] [0, 1, 2, 3, 4, 5, 6, 7] rfl rfl rfl rfl (by decide)) E (fun r5 u5 H locs hp E => ?_)
      have E : Ev g _ s.heap H locs [(m0, .inr (9, [.int 0, .ref (b 0), .ref (b 17)])), ((b 17), .inr (8, [.int 0, .ref (g.2.2 0), .int 0])), ((b 0), .inr (10, [.ref (b 1), .ref (b 2), .ref (b 3), .ref (b 4), .ref (b 5), .ref (b 6), .ref (b 7), .ref (b 8), .ref (b 9), .ref (b 10), .ref (b 11), .ref (b 12), .int 0, .int 0, .int (nI 0), .ref (b 13), .ref (b 14), .ref (b 16)])), ((b 1), .inl (g.2.1 0, 16, .inl (fun _ => 0))), ((b 2), .inl (g.2.1 0, 16, .inl (fun _ => 10))), ((b 3), .inl (g.2.1 0, 16, .inl (fun _ => 0))), ((b 4), .inl (g.2.1 0, 16, .inl (fun _ => 0))), ((b 16), .inl (g.2.1 1, 26, .inr (.inl (fun _ => 0))))] := E
      rcases hp with ⟨rfl, hR6⟩ | ⟨rfl, hR6⟩
      · skip
        refine lv_if_eq (tgt := 37) hx hb dX9_setCell_30 (by decide) (fun c_ => absurd c_ (show ¬ ((1 : Int32) = 0) by decide)) (fun _ => ?_)
        refine lv_iconst (v := 1) hx hb dX9_setCell_33 (by decide) ?_
        refine lv_goto (tgt := 38) hx hb dX9_setCell_34 (by decide) ?_
        refine lv_istore (lv' := [(5, .int 1), (0, .ref m0), (1, .int p0), (2, .int p1), (3, .int p2), (4, .int p3)]) hx hb dX9_setCell_38 hl (by decide) rfl (fun ls hl => ?_)
        refine lv_aload_n hx hb dX9_setCell_40 rfl (lv_at hl 1 rfl) ?_
        refine lv_iload_n hx hb dX9_setCell_41 rfl (lv_at hl 2 rfl) ?_
        refine lv_iconst (v := 0) hx hb dX9_setCell_42 (by decide) ?_
        refine lv_bipush (v := 15) hx hb dX9_setCell_43 (by decide) ?_
        refine w_reti (runS_X (As := [.int p0, .int 0, .int 15]) (rest := [.ref m0]) (n := 3) S hml hK (hZ.at E) (Cut.of (wc := []) (wr := [(m0, .inr (9, [.int 0, .ref (b 0), .ref (b 17)])), ((b 17), .inr (8, [.int 0, .ref (g.2.2 0), .int 0])), ((b 0), .inr (10, [.ref (b 1), .ref (b 2), .ref (b 3), .ref (b 4), .ref (b 5), .ref (b 6), .ref (b 7), .ref (b 8), .ref (b 9), .ref (b 10), .ref (b 11), .ref (b 12), .int 0, .int 0, .int (nI 0), .ref (b 13), .ref (b 14), .ref (b 16)])), ((b 1), .inl (g.2.1 0, 16, .inl (fun _ => 0))), ((b 2), .inl (g.2.1 0, 16, .inl (fun _ => 10))), ((b 3), .inl (g.2.1 0, 16, .inl (fun _ => 0))), ((b 4), .inl (g.2.1 0, 16, .inl (fun _ => 0))), ((b 16), .inl (g.2.1 1, 26, .inr (.inl (fun _ => 0))))]) E hA [] [0, 1, 2, 3, 4, 5, 6, 7] rfl rfl rfl rfl (by decide)) (c_X9_in l g p0 0 15 _ _) ml_X9_35 st_X9_in in_X9 co_X9_in ⟨by decide +kernel, by decide +kernel, by decide +kernel⟩ ⟨Nat.le_of_ble_eq_true rfl, Nat.le_of_ble_eq_true rfl⟩ rfl hl.1 rfl (Nat.le_of_ble_eq_true rfl) dX9_setCell_45 ⟨Nat.le_of_ble_eq_true rfl, Nat.le_of_ble_eq_true rfl⟩) (Cut.of (wc := []) (wr := [(m0, .inr (9, [.int 0, .ref (b 0), .ref (b 17)])), ((b 17), .inr (8, [.int 0, .ref (g.2.2 0), .int 0])), ((b 0), .inr (10, [.ref (b 1), .ref (b 2), .ref (b 3), .ref (b 4), .ref (b 5), .ref (b 6), .ref (b 7), .ref (b 8), .ref (b 9), .ref (b 10), .ref (b 11), .ref (b 12), .int 0, .int 0, .int (nI 0), .ref (b 13), .ref (b 14), .ref (b 16)])), ((b 1), .inl (g.2.1 0, 16, .inl (fun _ => 0))), ((b 2), .inl (g.2.1 0, 16, .inl (fun _ => 10))), ((b 3), .inl (g.2.1 0, 16, .inl (fun _ => 0))), ((b 4), .inl (g.2.1 0, 16, .inl (fun _ => 0))), ((b 16), .inl (g.2.1 1, 26, .inr (.inl (fun _ => 0))))]) E hA [] [0, 1, 2, 3, 4, 5, 6, 7] rfl rfl rfl rfl (by decide)) E (fun r7 u7 H locs hp E => ?_)
        have E : Ev g _ s.heap H locs [(m0, .inr (9, [.int 0, .ref (b 0), .ref (b 17)])), ((b 17), .inr (8, [.int 0, .ref (g.2.2 0), .int 0])), ((b 0), .inr (10, [.ref (b 1), .ref (b 2), .ref (b 3), .ref (b 4), .ref (b 5), .ref (b 6), .ref (b 7), .ref (b 8), .ref (b 9), .ref (b 10), .ref (b 11), .ref (b 12), .int 0, .int 0, .int (nI 0), .ref (b 13), .ref (b 14), .ref (b 16)])), ((b 1), .inl (g.2.1 0, 16, .inl (fun _ => 0))), ((b 2), .inl (g.2.1 0, 16, .inl (fun _ => 10))), ((b 3), .inl (g.2.1 0, 16, .inl (fun _ => 0))), ((b 4), .inl (g.2.1 0, 16, .inl (fun _ => 0))), ((b 16), .inl (g.2.1 1, 26, .inr (.inl (fun _ => 0))))] := E
        rcases hp with ⟨rfl, hR8⟩ | ⟨rfl, hR8⟩
        · skip
          refine lv_if_ne (tgt := 55) hx hb dX9_setCell_48 (by decide) (fun _ => ?_) (fun c_ => absurd c_ (show ¬ ((1 : Int32) = 0) by decide))
          refine lv_iload hx hb dX9_setCell_55 (lv_at hl 0 rfl) ?_
          refine lv_if_ne (tgt := 64) hx hb dX9_setCell_57 (by decide) (fun _ => ?_) (fun c_ => absurd c_ (show ¬ ((1 : Int32) = 0) by decide))
          refine lv_iconst (v := 0) hx hb dX9_setCell_64 (by decide) ?_
          refine w_reti (runV_X (As := [.int 0]) (rest := []) (q0 := 0) (n := 1) S hml hK (hZ.at E) (Cut.of (wc := [(m0, .inr (9, [.int 0, .ref (b 0), .ref (b 17)]))]) (wr := [((b 17), .inr (8, [.int 0, .ref (g.2.2 0), .int 0])), ((b 0), .inr (10, [.ref (b 1), .ref (b 2), .ref (b 3), .ref (b 4), .ref (b 5), .ref (b 6), .ref (b 7), .ref (b 8), .ref (b 9), .ref (b 10), .ref (b 11), .ref (b 12), .int 0, .int 0, .int (nI 0), .ref (b 13), .ref (b 14), .ref (b 16)])), ((b 1), .inl (g.2.1 0, 16, .inl (fun _ => 0))), ((b 2), .inl (g.2.1 0, 16, .inl (fun _ => 10))), ((b 3), .inl (g.2.1 0, 16, .inl (fun _ => 0))), ((b 4), .inl (g.2.1 0, 16, .inl (fun _ => 0))), ((b 16), .inl (g.2.1 1, 26, .inr (.inl (fun _ => 0))))]) E hA [0] [1, 2, 3, 4, 5, 6, 7] rfl rfl rfl rfl (by decide)) (c_X9_fails l g m0 b 0 0 _ _) (gi_wsV ml_X9_39 im_X9_fails sl_X9_fails in_X9 co_X9_fails) ⟨rfl, by decide +kernel, by decide +kernel, by decide +kernel⟩ ⟨Nat.le_of_ble_eq_true rfl, Nat.le_of_ble_eq_true rfl⟩ rfl rfl rfl hl.1 rfl (Nat.le_of_ble_eq_true rfl) dX9_setCell_65 ⟨Nat.le_of_ble_eq_true rfl, Nat.le_of_ble_eq_true rfl⟩) (Cut.of (wc := [(m0, .inr (9, [.int 0, .ref (b 0), .ref (b 17)]))]) (wr := [((b 17), .inr (8, [.int 0, .ref (g.2.2 0), .int 0])), ((b 0), .inr (10, [.ref (b 1), .ref (b 2), .ref (b 3), .ref (b 4), .ref (b 5), .ref (b 6), .ref (b 7), .ref (b 8), .ref (b 9), .ref (b 10), .ref (b 11), .ref (b 12), .int 0, .int 0, .int (nI 0), .ref (b 13), .ref (b 14), .ref (b 16)])), ((b 1), .inl (g.2.1 0, 16, .inl (fun _ => 0))), ((b 2), .inl (g.2.1 0, 16, .inl (fun _ => 10))), ((b 3), .inl (g.2.1 0, 16, .inl (fun _ => 0))), ((b 4), .inl (g.2.1 0, 16, .inl (fun _ => 0))), ((b 16), .inl (g.2.1 1, 26, .inr (.inl (fun _ => 0))))]) E hA [0] [1, 2, 3, 4, 5, 6, 7] rfl rfl rfl rfl (by decide)) E (fun r9 u9 H locs hp E => ?_)
          have E : Ev g _ s.heap H locs [((b 17), .inr (8, [.int 0, .ref (g.2.2 0), .int 0])), ((b 0), .inr (10, [.ref (b 1), .ref (b 2), .ref (b 3), .ref (b 4), .ref (b 5), .ref (b 6), .ref (b 7), .ref (b 8), .ref (b 9), .ref (b 10), .ref (b 11), .ref (b 12), .int 0, .int 0, .int (nI 0), .ref (b 13), .ref (b 14), .ref (b 16)])), ((b 1), .inl (g.2.1 0, 16, .inl (fun _ => 0))), ((b 2), .inl (g.2.1 0, 16, .inl (fun _ => 10))), ((b 3), .inl (g.2.1 0, 16, .inl (fun _ => 0))), ((b 4), .inl (g.2.1 0, 16, .inl (fun _ => 0))), ((b 16), .inl (g.2.1 1, 26, .inr (.inl (fun _ => 0)))), (m0, .inr (9, [.int 0, .ref (b 0), .ref (b 17)]))] := E
          obtain ⟨rfl, -⟩ := hp.resolve_left (fun z => z.2 (by decide))
          refine lv_if_eq (tgt := 73) hx hb dX9_setCell_68 (by decide) (fun _ => ?_) (fun c_ => absurd (show (0 : Int32) = 0 by decide) c_)
          refine lv_aload_n hx hb dX9_setCell_73 rfl (lv_at hl 1 rfl) ?_
          refine wg_X9_10 (v := .ref (b 0)) S hK E 7 rfl rfl dX9_setCell_74 ?_
          refine wg_X9_43 (v := .ref (b 3)) S hZ.2.2.2.2.2.2.1 hK E 1 rfl rfl dX9_setCell_77 ?_
          refine lv_iload_n hx hb dX9_setCell_80 rfl (lv_at hl 2 rfl) ?_
          refine w_ild (v := 0) S hK E 4 0 rfl rfl (rg_in 15 (by decide) (by decide) (by decide) hR8) rfl dX9_setCell_81 ?_
          refine lv_istore (lv' := [(6, .int 0), (5, .int 1), (0, .ref m0), (1, .int p0), (2, .int p1), (3, .int p2), (4, .int p3)]) hx hb dX9_setCell_82 hl (by decide) rfl (fun ls hl => ?_)
          refine lv_aload_n hx hb dX9_setCell_84 rfl (lv_at hl 2 rfl) ?_
          refine lv_bipush (v := 99) hx hb dX9_setCell_85 (by decide) ?_
          refine lv_iload_n hx hb dX9_setCell_87 rfl (lv_at hl 3 rfl) ?_
          refine lv_iload_n hx hb dX9_setCell_88 rfl (lv_at hl 4 rfl) ?_
          refine lv_iload_n hx hb dX9_setCell_89 rfl (lv_at hl 5 rfl) ?_
          refine lv_iload hx hb dX9_setCell_90 (lv_at hl 6 rfl) ?_
          refine w_retv (runV_X (As := [.int 99, .int p0, .int p1, .int p2, .int p3]) (rest := []) (q0 := 0) (n := 5) S hml hK (hZ.at E) (Cut.of (wc := [(m0, .inr (9, [.int 0, .ref (b 0), .ref (b 17)])), ((b 17), .inr (8, [.int 0, .ref (g.2.2 0), .int 0])), ((b 0), .inr (10, [.ref (b 1), .ref (b 2), .ref (b 3), .ref (b 4), .ref (b 5), .ref (b 6), .ref (b 7), .ref (b 8), .ref (b 9), .ref (b 10), .ref (b 11), .ref (b 12), .int 0, .int 0, .int (nI 0), .ref (b 13), .ref (b 14), .ref (b 16)])), ((b 1), .inl (g.2.1 0, 16, .inl (fun _ => 0))), ((b 2), .inl (g.2.1 0, 16, .inl (fun _ => 10))), ((b 3), .inl (g.2.1 0, 16, .inl (fun _ => 0))), ((b 4), .inl (g.2.1 0, 16, .inl (fun _ => 0))), ((b 16), .inl (g.2.1 1, 26, .inr (.inl (fun _ => 0))))]) (wr := []) E hA [7, 0, 1, 2, 3, 4, 5, 6] [] rfl rfl rfl rfl (by decide)) (c_ac99 l g m0 b 0 0 p0 p1 p2 p3 (rg_in 15 (by decide) (by decide) (by decide) hR8) _ _) (gi_wsV ml_X9_47 im_X9_act sl_X9_act in_X9 co_X9_act) ⟨rfl, by decide +kernel, by decide +kernel, by decide +kernel⟩ ⟨Nat.le_of_ble_eq_true rfl, Nat.le_of_ble_eq_true rfl⟩ rfl rfl rfl hl.1 rfl (Nat.le_of_ble_eq_true rfl) dX9_setCell_92 ⟨Nat.le_of_ble_eq_true rfl, Nat.le_of_ble_eq_true rfl⟩) (Cut.of (wc := [(m0, .inr (9, [.int 0, .ref (b 0), .ref (b 17)])), ((b 17), .inr (8, [.int 0, .ref (g.2.2 0), .int 0])), ((b 0), .inr (10, [.ref (b 1), .ref (b 2), .ref (b 3), .ref (b 4), .ref (b 5), .ref (b 6), .ref (b 7), .ref (b 8), .ref (b 9), .ref (b 10), .ref (b 11), .ref (b 12), .int 0, .int 0, .int (nI 0), .ref (b 13), .ref (b 14), .ref (b 16)])), ((b 1), .inl (g.2.1 0, 16, .inl (fun _ => 0))), ((b 2), .inl (g.2.1 0, 16, .inl (fun _ => 10))), ((b 3), .inl (g.2.1 0, 16, .inl (fun _ => 0))), ((b 4), .inl (g.2.1 0, 16, .inl (fun _ => 0))), ((b 16), .inl (g.2.1 1, 26, .inr (.inl (fun _ => 0))))]) (wr := []) E hA [7, 0, 1, 2, 3, 4, 5, 6] [] rfl rfl rfl rfl (by decide)) E (fun u10 H locs hp E => ?_)
          have E : Ev g _ s.heap H locs [(m0, .inr (9, [.int 0, .ref (b 0), .ref (b 17)]))] := E
          refine lv_iload hx hb dX9_setCell_95 (lv_at hl 0 rfl) ?_
          have hKK : (0 : Int32) = kk_setCell p0 p1 p2 p3 := (by unfold kk_setCell; rw [if_pos hR8, if_pos ⟨hR2, hR4, hR6⟩])
          exact x_iret 0 S hr hlk hsz htt hK E dX9_setCell_97 ⟨hKK, fun _ => rfl⟩ rfl ⟨Nat.le_of_ble_eq_true rfl, Nat.le_of_ble_eq_true rfl⟩ ⟨Nat.le_of_ble_eq_true rfl, Nat.le_of_ble_eq_true rfl⟩
        · skip
          refine lv_if_ne (tgt := 55) hx hb dX9_setCell_48 (by decide) (fun c_ => absurd (show (0 : Int32) = 0 by decide) c_) (fun _ => ?_)
          refine lv_iconst (v := 1) hx hb dX9_setCell_51 (by decide) ?_
          refine lv_goto (tgt := 65) hx hb dX9_setCell_52 (by decide) ?_
          refine w_reti (runV_X (As := [.int 1]) (rest := []) (q0 := 0) (n := 1) S hml hK (hZ.at E) (Cut.of (wc := [(m0, .inr (9, [.int 0, .ref (b 0), .ref (b 17)]))]) (wr := [((b 17), .inr (8, [.int 0, .ref (g.2.2 0), .int 0])), ((b 0), .inr (10, [.ref (b 1), .ref (b 2), .ref (b 3), .ref (b 4), .ref (b 5), .ref (b 6), .ref (b 7), .ref (b 8), .ref (b 9), .ref (b 10), .ref (b 11), .ref (b 12), .int 0, .int 0, .int (nI 0), .ref (b 13), .ref (b 14), .ref (b 16)])), ((b 1), .inl (g.2.1 0, 16, .inl (fun _ => 0))), ((b 2), .inl (g.2.1 0, 16, .inl (fun _ => 10))), ((b 3), .inl (g.2.1 0, 16, .inl (fun _ => 0))), ((b 4), .inl (g.2.1 0, 16, .inl (fun _ => 0))), ((b 16), .inl (g.2.1 1, 26, .inr (.inl (fun _ => 0))))]) E hA [0] [1, 2, 3, 4, 5, 6, 7] rfl rfl rfl rfl (by decide)) (c_X9_fails l g m0 b 0 1 _ _) (gi_wsV ml_X9_39 im_X9_fails sl_X9_fails in_X9 co_X9_fails) ⟨rfl, by decide +kernel, by decide +kernel, by decide +kernel⟩ ⟨Nat.le_of_ble_eq_true rfl, Nat.le_of_ble_eq_true rfl⟩ rfl rfl rfl hl.1 rfl (Nat.le_of_ble_eq_true rfl) dX9_setCell_65 ⟨Nat.le_of_ble_eq_true rfl, Nat.le_of_ble_eq_true rfl⟩) (Cut.of (wc := [(m0, .inr (9, [.int 0, .ref (b 0), .ref (b 17)]))]) (wr := [((b 17), .inr (8, [.int 0, .ref (g.2.2 0), .int 0])), ((b 0), .inr (10, [.ref (b 1), .ref (b 2), .ref (b 3), .ref (b 4), .ref (b 5), .ref (b 6), .ref (b 7), .ref (b 8), .ref (b 9), .ref (b 10), .ref (b 11), .ref (b 12), .int 0, .int 0, .int (nI 0), .ref (b 13), .ref (b 14), .ref (b 16)])), ((b 1), .inl (g.2.1 0, 16, .inl (fun _ => 0))), ((b 2), .inl (g.2.1 0, 16, .inl (fun _ => 10))), ((b 3), .inl (g.2.1 0, 16, .inl (fun _ => 0))), ((b 4), .inl (g.2.1 0, 16, .inl (fun _ => 0))), ((b 16), .inl (g.2.1 1, 26, .inr (.inl (fun _ => 0))))]) E hA [0] [1, 2, 3, 4, 5, 6, 7] rfl rfl rfl rfl (by decide)) E (fun r11 u11 H locs hp E => ?_)
          have E : Ev g _ s.heap H locs [((b 17), .inr (8, [.int 0, .ref (g.2.2 0), .int 0])), ((b 0), .inr (10, [.ref (b 1), .ref (b 2), .ref (b 3), .ref (b 4), .ref (b 5), .ref (b 6), .ref (b 7), .ref (b 8), .ref (b 9), .ref (b 10), .ref (b 11), .ref (b 12), .int 0, .int 0, .int (nI 0), .ref (b 13), .ref (b 14), .ref (b 16)])), ((b 1), .inl (g.2.1 0, 16, .inl (fun _ => 0))), ((b 2), .inl (g.2.1 0, 16, .inl (fun _ => 10))), ((b 3), .inl (g.2.1 0, 16, .inl (fun _ => 0))), ((b 4), .inl (g.2.1 0, 16, .inl (fun _ => 0))), ((b 16), .inl (g.2.1 1, 26, .inr (.inl (fun _ => 0)))), (m0, .inr (9, [.int 1, .ref (b 0), .ref (b 17)]))] := E
          obtain ⟨rfl, -⟩ := hp.resolve_right (fun z => absurd z.2 (by decide))
          refine lv_if_eq (tgt := 73) hx hb dX9_setCell_68 (by decide) (fun c_ => absurd c_ (show ¬ ((1 : Int32) = 0) by decide)) (fun _ => ?_)
          refine lv_iconst (v := 0) hx hb dX9_setCell_71 (by decide) ?_
          have hKK : (1 : Int32) = kk_setCell p0 p1 p2 p3 := (by unfold kk_setCell; rw [if_neg hR8])
          have E : Ev g _ s.heap H locs [(m0, .inr (9, [.int 1, .ref (b 0), .ref (b 17)]))] := Ev.sub E [7] rfl rfl
          exact x_iret 1 S hr hlk hsz htt hK E dX9_setCell_72 ⟨hKK, fun z => absurd (hKK.trans z) (by decide)⟩ rfl ⟨Nat.le_of_ble_eq_true rfl, Nat.le_of_ble_eq_true rfl⟩ ⟨Nat.le_of_ble_eq_true rfl, Nat.le_of_ble_eq_true rfl⟩
      · skip
        refine lv_if_eq (tgt := 37) hx hb dX9_setCell_30 (by decide) (fun _ => ?_) (fun c_ => absurd (show (0 : Int32) = 0 by decide) c_)
        refine lv_iconst (v := 0) hx hb dX9_setCell_37 (by decide) ?_
        refine lv_istore (lv' := [(5, .int 0), (0, .ref m0), (1, .int p0), (2, .int p1), (3, .int p2), (4, .int p3)]) hx hb dX9_setCell_38 hl (by decide) rfl (fun ls hl => ?_)
        refine lv_aload_n hx hb dX9_setCell_40 rfl (lv_at hl 1 rfl) ?_
        refine lv_iload_n hx hb dX9_setCell_41 rfl (lv_at hl 2 rfl) ?_
        refine lv_iconst (v := 0) hx hb dX9_setCell_42 (by decide) ?_
        refine lv_bipush (v := 15) hx hb dX9_setCell_43 (by decide) ?_
        refine w_reti (runS_X (As := [.int p0, .int 0, .int 15]) (rest := [.ref m0]) (n := 3) S hml hK (hZ.at E) (Cut.of (wc := []) (wr := [(m0, .inr (9, [.int 0, .ref (b 0), .ref (b 17)])), ((b 17), .inr (8, [.int 0, .ref (g.2.2 0), .int 0])), ((b 0), .inr (10, [.ref (b 1), .ref (b 2), .ref (b 3), .ref (b 4), .ref (b 5), .ref (b 6), .ref (b 7), .ref (b 8), .ref (b 9), .ref (b 10), .ref (b 11), .ref (b 12), .int 0, .int 0, .int (nI 0), .ref (b 13), .ref (b 14), .ref (b 16)])), ((b 1), .inl (g.2.1 0, 16, .inl (fun _ => 0))), ((b 2), .inl (g.2.1 0, 16, .inl (fun _ => 10))), ((b 3), .inl (g.2.1 0, 16, .inl (fun _ => 0))), ((b 4), .inl (g.2.1 0, 16, .inl (fun _ => 0))), ((b 16), .inl (g.2.1 1, 26, .inr (.inl (fun _ => 0))))]) E hA [] [0, 1, 2, 3, 4, 5, 6, 7] rfl rfl rfl rfl (by decide)) (c_X9_in l g p0 0 15 _ _) ml_X9_35 st_X9_in in_X9 co_X9_in ⟨by decide +kernel, by decide +kernel, by decide +kernel⟩ ⟨Nat.le_of_ble_eq_true rfl, Nat.le_of_ble_eq_true rfl⟩ rfl hl.1 rfl (Nat.le_of_ble_eq_true rfl) dX9_setCell_45 ⟨Nat.le_of_ble_eq_true rfl, Nat.le_of_ble_eq_true rfl⟩) (Cut.of (wc := []) (wr := [(m0, .inr (9, [.int 0, .ref (b 0), .ref (b 17)])), ((b 17), .inr (8, [.int 0, .ref (g.2.2 0), .int 0])), ((b 0), .inr (10, [.ref (b 1), .ref (b 2), .ref (b 3), .ref (b 4), .ref (b 5), .ref (b 6), .ref (b 7), .ref (b 8), .ref (b 9), .ref (b 10), .ref (b 11), .ref (b 12), .int 0, .int 0, .int (nI 0), .ref (b 13), .ref (b 14), .ref (b 16)])), ((b 1), .inl (g.2.1 0, 16, .inl (fun _ => 0))), ((b 2), .inl (g.2.1 0, 16, .inl (fun _ => 10))), ((b 3), .inl (g.2.1 0, 16, .inl (fun _ => 0))), ((b 4), .inl (g.2.1 0, 16, .inl (fun _ => 0))), ((b 16), .inl (g.2.1 1, 26, .inr (.inl (fun _ => 0))))]) E hA [] [0, 1, 2, 3, 4, 5, 6, 7] rfl rfl rfl rfl (by decide)) E (fun r12 u12 H locs hp E => ?_)
        have E : Ev g _ s.heap H locs [(m0, .inr (9, [.int 0, .ref (b 0), .ref (b 17)])), ((b 17), .inr (8, [.int 0, .ref (g.2.2 0), .int 0])), ((b 0), .inr (10, [.ref (b 1), .ref (b 2), .ref (b 3), .ref (b 4), .ref (b 5), .ref (b 6), .ref (b 7), .ref (b 8), .ref (b 9), .ref (b 10), .ref (b 11), .ref (b 12), .int 0, .int 0, .int (nI 0), .ref (b 13), .ref (b 14), .ref (b 16)])), ((b 1), .inl (g.2.1 0, 16, .inl (fun _ => 0))), ((b 2), .inl (g.2.1 0, 16, .inl (fun _ => 10))), ((b 3), .inl (g.2.1 0, 16, .inl (fun _ => 0))), ((b 4), .inl (g.2.1 0, 16, .inl (fun _ => 0))), ((b 16), .inl (g.2.1 1, 26, .inr (.inl (fun _ => 0))))] := E
        rcases hp with ⟨rfl, hR13⟩ | ⟨rfl, hR13⟩
        · skip
          refine lv_if_ne (tgt := 55) hx hb dX9_setCell_48 (by decide) (fun _ => ?_) (fun c_ => absurd c_ (show ¬ ((1 : Int32) = 0) by decide))
          refine lv_iload hx hb dX9_setCell_55 (lv_at hl 0 rfl) ?_
          refine lv_if_ne (tgt := 64) hx hb dX9_setCell_57 (by decide) (fun c_ => absurd (show (0 : Int32) = 0 by decide) c_) (fun _ => ?_)
          refine lv_iconst (v := 2) hx hb dX9_setCell_60 (by decide) ?_
          refine lv_goto (tgt := 65) hx hb dX9_setCell_61 (by decide) ?_
          refine w_reti (runV_X (As := [.int 2]) (rest := []) (q0 := 0) (n := 1) S hml hK (hZ.at E) (Cut.of (wc := [(m0, .inr (9, [.int 0, .ref (b 0), .ref (b 17)]))]) (wr := [((b 17), .inr (8, [.int 0, .ref (g.2.2 0), .int 0])), ((b 0), .inr (10, [.ref (b 1), .ref (b 2), .ref (b 3), .ref (b 4), .ref (b 5), .ref (b 6), .ref (b 7), .ref (b 8), .ref (b 9), .ref (b 10), .ref (b 11), .ref (b 12), .int 0, .int 0, .int (nI 0), .ref (b 13), .ref (b 14), .ref (b 16)])), ((b 1), .inl (g.2.1 0, 16, .inl (fun _ => 0))), ((b 2), .inl (g.2.1 0, 16, .inl (fun _ => 10))), ((b 3), .inl (g.2.1 0, 16, .inl (fun _ => 0))), ((b 4), .inl (g.2.1 0, 16, .inl (fun _ => 0))), ((b 16), .inl (g.2.1 1, 26, .inr (.inl (fun _ => 0))))]) E hA [0] [1, 2, 3, 4, 5, 6, 7] rfl rfl rfl rfl (by decide)) (c_X9_fails l g m0 b 0 2 _ _) (gi_wsV ml_X9_39 im_X9_fails sl_X9_fails in_X9 co_X9_fails) ⟨rfl, by decide +kernel, by decide +kernel, by decide +kernel⟩ ⟨Nat.le_of_ble_eq_true rfl, Nat.le_of_ble_eq_true rfl⟩ rfl rfl rfl hl.1 rfl (Nat.le_of_ble_eq_true rfl) dX9_setCell_65 ⟨Nat.le_of_ble_eq_true rfl, Nat.le_of_ble_eq_true rfl⟩) (Cut.of (wc := [(m0, .inr (9, [.int 0, .ref (b 0), .ref (b 17)]))]) (wr := [((b 17), .inr (8, [.int 0, .ref (g.2.2 0), .int 0])), ((b 0), .inr (10, [.ref (b 1), .ref (b 2), .ref (b 3), .ref (b 4), .ref (b 5), .ref (b 6), .ref (b 7), .ref (b 8), .ref (b 9), .ref (b 10), .ref (b 11), .ref (b 12), .int 0, .int 0, .int (nI 0), .ref (b 13), .ref (b 14), .ref (b 16)])), ((b 1), .inl (g.2.1 0, 16, .inl (fun _ => 0))), ((b 2), .inl (g.2.1 0, 16, .inl (fun _ => 10))), ((b 3), .inl (g.2.1 0, 16, .inl (fun _ => 0))), ((b 4), .inl (g.2.1 0, 16, .inl (fun _ => 0))), ((b 16), .inl (g.2.1 1, 26, .inr (.inl (fun _ => 0))))]) E hA [0] [1, 2, 3, 4, 5, 6, 7] rfl rfl rfl rfl (by decide)) E (fun r14 u14 H locs hp E => ?_)
          have E : Ev g _ s.heap H locs [((b 17), .inr (8, [.int 0, .ref (g.2.2 0), .int 0])), ((b 0), .inr (10, [.ref (b 1), .ref (b 2), .ref (b 3), .ref (b 4), .ref (b 5), .ref (b 6), .ref (b 7), .ref (b 8), .ref (b 9), .ref (b 10), .ref (b 11), .ref (b 12), .int 0, .int 0, .int (nI 0), .ref (b 13), .ref (b 14), .ref (b 16)])), ((b 1), .inl (g.2.1 0, 16, .inl (fun _ => 0))), ((b 2), .inl (g.2.1 0, 16, .inl (fun _ => 10))), ((b 3), .inl (g.2.1 0, 16, .inl (fun _ => 0))), ((b 4), .inl (g.2.1 0, 16, .inl (fun _ => 0))), ((b 16), .inl (g.2.1 1, 26, .inr (.inl (fun _ => 0)))), (m0, .inr (9, [.int 2, .ref (b 0), .ref (b 17)]))] := E
          obtain ⟨rfl, -⟩ := hp.resolve_right (fun z => absurd z.2 (by decide))
          refine lv_if_eq (tgt := 73) hx hb dX9_setCell_68 (by decide) (fun c_ => absurd c_ (show ¬ ((1 : Int32) = 0) by decide)) (fun _ => ?_)
          refine lv_iconst (v := 0) hx hb dX9_setCell_71 (by decide) ?_
          have hKK : (2 : Int32) = kk_setCell p0 p1 p2 p3 := (by unfold kk_setCell; rw [if_pos hR13, if_neg (fun z => hR6 z.2.2)])
          have E : Ev g _ s.heap H locs [(m0, .inr (9, [.int 2, .ref (b 0), .ref (b 17)]))] := Ev.sub E [7] rfl rfl
          exact x_iret 2 S hr hlk hsz htt hK E dX9_setCell_72 ⟨hKK, fun z => absurd (hKK.trans z) (by decide)⟩ rfl ⟨Nat.le_of_ble_eq_true rfl, Nat.le_of_ble_eq_true rfl⟩ ⟨Nat.le_of_ble_eq_true rfl, Nat.le_of_ble_eq_true rfl⟩
        · skip
          refine lv_if_ne (tgt := 55) hx hb dX9_setCell_48 (by decide) (fun c_ => absurd (show (0 : Int32) = 0 by decide) c_) (fun _ => ?_)
          refine lv_iconst (v := 1) hx hb dX9_setCell_51 (by decide) ?_
          refine lv_goto (tgt := 65) hx hb dX9_setCell_52 (by decide) ?_
          refine w_reti (runV_X (As := [.int 1]) (rest := []) (q0 := 0) (n := 1) S hml hK (hZ.at E) (Cut.of (wc := [(m0, .inr (9, [.int 0, .ref (b 0), .ref (b 17)]))]) (wr := [((b 17), .inr (8, [.int 0, .ref (g.2.2 0), .int 0])), ((b 0), .inr (10, [.ref (b 1), .ref (b 2), .ref (b 3), .ref (b 4), .ref (b 5), .ref (b 6), .ref (b 7), .ref (b 8), .ref (b 9), .ref (b 10), .ref (b 11), .ref (b 12), .int 0, .int 0, .int (nI 0), .ref (b 13), .ref (b 14), .ref (b 16)])), ((b 1), .inl (g.2.1 0, 16, .inl (fun _ => 0))), ((b 2), .inl (g.2.1 0, 16, .inl (fun _ => 10))), ((b 3), .inl (g.2.1 0, 16, .inl (fun _ => 0))), ((b 4), .inl (g.2.1 0, 16, .inl (fun _ => 0))), ((b 16), .inl (g.2.1 1, 26, .inr (.inl (fun _ => 0))))]) E hA [0] [1, 2, 3, 4, 5, 6, 7] rfl rfl rfl rfl (by decide)) (c_X9_fails l g m0 b 0 1 _ _) (gi_wsV ml_X9_39 im_X9_fails sl_X9_fails in_X9 co_X9_fails) ⟨rfl, by decide +kernel, by decide +kernel, by decide +kernel⟩ ⟨Nat.le_of_ble_eq_true rfl, Nat.le_of_ble_eq_true rfl⟩ rfl rfl rfl hl.1 rfl (Nat.le_of_ble_eq_true rfl) dX9_setCell_65 ⟨Nat.le_of_ble_eq_true rfl, Nat.le_of_ble_eq_true rfl⟩) (Cut.of (wc := [(m0, .inr (9, [.int 0, .ref (b 0), .ref (b 17)]))]) (wr := [((b 17), .inr (8, [.int 0, .ref (g.2.2 0), .int 0])), ((b 0), .inr (10, [.ref (b 1), .ref (b 2), .ref (b 3), .ref (b 4), .ref (b 5), .ref (b 6), .ref (b 7), .ref (b 8), .ref (b 9), .ref (b 10), .ref (b 11), .ref (b 12), .int 0, .int 0, .int (nI 0), .ref (b 13), .ref (b 14), .ref (b 16)])), ((b 1), .inl (g.2.1 0, 16, .inl (fun _ => 0))), ((b 2), .inl (g.2.1 0, 16, .inl (fun _ => 10))), ((b 3), .inl (g.2.1 0, 16, .inl (fun _ => 0))), ((b 4), .inl (g.2.1 0, 16, .inl (fun _ => 0))), ((b 16), .inl (g.2.1 1, 26, .inr (.inl (fun _ => 0))))]) E hA [0] [1, 2, 3, 4, 5, 6, 7] rfl rfl rfl rfl (by decide)) E (fun r15 u15 H locs hp E => ?_)
          have E : Ev g _ s.heap H locs [((b 17), .inr (8, [.int 0, .ref (g.2.2 0), .int 0])), ((b 0), .inr (10, [.ref (b 1), .ref (b 2), .ref (b 3), .ref (b 4), .ref (b 5), .ref (b 6), .ref (b 7), .ref (b 8), .ref (b 9), .ref (b 10), .ref (b 11), .ref (b 12), .int 0, .int 0, .int (nI 0), .ref (b 13), .ref (b 14), .ref (b 16)])), ((b 1), .inl (g.2.1 0, 16, .inl (fun _ => 0))), ((b 2), .inl (g.2.1 0, 16, .inl (fun _ => 10))), ((b 3), .inl (g.2.1 0, 16, .inl (fun _ => 0))), ((b 4), .inl (g.2.1 0, 16, .inl (fun _ => 0))), ((b 16), .inl (g.2.1 1, 26, .inr (.inl (fun _ => 0)))), (m0, .inr (9, [.int 1, .ref (b 0), .ref (b 17)]))] := E
          obtain ⟨rfl, -⟩ := hp.resolve_right (fun z => absurd z.2 (by decide))
          refine lv_if_eq (tgt := 73) hx hb dX9_setCell_68 (by decide) (fun c_ => absurd c_ (show ¬ ((1 : Int32) = 0) by decide)) (fun _ => ?_)
          refine lv_iconst (v := 0) hx hb dX9_setCell_71 (by decide) ?_
          have hKK : (1 : Int32) = kk_setCell p0 p1 p2 p3 := (by unfold kk_setCell; rw [if_neg hR13])
          have E : Ev g _ s.heap H locs [(m0, .inr (9, [.int 1, .ref (b 0), .ref (b 17)]))] := Ev.sub E [7] rfl rfl
          exact x_iret 1 S hr hlk hsz htt hK E dX9_setCell_72 ⟨hKK, fun z => absurd (hKK.trans z) (by decide)⟩ rfl ⟨Nat.le_of_ble_eq_true rfl, Nat.le_of_ble_eq_true rfl⟩ ⟨Nat.le_of_ble_eq_true rfl, Nat.le_of_ble_eq_true rfl⟩
    · skip
      refine lv_if_eq (tgt := 37) hx hb dX9_setCell_18 (by decide) (fun _ => ?_) (fun c_ => absurd (show (0 : Int32) = 0 by decide) c_)
      refine lv_iconst (v := 0) hx hb dX9_setCell_37 (by decide) ?_
      refine lv_istore (lv' := [(5, .int 0), (0, .ref m0), (1, .int p0), (2, .int p1), (3, .int p2), (4, .int p3)]) hx hb dX9_setCell_38 hl (by decide) rfl (fun ls hl => ?_)
      refine lv_aload_n hx hb dX9_setCell_40 rfl (lv_at hl 1 rfl) ?_
      refine lv_iload_n hx hb dX9_setCell_41 rfl (lv_at hl 2 rfl) ?_
      refine lv_iconst (v := 0) hx hb dX9_setCell_42 (by decide) ?_
      refine lv_bipush (v := 15) hx hb dX9_setCell_43 (by decide) ?_
      refine w_reti (runS_X (As := [.int p0, .int 0, .int 15]) (rest := [.ref m0]) (n := 3) S hml hK (hZ.at E) (Cut.of (wc := []) (wr := [(m0, .inr (9, [.int 0, .ref (b 0), .ref (b 17)])), ((b 17), .inr (8, [.int 0, .ref (g.2.2 0), .int 0])), ((b 0), .inr (10, [.ref (b 1), .ref (b 2), .ref (b 3), .ref (b 4), .ref (b 5), .ref (b 6), .ref (b 7), .ref (b 8), .ref (b 9), .ref (b 10), .ref (b 11), .ref (b 12), .int 0, .int 0, .int (nI 0), .ref (b 13), .ref (b 14), .ref (b 16)])), ((b 1), .inl (g.2.1 0, 16, .inl (fun _ => 0))), ((b 2), .inl (g.2.1 0, 16, .inl (fun _ => 10))), ((b 3), .inl (g.2.1 0, 16, .inl (fun _ => 0))), ((b 4), .inl (g.2.1 0, 16, .inl (fun _ => 0))), ((b 16), .inl (g.2.1 1, 26, .inr (.inl (fun _ => 0))))]) E hA [] [0, 1, 2, 3, 4, 5, 6, 7] rfl rfl rfl rfl (by decide)) (c_X9_in l g p0 0 15 _ _) ml_X9_35 st_X9_in in_X9 co_X9_in ⟨by decide +kernel, by decide +kernel, by decide +kernel⟩ ⟨Nat.le_of_ble_eq_true rfl, Nat.le_of_ble_eq_true rfl⟩ rfl hl.1 rfl (Nat.le_of_ble_eq_true rfl) dX9_setCell_45 ⟨Nat.le_of_ble_eq_true rfl, Nat.le_of_ble_eq_true rfl⟩) (Cut.of (wc := []) (wr := [(m0, .inr (9, [.int 0, .ref (b 0), .ref (b 17)])), ((b 17), .inr (8, [.int 0, .ref (g.2.2 0), .int 0])), ((b 0), .inr (10, [.ref (b 1), .ref (b 2), .ref (b 3), .ref (b 4), .ref (b 5), .ref (b 6), .ref (b 7), .ref (b 8), .ref (b 9), .ref (b 10), .ref (b 11), .ref (b 12), .int 0, .int 0, .int (nI 0), .ref (b 13), .ref (b 14), .ref (b 16)])), ((b 1), .inl (g.2.1 0, 16, .inl (fun _ => 0))), ((b 2), .inl (g.2.1 0, 16, .inl (fun _ => 10))), ((b 3), .inl (g.2.1 0, 16, .inl (fun _ => 0))), ((b 4), .inl (g.2.1 0, 16, .inl (fun _ => 0))), ((b 16), .inl (g.2.1 1, 26, .inr (.inl (fun _ => 0))))]) E hA [] [0, 1, 2, 3, 4, 5, 6, 7] rfl rfl rfl rfl (by decide)) E (fun r16 u16 H locs hp E => ?_)
      have E : Ev g _ s.heap H locs [(m0, .inr (9, [.int 0, .ref (b 0), .ref (b 17)])), ((b 17), .inr (8, [.int 0, .ref (g.2.2 0), .int 0])), ((b 0), .inr (10, [.ref (b 1), .ref (b 2), .ref (b 3), .ref (b 4), .ref (b 5), .ref (b 6), .ref (b 7), .ref (b 8), .ref (b 9), .ref (b 10), .ref (b 11), .ref (b 12), .int 0, .int 0, .int (nI 0), .ref (b 13), .ref (b 14), .ref (b 16)])), ((b 1), .inl (g.2.1 0, 16, .inl (fun _ => 0))), ((b 2), .inl (g.2.1 0, 16, .inl (fun _ => 10))), ((b 3), .inl (g.2.1 0, 16, .inl (fun _ => 0))), ((b 4), .inl (g.2.1 0, 16, .inl (fun _ => 0))), ((b 16), .inl (g.2.1 1, 26, .inr (.inl (fun _ => 0))))] := E
      rcases hp with ⟨rfl, hR17⟩ | ⟨rfl, hR17⟩
      · skip
        refine lv_if_ne (tgt := 55) hx hb dX9_setCell_48 (by decide) (fun _ => ?_) (fun c_ => absurd c_ (show ¬ ((1 : Int32) = 0) by decide))
        refine lv_iload hx hb dX9_setCell_55 (lv_at hl 0 rfl) ?_
        refine lv_if_ne (tgt := 64) hx hb dX9_setCell_57 (by decide) (fun c_ => absurd (show (0 : Int32) = 0 by decide) c_) (fun _ => ?_)
        refine lv_iconst (v := 2) hx hb dX9_setCell_60 (by decide) ?_
        refine lv_goto (tgt := 65) hx hb dX9_setCell_61 (by decide) ?_
        refine w_reti (runV_X (As := [.int 2]) (rest := []) (q0 := 0) (n := 1) S hml hK (hZ.at E) (Cut.of (wc := [(m0, .inr (9, [.int 0, .ref (b 0), .ref (b 17)]))]) (wr := [((b 17), .inr (8, [.int 0, .ref (g.2.2 0), .int 0])), ((b 0), .inr (10, [.ref (b 1), .ref (b 2), .ref (b 3), .ref (b 4), .ref (b 5), .ref (b 6), .ref (b 7), .ref (b 8), .ref (b 9), .ref (b 10), .ref (b 11), .ref (b 12), .int 0, .int 0, .int (nI 0), .ref (b 13), .ref (b 14), .ref (b 16)])), ((b 1), .inl (g.2.1 0, 16, .inl (fun _ => 0))), ((b 2), .inl (g.2.1 0, 16, .inl (fun _ => 10))), ((b 3), .inl (g.2.1 0, 16, .inl (fun _ => 0))), ((b 4), .inl (g.2.1 0, 16, .inl (fun _ => 0))), ((b 16), .inl (g.2.1 1, 26, .inr (.inl (fun _ => 0))))]) E hA [0] [1, 2, 3, 4, 5, 6, 7] rfl rfl rfl rfl (by decide)) (c_X9_fails l g m0 b 0 2 _ _) (gi_wsV ml_X9_39 im_X9_fails sl_X9_fails in_X9 co_X9_fails) ⟨rfl, by decide +kernel, by decide +kernel, by decide +kernel⟩ ⟨Nat.le_of_ble_eq_true rfl, Nat.le_of_ble_eq_true rfl⟩ rfl rfl rfl hl.1 rfl (Nat.le_of_ble_eq_true rfl) dX9_setCell_65 ⟨Nat.le_of_ble_eq_true rfl, Nat.le_of_ble_eq_true rfl⟩) (Cut.of (wc := [(m0, .inr (9, [.int 0, .ref (b 0), .ref (b 17)]))]) (wr := [((b 17), .inr (8, [.int 0, .ref (g.2.2 0), .int 0])), ((b 0), .inr (10, [.ref (b 1), .ref (b 2), .ref (b 3), .ref (b 4), .ref (b 5), .ref (b 6), .ref (b 7), .ref (b 8), .ref (b 9), .ref (b 10), .ref (b 11), .ref (b 12), .int 0, .int 0, .int (nI 0), .ref (b 13), .ref (b 14), .ref (b 16)])), ((b 1), .inl (g.2.1 0, 16, .inl (fun _ => 0))), ((b 2), .inl (g.2.1 0, 16, .inl (fun _ => 10))), ((b 3), .inl (g.2.1 0, 16, .inl (fun _ => 0))), ((b 4), .inl (g.2.1 0, 16, .inl (fun _ => 0))), ((b 16), .inl (g.2.1 1, 26, .inr (.inl (fun _ => 0))))]) E hA [0] [1, 2, 3, 4, 5, 6, 7] rfl rfl rfl rfl (by decide)) E (fun r18 u18 H locs hp E => ?_)
        have E : Ev g _ s.heap H locs [((b 17), .inr (8, [.int 0, .ref (g.2.2 0), .int 0])), ((b 0), .inr (10, [.ref (b 1), .ref (b 2), .ref (b 3), .ref (b 4), .ref (b 5), .ref (b 6), .ref (b 7), .ref (b 8), .ref (b 9), .ref (b 10), .ref (b 11), .ref (b 12), .int 0, .int 0, .int (nI 0), .ref (b 13), .ref (b 14), .ref (b 16)])), ((b 1), .inl (g.2.1 0, 16, .inl (fun _ => 0))), ((b 2), .inl (g.2.1 0, 16, .inl (fun _ => 10))), ((b 3), .inl (g.2.1 0, 16, .inl (fun _ => 0))), ((b 4), .inl (g.2.1 0, 16, .inl (fun _ => 0))), ((b 16), .inl (g.2.1 1, 26, .inr (.inl (fun _ => 0)))), (m0, .inr (9, [.int 2, .ref (b 0), .ref (b 17)]))] := E
        obtain ⟨rfl, -⟩ := hp.resolve_right (fun z => absurd z.2 (by decide))
        refine lv_if_eq (tgt := 73) hx hb dX9_setCell_68 (by decide) (fun c_ => absurd c_ (show ¬ ((1 : Int32) = 0) by decide)) (fun _ => ?_)
        refine lv_iconst (v := 0) hx hb dX9_setCell_71 (by decide) ?_
        have hKK : (2 : Int32) = kk_setCell p0 p1 p2 p3 := (by unfold kk_setCell; rw [if_pos hR17, if_neg (fun z => hR4 z.2.1)])
        have E : Ev g _ s.heap H locs [(m0, .inr (9, [.int 2, .ref (b 0), .ref (b 17)]))] := Ev.sub E [7] rfl rfl
        exact x_iret 2 S hr hlk hsz htt hK E dX9_setCell_72 ⟨hKK, fun z => absurd (hKK.trans z) (by decide)⟩ rfl ⟨Nat.le_of_ble_eq_true rfl, Nat.le_of_ble_eq_true rfl⟩ ⟨Nat.le_of_ble_eq_true rfl, Nat.le_of_ble_eq_true rfl⟩
      · skip
        refine lv_if_ne (tgt := 55) hx hb dX9_setCell_48 (by decide) (fun c_ => absurd (show (0 : Int32) = 0 by decide) c_) (fun _ => ?_)
        refine lv_iconst (v := 1) hx hb dX9_setCell_51 (by decide) ?_
        refine lv_goto (tgt := 65) hx hb dX9_setCell_52 (by decide) ?_
        refine w_reti (runV_X (As := [.int 1]) (rest := []) (q0 := 0) (n := 1) S hml hK (hZ.at E) (Cut.of (wc := [(m0, .inr (9, [.int 0, .ref (b 0), .ref (b 17)]))]) (wr := [((b 17), .inr (8, [.int 0, .ref (g.2.2 0), .int 0])), ((b 0), .inr (10, [.ref (b 1), .ref (b 2), .ref (b 3), .ref (b 4), .ref (b 5), .ref (b 6), .ref (b 7), .ref (b 8), .ref (b 9), .ref (b 10), .ref (b 11), .ref (b 12), .int 0, .int 0, .int (nI 0), .ref (b 13), .ref (b 14), .ref (b 16)])), ((b 1), .inl (g.2.1 0, 16, .inl (fun _ => 0))), ((b 2), .inl (g.2.1 0, 16, .inl (fun _ => 10))), ((b 3), .inl (g.2.1 0, 16, .inl (fun _ => 0))), ((b 4), .inl (g.2.1 0, 16, .inl (fun _ => 0))), ((b 16), .inl (g.2.1 1, 26, .inr (.inl (fun _ => 0))))]) E hA [0] [1, 2, 3, 4, 5, 6, 7] rfl rfl rfl rfl (by decide)) (c_X9_fails l g m0 b 0 1 _ _) (gi_wsV ml_X9_39 im_X9_fails sl_X9_fails in_X9 co_X9_fails) ⟨rfl, by decide +kernel, by decide +kernel, by decide +kernel⟩ ⟨Nat.le_of_ble_eq_true rfl, Nat.le_of_ble_eq_true rfl⟩ rfl rfl rfl hl.1 rfl (Nat.le_of_ble_eq_true rfl) dX9_setCell_65 ⟨Nat.le_of_ble_eq_true rfl, Nat.le_of_ble_eq_true rfl⟩) (Cut.of (wc := [(m0, .inr (9, [.int 0, .ref (b 0), .ref (b 17)]))]) (wr := [((b 17), .inr (8, [.int 0, .ref (g.2.2 0), .int 0])), ((b 0), .inr (10, [.ref (b 1), .ref (b 2), .ref (b 3), .ref (b 4), .ref (b 5), .ref (b 6), .ref (b 7), .ref (b 8), .ref (b 9), .ref (b 10), .ref (b 11), .ref (b 12), .int 0, .int 0, .int (nI 0), .ref (b 13), .ref (b 14), .ref (b 16)])), ((b 1), .inl (g.2.1 0, 16, .inl (fun _ => 0))), ((b 2), .inl (g.2.1 0, 16, .inl (fun _ => 10))), ((b 3), .inl (g.2.1 0, 16, .inl (fun _ => 0))), ((b 4), .inl (g.2.1 0, 16, .inl (fun _ => 0))), ((b 16), .inl (g.2.1 1, 26, .inr (.inl (fun _ => 0))))]) E hA [0] [1, 2, 3, 4, 5, 6, 7] rfl rfl rfl rfl (by decide)) E (fun r19 u19 H locs hp E => ?_)
        have E : Ev g _ s.heap H locs [((b 17), .inr (8, [.int 0, .ref (g.2.2 0), .int 0])), ((b 0), .inr (10, [.ref (b 1), .ref (b 2), .ref (b 3), .ref (b 4), .ref (b 5), .ref (b 6), .ref (b 7), .ref (b 8), .ref (b 9), .ref (b 10), .ref (b 11), .ref (b 12), .int 0, .int 0, .int (nI 0), .ref (b 13), .ref (b 14), .ref (b 16)])), ((b 1), .inl (g.2.1 0, 16, .inl (fun _ => 0))), ((b 2), .inl (g.2.1 0, 16, .inl (fun _ => 10))), ((b 3), .inl (g.2.1 0, 16, .inl (fun _ => 0))), ((b 4), .inl (g.2.1 0, 16, .inl (fun _ => 0))), ((b 16), .inl (g.2.1 1, 26, .inr (.inl (fun _ => 0)))), (m0, .inr (9, [.int 1, .ref (b 0), .ref (b 17)]))] := E
        obtain ⟨rfl, -⟩ := hp.resolve_right (fun z => absurd z.2 (by decide))
        refine lv_if_eq (tgt := 73) hx hb dX9_setCell_68 (by decide) (fun c_ => absurd c_ (show ¬ ((1 : Int32) = 0) by decide)) (fun _ => ?_)
        refine lv_iconst (v := 0) hx hb dX9_setCell_71 (by decide) ?_
        have hKK : (1 : Int32) = kk_setCell p0 p1 p2 p3 := (by unfold kk_setCell; rw [if_neg hR17])
        have E : Ev g _ s.heap H locs [(m0, .inr (9, [.int 1, .ref (b 0), .ref (b 17)]))] := Ev.sub E [7] rfl rfl
        exact x_iret 1 S hr hlk hsz htt hK E dX9_setCell_72 ⟨hKK, fun z => absurd (hKK.trans z) (by decide)⟩ rfl ⟨Nat.le_of_ble_eq_true rfl, Nat.le_of_ble_eq_true rfl⟩ ⟨Nat.le_of_ble_eq_true rfl, Nat.le_of_ble_eq_true rfl⟩
  · skip
    refine lv_if_eq (tgt := 37) hx hb dX9_setCell_8 (by decide) (fun _ => ?_) (fun c_ => absurd (show (0 : Int32) = 0 by decide) c_)
    refine lv_iconst (v := 0) hx hb dX9_setCell_37 (by decide) ?_
    refine lv_istore (lv' := [(5, .int 0), (0, .ref m0), (1, .int p0), (2, .int p1), (3, .int p2), (4, .int p3)]) hx hb dX9_setCell_38 hl (by decide) rfl (fun ls hl => ?_)
    refine lv_aload_n hx hb dX9_setCell_40 rfl (lv_at hl 1 rfl) ?_
    refine lv_iload_n hx hb dX9_setCell_41 rfl (lv_at hl 2 rfl) ?_
    refine lv_iconst (v := 0) hx hb dX9_setCell_42 (by decide) ?_
    refine lv_bipush (v := 15) hx hb dX9_setCell_43 (by decide) ?_
    refine w_reti (runS_X (As := [.int p0, .int 0, .int 15]) (rest := [.ref m0]) (n := 3) S hml hK (hZ.at E) (Cut.of (wc := []) (wr := [(m0, .inr (9, [.int 0, .ref (b 0), .ref (b 17)])), ((b 17), .inr (8, [.int 0, .ref (g.2.2 0), .int 0])), ((b 0), .inr (10, [.ref (b 1), .ref (b 2), .ref (b 3), .ref (b 4), .ref (b 5), .ref (b 6), .ref (b 7), .ref (b 8), .ref (b 9), .ref (b 10), .ref (b 11), .ref (b 12), .int 0, .int 0, .int (nI 0), .ref (b 13), .ref (b 14), .ref (b 16)])), ((b 1), .inl (g.2.1 0, 16, .inl (fun _ => 0))), ((b 2), .inl (g.2.1 0, 16, .inl (fun _ => 10))), ((b 3), .inl (g.2.1 0, 16, .inl (fun _ => 0))), ((b 4), .inl (g.2.1 0, 16, .inl (fun _ => 0))), ((b 16), .inl (g.2.1 1, 26, .inr (.inl (fun _ => 0))))]) E hA [] [0, 1, 2, 3, 4, 5, 6, 7] rfl rfl rfl rfl (by decide)) (c_X9_in l g p0 0 15 _ _) ml_X9_35 st_X9_in in_X9 co_X9_in ⟨by decide +kernel, by decide +kernel, by decide +kernel⟩ ⟨Nat.le_of_ble_eq_true rfl, Nat.le_of_ble_eq_true rfl⟩ rfl hl.1 rfl (Nat.le_of_ble_eq_true rfl) dX9_setCell_45 ⟨Nat.le_of_ble_eq_true rfl, Nat.le_of_ble_eq_true rfl⟩) (Cut.of (wc := []) (wr := [(m0, .inr (9, [.int 0, .ref (b 0), .ref (b 17)])), ((b 17), .inr (8, [.int 0, .ref (g.2.2 0), .int 0])), ((b 0), .inr (10, [.ref (b 1), .ref (b 2), .ref (b 3), .ref (b 4), .ref (b 5), .ref (b 6), .ref (b 7), .ref (b 8), .ref (b 9), .ref (b 10), .ref (b 11), .ref (b 12), .int 0, .int 0, .int (nI 0), .ref (b 13), .ref (b 14), .ref (b 16)])), ((b 1), .inl (g.2.1 0, 16, .inl (fun _ => 0))), ((b 2), .inl (g.2.1 0, 16, .inl (fun _ => 10))), ((b 3), .inl (g.2.1 0, 16, .inl (fun _ => 0))), ((b 4), .inl (g.2.1 0, 16, .inl (fun _ => 0))), ((b 16), .inl (g.2.1 1, 26, .inr (.inl (fun _ => 0))))]) E hA [] [0, 1, 2, 3, 4, 5, 6, 7] rfl rfl rfl rfl (by decide)) E (fun r20 u20 H locs hp E => ?_)
    have E : Ev g _ s.heap H locs [(m0, .inr (9, [.int 0, .ref (b 0), .ref (b 17)])), ((b 17), .inr (8, [.int 0, .ref (g.2.2 0), .int 0])), ((b 0), .inr (10, [.ref (b 1), .ref (b 2), .ref (b 3), .ref (b 4), .ref (b 5), .ref (b 6), .ref (b 7), .ref (b 8), .ref (b 9), .ref (b 10), .ref (b 11), .ref (b 12), .int 0, .int 0, .int (nI 0), .ref (b 13), .ref (b 14), .ref (b 16)])), ((b 1), .inl (g.2.1 0, 16, .inl (fun _ => 0))), ((b 2), .inl (g.2.1 0, 16, .inl (fun _ => 10))), ((b 3), .inl (g.2.1 0, 16, .inl (fun _ => 0))), ((b 4), .inl (g.2.1 0, 16, .inl (fun _ => 0))), ((b 16), .inl (g.2.1 1, 26, .inr (.inl (fun _ => 0))))] := E
    rcases hp with ⟨rfl, hR21⟩ | ⟨rfl, hR21⟩
    · skip
      refine lv_if_ne (tgt := 55) hx hb dX9_setCell_48 (by decide) (fun _ => ?_) (fun c_ => absurd c_ (show ¬ ((1 : Int32) = 0) by decide))
      refine lv_iload hx hb dX9_setCell_55 (lv_at hl 0 rfl) ?_
      refine lv_if_ne (tgt := 64) hx hb dX9_setCell_57 (by decide) (fun c_ => absurd (show (0 : Int32) = 0 by decide) c_) (fun _ => ?_)
      refine lv_iconst (v := 2) hx hb dX9_setCell_60 (by decide) ?_
      refine lv_goto (tgt := 65) hx hb dX9_setCell_61 (by decide) ?_
      refine w_reti (runV_X (As := [.int 2]) (rest := []) (q0 := 0) (n := 1) S hml hK (hZ.at E) (Cut.of (wc := [(m0, .inr (9, [.int 0, .ref (b 0), .ref (b 17)]))]) (wr := [((b 17), .inr (8, [.int 0, .ref (g.2.2 0), .int 0])), ((b 0), .inr (10, [.ref (b 1), .ref (b 2), .ref (b 3), .ref (b 4), .ref (b 5), .ref (b 6), .ref (b 7), .ref (b 8), .ref (b 9), .ref (b 10), .ref (b 11), .ref (b 12), .int 0, .int 0, .int (nI 0), .ref (b 13), .ref (b 14), .ref (b 16)])), ((b 1), .inl (g.2.1 0, 16, .inl (fun _ => 0))), ((b 2), .inl (g.2.1 0, 16, .inl (fun _ => 10))), ((b 3), .inl (g.2.1 0, 16, .inl (fun _ => 0))), ((b 4), .inl (g.2.1 0, 16, .inl (fun _ => 0))), ((b 16), .inl (g.2.1 1, 26, .inr (.inl (fun _ => 0))))]) E hA [0] [1, 2, 3, 4, 5, 6, 7] rfl rfl rfl rfl (by decide)) (c_X9_fails l g m0 b 0 2 _ _) (gi_wsV ml_X9_39 im_X9_fails sl_X9_fails in_X9 co_X9_fails) ⟨rfl, by decide +kernel, by decide +kernel, by decide +kernel⟩ ⟨Nat.le_of_ble_eq_true rfl, Nat.le_of_ble_eq_true rfl⟩ rfl rfl rfl hl.1 rfl (Nat.le_of_ble_eq_true rfl) dX9_setCell_65 ⟨Nat.le_of_ble_eq_true rfl, Nat.le_of_ble_eq_true rfl⟩) (Cut.of (wc := [(m0, .inr (9, [.int 0, .ref (b 0), .ref (b 17)]))]) (wr := [((b 17), .inr (8, [.int 0, .ref (g.2.2 0), .int 0])), ((b 0), .inr (10, [.ref (b 1), .ref (b 2), .ref (b 3), .ref (b 4), .ref (b 5), .ref (b 6), .ref (b 7), .ref (b 8), .ref (b 9), .ref (b 10), .ref (b 11), .ref (b 12), .int 0, .int 0, .int (nI 0), .ref (b 13), .ref (b 14), .ref (b 16)])), ((b 1), .inl (g.2.1 0, 16, .inl (fun _ => 0))), ((b 2), .inl (g.2.1 0, 16, .inl (fun _ => 10))), ((b 3), .inl (g.2.1 0, 16, .inl (fun _ => 0))), ((b 4), .inl (g.2.1 0, 16, .inl (fun _ => 0))), ((b 16), .inl (g.2.1 1, 26, .inr (.inl (fun _ => 0))))]) E hA [0] [1, 2, 3, 4, 5, 6, 7] rfl rfl rfl rfl (by decide)) E (fun r22 u22 H locs hp E => ?_)
      have E : Ev g _ s.heap H locs [((b 17), .inr (8, [.int 0, .ref (g.2.2 0), .int 0])), ((b 0), .inr (10, [.ref (b 1), .ref (b 2), .ref (b 3), .ref (b 4), .ref (b 5), .ref (b 6), .ref (b 7), .ref (b 8), .ref (b 9), .ref (b 10), .ref (b 11), .ref (b 12), .int 0, .int 0, .int (nI 0), .ref (b 13), .ref (b 14), .ref (b 16)])), ((b 1), .inl (g.2.1 0, 16, .inl (fun _ => 0))), ((b 2), .inl (g.2.1 0, 16, .inl (fun _ => 10))), ((b 3), .inl (g.2.1 0, 16, .inl (fun _ => 0))), ((b 4), .inl (g.2.1 0, 16, .inl (fun _ => 0))), ((b 16), .inl (g.2.1 1, 26, .inr (.inl (fun _ => 0)))), (m0, .inr (9, [.int 2, .ref (b 0), .ref (b 17)]))] := E
      obtain ⟨rfl, -⟩ := hp.resolve_right (fun z => absurd z.2 (by decide))
      refine lv_if_eq (tgt := 73) hx hb dX9_setCell_68 (by decide) (fun c_ => absurd c_ (show ¬ ((1 : Int32) = 0) by decide)) (fun _ => ?_)
      refine lv_iconst (v := 0) hx hb dX9_setCell_71 (by decide) ?_
      have hKK : (2 : Int32) = kk_setCell p0 p1 p2 p3 := (by unfold kk_setCell; rw [if_pos hR21, if_neg (fun z => hR2 z.1)])
      have E : Ev g _ s.heap H locs [(m0, .inr (9, [.int 2, .ref (b 0), .ref (b 17)]))] := Ev.sub E [7] rfl rfl
      exact x_iret 2 S hr hlk hsz htt hK E dX9_setCell_72 ⟨hKK, fun z => absurd (hKK.trans z) (by decide)⟩ rfl ⟨Nat.le_of_ble_eq_true rfl, Nat.le_of_ble_eq_true rfl⟩ ⟨Nat.le_of_ble_eq_true rfl, Nat.le_of_ble_eq_true rfl⟩
    · skip
      refine lv_if_ne (tgt := 55) hx hb dX9_setCell_48 (by decide) (fun c_ => absurd (show (0 : Int32) = 0 by decide) c_) (fun _ => ?_)
      refine lv_iconst (v := 1) hx hb dX9_setCell_51 (by decide) ?_
      refine lv_goto (tgt := 65) hx hb dX9_setCell_52 (by decide) ?_
      refine w_reti (runV_X (As := [.int 1]) (rest := []) (q0 := 0) (n := 1) S hml hK (hZ.at E) (Cut.of (wc := [(m0, .inr (9, [.int 0, .ref (b 0), .ref (b 17)]))]) (wr := [((b 17), .inr (8, [.int 0, .ref (g.2.2 0), .int 0])), ((b 0), .inr (10, [.ref (b 1), .ref (b 2), .ref (b 3), .ref (b 4), .ref (b 5), .ref (b 6), .ref (b 7), .ref (b 8), .ref (b 9), .ref (b 10), .ref (b 11), .ref (b 12), .int 0, .int 0, .int (nI 0), .ref (b 13), .ref (b 14), .ref (b 16)])), ((b 1), .inl (g.2.1 0, 16, .inl (fun _ => 0))), ((b 2), .inl (g.2.1 0, 16, .inl (fun _ => 10))), ((b 3), .inl (g.2.1 0, 16, .inl (fun _ => 0))), ((b 4), .inl (g.2.1 0, 16, .inl (fun _ => 0))), ((b 16), .inl (g.2.1 1, 26, .inr (.inl (fun _ => 0))))]) E hA [0] [1, 2, 3, 4, 5, 6, 7] rfl rfl rfl rfl (by decide)) (c_X9_fails l g m0 b 0 1 _ _) (gi_wsV ml_X9_39 im_X9_fails sl_X9_fails in_X9 co_X9_fails) ⟨rfl, by decide +kernel, by decide +kernel, by decide +kernel⟩ ⟨Nat.le_of_ble_eq_true rfl, Nat.le_of_ble_eq_true rfl⟩ rfl rfl rfl hl.1 rfl (Nat.le_of_ble_eq_true rfl) dX9_setCell_65 ⟨Nat.le_of_ble_eq_true rfl, Nat.le_of_ble_eq_true rfl⟩) (Cut.of (wc := [(m0, .inr (9, [.int 0, .ref (b 0), .ref (b 17)]))]) (wr := [((b 17), .inr (8, [.int 0, .ref (g.2.2 0), .int 0])), ((b 0), .inr (10, [.ref (b 1), .ref (b 2), .ref (b 3), .ref (b 4), .ref (b 5), .ref (b 6), .ref (b 7), .ref (b 8), .ref (b 9), .ref (b 10), .ref (b 11), .ref (b 12), .int 0, .int 0, .int (nI 0), .ref (b 13), .ref (b 14), .ref (b 16)])), ((b 1), .inl (g.2.1 0, 16, .inl (fun _ => 0))), ((b 2), .inl (g.2.1 0, 16, .inl (fun _ => 10))), ((b 3), .inl (g.2.1 0, 16, .inl (fun _ => 0))), ((b 4), .inl (g.2.1 0, 16, .inl (fun _ => 0))), ((b 16), .inl (g.2.1 1, 26, .inr (.inl (fun _ => 0))))]) E hA [0] [1, 2, 3, 4, 5, 6, 7] rfl rfl rfl rfl (by decide)) E (fun r23 u23 H locs hp E => ?_)
      have E : Ev g _ s.heap H locs [((b 17), .inr (8, [.int 0, .ref (g.2.2 0), .int 0])), ((b 0), .inr (10, [.ref (b 1), .ref (b 2), .ref (b 3), .ref (b 4), .ref (b 5), .ref (b 6), .ref (b 7), .ref (b 8), .ref (b 9), .ref (b 10), .ref (b 11), .ref (b 12), .int 0, .int 0, .int (nI 0), .ref (b 13), .ref (b 14), .ref (b 16)])), ((b 1), .inl (g.2.1 0, 16, .inl (fun _ => 0))), ((b 2), .inl (g.2.1 0, 16, .inl (fun _ => 10))), ((b 3), .inl (g.2.1 0, 16, .inl (fun _ => 0))), ((b 4), .inl (g.2.1 0, 16, .inl (fun _ => 0))), ((b 16), .inl (g.2.1 1, 26, .inr (.inl (fun _ => 0)))), (m0, .inr (9, [.int 1, .ref (b 0), .ref (b 17)]))] := E
      obtain ⟨rfl, -⟩ := hp.resolve_right (fun z => absurd z.2 (by decide))
      refine lv_if_eq (tgt := 73) hx hb dX9_setCell_68 (by decide) (fun c_ => absurd c_ (show ¬ ((1 : Int32) = 0) by decide)) (fun _ => ?_)
      refine lv_iconst (v := 0) hx hb dX9_setCell_71 (by decide) ?_
      have hKK : (1 : Int32) = kk_setCell p0 p1 p2 p3 := (by unfold kk_setCell; rw [if_neg hR21])
      have E : Ev g _ s.heap H locs [(m0, .inr (9, [.int 1, .ref (b 0), .ref (b 17)]))] := Ev.sub E [7] rfl rfl
      exact x_iret 1 S hr hlk hsz htt hK E dX9_setCell_72 ⟨hKK, fun z => absurd (hKK.trans z) (by decide)⟩ rfl ⟨Nat.le_of_ble_eq_true rfl, Nat.le_of_ble_eq_true rfl⟩ ⟨Nat.le_of_ble_eq_true rfl, Nat.le_of_ble_eq_true rfl⟩

/-- what setGround throws at first: its number, 0 for nothing -/
def kk_setGround (p0 : Int32) (p1 : Int32) : Int32 := if rgOK p0 0 7 then (if rgOK p1 (-100) 200 then 0 else 2) else 1
theorem dX9_setGround_0 : decode cX9_setGround 0 = .ok (.aload_n 0, 1) := by decide +kernel
theorem dX9_setGround_1 : decode cX9_setGround 1 = .ok (.iload_n 1, 1) := by decide +kernel
theorem dX9_setGround_2 : decode cX9_setGround 2 = .ok (.bipush 7, 2) := by decide +kernel
theorem dX9_setGround_4 : decode cX9_setGround 4 = .ok (.iload_n 2, 1) := by decide +kernel
theorem dX9_setGround_5 : decode cX9_setGround 5 = .ok (.bipush (-100), 2) := by decide +kernel
theorem dX9_setGround_7 : decode cX9_setGround 7 = .ok (.sipush 200, 3) := by decide +kernel
theorem dX9_setGround_10 : decode cX9_setGround 10 = .ok (.invokestatic 35, 3) := by decide +kernel
theorem dX9_setGround_13 : decode cX9_setGround 13 = .ok (.invokevirtual 51, 3) := by decide +kernel
theorem dX9_setGround_16 : decode cX9_setGround 16 = .ok (.ifCond .eq 5, 3) := by decide +kernel
theorem dX9_setGround_19 : decode cX9_setGround 19 = .ok (.iconst 0, 1) := by decide +kernel
theorem dX9_setGround_20 : decode cX9_setGround 20 = .ok (.ireturn, 1) := by decide +kernel
theorem dX9_setGround_21 : decode cX9_setGround 21 = .ok (.aload_n 0, 1) := by decide +kernel
theorem dX9_setGround_22 : decode cX9_setGround 22 = .ok (.getfield 10, 3) := by decide +kernel
theorem dX9_setGround_25 : decode cX9_setGround 25 = .ok (.getfield 55, 3) := by decide +kernel
theorem dX9_setGround_28 : decode cX9_setGround 28 = .ok (.iload_n 1, 1) := by decide +kernel
theorem dX9_setGround_29 : decode cX9_setGround 29 = .ok (.iaload, 1) := by decide +kernel
theorem dX9_setGround_30 : decode cX9_setGround 30 = .ok (.istore_n 3, 1) := by decide +kernel
theorem dX9_setGround_31 : decode cX9_setGround 31 = .ok (.aload_n 0, 1) := by decide +kernel
theorem dX9_setGround_32 : decode cX9_setGround 32 = .ok (.bipush 103, 2) := by decide +kernel
theorem dX9_setGround_34 : decode cX9_setGround 34 = .ok (.iload_n 1, 1) := by decide +kernel
theorem dX9_setGround_35 : decode cX9_setGround 35 = .ok (.iload_n 2, 1) := by decide +kernel
theorem dX9_setGround_36 : decode cX9_setGround 36 = .ok (.iconst 0, 1) := by decide +kernel
theorem dX9_setGround_37 : decode cX9_setGround 37 = .ok (.iconst 0, 1) := by decide +kernel
theorem dX9_setGround_38 : decode cX9_setGround 38 = .ok (.invokevirtual 47, 3) := by decide +kernel
theorem dX9_setGround_41 : decode cX9_setGround 41 = .ok (.iload_n 3, 1) := by decide +kernel
theorem dX9_setGround_42 : decode cX9_setGround 42 = .ok (.ireturn, 1) := by decide +kernel
set_option maxHeartbeats 4000000 in
set_option maxRecDepth 100000 in
/-- reference: setGround -/
theorem c_X9_setGround (l : Launch) (g : Gm) (m0 : Nat) (b : Nat → Nat) (p0 : Int32) (p1 : Int32) : MXi (S := Int32) l g yX9_setGround cX9_setGround 4 .int ({ frames := 6, cells := 2, slots := 15, locals := 128 } : Room) [.ref m0, .int p0, .int p1] [(m0, .inr (9, [.int 0, .ref (b 0), .ref (b 17)])), ((b 17), .inr (8, [.int 0, .ref (g.2.2 0), .int 0])), ((b 0), .inr (10, [.ref (b 1), .ref (b 2), .ref (b 3), .ref (b 4), .ref (b 5), .ref (b 6), .ref (b 7), .ref (b 8), .ref (b 9), .ref (b 10), .ref (b 11), .ref (b 12), .int 0, .int 0, .int (nI 0), .ref (b 13), .ref (b 14), .ref (b 16)])), ((b 5), .inl (g.2.1 0, 8, .inl (fun _ => 100)))] (fun r u => u = kk_setGround p0 p1 ∧ (kk_setGround p0 p1 = 0 → r = 100)) (fun u => [(m0, .inr (9, [.int u, .ref (b 0), .ref (b 17)]))]) (fun _ => (2, 15)) := by
  intro sz tt
  refine ofX RX9 rfl (by decide +kernel) (Nat.le_of_ble_eq_true rfl) (fun p e s m args below meth c hargs S hml hr hlk hnm hsz htt hK hA hZ E ls hl => ?_)
  have hx := S.1
  have hb := S.2.1
  have hl : lv_has ls 4 [(0, .ref m0), (1, .int p0), (2, .int p1)] := hl
  refine lv_aload_n hx hb dX9_setGround_0 rfl (lv_at hl 0 rfl) ?_
  refine lv_iload_n hx hb dX9_setGround_1 rfl (lv_at hl 1 rfl) ?_
  refine lv_bipush (v := 7) hx hb dX9_setGround_2 (by decide) ?_
  refine lv_iload_n hx hb dX9_setGround_4 rfl (lv_at hl 2 rfl) ?_
  refine lv_bipush (v := (-100)) hx hb dX9_setGround_5 (by decide) ?_
  refine lv_sipush (v := 200) hx hb dX9_setGround_7 (by decide) ?_
  refine w_reti (runS_X (As := [.int p1, .int (-100), .int 200]) (rest := [.int 7, .int p0, .ref m0]) (n := 3) S hml hK (hZ.at E) (Cut.of (wc := []) (wr := [(m0, .inr (9, [.int 0, .ref (b 0), .ref (b 17)])), ((b 17), .inr (8, [.int 0, .ref (g.2.2 0), .int 0])), ((b 0), .inr (10, [.ref (b 1), .ref (b 2), .ref (b 3), .ref (b 4), .ref (b 5), .ref (b 6), .ref (b 7), .ref (b 8), .ref (b 9), .ref (b 10), .ref (b 11), .ref (b 12), .int 0, .int 0, .int (nI 0), .ref (b 13), .ref (b 14), .ref (b 16)])), ((b 5), .inl (g.2.1 0, 8, .inl (fun _ => 100)))]) E hA [] [0, 1, 2, 3] rfl rfl rfl rfl (by decide)) (c_X9_in l g p1 (-100) 200 _ _) ml_X9_35 st_X9_in in_X9 co_X9_in ⟨by decide +kernel, by decide +kernel, by decide +kernel⟩ ⟨Nat.le_of_ble_eq_true rfl, Nat.le_of_ble_eq_true rfl⟩ rfl hl.1 rfl (Nat.le_of_ble_eq_true rfl) dX9_setGround_10 ⟨Nat.le_of_ble_eq_true rfl, Nat.le_of_ble_eq_true rfl⟩) (Cut.of (wc := []) (wr := [(m0, .inr (9, [.int 0, .ref (b 0), .ref (b 17)])), ((b 17), .inr (8, [.int 0, .ref (g.2.2 0), .int 0])), ((b 0), .inr (10, [.ref (b 1), .ref (b 2), .ref (b 3), .ref (b 4), .ref (b 5), .ref (b 6), .ref (b 7), .ref (b 8), .ref (b 9), .ref (b 10), .ref (b 11), .ref (b 12), .int 0, .int 0, .int (nI 0), .ref (b 13), .ref (b 14), .ref (b 16)])), ((b 5), .inl (g.2.1 0, 8, .inl (fun _ => 100)))]) E hA [] [0, 1, 2, 3] rfl rfl rfl rfl (by decide)) E (fun r1 u1 H locs hp E => ?_)
  have E : Ev g _ s.heap H locs [(m0, .inr (9, [.int 0, .ref (b 0), .ref (b 17)])), ((b 17), .inr (8, [.int 0, .ref (g.2.2 0), .int 0])), ((b 0), .inr (10, [.ref (b 1), .ref (b 2), .ref (b 3), .ref (b 4), .ref (b 5), .ref (b 6), .ref (b 7), .ref (b 8), .ref (b 9), .ref (b 10), .ref (b 11), .ref (b 12), .int 0, .int 0, .int (nI 0), .ref (b 13), .ref (b 14), .ref (b 16)])), ((b 5), .inl (g.2.1 0, 8, .inl (fun _ => 100)))] := E
  rcases hp with ⟨rfl, hR2⟩ | ⟨rfl, hR2⟩
  · skip
    refine w_reti (runV_X (As := [.int p0, .int 7, .int 1]) (rest := []) (q0 := 0) (n := 3) S hml hK (hZ.at E) (Cut.of (wc := [(m0, .inr (9, [.int 0, .ref (b 0), .ref (b 17)]))]) (wr := [((b 17), .inr (8, [.int 0, .ref (g.2.2 0), .int 0])), ((b 0), .inr (10, [.ref (b 1), .ref (b 2), .ref (b 3), .ref (b 4), .ref (b 5), .ref (b 6), .ref (b 7), .ref (b 8), .ref (b 9), .ref (b 10), .ref (b 11), .ref (b 12), .int 0, .int 0, .int (nI 0), .ref (b 13), .ref (b 14), .ref (b 16)])), ((b 5), .inl (g.2.1 0, 8, .inl (fun _ => 100)))]) E hA [0] [1, 2, 3] rfl rfl rfl rfl (by decide)) (c_fs1 l g m0 b 0 p0 7 _ _) (gi_wsV ml_X9_51 im_X9_failsSet sl_X9_failsSet in_X9 co_X9_failsSet) ⟨rfl, by decide +kernel, by decide +kernel, by decide +kernel⟩ ⟨Nat.le_of_ble_eq_true rfl, Nat.le_of_ble_eq_true rfl⟩ rfl rfl rfl hl.1 rfl (Nat.le_of_ble_eq_true rfl) dX9_setGround_13 ⟨Nat.le_of_ble_eq_true rfl, Nat.le_of_ble_eq_true rfl⟩) (Cut.of (wc := [(m0, .inr (9, [.int 0, .ref (b 0), .ref (b 17)]))]) (wr := [((b 17), .inr (8, [.int 0, .ref (g.2.2 0), .int 0])), ((b 0), .inr (10, [.ref (b 1), .ref (b 2), .ref (b 3), .ref (b 4), .ref (b 5), .ref (b 6), .ref (b 7), .ref (b 8), .ref (b 9), .ref (b 10), .ref (b 11), .ref (b 12), .int 0, .int 0, .int (nI 0), .ref (b 13), .ref (b 14), .ref (b 16)])), ((b 5), .inl (g.2.1 0, 8, .inl (fun _ => 100)))]) E hA [0] [1, 2, 3] rfl rfl rfl rfl (by decide)) E (fun r3 u3 H locs hp E => ?_)
    have E : Ev g _ s.heap H locs [((b 17), .inr (8, [.int 0, .ref (g.2.2 0), .int 0])), ((b 0), .inr (10, [.ref (b 1), .ref (b 2), .ref (b 3), .ref (b 4), .ref (b 5), .ref (b 6), .ref (b 7), .ref (b 8), .ref (b 9), .ref (b 10), .ref (b 11), .ref (b 12), .int 0, .int 0, .int (nI 0), .ref (b 13), .ref (b 14), .ref (b 16)])), ((b 5), .inl (g.2.1 0, 8, .inl (fun _ => 100))), (m0, .inr (9, [.int u3, .ref (b 0), .ref (b 17)]))] := E
    rcases hp with ⟨rfl, rfl, hR4⟩ | ⟨rfl, rfl, hR4⟩
    · skip
      refine lv_if_eq (tgt := 21) hx hb dX9_setGround_16 (by decide) (fun _ => ?_) (fun c_ => absurd (show (0 : Int32) = 0 by decide) c_)
      refine lv_aload_n hx hb dX9_setGround_21 rfl (lv_at hl 0 rfl) ?_
      refine wg_X9_10 (v := .ref (b 0)) S hK E 3 rfl rfl dX9_setGround_22 ?_
      refine wg_X9_55 (v := .ref (b 5)) S hZ.2.2.2.2.2.2.1 hK E 1 rfl rfl dX9_setGround_25 ?_
      refine lv_iload_n hx hb dX9_setGround_28 rfl (lv_at hl 1 rfl) ?_
      refine w_ild (v := 100) S hK E 2 0 rfl rfl (rg_in 7 (by decide) (by decide) (by decide) hR4) rfl dX9_setGround_29 ?_
      refine lv_istore_n (lv' := [(3, .int 100), (0, .ref m0), (1, .int p0), (2, .int p1)]) hx hb dX9_setGround_30 rfl hl (by decide) rfl (fun ls hl => ?_)
      refine lv_aload_n hx hb dX9_setGround_31 rfl (lv_at hl 1 rfl) ?_
      refine lv_bipush (v := 103) hx hb dX9_setGround_32 (by decide) ?_
      refine lv_iload_n hx hb dX9_setGround_34 rfl (lv_at hl 2 rfl) ?_
      refine lv_iload_n hx hb dX9_setGround_35 rfl (lv_at hl 3 rfl) ?_
      refine lv_iconst (v := 0) hx hb dX9_setGround_36 (by decide) ?_
      refine lv_iconst (v := 0) hx hb dX9_setGround_37 (by decide) ?_
      refine w_retv (runV_X (As := [.int 103, .int p0, .int p1, .int 0, .int 0]) (rest := []) (q0 := 0) (n := 5) S hml hK (hZ.at E) (Cut.of (wc := [(m0, .inr (9, [.int 0, .ref (b 0), .ref (b 17)])), ((b 17), .inr (8, [.int 0, .ref (g.2.2 0), .int 0])), ((b 0), .inr (10, [.ref (b 1), .ref (b 2), .ref (b 3), .ref (b 4), .ref (b 5), .ref (b 6), .ref (b 7), .ref (b 8), .ref (b 9), .ref (b 10), .ref (b 11), .ref (b 12), .int 0, .int 0, .int (nI 0), .ref (b 13), .ref (b 14), .ref (b 16)])), ((b 5), .inl (g.2.1 0, 8, .inl (fun _ => 100)))]) (wr := []) E hA [3, 0, 1, 2] [] rfl rfl rfl rfl (by decide)) (c_ac103 l g m0 b 0 0 p0 p1 (rg_in 7 (by decide) (by decide) (by decide) hR4) _ _) (gi_wsV ml_X9_47 im_X9_act sl_X9_act in_X9 co_X9_act) ⟨rfl, by decide +kernel, by decide +kernel, by decide +kernel⟩ ⟨Nat.le_of_ble_eq_true rfl, Nat.le_of_ble_eq_true rfl⟩ rfl rfl rfl hl.1 rfl (Nat.le_of_ble_eq_true rfl) dX9_setGround_38 ⟨Nat.le_of_ble_eq_true rfl, Nat.le_of_ble_eq_true rfl⟩) (Cut.of (wc := [(m0, .inr (9, [.int 0, .ref (b 0), .ref (b 17)])), ((b 17), .inr (8, [.int 0, .ref (g.2.2 0), .int 0])), ((b 0), .inr (10, [.ref (b 1), .ref (b 2), .ref (b 3), .ref (b 4), .ref (b 5), .ref (b 6), .ref (b 7), .ref (b 8), .ref (b 9), .ref (b 10), .ref (b 11), .ref (b 12), .int 0, .int 0, .int (nI 0), .ref (b 13), .ref (b 14), .ref (b 16)])), ((b 5), .inl (g.2.1 0, 8, .inl (fun _ => 100)))]) (wr := []) E hA [3, 0, 1, 2] [] rfl rfl rfl rfl (by decide)) E (fun u5 H locs hp E => ?_)
      have E : Ev g _ s.heap H locs [(m0, .inr (9, [.int 0, .ref (b 0), .ref (b 17)]))] := E
      refine lv_iload_n hx hb dX9_setGround_41 rfl (lv_at hl 0 rfl) ?_
      have hKK : (0 : Int32) = kk_setGround p0 p1 := (by unfold kk_setGround; rw [if_pos hR4, if_pos hR2])
      exact x_iret 0 S hr hlk hsz htt hK E dX9_setGround_42 ⟨hKK, fun _ => rfl⟩ rfl ⟨Nat.le_of_ble_eq_true rfl, Nat.le_of_ble_eq_true rfl⟩ ⟨Nat.le_of_ble_eq_true rfl, Nat.le_of_ble_eq_true rfl⟩
    · skip
      refine lv_if_eq (tgt := 21) hx hb dX9_setGround_16 (by decide) (fun c_ => absurd c_ (show ¬ ((1 : Int32) = 0) by decide)) (fun _ => ?_)
      refine lv_iconst (v := 0) hx hb dX9_setGround_19 (by decide) ?_
      have hKK : (1 : Int32) = kk_setGround p0 p1 := (by unfold kk_setGround; rw [if_neg hR4])
      have E : Ev g _ s.heap H locs [(m0, .inr (9, [.int 1, .ref (b 0), .ref (b 17)]))] := Ev.sub E [3] rfl rfl
      exact x_iret 1 S hr hlk hsz htt hK E dX9_setGround_20 ⟨hKK, fun z => absurd (hKK.trans z) (by decide)⟩ rfl ⟨Nat.le_of_ble_eq_true rfl, Nat.le_of_ble_eq_true rfl⟩ ⟨Nat.le_of_ble_eq_true rfl, Nat.le_of_ble_eq_true rfl⟩
  · skip
    refine w_reti (runV_X (As := [.int p0, .int 7, .int 0]) (rest := []) (q0 := 0) (n := 3) S hml hK (hZ.at E) (Cut.of (wc := [(m0, .inr (9, [.int 0, .ref (b 0), .ref (b 17)]))]) (wr := [((b 17), .inr (8, [.int 0, .ref (g.2.2 0), .int 0])), ((b 0), .inr (10, [.ref (b 1), .ref (b 2), .ref (b 3), .ref (b 4), .ref (b 5), .ref (b 6), .ref (b 7), .ref (b 8), .ref (b 9), .ref (b 10), .ref (b 11), .ref (b 12), .int 0, .int 0, .int (nI 0), .ref (b 13), .ref (b 14), .ref (b 16)])), ((b 5), .inl (g.2.1 0, 8, .inl (fun _ => 100)))]) E hA [0] [1, 2, 3] rfl rfl rfl rfl (by decide)) (c_fs0 l g m0 b 0 p0 7 _ _) (gi_wsV ml_X9_51 im_X9_failsSet sl_X9_failsSet in_X9 co_X9_failsSet) ⟨rfl, by decide +kernel, by decide +kernel, by decide +kernel⟩ ⟨Nat.le_of_ble_eq_true rfl, Nat.le_of_ble_eq_true rfl⟩ rfl rfl rfl hl.1 rfl (Nat.le_of_ble_eq_true rfl) dX9_setGround_13 ⟨Nat.le_of_ble_eq_true rfl, Nat.le_of_ble_eq_true rfl⟩) (Cut.of (wc := [(m0, .inr (9, [.int 0, .ref (b 0), .ref (b 17)]))]) (wr := [((b 17), .inr (8, [.int 0, .ref (g.2.2 0), .int 0])), ((b 0), .inr (10, [.ref (b 1), .ref (b 2), .ref (b 3), .ref (b 4), .ref (b 5), .ref (b 6), .ref (b 7), .ref (b 8), .ref (b 9), .ref (b 10), .ref (b 11), .ref (b 12), .int 0, .int 0, .int (nI 0), .ref (b 13), .ref (b 14), .ref (b 16)])), ((b 5), .inl (g.2.1 0, 8, .inl (fun _ => 100)))]) E hA [0] [1, 2, 3] rfl rfl rfl rfl (by decide)) E (fun r6 u6 H locs hp E => ?_)
    have E : Ev g _ s.heap H locs [((b 17), .inr (8, [.int 0, .ref (g.2.2 0), .int 0])), ((b 0), .inr (10, [.ref (b 1), .ref (b 2), .ref (b 3), .ref (b 4), .ref (b 5), .ref (b 6), .ref (b 7), .ref (b 8), .ref (b 9), .ref (b 10), .ref (b 11), .ref (b 12), .int 0, .int 0, .int (nI 0), .ref (b 13), .ref (b 14), .ref (b 16)])), ((b 5), .inl (g.2.1 0, 8, .inl (fun _ => 100))), (m0, .inr (9, [.int u6, .ref (b 0), .ref (b 17)]))] := E
    rcases hp with ⟨rfl, rfl, hR7⟩ | ⟨rfl, rfl, hR7⟩
    · skip
      refine lv_if_eq (tgt := 21) hx hb dX9_setGround_16 (by decide) (fun c_ => absurd c_ (show ¬ ((1 : Int32) = 0) by decide)) (fun _ => ?_)
      refine lv_iconst (v := 0) hx hb dX9_setGround_19 (by decide) ?_
      have hKK : (2 : Int32) = kk_setGround p0 p1 := (by unfold kk_setGround; rw [if_pos hR7, if_neg (fun z => hR2 z)])
      have E : Ev g _ s.heap H locs [(m0, .inr (9, [.int 2, .ref (b 0), .ref (b 17)]))] := Ev.sub E [3] rfl rfl
      exact x_iret 2 S hr hlk hsz htt hK E dX9_setGround_20 ⟨hKK, fun z => absurd (hKK.trans z) (by decide)⟩ rfl ⟨Nat.le_of_ble_eq_true rfl, Nat.le_of_ble_eq_true rfl⟩ ⟨Nat.le_of_ble_eq_true rfl, Nat.le_of_ble_eq_true rfl⟩
    · skip
      refine lv_if_eq (tgt := 21) hx hb dX9_setGround_16 (by decide) (fun c_ => absurd c_ (show ¬ ((1 : Int32) = 0) by decide)) (fun _ => ?_)
      refine lv_iconst (v := 0) hx hb dX9_setGround_19 (by decide) ?_
      have hKK : (1 : Int32) = kk_setGround p0 p1 := (by unfold kk_setGround; rw [if_neg hR7])
      have E : Ev g _ s.heap H locs [(m0, .inr (9, [.int 1, .ref (b 0), .ref (b 17)]))] := Ev.sub E [3] rfl rfl
      exact x_iret 1 S hr hlk hsz htt hK E dX9_setGround_20 ⟨hKK, fun z => absurd (hKK.trans z) (by decide)⟩ rfl ⟨Nat.le_of_ble_eq_true rfl, Nat.le_of_ble_eq_true rfl⟩ ⟨Nat.le_of_ble_eq_true rfl, Nat.le_of_ble_eq_true rfl⟩

/-- what setConductance throws at first: its number, 0 for nothing -/
def kk_setConductance (p0 : Int32) (p1 : Int32) : Int32 := if rgOK p0 0 1 then (if rgOK p1 0 9 then 0 else 2) else 1
theorem dX9_setConductance_0 : decode cX9_setConductance 0 = .ok (.aload_n 0, 1) := by decide +kernel
theorem dX9_setConductance_1 : decode cX9_setConductance 1 = .ok (.iload_n 1, 1) := by decide +kernel
theorem dX9_setConductance_2 : decode cX9_setConductance 2 = .ok (.iconst 1, 1) := by decide +kernel
theorem dX9_setConductance_3 : decode cX9_setConductance 3 = .ok (.iload_n 2, 1) := by decide +kernel
theorem dX9_setConductance_4 : decode cX9_setConductance 4 = .ok (.iconst 0, 1) := by decide +kernel
theorem dX9_setConductance_5 : decode cX9_setConductance 5 = .ok (.bipush 9, 2) := by decide +kernel
theorem dX9_setConductance_7 : decode cX9_setConductance 7 = .ok (.invokestatic 35, 3) := by decide +kernel
theorem dX9_setConductance_10 : decode cX9_setConductance 10 = .ok (.invokevirtual 51, 3) := by decide +kernel
theorem dX9_setConductance_13 : decode cX9_setConductance 13 = .ok (.ifCond .eq 5, 3) := by decide +kernel
theorem dX9_setConductance_16 : decode cX9_setConductance 16 = .ok (.iconst 0, 1) := by decide +kernel
theorem dX9_setConductance_17 : decode cX9_setConductance 17 = .ok (.ireturn, 1) := by decide +kernel
theorem dX9_setConductance_18 : decode cX9_setConductance 18 = .ok (.aload_n 0, 1) := by decide +kernel
theorem dX9_setConductance_19 : decode cX9_setConductance 19 = .ok (.getfield 10, 3) := by decide +kernel
theorem dX9_setConductance_22 : decode cX9_setConductance 22 = .ok (.getfield 58, 3) := by decide +kernel
theorem dX9_setConductance_25 : decode cX9_setConductance 25 = .ok (.iload_n 1, 1) := by decide +kernel
theorem dX9_setConductance_26 : decode cX9_setConductance 26 = .ok (.iaload, 1) := by decide +kernel
theorem dX9_setConductance_27 : decode cX9_setConductance 27 = .ok (.istore_n 3, 1) := by decide +kernel
theorem dX9_setConductance_28 : decode cX9_setConductance 28 = .ok (.aload_n 0, 1) := by decide +kernel
theorem dX9_setConductance_29 : decode cX9_setConductance 29 = .ok (.bipush 107, 2) := by decide +kernel
theorem dX9_setConductance_31 : decode cX9_setConductance 31 = .ok (.iload_n 1, 1) := by decide +kernel
theorem dX9_setConductance_32 : decode cX9_setConductance 32 = .ok (.iload_n 2, 1) := by decide +kernel
theorem dX9_setConductance_33 : decode cX9_setConductance 33 = .ok (.iconst 0, 1) := by decide +kernel
theorem dX9_setConductance_34 : decode cX9_setConductance 34 = .ok (.iconst 0, 1) := by decide +kernel
theorem dX9_setConductance_35 : decode cX9_setConductance 35 = .ok (.invokevirtual 47, 3) := by decide +kernel
theorem dX9_setConductance_38 : decode cX9_setConductance 38 = .ok (.iload_n 3, 1) := by decide +kernel
theorem dX9_setConductance_39 : decode cX9_setConductance 39 = .ok (.ireturn, 1) := by decide +kernel
set_option maxHeartbeats 4000000 in
set_option maxRecDepth 100000 in
/-- reference: setConductance -/
theorem c_X9_setConductance (l : Launch) (g : Gm) (m0 : Nat) (b : Nat → Nat) (p0 : Int32) (p1 : Int32) : MXi (S := Int32) l g yX9_setConductance cX9_setConductance 4 .int ({ frames := 6, cells := 2, slots := 15, locals := 128 } : Room) [.ref m0, .int p0, .int p1] [(m0, .inr (9, [.int 0, .ref (b 0), .ref (b 17)])), ((b 17), .inr (8, [.int 0, .ref (g.2.2 0), .int 0])), ((b 0), .inr (10, [.ref (b 1), .ref (b 2), .ref (b 3), .ref (b 4), .ref (b 5), .ref (b 6), .ref (b 7), .ref (b 8), .ref (b 9), .ref (b 10), .ref (b 11), .ref (b 12), .int 0, .int 0, .int (nI 0), .ref (b 13), .ref (b 14), .ref (b 16)])), ((b 6), .inl (g.2.1 0, 2, .inl (fun _ => 4)))] (fun r u => u = kk_setConductance p0 p1 ∧ (kk_setConductance p0 p1 = 0 → r = 4)) (fun u => [(m0, .inr (9, [.int u, .ref (b 0), .ref (b 17)]))]) (fun _ => (2, 15)) := by
  intro sz tt
  refine ofX RX9 rfl (by decide +kernel) (Nat.le_of_ble_eq_true rfl) (fun p e s m args below meth c hargs S hml hr hlk hnm hsz htt hK hA hZ E ls hl => ?_)
  have hx := S.1
  have hb := S.2.1
  have hl : lv_has ls 4 [(0, .ref m0), (1, .int p0), (2, .int p1)] := hl
  refine lv_aload_n hx hb dX9_setConductance_0 rfl (lv_at hl 0 rfl) ?_
  refine lv_iload_n hx hb dX9_setConductance_1 rfl (lv_at hl 1 rfl) ?_
  refine lv_iconst (v := 1) hx hb dX9_setConductance_2 (by decide) ?_
  refine lv_iload_n hx hb dX9_setConductance_3 rfl (lv_at hl 2 rfl) ?_
  refine lv_iconst (v := 0) hx hb dX9_setConductance_4 (by decide) ?_
  refine lv_bipush (v := 9) hx hb dX9_setConductance_5 (by decide) ?_
  refine w_reti (runS_X (As := [.int p1, .int 0, .int 9]) (rest := [.int 1, .int p0, .ref m0]) (n := 3) S hml hK (hZ.at E) (Cut.of (wc := []) (wr := [(m0, .inr (9, [.int 0, .ref (b 0), .ref (b 17)])), ((b 17), .inr (8, [.int 0, .ref (g.2.2 0), .int 0])), ((b 0), .inr (10, [.ref (b 1), .ref (b 2), .ref (b 3), .ref (b 4), .ref (b 5), .ref (b 6), .ref (b 7), .ref (b 8), .ref (b 9), .ref (b 10), .ref (b 11), .ref (b 12), .int 0, .int 0, .int (nI 0), .ref (b 13), .ref (b 14), .ref (b 16)])), ((b 6), .inl (g.2.1 0, 2, .inl (fun _ => 4)))]) E hA [] [0, 1, 2, 3] rfl rfl rfl rfl (by decide)) (c_X9_in l g p1 0 9 _ _) ml_X9_35 st_X9_in in_X9 co_X9_in ⟨by decide +kernel, by decide +kernel, by decide +kernel⟩ ⟨Nat.le_of_ble_eq_true rfl, Nat.le_of_ble_eq_true rfl⟩ rfl hl.1 rfl (Nat.le_of_ble_eq_true rfl) dX9_setConductance_7 ⟨Nat.le_of_ble_eq_true rfl, Nat.le_of_ble_eq_true rfl⟩) (Cut.of (wc := []) (wr := [(m0, .inr (9, [.int 0, .ref (b 0), .ref (b 17)])), ((b 17), .inr (8, [.int 0, .ref (g.2.2 0), .int 0])), ((b 0), .inr (10, [.ref (b 1), .ref (b 2), .ref (b 3), .ref (b 4), .ref (b 5), .ref (b 6), .ref (b 7), .ref (b 8), .ref (b 9), .ref (b 10), .ref (b 11), .ref (b 12), .int 0, .int 0, .int (nI 0), .ref (b 13), .ref (b 14), .ref (b 16)])), ((b 6), .inl (g.2.1 0, 2, .inl (fun _ => 4)))]) E hA [] [0, 1, 2, 3] rfl rfl rfl rfl (by decide)) E (fun r1 u1 H locs hp E => ?_)
  have E : Ev g _ s.heap H locs [(m0, .inr (9, [.int 0, .ref (b 0), .ref (b 17)])), ((b 17), .inr (8, [.int 0, .ref (g.2.2 0), .int 0])), ((b 0), .inr (10, [.ref (b 1), .ref (b 2), .ref (b 3), .ref (b 4), .ref (b 5), .ref (b 6), .ref (b 7), .ref (b 8), .ref (b 9), .ref (b 10), .ref (b 11), .ref (b 12), .int 0, .int 0, .int (nI 0), .ref (b 13), .ref (b 14), .ref (b 16)])), ((b 6), .inl (g.2.1 0, 2, .inl (fun _ => 4)))] := E
  rcases hp with ⟨rfl, hR2⟩ | ⟨rfl, hR2⟩
  · skip
    refine w_reti (runV_X (As := [.int p0, .int 1, .int 1]) (rest := []) (q0 := 0) (n := 3) S hml hK (hZ.at E) (Cut.of (wc := [(m0, .inr (9, [.int 0, .ref (b 0), .ref (b 17)]))]) (wr := [((b 17), .inr (8, [.int 0, .ref (g.2.2 0), .int 0])), ((b 0), .inr (10, [.ref (b 1), .ref (b 2), .ref (b 3), .ref (b 4), .ref (b 5), .ref (b 6), .ref (b 7), .ref (b 8), .ref (b 9), .ref (b 10), .ref (b 11), .ref (b 12), .int 0, .int 0, .int (nI 0), .ref (b 13), .ref (b 14), .ref (b 16)])), ((b 6), .inl (g.2.1 0, 2, .inl (fun _ => 4)))]) E hA [0] [1, 2, 3] rfl rfl rfl rfl (by decide)) (c_fs1 l g m0 b 0 p0 1 _ _) (gi_wsV ml_X9_51 im_X9_failsSet sl_X9_failsSet in_X9 co_X9_failsSet) ⟨rfl, by decide +kernel, by decide +kernel, by decide +kernel⟩ ⟨Nat.le_of_ble_eq_true rfl, Nat.le_of_ble_eq_true rfl⟩ rfl rfl rfl hl.1 rfl (Nat.le_of_ble_eq_true rfl) dX9_setConductance_10 ⟨Nat.le_of_ble_eq_true rfl, Nat.le_of_ble_eq_true rfl⟩) (Cut.of (wc := [(m0, .inr (9, [.int 0, .ref (b 0), .ref (b 17)]))]) (wr := [((b 17), .inr (8, [.int 0, .ref (g.2.2 0), .int 0])), ((b 0), .inr (10, [.ref (b 1), .ref (b 2), .ref (b 3), .ref (b 4), .ref (b 5), .ref (b 6), .ref (b 7), .ref (b 8), .ref (b 9), .ref (b 10), .ref (b 11), .ref (b 12), .int 0, .int 0, .int (nI 0), .ref (b 13), .ref (b 14), .ref (b 16)])), ((b 6), .inl (g.2.1 0, 2, .inl (fun _ => 4)))]) E hA [0] [1, 2, 3] rfl rfl rfl rfl (by decide)) E (fun r3 u3 H locs hp E => ?_)
    have E : Ev g _ s.heap H locs [((b 17), .inr (8, [.int 0, .ref (g.2.2 0), .int 0])), ((b 0), .inr (10, [.ref (b 1), .ref (b 2), .ref (b 3), .ref (b 4), .ref (b 5), .ref (b 6), .ref (b 7), .ref (b 8), .ref (b 9), .ref (b 10), .ref (b 11), .ref (b 12), .int 0, .int 0, .int (nI 0), .ref (b 13), .ref (b 14), .ref (b 16)])), ((b 6), .inl (g.2.1 0, 2, .inl (fun _ => 4))), (m0, .inr (9, [.int u3, .ref (b 0), .ref (b 17)]))] := E
    rcases hp with ⟨rfl, rfl, hR4⟩ | ⟨rfl, rfl, hR4⟩
    · skip
      refine lv_if_eq (tgt := 18) hx hb dX9_setConductance_13 (by decide) (fun _ => ?_) (fun c_ => absurd (show (0 : Int32) = 0 by decide) c_)
      refine lv_aload_n hx hb dX9_setConductance_18 rfl (lv_at hl 0 rfl) ?_
      refine wg_X9_10 (v := .ref (b 0)) S hK E 3 rfl rfl dX9_setConductance_19 ?_
      refine wg_X9_58 (v := .ref (b 6)) S hZ.2.2.2.2.2.2.1 hK E 1 rfl rfl dX9_setConductance_22 ?_
      refine lv_iload_n hx hb dX9_setConductance_25 rfl (lv_at hl 1 rfl) ?_
      refine w_ild (v := 4) S hK E 2 0 rfl rfl (rg_in 1 (by decide) (by decide) (by decide) hR4) rfl dX9_setConductance_26 ?_
      refine lv_istore_n (lv' := [(3, .int 4), (0, .ref m0), (1, .int p0), (2, .int p1)]) hx hb dX9_setConductance_27 rfl hl (by decide) rfl (fun ls hl => ?_)
      refine lv_aload_n hx hb dX9_setConductance_28 rfl (lv_at hl 1 rfl) ?_
      refine lv_bipush (v := 107) hx hb dX9_setConductance_29 (by decide) ?_
      refine lv_iload_n hx hb dX9_setConductance_31 rfl (lv_at hl 2 rfl) ?_
      refine lv_iload_n hx hb dX9_setConductance_32 rfl (lv_at hl 3 rfl) ?_
      refine lv_iconst (v := 0) hx hb dX9_setConductance_33 (by decide) ?_
      refine lv_iconst (v := 0) hx hb dX9_setConductance_34 (by decide) ?_
      refine w_retv (runV_X (As := [.int 107, .int p0, .int p1, .int 0, .int 0]) (rest := []) (q0 := 0) (n := 5) S hml hK (hZ.at E) (Cut.of (wc := [(m0, .inr (9, [.int 0, .ref (b 0), .ref (b 17)])), ((b 17), .inr (8, [.int 0, .ref (g.2.2 0), .int 0])), ((b 0), .inr (10, [.ref (b 1), .ref (b 2), .ref (b 3), .ref (b 4), .ref (b 5), .ref (b 6), .ref (b 7), .ref (b 8), .ref (b 9), .ref (b 10), .ref (b 11), .ref (b 12), .int 0, .int 0, .int (nI 0), .ref (b 13), .ref (b 14), .ref (b 16)])), ((b 6), .inl (g.2.1 0, 2, .inl (fun _ => 4)))]) (wr := []) E hA [3, 0, 1, 2] [] rfl rfl rfl rfl (by decide)) (c_ac107 l g m0 b 0 0 p0 p1 (rg_in 1 (by decide) (by decide) (by decide) hR4) _ _) (gi_wsV ml_X9_47 im_X9_act sl_X9_act in_X9 co_X9_act) ⟨rfl, by decide +kernel, by decide +kernel, by decide +kernel⟩ ⟨Nat.le_of_ble_eq_true rfl, Nat.le_of_ble_eq_true rfl⟩ rfl rfl rfl hl.1 rfl (Nat.le_of_ble_eq_true rfl) dX9_setConductance_35 ⟨Nat.le_of_ble_eq_true rfl, Nat.le_of_ble_eq_true rfl⟩) (Cut.of (wc := [(m0, .inr (9, [.int 0, .ref (b 0), .ref (b 17)])), ((b 17), .inr (8, [.int 0, .ref (g.2.2 0), .int 0])), ((b 0), .inr (10, [.ref (b 1), .ref (b 2), .ref (b 3), .ref (b 4), .ref (b 5), .ref (b 6), .ref (b 7), .ref (b 8), .ref (b 9), .ref (b 10), .ref (b 11), .ref (b 12), .int 0, .int 0, .int (nI 0), .ref (b 13), .ref (b 14), .ref (b 16)])), ((b 6), .inl (g.2.1 0, 2, .inl (fun _ => 4)))]) (wr := []) E hA [3, 0, 1, 2] [] rfl rfl rfl rfl (by decide)) E (fun u5 H locs hp E => ?_)
      have E : Ev g _ s.heap H locs [(m0, .inr (9, [.int 0, .ref (b 0), .ref (b 17)]))] := E
      refine lv_iload_n hx hb dX9_setConductance_38 rfl (lv_at hl 0 rfl) ?_
      have hKK : (0 : Int32) = kk_setConductance p0 p1 := (by unfold kk_setConductance; rw [if_pos hR4, if_pos hR2])
      exact x_iret 0 S hr hlk hsz htt hK E dX9_setConductance_39 ⟨hKK, fun _ => rfl⟩ rfl ⟨Nat.le_of_ble_eq_true rfl, Nat.le_of_ble_eq_true rfl⟩ ⟨Nat.le_of_ble_eq_true rfl, Nat.le_of_ble_eq_true rfl⟩
    · skip
      refine lv_if_eq (tgt := 18) hx hb dX9_setConductance_13 (by decide) (fun c_ => absurd c_ (show ¬ ((1 : Int32) = 0) by decide)) (fun _ => ?_)
      refine lv_iconst (v := 0) hx hb dX9_setConductance_16 (by decide) ?_
      have hKK : (1 : Int32) = kk_setConductance p0 p1 := (by unfold kk_setConductance; rw [if_neg hR4])
      have E : Ev g _ s.heap H locs [(m0, .inr (9, [.int 1, .ref (b 0), .ref (b 17)]))] := Ev.sub E [3] rfl rfl
      exact x_iret 1 S hr hlk hsz htt hK E dX9_setConductance_17 ⟨hKK, fun z => absurd (hKK.trans z) (by decide)⟩ rfl ⟨Nat.le_of_ble_eq_true rfl, Nat.le_of_ble_eq_true rfl⟩ ⟨Nat.le_of_ble_eq_true rfl, Nat.le_of_ble_eq_true rfl⟩
  · skip
    refine w_reti (runV_X (As := [.int p0, .int 1, .int 0]) (rest := []) (q0 := 0) (n := 3) S hml hK (hZ.at E) (Cut.of (wc := [(m0, .inr (9, [.int 0, .ref (b 0), .ref (b 17)]))]) (wr := [((b 17), .inr (8, [.int 0, .ref (g.2.2 0), .int 0])), ((b 0), .inr (10, [.ref (b 1), .ref (b 2), .ref (b 3), .ref (b 4), .ref (b 5), .ref (b 6), .ref (b 7), .ref (b 8), .ref (b 9), .ref (b 10), .ref (b 11), .ref (b 12), .int 0, .int 0, .int (nI 0), .ref (b 13), .ref (b 14), .ref (b 16)])), ((b 6), .inl (g.2.1 0, 2, .inl (fun _ => 4)))]) E hA [0] [1, 2, 3] rfl rfl rfl rfl (by decide)) (c_fs0 l g m0 b 0 p0 1 _ _) (gi_wsV ml_X9_51 im_X9_failsSet sl_X9_failsSet in_X9 co_X9_failsSet) ⟨rfl, by decide +kernel, by decide +kernel, by decide +kernel⟩ ⟨Nat.le_of_ble_eq_true rfl, Nat.le_of_ble_eq_true rfl⟩ rfl rfl rfl hl.1 rfl (Nat.le_of_ble_eq_true rfl) dX9_setConductance_10 ⟨Nat.le_of_ble_eq_true rfl, Nat.le_of_ble_eq_true rfl⟩) (Cut.of (wc := [(m0, .inr (9, [.int 0, .ref (b 0), .ref (b 17)]))]) (wr := [((b 17), .inr (8, [.int 0, .ref (g.2.2 0), .int 0])), ((b 0), .inr (10, [.ref (b 1), .ref (b 2), .ref (b 3), .ref (b 4), .ref (b 5), .ref (b 6), .ref (b 7), .ref (b 8), .ref (b 9), .ref (b 10), .ref (b 11), .ref (b 12), .int 0, .int 0, .int (nI 0), .ref (b 13), .ref (b 14), .ref (b 16)])), ((b 6), .inl (g.2.1 0, 2, .inl (fun _ => 4)))]) E hA [0] [1, 2, 3] rfl rfl rfl rfl (by decide)) E (fun r6 u6 H locs hp E => ?_)
    have E : Ev g _ s.heap H locs [((b 17), .inr (8, [.int 0, .ref (g.2.2 0), .int 0])), ((b 0), .inr (10, [.ref (b 1), .ref (b 2), .ref (b 3), .ref (b 4), .ref (b 5), .ref (b 6), .ref (b 7), .ref (b 8), .ref (b 9), .ref (b 10), .ref (b 11), .ref (b 12), .int 0, .int 0, .int (nI 0), .ref (b 13), .ref (b 14), .ref (b 16)])), ((b 6), .inl (g.2.1 0, 2, .inl (fun _ => 4))), (m0, .inr (9, [.int u6, .ref (b 0), .ref (b 17)]))] := E
    rcases hp with ⟨rfl, rfl, hR7⟩ | ⟨rfl, rfl, hR7⟩
    · skip
      refine lv_if_eq (tgt := 18) hx hb dX9_setConductance_13 (by decide) (fun c_ => absurd c_ (show ¬ ((1 : Int32) = 0) by decide)) (fun _ => ?_)
      refine lv_iconst (v := 0) hx hb dX9_setConductance_16 (by decide) ?_
      have hKK : (2 : Int32) = kk_setConductance p0 p1 := (by unfold kk_setConductance; rw [if_pos hR7, if_neg (fun z => hR2 z)])
      have E : Ev g _ s.heap H locs [(m0, .inr (9, [.int 2, .ref (b 0), .ref (b 17)]))] := Ev.sub E [3] rfl rfl
      exact x_iret 2 S hr hlk hsz htt hK E dX9_setConductance_17 ⟨hKK, fun z => absurd (hKK.trans z) (by decide)⟩ rfl ⟨Nat.le_of_ble_eq_true rfl, Nat.le_of_ble_eq_true rfl⟩ ⟨Nat.le_of_ble_eq_true rfl, Nat.le_of_ble_eq_true rfl⟩
    · skip
      refine lv_if_eq (tgt := 18) hx hb dX9_setConductance_13 (by decide) (fun c_ => absurd c_ (show ¬ ((1 : Int32) = 0) by decide)) (fun _ => ?_)
      refine lv_iconst (v := 0) hx hb dX9_setConductance_16 (by decide) ?_
      have hKK : (1 : Int32) = kk_setConductance p0 p1 := (by unfold kk_setConductance; rw [if_neg hR7])
      have E : Ev g _ s.heap H locs [(m0, .inr (9, [.int 1, .ref (b 0), .ref (b 17)]))] := Ev.sub E [3] rfl rfl
      exact x_iret 1 S hr hlk hsz htt hK E dX9_setConductance_17 ⟨hKK, fun z => absurd (hKK.trans z) (by decide)⟩ rfl ⟨Nat.le_of_ble_eq_true rfl, Nat.le_of_ble_eq_true rfl⟩ ⟨Nat.le_of_ble_eq_true rfl, Nat.le_of_ble_eq_true rfl⟩

/-- what setLeakage throws at first: its number, 0 for nothing -/
def kk_setLeakage (p0 : Int32) (p1 : Int32) : Int32 := if rgOK p0 0 7 then (if rgOK p1 0 9 then 0 else 2) else 1
theorem dX9_setLeakage_0 : decode cX9_setLeakage 0 = .ok (.aload_n 0, 1) := by decide +kernel
theorem dX9_setLeakage_1 : decode cX9_setLeakage 1 = .ok (.iload_n 1, 1) := by decide +kernel
theorem dX9_setLeakage_2 : decode cX9_setLeakage 2 = .ok (.bipush 7, 2) := by decide +kernel
theorem dX9_setLeakage_4 : decode cX9_setLeakage 4 = .ok (.iload_n 2, 1) := by decide +kernel
theorem dX9_setLeakage_5 : decode cX9_setLeakage 5 = .ok (.iconst 0, 1) := by decide +kernel
theorem dX9_setLeakage_6 : decode cX9_setLeakage 6 = .ok (.bipush 9, 2) := by decide +kernel
theorem dX9_setLeakage_8 : decode cX9_setLeakage 8 = .ok (.invokestatic 35, 3) := by decide +kernel
theorem dX9_setLeakage_11 : decode cX9_setLeakage 11 = .ok (.invokevirtual 51, 3) := by decide +kernel
theorem dX9_setLeakage_14 : decode cX9_setLeakage 14 = .ok (.ifCond .eq 5, 3) := by decide +kernel
theorem dX9_setLeakage_17 : decode cX9_setLeakage 17 = .ok (.iconst 0, 1) := by decide +kernel
theorem dX9_setLeakage_18 : decode cX9_setLeakage 18 = .ok (.ireturn, 1) := by decide +kernel
theorem dX9_setLeakage_19 : decode cX9_setLeakage 19 = .ok (.aload_n 0, 1) := by decide +kernel
theorem dX9_setLeakage_20 : decode cX9_setLeakage 20 = .ok (.getfield 10, 3) := by decide +kernel
theorem dX9_setLeakage_23 : decode cX9_setLeakage 23 = .ok (.getfield 61, 3) := by decide +kernel
theorem dX9_setLeakage_26 : decode cX9_setLeakage 26 = .ok (.iload_n 1, 1) := by decide +kernel
theorem dX9_setLeakage_27 : decode cX9_setLeakage 27 = .ok (.iaload, 1) := by decide +kernel
theorem dX9_setLeakage_28 : decode cX9_setLeakage 28 = .ok (.istore_n 3, 1) := by decide +kernel
theorem dX9_setLeakage_29 : decode cX9_setLeakage 29 = .ok (.aload_n 0, 1) := by decide +kernel
theorem dX9_setLeakage_30 : decode cX9_setLeakage 30 = .ok (.bipush 108, 2) := by decide +kernel
theorem dX9_setLeakage_32 : decode cX9_setLeakage 32 = .ok (.iload_n 1, 1) := by decide +kernel
theorem dX9_setLeakage_33 : decode cX9_setLeakage 33 = .ok (.iload_n 2, 1) := by decide +kernel
theorem dX9_setLeakage_34 : decode cX9_setLeakage 34 = .ok (.iconst 0, 1) := by decide +kernel
theorem dX9_setLeakage_35 : decode cX9_setLeakage 35 = .ok (.iconst 0, 1) := by decide +kernel
theorem dX9_setLeakage_36 : decode cX9_setLeakage 36 = .ok (.invokevirtual 47, 3) := by decide +kernel
theorem dX9_setLeakage_39 : decode cX9_setLeakage 39 = .ok (.iload_n 3, 1) := by decide +kernel
theorem dX9_setLeakage_40 : decode cX9_setLeakage 40 = .ok (.ireturn, 1) := by decide +kernel
set_option maxHeartbeats 4000000 in
set_option maxRecDepth 100000 in
/-- reference: setLeakage -/
theorem c_X9_setLeakage (l : Launch) (g : Gm) (m0 : Nat) (b : Nat → Nat) (p0 : Int32) (p1 : Int32) : MXi (S := Int32) l g yX9_setLeakage cX9_setLeakage 4 .int ({ frames := 6, cells := 2, slots := 15, locals := 128 } : Room) [.ref m0, .int p0, .int p1] [(m0, .inr (9, [.int 0, .ref (b 0), .ref (b 17)])), ((b 17), .inr (8, [.int 0, .ref (g.2.2 0), .int 0])), ((b 0), .inr (10, [.ref (b 1), .ref (b 2), .ref (b 3), .ref (b 4), .ref (b 5), .ref (b 6), .ref (b 7), .ref (b 8), .ref (b 9), .ref (b 10), .ref (b 11), .ref (b 12), .int 0, .int 0, .int (nI 0), .ref (b 13), .ref (b 14), .ref (b 16)])), ((b 7), .inl (g.2.1 0, 8, .inl (fun _ => 0)))] (fun r u => u = kk_setLeakage p0 p1 ∧ (kk_setLeakage p0 p1 = 0 → r = 0)) (fun u => [(m0, .inr (9, [.int u, .ref (b 0), .ref (b 17)]))]) (fun _ => (2, 15)) := by
  intro sz tt
  refine ofX RX9 rfl (by decide +kernel) (Nat.le_of_ble_eq_true rfl) (fun p e s m args below meth c hargs S hml hr hlk hnm hsz htt hK hA hZ E ls hl => ?_)
  have hx := S.1
  have hb := S.2.1
  have hl : lv_has ls 4 [(0, .ref m0), (1, .int p0), (2, .int p1)] := hl
  refine lv_aload_n hx hb dX9_setLeakage_0 rfl (lv_at hl 0 rfl) ?_
  refine lv_iload_n hx hb dX9_setLeakage_1 rfl (lv_at hl 1 rfl) ?_
  refine lv_bipush (v := 7) hx hb dX9_setLeakage_2 (by decide) ?_
  refine lv_iload_n hx hb dX9_setLeakage_4 rfl (lv_at hl 2 rfl) ?_
  refine lv_iconst (v := 0) hx hb dX9_setLeakage_5 (by decide) ?_
  refine lv_bipush (v := 9) hx hb dX9_setLeakage_6 (by decide) ?_
  refine w_reti (runS_X (As := [.int p1, .int 0, .int 9]) (rest := [.int 7, .int p0, .ref m0]) (n := 3) S hml hK (hZ.at E) (Cut.of (wc := []) (wr := [(m0, .inr (9, [.int 0, .ref (b 0), .ref (b 17)])), ((b 17), .inr (8, [.int 0, .ref (g.2.2 0), .int 0])), ((b 0), .inr (10, [.ref (b 1), .ref (b 2), .ref (b 3), .ref (b 4), .ref (b 5), .ref (b 6), .ref (b 7), .ref (b 8), .ref (b 9), .ref (b 10), .ref (b 11), .ref (b 12), .int 0, .int 0, .int (nI 0), .ref (b 13), .ref (b 14), .ref (b 16)])), ((b 7), .inl (g.2.1 0, 8, .inl (fun _ => 0)))]) E hA [] [0, 1, 2, 3] rfl rfl rfl rfl (by decide)) (c_X9_in l g p1 0 9 _ _) ml_X9_35 st_X9_in in_X9 co_X9_in ⟨by decide +kernel, by decide +kernel, by decide +kernel⟩ ⟨Nat.le_of_ble_eq_true rfl, Nat.le_of_ble_eq_true rfl⟩ rfl hl.1 rfl (Nat.le_of_ble_eq_true rfl) dX9_setLeakage_8 ⟨Nat.le_of_ble_eq_true rfl, Nat.le_of_ble_eq_true rfl⟩) (Cut.of (wc := []) (wr := [(m0, .inr (9, [.int 0, .ref (b 0), .ref (b 17)])), ((b 17), .inr (8, [.int 0, .ref (g.2.2 0), .int 0])), ((b 0), .inr (10, [.ref (b 1), .ref (b 2), .ref (b 3), .ref (b 4), .ref (b 5), .ref (b 6), .ref (b 7), .ref (b 8), .ref (b 9), .ref (b 10), .ref (b 11), .ref (b 12), .int 0, .int 0, .int (nI 0), .ref (b 13), .ref (b 14), .ref (b 16)])), ((b 7), .inl (g.2.1 0, 8, .inl (fun _ => 0)))]) E hA [] [0, 1, 2, 3] rfl rfl rfl rfl (by decide)) E (fun r1 u1 H locs hp E => ?_)
  have E : Ev g _ s.heap H locs [(m0, .inr (9, [.int 0, .ref (b 0), .ref (b 17)])), ((b 17), .inr (8, [.int 0, .ref (g.2.2 0), .int 0])), ((b 0), .inr (10, [.ref (b 1), .ref (b 2), .ref (b 3), .ref (b 4), .ref (b 5), .ref (b 6), .ref (b 7), .ref (b 8), .ref (b 9), .ref (b 10), .ref (b 11), .ref (b 12), .int 0, .int 0, .int (nI 0), .ref (b 13), .ref (b 14), .ref (b 16)])), ((b 7), .inl (g.2.1 0, 8, .inl (fun _ => 0)))] := E
  rcases hp with ⟨rfl, hR2⟩ | ⟨rfl, hR2⟩
  · skip
    refine w_reti (runV_X (As := [.int p0, .int 7, .int 1]) (rest := []) (q0 := 0) (n := 3) S hml hK (hZ.at E) (Cut.of (wc := [(m0, .inr (9, [.int 0, .ref (b 0), .ref (b 17)]))]) (wr := [((b 17), .inr (8, [.int 0, .ref (g.2.2 0), .int 0])), ((b 0), .inr (10, [.ref (b 1), .ref (b 2), .ref (b 3), .ref (b 4), .ref (b 5), .ref (b 6), .ref (b 7), .ref (b 8), .ref (b 9), .ref (b 10), .ref (b 11), .ref (b 12), .int 0, .int 0, .int (nI 0), .ref (b 13), .ref (b 14), .ref (b 16)])), ((b 7), .inl (g.2.1 0, 8, .inl (fun _ => 0)))]) E hA [0] [1, 2, 3] rfl rfl rfl rfl (by decide)) (c_fs1 l g m0 b 0 p0 7 _ _) (gi_wsV ml_X9_51 im_X9_failsSet sl_X9_failsSet in_X9 co_X9_failsSet) ⟨rfl, by decide +kernel, by decide +kernel, by decide +kernel⟩ ⟨Nat.le_of_ble_eq_true rfl, Nat.le_of_ble_eq_true rfl⟩ rfl rfl rfl hl.1 rfl (Nat.le_of_ble_eq_true rfl) dX9_setLeakage_11 ⟨Nat.le_of_ble_eq_true rfl, Nat.le_of_ble_eq_true rfl⟩) (Cut.of (wc := [(m0, .inr (9, [.int 0, .ref (b 0), .ref (b 17)]))]) (wr := [((b 17), .inr (8, [.int 0, .ref (g.2.2 0), .int 0])), ((b 0), .inr (10, [.ref (b 1), .ref (b 2), .ref (b 3), .ref (b 4), .ref (b 5), .ref (b 6), .ref (b 7), .ref (b 8), .ref (b 9), .ref (b 10), .ref (b 11), .ref (b 12), .int 0, .int 0, .int (nI 0), .ref (b 13), .ref (b 14), .ref (b 16)])), ((b 7), .inl (g.2.1 0, 8, .inl (fun _ => 0)))]) E hA [0] [1, 2, 3] rfl rfl rfl rfl (by decide)) E (fun r3 u3 H locs hp E => ?_)
    have E : Ev g _ s.heap H locs [((b 17), .inr (8, [.int 0, .ref (g.2.2 0), .int 0])), ((b 0), .inr (10, [.ref (b 1), .ref (b 2), .ref (b 3), .ref (b 4), .ref (b 5), .ref (b 6), .ref (b 7), .ref (b 8), .ref (b 9), .ref (b 10), .ref (b 11), .ref (b 12), .int 0, .int 0, .int (nI 0), .ref (b 13), .ref (b 14), .ref (b 16)])), ((b 7), .inl (g.2.1 0, 8, .inl (fun _ => 0))), (m0, .inr (9, [.int u3, .ref (b 0), .ref (b 17)]))] := E
    rcases hp with ⟨rfl, rfl, hR4⟩ | ⟨rfl, rfl, hR4⟩
    · skip
      refine lv_if_eq (tgt := 19) hx hb dX9_setLeakage_14 (by decide) (fun _ => ?_) (fun c_ => absurd (show (0 : Int32) = 0 by decide) c_)
      refine lv_aload_n hx hb dX9_setLeakage_19 rfl (lv_at hl 0 rfl) ?_
      refine wg_X9_10 (v := .ref (b 0)) S hK E 3 rfl rfl dX9_setLeakage_20 ?_
      refine wg_X9_61 (v := .ref (b 7)) S hZ.2.2.2.2.2.2.1 hK E 1 rfl rfl dX9_setLeakage_23 ?_
      refine lv_iload_n hx hb dX9_setLeakage_26 rfl (lv_at hl 1 rfl) ?_
      refine w_ild (v := 0) S hK E 2 0 rfl rfl (rg_in 7 (by decide) (by decide) (by decide) hR4) rfl dX9_setLeakage_27 ?_
      refine lv_istore_n (lv' := [(3, .int 0), (0, .ref m0), (1, .int p0), (2, .int p1)]) hx hb dX9_setLeakage_28 rfl hl (by decide) rfl (fun ls hl => ?_)
      refine lv_aload_n hx hb dX9_setLeakage_29 rfl (lv_at hl 1 rfl) ?_
      refine lv_bipush (v := 108) hx hb dX9_setLeakage_30 (by decide) ?_
      refine lv_iload_n hx hb dX9_setLeakage_32 rfl (lv_at hl 2 rfl) ?_
      refine lv_iload_n hx hb dX9_setLeakage_33 rfl (lv_at hl 3 rfl) ?_
      refine lv_iconst (v := 0) hx hb dX9_setLeakage_34 (by decide) ?_
      refine lv_iconst (v := 0) hx hb dX9_setLeakage_35 (by decide) ?_
      refine w_retv (runV_X (As := [.int 108, .int p0, .int p1, .int 0, .int 0]) (rest := []) (q0 := 0) (n := 5) S hml hK (hZ.at E) (Cut.of (wc := [(m0, .inr (9, [.int 0, .ref (b 0), .ref (b 17)])), ((b 17), .inr (8, [.int 0, .ref (g.2.2 0), .int 0])), ((b 0), .inr (10, [.ref (b 1), .ref (b 2), .ref (b 3), .ref (b 4), .ref (b 5), .ref (b 6), .ref (b 7), .ref (b 8), .ref (b 9), .ref (b 10), .ref (b 11), .ref (b 12), .int 0, .int 0, .int (nI 0), .ref (b 13), .ref (b 14), .ref (b 16)])), ((b 7), .inl (g.2.1 0, 8, .inl (fun _ => 0)))]) (wr := []) E hA [3, 0, 1, 2] [] rfl rfl rfl rfl (by decide)) (c_ac108 l g m0 b 0 0 p0 p1 (rg_in 7 (by decide) (by decide) (by decide) hR4) _ _) (gi_wsV ml_X9_47 im_X9_act sl_X9_act in_X9 co_X9_act) ⟨rfl, by decide +kernel, by decide +kernel, by decide +kernel⟩ ⟨Nat.le_of_ble_eq_true rfl, Nat.le_of_ble_eq_true rfl⟩ rfl rfl rfl hl.1 rfl (Nat.le_of_ble_eq_true rfl) dX9_setLeakage_36 ⟨Nat.le_of_ble_eq_true rfl, Nat.le_of_ble_eq_true rfl⟩) (Cut.of (wc := [(m0, .inr (9, [.int 0, .ref (b 0), .ref (b 17)])), ((b 17), .inr (8, [.int 0, .ref (g.2.2 0), .int 0])), ((b 0), .inr (10, [.ref (b 1), .ref (b 2), .ref (b 3), .ref (b 4), .ref (b 5), .ref (b 6), .ref (b 7), .ref (b 8), .ref (b 9), .ref (b 10), .ref (b 11), .ref (b 12), .int 0, .int 0, .int (nI 0), .ref (b 13), .ref (b 14), .ref (b 16)])), ((b 7), .inl (g.2.1 0, 8, .inl (fun _ => 0)))]) (wr := []) E hA [3, 0, 1, 2] [] rfl rfl rfl rfl (by decide)) E (fun u5 H locs hp E => ?_)
      have E : Ev g _ s.heap H locs [(m0, .inr (9, [.int 0, .ref (b 0), .ref (b 17)]))] := E
      refine lv_iload_n hx hb dX9_setLeakage_39 rfl (lv_at hl 0 rfl) ?_
      have hKK : (0 : Int32) = kk_setLeakage p0 p1 := (by unfold kk_setLeakage; rw [if_pos hR4, if_pos hR2])
      exact x_iret 0 S hr hlk hsz htt hK E dX9_setLeakage_40 ⟨hKK, fun _ => rfl⟩ rfl ⟨Nat.le_of_ble_eq_true rfl, Nat.le_of_ble_eq_true rfl⟩ ⟨Nat.le_of_ble_eq_true rfl, Nat.le_of_ble_eq_true rfl⟩
    · skip
      refine lv_if_eq (tgt := 19) hx hb dX9_setLeakage_14 (by decide) (fun c_ => absurd c_ (show ¬ ((1 : Int32) = 0) by decide)) (fun _ => ?_)
      refine lv_iconst (v := 0) hx hb dX9_setLeakage_17 (by decide) ?_
      have hKK : (1 : Int32) = kk_setLeakage p0 p1 := (by unfold kk_setLeakage; rw [if_neg hR4])
      have E : Ev g _ s.heap H locs [(m0, .inr (9, [.int 1, .ref (b 0), .ref (b 17)]))] := Ev.sub E [3] rfl rfl
      exact x_iret 1 S hr hlk hsz htt hK E dX9_setLeakage_18 ⟨hKK, fun z => absurd (hKK.trans z) (by decide)⟩ rfl ⟨Nat.le_of_ble_eq_true rfl, Nat.le_of_ble_eq_true rfl⟩ ⟨Nat.le_of_ble_eq_true rfl, Nat.le_of_ble_eq_true rfl⟩
  · skip
    refine w_reti (runV_X (As := [.int p0, .int 7, .int 0]) (rest := []) (q0 := 0) (n := 3) S hml hK (hZ.at E) (Cut.of (wc := [(m0, .inr (9, [.int 0, .ref (b 0), .ref (b 17)]))]) (wr := [((b 17), .inr (8, [.int 0, .ref (g.2.2 0), .int 0])), ((b 0), .inr (10, [.ref (b 1), .ref (b 2), .ref (b 3), .ref (b 4), .ref (b 5), .ref (b 6), .ref (b 7), .ref (b 8), .ref (b 9), .ref (b 10), .ref (b 11), .ref (b 12), .int 0, .int 0, .int (nI 0), .ref (b 13), .ref (b 14), .ref (b 16)])), ((b 7), .inl (g.2.1 0, 8, .inl (fun _ => 0)))]) E hA [0] [1, 2, 3] rfl rfl rfl rfl (by decide)) (c_fs0 l g m0 b 0 p0 7 _ _) (gi_wsV ml_X9_51 im_X9_failsSet sl_X9_failsSet in_X9 co_X9_failsSet) ⟨rfl, by decide +kernel, by decide +kernel, by decide +kernel⟩ ⟨Nat.le_of_ble_eq_true rfl, Nat.le_of_ble_eq_true rfl⟩ rfl rfl rfl hl.1 rfl (Nat.le_of_ble_eq_true rfl) dX9_setLeakage_11 ⟨Nat.le_of_ble_eq_true rfl, Nat.le_of_ble_eq_true rfl⟩) (Cut.of (wc := [(m0, .inr (9, [.int 0, .ref (b 0), .ref (b 17)]))]) (wr := [((b 17), .inr (8, [.int 0, .ref (g.2.2 0), .int 0])), ((b 0), .inr (10, [.ref (b 1), .ref (b 2), .ref (b 3), .ref (b 4), .ref (b 5), .ref (b 6), .ref (b 7), .ref (b 8), .ref (b 9), .ref (b 10), .ref (b 11), .ref (b 12), .int 0, .int 0, .int (nI 0), .ref (b 13), .ref (b 14), .ref (b 16)])), ((b 7), .inl (g.2.1 0, 8, .inl (fun _ => 0)))]) E hA [0] [1, 2, 3] rfl rfl rfl rfl (by decide)) E (fun r6 u6 H locs hp E => ?_)
    have E : Ev g _ s.heap H locs [((b 17), .inr (8, [.int 0, .ref (g.2.2 0), .int 0])), ((b 0), .inr (10, [.ref (b 1), .ref (b 2), .ref (b 3), .ref (b 4), .ref (b 5), .ref (b 6), .ref (b 7), .ref (b 8), .ref (b 9), .ref (b 10), .ref (b 11), .ref (b 12), .int 0, .int 0, .int (nI 0), .ref (b 13), .ref (b 14), .ref (b 16)])), ((b 7), .inl (g.2.1 0, 8, .inl (fun _ => 0))), (m0, .inr (9, [.int u6, .ref (b 0), .ref (b 17)]))] := E
    rcases hp with ⟨rfl, rfl, hR7⟩ | ⟨rfl, rfl, hR7⟩
    · skip
      refine lv_if_eq (tgt := 19) hx hb dX9_setLeakage_14 (by decide) (fun c_ => absurd c_ (show ¬ ((1 : Int32) = 0) by decide)) (fun _ => ?_)
      refine lv_iconst (v := 0) hx hb dX9_setLeakage_17 (by decide) ?_
      have hKK : (2 : Int32) = kk_setLeakage p0 p1 := (by unfold kk_setLeakage; rw [if_pos hR7, if_neg (fun z => hR2 z)])
      have E : Ev g _ s.heap H locs [(m0, .inr (9, [.int 2, .ref (b 0), .ref (b 17)]))] := Ev.sub E [3] rfl rfl
      exact x_iret 2 S hr hlk hsz htt hK E dX9_setLeakage_18 ⟨hKK, fun z => absurd (hKK.trans z) (by decide)⟩ rfl ⟨Nat.le_of_ble_eq_true rfl, Nat.le_of_ble_eq_true rfl⟩ ⟨Nat.le_of_ble_eq_true rfl, Nat.le_of_ble_eq_true rfl⟩
    · skip
      refine lv_if_eq (tgt := 19) hx hb dX9_setLeakage_14 (by decide) (fun c_ => absurd c_ (show ¬ ((1 : Int32) = 0) by decide)) (fun _ => ?_)
      refine lv_iconst (v := 0) hx hb dX9_setLeakage_17 (by decide) ?_
      have hKK : (1 : Int32) = kk_setLeakage p0 p1 := (by unfold kk_setLeakage; rw [if_neg hR7])
      have E : Ev g _ s.heap H locs [(m0, .inr (9, [.int 1, .ref (b 0), .ref (b 17)]))] := Ev.sub E [3] rfl rfl
      exact x_iret 1 S hr hlk hsz htt hK E dX9_setLeakage_18 ⟨hKK, fun z => absurd (hKK.trans z) (by decide)⟩ rfl ⟨Nat.le_of_ble_eq_true rfl, Nat.le_of_ble_eq_true rfl⟩ ⟨Nat.le_of_ble_eq_true rfl, Nat.le_of_ble_eq_true rfl⟩

/-- what setRain throws at first: its number, 0 for nothing -/
def kk_setRain (p0 : Int32) (p1 : Int32) : Int32 := if rgOK p0 0 7 then (if rgOK p1 0 99 then 0 else 2) else 1
theorem dX9_setRain_0 : decode cX9_setRain 0 = .ok (.aload_n 0, 1) := by decide +kernel
theorem dX9_setRain_1 : decode cX9_setRain 1 = .ok (.iload_n 1, 1) := by decide +kernel
theorem dX9_setRain_2 : decode cX9_setRain 2 = .ok (.bipush 7, 2) := by decide +kernel
theorem dX9_setRain_4 : decode cX9_setRain 4 = .ok (.iload_n 2, 1) := by decide +kernel
theorem dX9_setRain_5 : decode cX9_setRain 5 = .ok (.iconst 0, 1) := by decide +kernel
theorem dX9_setRain_6 : decode cX9_setRain 6 = .ok (.bipush 99, 2) := by decide +kernel
theorem dX9_setRain_8 : decode cX9_setRain 8 = .ok (.invokestatic 35, 3) := by decide +kernel
theorem dX9_setRain_11 : decode cX9_setRain 11 = .ok (.invokevirtual 51, 3) := by decide +kernel
theorem dX9_setRain_14 : decode cX9_setRain 14 = .ok (.ifCond .eq 5, 3) := by decide +kernel
theorem dX9_setRain_17 : decode cX9_setRain 17 = .ok (.iconst 0, 1) := by decide +kernel
theorem dX9_setRain_18 : decode cX9_setRain 18 = .ok (.ireturn, 1) := by decide +kernel
theorem dX9_setRain_19 : decode cX9_setRain 19 = .ok (.aload_n 0, 1) := by decide +kernel
theorem dX9_setRain_20 : decode cX9_setRain 20 = .ok (.getfield 10, 3) := by decide +kernel
theorem dX9_setRain_23 : decode cX9_setRain 23 = .ok (.getfield 64, 3) := by decide +kernel
theorem dX9_setRain_26 : decode cX9_setRain 26 = .ok (.iload_n 1, 1) := by decide +kernel
theorem dX9_setRain_27 : decode cX9_setRain 27 = .ok (.iaload, 1) := by decide +kernel
theorem dX9_setRain_28 : decode cX9_setRain 28 = .ok (.istore_n 3, 1) := by decide +kernel
theorem dX9_setRain_29 : decode cX9_setRain 29 = .ok (.aload_n 0, 1) := by decide +kernel
theorem dX9_setRain_30 : decode cX9_setRain 30 = .ok (.bipush 114, 2) := by decide +kernel
theorem dX9_setRain_32 : decode cX9_setRain 32 = .ok (.iload_n 1, 1) := by decide +kernel
theorem dX9_setRain_33 : decode cX9_setRain 33 = .ok (.iload_n 2, 1) := by decide +kernel
theorem dX9_setRain_34 : decode cX9_setRain 34 = .ok (.iconst 0, 1) := by decide +kernel
theorem dX9_setRain_35 : decode cX9_setRain 35 = .ok (.iconst 0, 1) := by decide +kernel
theorem dX9_setRain_36 : decode cX9_setRain 36 = .ok (.invokevirtual 47, 3) := by decide +kernel
theorem dX9_setRain_39 : decode cX9_setRain 39 = .ok (.iload_n 3, 1) := by decide +kernel
theorem dX9_setRain_40 : decode cX9_setRain 40 = .ok (.ireturn, 1) := by decide +kernel
set_option maxHeartbeats 4000000 in
set_option maxRecDepth 100000 in
/-- reference: setRain -/
theorem c_X9_setRain (l : Launch) (g : Gm) (m0 : Nat) (b : Nat → Nat) (p0 : Int32) (p1 : Int32) : MXi (S := Int32) l g yX9_setRain cX9_setRain 4 .int ({ frames := 6, cells := 2, slots := 15, locals := 128 } : Room) [.ref m0, .int p0, .int p1] [(m0, .inr (9, [.int 0, .ref (b 0), .ref (b 17)])), ((b 17), .inr (8, [.int 0, .ref (g.2.2 0), .int 0])), ((b 0), .inr (10, [.ref (b 1), .ref (b 2), .ref (b 3), .ref (b 4), .ref (b 5), .ref (b 6), .ref (b 7), .ref (b 8), .ref (b 9), .ref (b 10), .ref (b 11), .ref (b 12), .int 0, .int 0, .int (nI 0), .ref (b 13), .ref (b 14), .ref (b 16)])), ((b 8), .inl (g.2.1 0, 8, .inl (fun _ => 0)))] (fun r u => u = kk_setRain p0 p1 ∧ (kk_setRain p0 p1 = 0 → r = 0)) (fun u => [(m0, .inr (9, [.int u, .ref (b 0), .ref (b 17)]))]) (fun _ => (2, 15)) := by
  intro sz tt
  refine ofX RX9 rfl (by decide +kernel) (Nat.le_of_ble_eq_true rfl) (fun p e s m args below meth c hargs S hml hr hlk hnm hsz htt hK hA hZ E ls hl => ?_)
  have hx := S.1
  have hb := S.2.1
  have hl : lv_has ls 4 [(0, .ref m0), (1, .int p0), (2, .int p1)] := hl
  refine lv_aload_n hx hb dX9_setRain_0 rfl (lv_at hl 0 rfl) ?_
  refine lv_iload_n hx hb dX9_setRain_1 rfl (lv_at hl 1 rfl) ?_
  refine lv_bipush (v := 7) hx hb dX9_setRain_2 (by decide) ?_
  refine lv_iload_n hx hb dX9_setRain_4 rfl (lv_at hl 2 rfl) ?_
  refine lv_iconst (v := 0) hx hb dX9_setRain_5 (by decide) ?_
  refine lv_bipush (v := 99) hx hb dX9_setRain_6 (by decide) ?_
  refine w_reti (runS_X (As := [.int p1, .int 0, .int 99]) (rest := [.int 7, .int p0, .ref m0]) (n := 3) S hml hK (hZ.at E) (Cut.of (wc := []) (wr := [(m0, .inr (9, [.int 0, .ref (b 0), .ref (b 17)])), ((b 17), .inr (8, [.int 0, .ref (g.2.2 0), .int 0])), ((b 0), .inr (10, [.ref (b 1), .ref (b 2), .ref (b 3), .ref (b 4), .ref (b 5), .ref (b 6), .ref (b 7), .ref (b 8), .ref (b 9), .ref (b 10), .ref (b 11), .ref (b 12), .int 0, .int 0, .int (nI 0), .ref (b 13), .ref (b 14), .ref (b 16)])), ((b 8), .inl (g.2.1 0, 8, .inl (fun _ => 0)))]) E hA [] [0, 1, 2, 3] rfl rfl rfl rfl (by decide)) (c_X9_in l g p1 0 99 _ _) ml_X9_35 st_X9_in in_X9 co_X9_in ⟨by decide +kernel, by decide +kernel, by decide +kernel⟩ ⟨Nat.le_of_ble_eq_true rfl, Nat.le_of_ble_eq_true rfl⟩ rfl hl.1 rfl (Nat.le_of_ble_eq_true rfl) dX9_setRain_8 ⟨Nat.le_of_ble_eq_true rfl, Nat.le_of_ble_eq_true rfl⟩) (Cut.of (wc := []) (wr := [(m0, .inr (9, [.int 0, .ref (b 0), .ref (b 17)])), ((b 17), .inr (8, [.int 0, .ref (g.2.2 0), .int 0])), ((b 0), .inr (10, [.ref (b 1), .ref (b 2), .ref (b 3), .ref (b 4), .ref (b 5), .ref (b 6), .ref (b 7), .ref (b 8), .ref (b 9), .ref (b 10), .ref (b 11), .ref (b 12), .int 0, .int 0, .int (nI 0), .ref (b 13), .ref (b 14), .ref (b 16)])), ((b 8), .inl (g.2.1 0, 8, .inl (fun _ => 0)))]) E hA [] [0, 1, 2, 3] rfl rfl rfl rfl (by decide)) E (fun r1 u1 H locs hp E => ?_)
  have E : Ev g _ s.heap H locs [(m0, .inr (9, [.int 0, .ref (b 0), .ref (b 17)])), ((b 17), .inr (8, [.int 0, .ref (g.2.2 0), .int 0])), ((b 0), .inr (10, [.ref (b 1), .ref (b 2), .ref (b 3), .ref (b 4), .ref (b 5), .ref (b 6), .ref (b 7), .ref (b 8), .ref (b 9), .ref (b 10), .ref (b 11), .ref (b 12), .int 0, .int 0, .int (nI 0), .ref (b 13), .ref (b 14), .ref (b 16)])), ((b 8), .inl (g.2.1 0, 8, .inl (fun _ => 0)))] := E
  rcases hp with ⟨rfl, hR2⟩ | ⟨rfl, hR2⟩
  · skip
    refine w_reti (runV_X (As := [.int p0, .int 7, .int 1]) (rest := []) (q0 := 0) (n := 3) S hml hK (hZ.at E) (Cut.of (wc := [(m0, .inr (9, [.int 0, .ref (b 0), .ref (b 17)]))]) (wr := [((b 17), .inr (8, [.int 0, .ref (g.2.2 0), .int 0])), ((b 0), .inr (10, [.ref (b 1), .ref (b 2), .ref (b 3), .ref (b 4), .ref (b 5), .ref (b 6), .ref (b 7), .ref (b 8), .ref (b 9), .ref (b 10), .ref (b 11), .ref (b 12), .int 0, .int 0, .int (nI 0), .ref (b 13), .ref (b 14), .ref (b 16)])), ((b 8), .inl (g.2.1 0, 8, .inl (fun _ => 0)))]) E hA [0] [1, 2, 3] rfl rfl rfl rfl (by decide)) (c_fs1 l g m0 b 0 p0 7 _ _) (gi_wsV ml_X9_51 im_X9_failsSet sl_X9_failsSet in_X9 co_X9_failsSet) ⟨rfl, by decide +kernel, by decide +kernel, by decide +kernel⟩ ⟨Nat.le_of_ble_eq_true rfl, Nat.le_of_ble_eq_true rfl⟩ rfl rfl rfl hl.1 rfl (Nat.le_of_ble_eq_true rfl) dX9_setRain_11 ⟨Nat.le_of_ble_eq_true rfl, Nat.le_of_ble_eq_true rfl⟩) (Cut.of (wc := [(m0, .inr (9, [.int 0, .ref (b 0), .ref (b 17)]))]) (wr := [((b 17), .inr (8, [.int 0, .ref (g.2.2 0), .int 0])), ((b 0), .inr (10, [.ref (b 1), .ref (b 2), .ref (b 3), .ref (b 4), .ref (b 5), .ref (b 6), .ref (b 7), .ref (b 8), .ref (b 9), .ref (b 10), .ref (b 11), .ref (b 12), .int 0, .int 0, .int (nI 0), .ref (b 13), .ref (b 14), .ref (b 16)])), ((b 8), .inl (g.2.1 0, 8, .inl (fun _ => 0)))]) E hA [0] [1, 2, 3] rfl rfl rfl rfl (by decide)) E (fun r3 u3 H locs hp E => ?_)
    have E : Ev g _ s.heap H locs [((b 17), .inr (8, [.int 0, .ref (g.2.2 0), .int 0])), ((b 0), .inr (10, [.ref (b 1), .ref (b 2), .ref (b 3), .ref (b 4), .ref (b 5), .ref (b 6), .ref (b 7), .ref (b 8), .ref (b 9), .ref (b 10), .ref (b 11), .ref (b 12), .int 0, .int 0, .int (nI 0), .ref (b 13), .ref (b 14), .ref (b 16)])), ((b 8), .inl (g.2.1 0, 8, .inl (fun _ => 0))), (m0, .inr (9, [.int u3, .ref (b 0), .ref (b 17)]))] := E
    rcases hp with ⟨rfl, rfl, hR4⟩ | ⟨rfl, rfl, hR4⟩
    · skip
      refine lv_if_eq (tgt := 19) hx hb dX9_setRain_14 (by decide) (fun _ => ?_) (fun c_ => absurd (show (0 : Int32) = 0 by decide) c_)
      refine lv_aload_n hx hb dX9_setRain_19 rfl (lv_at hl 0 rfl) ?_
      refine wg_X9_10 (v := .ref (b 0)) S hK E 3 rfl rfl dX9_setRain_20 ?_
      refine wg_X9_64 (v := .ref (b 8)) S hZ.2.2.2.2.2.2.1 hK E 1 rfl rfl dX9_setRain_23 ?_
      refine lv_iload_n hx hb dX9_setRain_26 rfl (lv_at hl 1 rfl) ?_
      refine w_ild (v := 0) S hK E 2 0 rfl rfl (rg_in 7 (by decide) (by decide) (by decide) hR4) rfl dX9_setRain_27 ?_
      refine lv_istore_n (lv' := [(3, .int 0), (0, .ref m0), (1, .int p0), (2, .int p1)]) hx hb dX9_setRain_28 rfl hl (by decide) rfl (fun ls hl => ?_)
      refine lv_aload_n hx hb dX9_setRain_29 rfl (lv_at hl 1 rfl) ?_
      refine lv_bipush (v := 114) hx hb dX9_setRain_30 (by decide) ?_
      refine lv_iload_n hx hb dX9_setRain_32 rfl (lv_at hl 2 rfl) ?_
      refine lv_iload_n hx hb dX9_setRain_33 rfl (lv_at hl 3 rfl) ?_
      refine lv_iconst (v := 0) hx hb dX9_setRain_34 (by decide) ?_
      refine lv_iconst (v := 0) hx hb dX9_setRain_35 (by decide) ?_
      refine w_retv (runV_X (As := [.int 114, .int p0, .int p1, .int 0, .int 0]) (rest := []) (q0 := 0) (n := 5) S hml hK (hZ.at E) (Cut.of (wc := [(m0, .inr (9, [.int 0, .ref (b 0), .ref (b 17)])), ((b 17), .inr (8, [.int 0, .ref (g.2.2 0), .int 0])), ((b 0), .inr (10, [.ref (b 1), .ref (b 2), .ref (b 3), .ref (b 4), .ref (b 5), .ref (b 6), .ref (b 7), .ref (b 8), .ref (b 9), .ref (b 10), .ref (b 11), .ref (b 12), .int 0, .int 0, .int (nI 0), .ref (b 13), .ref (b 14), .ref (b 16)])), ((b 8), .inl (g.2.1 0, 8, .inl (fun _ => 0)))]) (wr := []) E hA [3, 0, 1, 2] [] rfl rfl rfl rfl (by decide)) (c_ac114 l g m0 b 0 0 p0 p1 (rg_in 7 (by decide) (by decide) (by decide) hR4) _ _) (gi_wsV ml_X9_47 im_X9_act sl_X9_act in_X9 co_X9_act) ⟨rfl, by decide +kernel, by decide +kernel, by decide +kernel⟩ ⟨Nat.le_of_ble_eq_true rfl, Nat.le_of_ble_eq_true rfl⟩ rfl rfl rfl hl.1 rfl (Nat.le_of_ble_eq_true rfl) dX9_setRain_36 ⟨Nat.le_of_ble_eq_true rfl, Nat.le_of_ble_eq_true rfl⟩) (Cut.of (wc := [(m0, .inr (9, [.int 0, .ref (b 0), .ref (b 17)])), ((b 17), .inr (8, [.int 0, .ref (g.2.2 0), .int 0])), ((b 0), .inr (10, [.ref (b 1), .ref (b 2), .ref (b 3), .ref (b 4), .ref (b 5), .ref (b 6), .ref (b 7), .ref (b 8), .ref (b 9), .ref (b 10), .ref (b 11), .ref (b 12), .int 0, .int 0, .int (nI 0), .ref (b 13), .ref (b 14), .ref (b 16)])), ((b 8), .inl (g.2.1 0, 8, .inl (fun _ => 0)))]) (wr := []) E hA [3, 0, 1, 2] [] rfl rfl rfl rfl (by decide)) E (fun u5 H locs hp E => ?_)
      have E : Ev g _ s.heap H locs [(m0, .inr (9, [.int 0, .ref (b 0), .ref (b 17)]))] := E
      refine lv_iload_n hx hb dX9_setRain_39 rfl (lv_at hl 0 rfl) ?_
      have hKK : (0 : Int32) = kk_setRain p0 p1 := (by unfold kk_setRain; rw [if_pos hR4, if_pos hR2])
      exact x_iret 0 S hr hlk hsz htt hK E dX9_setRain_40 ⟨hKK, fun _ => rfl⟩ rfl ⟨Nat.le_of_ble_eq_true rfl, Nat.le_of_ble_eq_true rfl⟩ ⟨Nat.le_of_ble_eq_true rfl, Nat.le_of_ble_eq_true rfl⟩
    · skip
      refine lv_if_eq (tgt := 19) hx hb dX9_setRain_14 (by decide) (fun c_ => absurd c_ (show ¬ ((1 : Int32) = 0) by decide)) (fun _ => ?_)
      refine lv_iconst (v := 0) hx hb dX9_setRain_17 (by decide) ?_
      have hKK : (1 : Int32) = kk_setRain p0 p1 := (by unfold kk_setRain; rw [if_neg hR4])
      have E : Ev g _ s.heap H locs [(m0, .inr (9, [.int 1, .ref (b 0), .ref (b 17)]))] := Ev.sub E [3] rfl rfl
      exact x_iret 1 S hr hlk hsz htt hK E dX9_setRain_18 ⟨hKK, fun z => absurd (hKK.trans z) (by decide)⟩ rfl ⟨Nat.le_of_ble_eq_true rfl, Nat.le_of_ble_eq_true rfl⟩ ⟨Nat.le_of_ble_eq_true rfl, Nat.le_of_ble_eq_true rfl⟩
  · skip
    refine w_reti (runV_X (As := [.int p0, .int 7, .int 0]) (rest := []) (q0 := 0) (n := 3) S hml hK (hZ.at E) (Cut.of (wc := [(m0, .inr (9, [.int 0, .ref (b 0), .ref (b 17)]))]) (wr := [((b 17), .inr (8, [.int 0, .ref (g.2.2 0), .int 0])), ((b 0), .inr (10, [.ref (b 1), .ref (b 2), .ref (b 3), .ref (b 4), .ref (b 5), .ref (b 6), .ref (b 7), .ref (b 8), .ref (b 9), .ref (b 10), .ref (b 11), .ref (b 12), .int 0, .int 0, .int (nI 0), .ref (b 13), .ref (b 14), .ref (b 16)])), ((b 8), .inl (g.2.1 0, 8, .inl (fun _ => 0)))]) E hA [0] [1, 2, 3] rfl rfl rfl rfl (by decide)) (c_fs0 l g m0 b 0 p0 7 _ _) (gi_wsV ml_X9_51 im_X9_failsSet sl_X9_failsSet in_X9 co_X9_failsSet) ⟨rfl, by decide +kernel, by decide +kernel, by decide +kernel⟩ ⟨Nat.le_of_ble_eq_true rfl, Nat.le_of_ble_eq_true rfl⟩ rfl rfl rfl hl.1 rfl (Nat.le_of_ble_eq_true rfl) dX9_setRain_11 ⟨Nat.le_of_ble_eq_true rfl, Nat.le_of_ble_eq_true rfl⟩) (Cut.of (wc := [(m0, .inr (9, [.int 0, .ref (b 0), .ref (b 17)]))]) (wr := [((b 17), .inr (8, [.int 0, .ref (g.2.2 0), .int 0])), ((b 0), .inr (10, [.ref (b 1), .ref (b 2), .ref (b 3), .ref (b 4), .ref (b 5), .ref (b 6), .ref (b 7), .ref (b 8), .ref (b 9), .ref (b 10), .ref (b 11), .ref (b 12), .int 0, .int 0, .int (nI 0), .ref (b 13), .ref (b 14), .ref (b 16)])), ((b 8), .inl (g.2.1 0, 8, .inl (fun _ => 0)))]) E hA [0] [1, 2, 3] rfl rfl rfl rfl (by decide)) E (fun r6 u6 H locs hp E => ?_)
    have E : Ev g _ s.heap H locs [((b 17), .inr (8, [.int 0, .ref (g.2.2 0), .int 0])), ((b 0), .inr (10, [.ref (b 1), .ref (b 2), .ref (b 3), .ref (b 4), .ref (b 5), .ref (b 6), .ref (b 7), .ref (b 8), .ref (b 9), .ref (b 10), .ref (b 11), .ref (b 12), .int 0, .int 0, .int (nI 0), .ref (b 13), .ref (b 14), .ref (b 16)])), ((b 8), .inl (g.2.1 0, 8, .inl (fun _ => 0))), (m0, .inr (9, [.int u6, .ref (b 0), .ref (b 17)]))] := E
    rcases hp with ⟨rfl, rfl, hR7⟩ | ⟨rfl, rfl, hR7⟩
    · skip
      refine lv_if_eq (tgt := 19) hx hb dX9_setRain_14 (by decide) (fun c_ => absurd c_ (show ¬ ((1 : Int32) = 0) by decide)) (fun _ => ?_)
      refine lv_iconst (v := 0) hx hb dX9_setRain_17 (by decide) ?_
      have hKK : (2 : Int32) = kk_setRain p0 p1 := (by unfold kk_setRain; rw [if_pos hR7, if_neg (fun z => hR2 z)])
      have E : Ev g _ s.heap H locs [(m0, .inr (9, [.int 2, .ref (b 0), .ref (b 17)]))] := Ev.sub E [3] rfl rfl
      exact x_iret 2 S hr hlk hsz htt hK E dX9_setRain_18 ⟨hKK, fun z => absurd (hKK.trans z) (by decide)⟩ rfl ⟨Nat.le_of_ble_eq_true rfl, Nat.le_of_ble_eq_true rfl⟩ ⟨Nat.le_of_ble_eq_true rfl, Nat.le_of_ble_eq_true rfl⟩
    · skip
      refine lv_if_eq (tgt := 19) hx hb dX9_setRain_14 (by decide) (fun c_ => absurd c_ (show ¬ ((1 : Int32) = 0) by decide)) (fun _ => ?_)
      refine lv_iconst (v := 0) hx hb dX9_setRain_17 (by decide) ?_
      have hKK : (1 : Int32) = kk_setRain p0 p1 := (by unfold kk_setRain; rw [if_neg hR7])
      have E : Ev g _ s.heap H locs [(m0, .inr (9, [.int 1, .ref (b 0), .ref (b 17)]))] := Ev.sub E [3] rfl rfl
      exact x_iret 1 S hr hlk hsz htt hK E dX9_setRain_18 ⟨hKK, fun z => absurd (hKK.trans z) (by decide)⟩ rfl ⟨Nat.le_of_ble_eq_true rfl, Nat.le_of_ble_eq_true rfl⟩ ⟨Nat.le_of_ble_eq_true rfl, Nat.le_of_ble_eq_true rfl⟩

/-- what setBed throws at first: its number, 0 for nothing -/
def kk_setBed (p0 : Int32) (p1 : Int32) (p2 : Int32) : Int32 := if rgOK p0 0 7 then (if rgOK p1 (-100) 100 ∧ rgOK p2 0 9 then 0 else 2) else 1
theorem dX9_setBed_0 : decode cX9_setBed 0 = .ok (.aload_n 0, 1) := by decide +kernel
theorem dX9_setBed_1 : decode cX9_setBed 1 = .ok (.iload_n 1, 1) := by decide +kernel
theorem dX9_setBed_2 : decode cX9_setBed 2 = .ok (.bipush 7, 2) := by decide +kernel
theorem dX9_setBed_4 : decode cX9_setBed 4 = .ok (.iload_n 2, 1) := by decide +kernel
theorem dX9_setBed_5 : decode cX9_setBed 5 = .ok (.bipush (-100), 2) := by decide +kernel
theorem dX9_setBed_7 : decode cX9_setBed 7 = .ok (.bipush 100, 2) := by decide +kernel
theorem dX9_setBed_9 : decode cX9_setBed 9 = .ok (.invokestatic 35, 3) := by decide +kernel
theorem dX9_setBed_12 : decode cX9_setBed 12 = .ok (.ifCond .eq 17, 3) := by decide +kernel
theorem dX9_setBed_15 : decode cX9_setBed 15 = .ok (.iload_n 3, 1) := by decide +kernel
theorem dX9_setBed_16 : decode cX9_setBed 16 = .ok (.iconst 0, 1) := by decide +kernel
theorem dX9_setBed_17 : decode cX9_setBed 17 = .ok (.bipush 9, 2) := by decide +kernel
theorem dX9_setBed_19 : decode cX9_setBed 19 = .ok (.invokestatic 35, 3) := by decide +kernel
theorem dX9_setBed_22 : decode cX9_setBed 22 = .ok (.ifCond .eq 7, 3) := by decide +kernel
theorem dX9_setBed_25 : decode cX9_setBed 25 = .ok (.iconst 1, 1) := by decide +kernel
theorem dX9_setBed_26 : decode cX9_setBed 26 = .ok (.goto 4, 3) := by decide +kernel
theorem dX9_setBed_29 : decode cX9_setBed 29 = .ok (.iconst 0, 1) := by decide +kernel
theorem dX9_setBed_30 : decode cX9_setBed 30 = .ok (.invokevirtual 51, 3) := by decide +kernel
theorem dX9_setBed_33 : decode cX9_setBed 33 = .ok (.ifCond .eq 5, 3) := by decide +kernel
theorem dX9_setBed_36 : decode cX9_setBed 36 = .ok (.iconst 0, 1) := by decide +kernel
theorem dX9_setBed_37 : decode cX9_setBed 37 = .ok (.ireturn, 1) := by decide +kernel
theorem dX9_setBed_38 : decode cX9_setBed 38 = .ok (.aload_n 0, 1) := by decide +kernel
theorem dX9_setBed_39 : decode cX9_setBed 39 = .ok (.getfield 10, 3) := by decide +kernel
theorem dX9_setBed_42 : decode cX9_setBed 42 = .ok (.getfield 67, 3) := by decide +kernel
theorem dX9_setBed_45 : decode cX9_setBed 45 = .ok (.iload_n 1, 1) := by decide +kernel
theorem dX9_setBed_46 : decode cX9_setBed 46 = .ok (.iaload, 1) := by decide +kernel
theorem dX9_setBed_47 : decode cX9_setBed 47 = .ok (.istore 4, 2) := by decide +kernel
theorem dX9_setBed_49 : decode cX9_setBed 49 = .ok (.aload_n 0, 1) := by decide +kernel
theorem dX9_setBed_50 : decode cX9_setBed 50 = .ok (.bipush 98, 2) := by decide +kernel
theorem dX9_setBed_52 : decode cX9_setBed 52 = .ok (.iload_n 1, 1) := by decide +kernel
theorem dX9_setBed_53 : decode cX9_setBed 53 = .ok (.iload_n 2, 1) := by decide +kernel
theorem dX9_setBed_54 : decode cX9_setBed 54 = .ok (.iload_n 3, 1) := by decide +kernel
theorem dX9_setBed_55 : decode cX9_setBed 55 = .ok (.iconst 0, 1) := by decide +kernel
theorem dX9_setBed_56 : decode cX9_setBed 56 = .ok (.invokevirtual 47, 3) := by decide +kernel
theorem dX9_setBed_59 : decode cX9_setBed 59 = .ok (.iload 4, 2) := by decide +kernel
theorem dX9_setBed_61 : decode cX9_setBed 61 = .ok (.ireturn, 1) := by decide +kernel
set_option maxHeartbeats 4000000 in
set_option maxRecDepth 100000 in
/-- reference: setBed -/
theorem c_X9_setBed (l : Launch) (g : Gm) (m0 : Nat) (b : Nat → Nat) (p0 : Int32) (p1 : Int32) (p2 : Int32) : MXi (S := Int32) l g yX9_setBed cX9_setBed 5 .int ({ frames := 6, cells := 2, slots := 15, locals := 128 } : Room) [.ref m0, .int p0, .int p1, .int p2] [(m0, .inr (9, [.int 0, .ref (b 0), .ref (b 17)])), ((b 17), .inr (8, [.int 0, .ref (g.2.2 0), .int 0])), ((b 0), .inr (10, [.ref (b 1), .ref (b 2), .ref (b 3), .ref (b 4), .ref (b 5), .ref (b 6), .ref (b 7), .ref (b 8), .ref (b 9), .ref (b 10), .ref (b 11), .ref (b 12), .int 0, .int 0, .int (nI 0), .ref (b 13), .ref (b 14), .ref (b 16)])), ((b 9), .inl (g.2.1 0, 8, .inl (fun _ => 0))), ((b 10), .inl (g.2.1 0, 8, .inl (fun _ => 0)))] (fun r u => u = kk_setBed p0 p1 p2 ∧ (kk_setBed p0 p1 p2 = 0 → r = 0)) (fun u => [(m0, .inr (9, [.int u, .ref (b 0), .ref (b 17)]))]) (fun _ => (2, 15)) := by
  intro sz tt
  refine ofX RX9 rfl (by decide +kernel) (Nat.le_of_ble_eq_true rfl) (fun p e s m args below meth c hargs S hml hr hlk hnm hsz htt hK hA hZ E ls hl => ?_)
  have hx := S.1
  have hb := S.2.1
  have hl : lv_has ls 5 [(0, .ref m0), (1, .int p0), (2, .int p1), (3, .int p2)] := hl
  refine lv_aload_n hx hb dX9_setBed_0 rfl (lv_at hl 0 rfl) ?_
  refine lv_iload_n hx hb dX9_setBed_1 rfl (lv_at hl 1 rfl) ?_
  refine lv_bipush (v := 7) hx hb dX9_setBed_2 (by decide) ?_
  refine lv_iload_n hx hb dX9_setBed_4 rfl (lv_at hl 2 rfl) ?_
  refine lv_bipush (v := (-100)) hx hb dX9_setBed_5 (by decide) ?_
  refine lv_bipush (v := 100) hx hb dX9_setBed_7 (by decide) ?_
  refine w_reti (runS_X (As := [.int p1, .int (-100), .int 100]) (rest := [.int 7, .int p0, .ref m0]) (n := 3) S hml hK (hZ.at E) (Cut.of (wc := []) (wr := [(m0, .inr (9, [.int 0, .ref (b 0), .ref (b 17)])), ((b 17), .inr (8, [.int 0, .ref (g.2.2 0), .int 0])), ((b 0), .inr (10, [.ref (b 1), .ref (b 2), .ref (b 3), .ref (b 4), .ref (b 5), .ref (b 6), .ref (b 7), .ref (b 8), .ref (b 9), .ref (b 10), .ref (b 11), .ref (b 12), .int 0, .int 0, .int (nI 0), .ref (b 13), .ref (b 14), .ref (b 16)])), ((b 9), .inl (g.2.1 0, 8, .inl (fun _ => 0))), ((b 10), .inl (g.2.1 0, 8, .inl (fun _ => 0)))]) E hA [] [0, 1, 2, 3, 4] rfl rfl rfl rfl (by decide)) (c_X9_in l g p1 (-100) 100 _ _) ml_X9_35 st_X9_in in_X9 co_X9_in ⟨by decide +kernel, by decide +kernel, by decide +kernel⟩ ⟨Nat.le_of_ble_eq_true rfl, Nat.le_of_ble_eq_true rfl⟩ rfl hl.1 rfl (Nat.le_of_ble_eq_true rfl) dX9_setBed_9 ⟨Nat.le_of_ble_eq_true rfl, Nat.le_of_ble_eq_true rfl⟩) (Cut.of (wc := []) (wr := [(m0, .inr (9, [.int 0, .ref (b 0), .ref (b 17)])), ((b 17), .inr (8, [.int 0, .ref (g.2.2 0), .int 0])), ((b 0), .inr (10, [.ref (b 1), .ref (b 2), .ref (b 3), .ref (b 4), .ref (b 5), .ref (b 6), .ref (b 7), .ref (b 8), .ref (b 9), .ref (b 10), .ref (b 11), .ref (b 12), .int 0, .int 0, .int (nI 0), .ref (b 13), .ref (b 14), .ref (b 16)])), ((b 9), .inl (g.2.1 0, 8, .inl (fun _ => 0))), ((b 10), .inl (g.2.1 0, 8, .inl (fun _ => 0)))]) E hA [] [0, 1, 2, 3, 4] rfl rfl rfl rfl (by decide)) E (fun r1 u1 H locs hp E => ?_)
  have E : Ev g _ s.heap H locs [(m0, .inr (9, [.int 0, .ref (b 0), .ref (b 17)])), ((b 17), .inr (8, [.int 0, .ref (g.2.2 0), .int 0])), ((b 0), .inr (10, [.ref (b 1), .ref (b 2), .ref (b 3), .ref (b 4), .ref (b 5), .ref (b 6), .ref (b 7), .ref (b 8), .ref (b 9), .ref (b 10), .ref (b 11), .ref (b 12), .int 0, .int 0, .int (nI 0), .ref (b 13), .ref (b 14), .ref (b 16)])), ((b 9), .inl (g.2.1 0, 8, .inl (fun _ => 0))), ((b 10), .inl (g.2.1 0, 8, .inl (fun _ => 0)))] := E
  rcases hp with ⟨rfl, hR2⟩ | ⟨rfl, hR2⟩
  · skip
    refine lv_if_eq (tgt := 29) hx hb dX9_setBed_12 (by decide) (fun c_ => absurd c_ (show ¬ ((1 : Int32) = 0) by decide)) (fun _ => ?_)
    refine lv_iload_n hx hb dX9_setBed_15 rfl (lv_at hl 3 rfl) ?_
    refine lv_iconst (v := 0) hx hb dX9_setBed_16 (by decide) ?_
    refine lv_bipush (v := 9) hx hb dX9_setBed_17 (by decide) ?_
    refine w_reti (runS_X (As := [.int p2, .int 0, .int 9]) (rest := [.int 7, .int p0, .ref m0]) (n := 3) S hml hK (hZ.at E) (Cut.of (wc := []) (wr := [(m0, .inr (9, [.int 0, .ref (b 0), .ref (b 17)])), ((b 17), .inr (8, [.int 0, .ref (g.2.2 0), .int 0])), ((b 0), .inr (10, [.ref (b 1), .ref (b 2), .ref (b 3), .ref (b 4), .ref (b 5), .ref (b 6), .ref (b 7), .ref (b 8), .ref (b 9), .ref (b 10), .ref (b 11), .ref (b 12), .int 0, .int 0, .int (nI 0), .ref (b 13), .ref (b 14), .ref (b 16)])), ((b 9), .inl (g.2.1 0, 8, .inl (fun _ => 0))), ((b 10), .inl (g.2.1 0, 8, .inl (fun _ => 0)))]) E hA [] [0, 1, 2, 3, 4] rfl rfl rfl rfl (by decide)) (c_X9_in l g p2 0 9 _ _) ml_X9_35 st_X9_in in_X9 co_X9_in ⟨by decide +kernel, by decide +kernel, by decide +kernel⟩ ⟨Nat.le_of_ble_eq_true rfl, Nat.le_of_ble_eq_true rfl⟩ rfl hl.1 rfl (Nat.le_of_ble_eq_true rfl) dX9_setBed_19 ⟨Nat.le_of_ble_eq_true rfl, Nat.le_of_ble_eq_true rfl⟩) (Cut.of (wc := []) (wr := [(m0, .inr (9, [.int 0, .ref (b 0), .ref (b 17)])), ((b 17), .inr (8, [.int 0, .ref (g.2.2 0), .int 0])), ((b 0), .inr (10, [.ref (b 1), .ref (b 2), .ref (b 3), .ref (b 4), .ref (b 5), .ref (b 6), .ref (b 7), .ref (b 8), .ref (b 9), .ref (b 10), .ref (b 11), .ref (b 12), .int 0, .int 0, .int (nI 0), .ref (b 13), .ref (b 14), .ref (b 16)])), ((b 9), .inl (g.2.1 0, 8, .inl (fun _ => 0))), ((b 10), .inl (g.2.1 0, 8, .inl (fun _ => 0)))]) E hA [] [0, 1, 2, 3, 4] rfl rfl rfl rfl (by decide)) E (fun r3 u3 H locs hp E => ?_)
    have E : Ev g _ s.heap H locs [(m0, .inr (9, [.int 0, .ref (b 0), .ref (b 17)])), ((b 17), .inr (8, [.int 0, .ref (g.2.2 0), .int 0])), ((b 0), .inr (10, [.ref (b 1), .ref (b 2), .ref (b 3), .ref (b 4), .ref (b 5), .ref (b 6), .ref (b 7), .ref (b 8), .ref (b 9), .ref (b 10), .ref (b 11), .ref (b 12), .int 0, .int 0, .int (nI 0), .ref (b 13), .ref (b 14), .ref (b 16)])), ((b 9), .inl (g.2.1 0, 8, .inl (fun _ => 0))), ((b 10), .inl (g.2.1 0, 8, .inl (fun _ => 0)))] := E
    rcases hp with ⟨rfl, hR4⟩ | ⟨rfl, hR4⟩
    · skip
      refine lv_if_eq (tgt := 29) hx hb dX9_setBed_22 (by decide) (fun c_ => absurd c_ (show ¬ ((1 : Int32) = 0) by decide)) (fun _ => ?_)
      refine lv_iconst (v := 1) hx hb dX9_setBed_25 (by decide) ?_
      refine lv_goto (tgt := 30) hx hb dX9_setBed_26 (by decide) ?_
      refine w_reti (runV_X (As := [.int p0, .int 7, .int 1]) (rest := []) (q0 := 0) (n := 3) S hml hK (hZ.at E) (Cut.of (wc := [(m0, .inr (9, [.int 0, .ref (b 0), .ref (b 17)]))]) (wr := [((b 17), .inr (8, [.int 0, .ref (g.2.2 0), .int 0])), ((b 0), .inr (10, [.ref (b 1), .ref (b 2), .ref (b 3), .ref (b 4), .ref (b 5), .ref (b 6), .ref (b 7), .ref (b 8), .ref (b 9), .ref (b 10), .ref (b 11), .ref (b 12), .int 0, .int 0, .int (nI 0), .ref (b 13), .ref (b 14), .ref (b 16)])), ((b 9), .inl (g.2.1 0, 8, .inl (fun _ => 0))), ((b 10), .inl (g.2.1 0, 8, .inl (fun _ => 0)))]) E hA [0] [1, 2, 3, 4] rfl rfl rfl rfl (by decide)) (c_fs1 l g m0 b 0 p0 7 _ _) (gi_wsV ml_X9_51 im_X9_failsSet sl_X9_failsSet in_X9 co_X9_failsSet) ⟨rfl, by decide +kernel, by decide +kernel, by decide +kernel⟩ ⟨Nat.le_of_ble_eq_true rfl, Nat.le_of_ble_eq_true rfl⟩ rfl rfl rfl hl.1 rfl (Nat.le_of_ble_eq_true rfl) dX9_setBed_30 ⟨Nat.le_of_ble_eq_true rfl, Nat.le_of_ble_eq_true rfl⟩) (Cut.of (wc := [(m0, .inr (9, [.int 0, .ref (b 0), .ref (b 17)]))]) (wr := [((b 17), .inr (8, [.int 0, .ref (g.2.2 0), .int 0])), ((b 0), .inr (10, [.ref (b 1), .ref (b 2), .ref (b 3), .ref (b 4), .ref (b 5), .ref (b 6), .ref (b 7), .ref (b 8), .ref (b 9), .ref (b 10), .ref (b 11), .ref (b 12), .int 0, .int 0, .int (nI 0), .ref (b 13), .ref (b 14), .ref (b 16)])), ((b 9), .inl (g.2.1 0, 8, .inl (fun _ => 0))), ((b 10), .inl (g.2.1 0, 8, .inl (fun _ => 0)))]) E hA [0] [1, 2, 3, 4] rfl rfl rfl rfl (by decide)) E (fun r5 u5 H locs hp E => ?_)
      have E : Ev g _ s.heap H locs [((b 17), .inr (8, [.int 0, .ref (g.2.2 0), .int 0])), ((b 0), .inr (10, [.ref (b 1), .ref (b 2), .ref (b 3), .ref (b 4), .ref (b 5), .ref (b 6), .ref (b 7), .ref (b 8), .ref (b 9), .ref (b 10), .ref (b 11), .ref (b 12), .int 0, .int 0, .int (nI 0), .ref (b 13), .ref (b 14), .ref (b 16)])), ((b 9), .inl (g.2.1 0, 8, .inl (fun _ => 0))), ((b 10), .inl (g.2.1 0, 8, .inl (fun _ => 0))), (m0, .inr (9, [.int u5, .ref (b 0), .ref (b 17)]))] := E
      rcases hp with ⟨rfl, rfl, hR6⟩ | ⟨rfl, rfl, hR6⟩
      · skip
        refine lv_if_eq (tgt := 38) hx hb dX9_setBed_33 (by decide) (fun _ => ?_) (fun c_ => absurd (show (0 : Int32) = 0 by decide) c_)
        refine lv_aload_n hx hb dX9_setBed_38 rfl (lv_at hl 0 rfl) ?_
        refine wg_X9_10 (v := .ref (b 0)) S hK E 4 rfl rfl dX9_setBed_39 ?_
        refine wg_X9_67 (v := .ref (b 10)) S hZ.2.2.2.2.2.2.1 hK E 1 rfl rfl dX9_setBed_42 ?_
        refine lv_iload_n hx hb dX9_setBed_45 rfl (lv_at hl 1 rfl) ?_
        refine w_ild (v := 0) S hK E 3 0 rfl rfl (rg_in 7 (by decide) (by decide) (by decide) hR6) rfl dX9_setBed_46 ?_
        refine lv_istore (lv' := [(4, .int 0), (0, .ref m0), (1, .int p0), (2, .int p1), (3, .int p2)]) hx hb dX9_setBed_47 hl (by decide) rfl (fun ls hl => ?_)
        refine lv_aload_n hx hb dX9_setBed_49 rfl (lv_at hl 1 rfl) ?_
        refine lv_bipush (v := 98) hx hb dX9_setBed_50 (by decide) ?_
        refine lv_iload_n hx hb dX9_setBed_52 rfl (lv_at hl 2 rfl) ?_
        refine lv_iload_n hx hb dX9_setBed_53 rfl (lv_at hl 3 rfl) ?_
        refine lv_iload_n hx hb dX9_setBed_54 rfl (lv_at hl 4 rfl) ?_
        refine lv_iconst (v := 0) hx hb dX9_setBed_55 (by decide) ?_
        refine w_retv (runV_X (As := [.int 98, .int p0, .int p1, .int p2, .int 0]) (rest := []) (q0 := 0) (n := 5) S hml hK (hZ.at E) (Cut.of (wc := [(m0, .inr (9, [.int 0, .ref (b 0), .ref (b 17)])), ((b 17), .inr (8, [.int 0, .ref (g.2.2 0), .int 0])), ((b 0), .inr (10, [.ref (b 1), .ref (b 2), .ref (b 3), .ref (b 4), .ref (b 5), .ref (b 6), .ref (b 7), .ref (b 8), .ref (b 9), .ref (b 10), .ref (b 11), .ref (b 12), .int 0, .int 0, .int (nI 0), .ref (b 13), .ref (b 14), .ref (b 16)])), ((b 9), .inl (g.2.1 0, 8, .inl (fun _ => 0))), ((b 10), .inl (g.2.1 0, 8, .inl (fun _ => 0)))]) (wr := []) E hA [4, 0, 1, 2, 3] [] rfl rfl rfl rfl (by decide)) (c_ac98 l g m0 b 0 0 p0 p1 p2 (rg_in 7 (by decide) (by decide) (by decide) hR6) _ _) (gi_wsV ml_X9_47 im_X9_act sl_X9_act in_X9 co_X9_act) ⟨rfl, by decide +kernel, by decide +kernel, by decide +kernel⟩ ⟨Nat.le_of_ble_eq_true rfl, Nat.le_of_ble_eq_true rfl⟩ rfl rfl rfl hl.1 rfl (Nat.le_of_ble_eq_true rfl) dX9_setBed_56 ⟨Nat.le_of_ble_eq_true rfl, Nat.le_of_ble_eq_true rfl⟩) (Cut.of (wc := [(m0, .inr (9, [.int 0, .ref (b 0), .ref (b 17)])), ((b 17), .inr (8, [.int 0, .ref (g.2.2 0), .int 0])), ((b 0), .inr (10, [.ref (b 1), .ref (b 2), .ref (b 3), .ref (b 4), .ref (b 5), .ref (b 6), .ref (b 7), .ref (b 8), .ref (b 9), .ref (b 10), .ref (b 11), .ref (b 12), .int 0, .int 0, .int (nI 0), .ref (b 13), .ref (b 14), .ref (b 16)])), ((b 9), .inl (g.2.1 0, 8, .inl (fun _ => 0))), ((b 10), .inl (g.2.1 0, 8, .inl (fun _ => 0)))]) (wr := []) E hA [4, 0, 1, 2, 3] [] rfl rfl rfl rfl (by decide)) E (fun u7 H locs hp E => ?_)
        have E : Ev g _ s.heap H locs [(m0, .inr (9, [.int 0, .ref (b 0), .ref (b 17)]))] := E
        refine lv_iload hx hb dX9_setBed_59 (lv_at hl 0 rfl) ?_
        have hKK : (0 : Int32) = kk_setBed p0 p1 p2 := (by unfold kk_setBed; rw [if_pos hR6, if_pos ⟨hR2, hR4⟩])
        exact x_iret 0 S hr hlk hsz htt hK E dX9_setBed_61 ⟨hKK, fun _ => rfl⟩ rfl ⟨Nat.le_of_ble_eq_true rfl, Nat.le_of_ble_eq_true rfl⟩ ⟨Nat.le_of_ble_eq_true rfl, Nat.le_of_ble_eq_true rfl⟩
      · skip
        refine lv_if_eq (tgt := 38) hx hb dX9_setBed_33 (by decide) (fun c_ => absurd c_ (show ¬ ((1 : Int32) = 0) by decide)) (fun _ => ?_)
        refine lv_iconst (v := 0) hx hb dX9_setBed_36 (by decide) ?_
        have hKK : (1 : Int32) = kk_setBed p0 p1 p2 := (by unfold kk_setBed; rw [if_neg hR6])
        have E : Ev g _ s.heap H locs [(m0, .inr (9, [.int 1, .ref (b 0), .ref (b 17)]))] := Ev.sub E [4] rfl rfl
        exact x_iret 1 S hr hlk hsz htt hK E dX9_setBed_37 ⟨hKK, fun z => absurd (hKK.trans z) (by decide)⟩ rfl ⟨Nat.le_of_ble_eq_true rfl, Nat.le_of_ble_eq_true rfl⟩ ⟨Nat.le_of_ble_eq_true rfl, Nat.le_of_ble_eq_true rfl⟩
    · skip
      refine lv_if_eq (tgt := 29) hx hb dX9_setBed_22 (by decide) (fun _ => ?_) (fun c_ => absurd (show (0 : Int32) = 0 by decide) c_)
      refine lv_iconst (v := 0) hx hb dX9_setBed_29 (by decide) ?_
      refine w_reti (runV_X (As := [.int p0, .int 7, .int 0]) (rest := []) (q0 := 0) (n := 3) S hml hK (hZ.at E) (Cut.of (wc := [(m0, .inr (9, [.int 0, .ref (b 0), .ref (b 17)]))]) (wr := [((b 17), .inr (8, [.int 0, .ref (g.2.2 0), .int 0])), ((b 0), .inr (10, [.ref (b 1), .ref (b 2), .ref (b 3), .ref (b 4), .ref (b 5), .ref (b 6), .ref (b 7), .ref (b 8), .ref (b 9), .ref (b 10), .ref (b 11), .ref (b 12), .int 0, .int 0, .int (nI 0), .ref (b 13), .ref (b 14), .ref (b 16)])), ((b 9), .inl (g.2.1 0, 8, .inl (fun _ => 0))), ((b 10), .inl (g.2.1 0, 8, .inl (fun _ => 0)))]) E hA [0] [1, 2, 3, 4] rfl rfl rfl rfl (by decide)) (c_fs0 l g m0 b 0 p0 7 _ _) (gi_wsV ml_X9_51 im_X9_failsSet sl_X9_failsSet in_X9 co_X9_failsSet) ⟨rfl, by decide +kernel, by decide +kernel, by decide +kernel⟩ ⟨Nat.le_of_ble_eq_true rfl, Nat.le_of_ble_eq_true rfl⟩ rfl rfl rfl hl.1 rfl (Nat.le_of_ble_eq_true rfl) dX9_setBed_30 ⟨Nat.le_of_ble_eq_true rfl, Nat.le_of_ble_eq_true rfl⟩) (Cut.of (wc := [(m0, .inr (9, [.int 0, .ref (b 0), .ref (b 17)]))]) (wr := [((b 17), .inr (8, [.int 0, .ref (g.2.2 0), .int 0])), ((b 0), .inr (10, [.ref (b 1), .ref (b 2), .ref (b 3), .ref (b 4), .ref (b 5), .ref (b 6), .ref (b 7), .ref (b 8), .ref (b 9), .ref (b 10), .ref (b 11), .ref (b 12), .int 0, .int 0, .int (nI 0), .ref (b 13), .ref (b 14), .ref (b 16)])), ((b 9), .inl (g.2.1 0, 8, .inl (fun _ => 0))), ((b 10), .inl (g.2.1 0, 8, .inl (fun _ => 0)))]) E hA [0] [1, 2, 3, 4] rfl rfl rfl rfl (by decide)) E (fun r8 u8 H locs hp E => ?_)
      have E : Ev g _ s.heap H locs [((b 17), .inr (8, [.int 0, .ref (g.2.2 0), .int 0])), ((b 0), .inr (10, [.ref (b 1), .ref (b 2), .ref (b 3), .ref (b 4), .ref (b 5), .ref (b 6), .ref (b 7), .ref (b 8), .ref (b 9), .ref (b 10), .ref (b 11), .ref (b 12), .int 0, .int 0, .int (nI 0), .ref (b 13), .ref (b 14), .ref (b 16)])), ((b 9), .inl (g.2.1 0, 8, .inl (fun _ => 0))), ((b 10), .inl (g.2.1 0, 8, .inl (fun _ => 0))), (m0, .inr (9, [.int u8, .ref (b 0), .ref (b 17)]))] := E
      rcases hp with ⟨rfl, rfl, hR9⟩ | ⟨rfl, rfl, hR9⟩
      · skip
        refine lv_if_eq (tgt := 38) hx hb dX9_setBed_33 (by decide) (fun c_ => absurd c_ (show ¬ ((1 : Int32) = 0) by decide)) (fun _ => ?_)
        refine lv_iconst (v := 0) hx hb dX9_setBed_36 (by decide) ?_
        have hKK : (2 : Int32) = kk_setBed p0 p1 p2 := (by unfold kk_setBed; rw [if_pos hR9, if_neg (fun z => hR4 z.2)])
        have E : Ev g _ s.heap H locs [(m0, .inr (9, [.int 2, .ref (b 0), .ref (b 17)]))] := Ev.sub E [4] rfl rfl
        exact x_iret 2 S hr hlk hsz htt hK E dX9_setBed_37 ⟨hKK, fun z => absurd (hKK.trans z) (by decide)⟩ rfl ⟨Nat.le_of_ble_eq_true rfl, Nat.le_of_ble_eq_true rfl⟩ ⟨Nat.le_of_ble_eq_true rfl, Nat.le_of_ble_eq_true rfl⟩
      · skip
        refine lv_if_eq (tgt := 38) hx hb dX9_setBed_33 (by decide) (fun c_ => absurd c_ (show ¬ ((1 : Int32) = 0) by decide)) (fun _ => ?_)
        refine lv_iconst (v := 0) hx hb dX9_setBed_36 (by decide) ?_
        have hKK : (1 : Int32) = kk_setBed p0 p1 p2 := (by unfold kk_setBed; rw [if_neg hR9])
        have E : Ev g _ s.heap H locs [(m0, .inr (9, [.int 1, .ref (b 0), .ref (b 17)]))] := Ev.sub E [4] rfl rfl
        exact x_iret 1 S hr hlk hsz htt hK E dX9_setBed_37 ⟨hKK, fun z => absurd (hKK.trans z) (by decide)⟩ rfl ⟨Nat.le_of_ble_eq_true rfl, Nat.le_of_ble_eq_true rfl⟩ ⟨Nat.le_of_ble_eq_true rfl, Nat.le_of_ble_eq_true rfl⟩
  · skip
    refine lv_if_eq (tgt := 29) hx hb dX9_setBed_12 (by decide) (fun _ => ?_) (fun c_ => absurd (show (0 : Int32) = 0 by decide) c_)
    refine lv_iconst (v := 0) hx hb dX9_setBed_29 (by decide) ?_
    refine w_reti (runV_X (As := [.int p0, .int 7, .int 0]) (rest := []) (q0 := 0) (n := 3) S hml hK (hZ.at E) (Cut.of (wc := [(m0, .inr (9, [.int 0, .ref (b 0), .ref (b 17)]))]) (wr := [((b 17), .inr (8, [.int 0, .ref (g.2.2 0), .int 0])), ((b 0), .inr (10, [.ref (b 1), .ref (b 2), .ref (b 3), .ref (b 4), .ref (b 5), .ref (b 6), .ref (b 7), .ref (b 8), .ref (b 9), .ref (b 10), .ref (b 11), .ref (b 12), .int 0, .int 0, .int (nI 0), .ref (b 13), .ref (b 14), .ref (b 16)])), ((b 9), .inl (g.2.1 0, 8, .inl (fun _ => 0))), ((b 10), .inl (g.2.1 0, 8, .inl (fun _ => 0)))]) E hA [0] [1, 2, 3, 4] rfl rfl rfl rfl (by decide)) (c_fs0 l g m0 b 0 p0 7 _ _) (gi_wsV ml_X9_51 im_X9_failsSet sl_X9_failsSet in_X9 co_X9_failsSet) ⟨rfl, by decide +kernel, by decide +kernel, by decide +kernel⟩ ⟨Nat.le_of_ble_eq_true rfl, Nat.le_of_ble_eq_true rfl⟩ rfl rfl rfl hl.1 rfl (Nat.le_of_ble_eq_true rfl) dX9_setBed_30 ⟨Nat.le_of_ble_eq_true rfl, Nat.le_of_ble_eq_true rfl⟩) (Cut.of (wc := [(m0, .inr (9, [.int 0, .ref (b 0), .ref (b 17)]))]) (wr := [((b 17), .inr (8, [.int 0, .ref (g.2.2 0), .int 0])), ((b 0), .inr (10, [.ref (b 1), .ref (b 2), .ref (b 3), .ref (b 4), .ref (b 5), .ref (b 6), .ref (b 7), .ref (b 8), .ref (b 9), .ref (b 10), .ref (b 11), .ref (b 12), .int 0, .int 0, .int (nI 0), .ref (b 13), .ref (b 14), .ref (b 16)])), ((b 9), .inl (g.2.1 0, 8, .inl (fun _ => 0))), ((b 10), .inl (g.2.1 0, 8, .inl (fun _ => 0)))]) E hA [0] [1, 2, 3, 4] rfl rfl rfl rfl (by decide)) E (fun r10 u10 H locs hp E => ?_)
    have E : Ev g _ s.heap H locs [((b 17), .inr (8, [.int 0, .ref (g.2.2 0), .int 0])), ((b 0), .inr (10, [.ref (b 1), .ref (b 2), .ref (b 3), .ref (b 4), .ref (b 5), .ref (b 6), .ref (b 7), .ref (b 8), .ref (b 9), .ref (b 10), .ref (b 11), .ref (b 12), .int 0, .int 0, .int (nI 0), .ref (b 13), .ref (b 14), .ref (b 16)])), ((b 9), .inl (g.2.1 0, 8, .inl (fun _ => 0))), ((b 10), .inl (g.2.1 0, 8, .inl (fun _ => 0))), (m0, .inr (9, [.int u10, .ref (b 0), .ref (b 17)]))] := E
    rcases hp with ⟨rfl, rfl, hR11⟩ | ⟨rfl, rfl, hR11⟩
    · skip
      refine lv_if_eq (tgt := 38) hx hb dX9_setBed_33 (by decide) (fun c_ => absurd c_ (show ¬ ((1 : Int32) = 0) by decide)) (fun _ => ?_)
      refine lv_iconst (v := 0) hx hb dX9_setBed_36 (by decide) ?_
      have hKK : (2 : Int32) = kk_setBed p0 p1 p2 := (by unfold kk_setBed; rw [if_pos hR11, if_neg (fun z => hR2 z.1)])
      have E : Ev g _ s.heap H locs [(m0, .inr (9, [.int 2, .ref (b 0), .ref (b 17)]))] := Ev.sub E [4] rfl rfl
      exact x_iret 2 S hr hlk hsz htt hK E dX9_setBed_37 ⟨hKK, fun z => absurd (hKK.trans z) (by decide)⟩ rfl ⟨Nat.le_of_ble_eq_true rfl, Nat.le_of_ble_eq_true rfl⟩ ⟨Nat.le_of_ble_eq_true rfl, Nat.le_of_ble_eq_true rfl⟩
    · skip
      refine lv_if_eq (tgt := 38) hx hb dX9_setBed_33 (by decide) (fun c_ => absurd c_ (show ¬ ((1 : Int32) = 0) by decide)) (fun _ => ?_)
      refine lv_iconst (v := 0) hx hb dX9_setBed_36 (by decide) ?_
      have hKK : (1 : Int32) = kk_setBed p0 p1 p2 := (by unfold kk_setBed; rw [if_neg hR11])
      have E : Ev g _ s.heap H locs [(m0, .inr (9, [.int 1, .ref (b 0), .ref (b 17)]))] := Ev.sub E [4] rfl rfl
      exact x_iret 1 S hr hlk hsz htt hK E dX9_setBed_37 ⟨hKK, fun z => absurd (hKK.trans z) (by decide)⟩ rfl ⟨Nat.le_of_ble_eq_true rfl, Nat.le_of_ble_eq_true rfl⟩ ⟨Nat.le_of_ble_eq_true rfl, Nat.le_of_ble_eq_true rfl⟩

/-- what setRiver throws at first: its number, 0 for nothing -/
def kk_setRiver (p0 : Int32) : Int32 := if rgOK p0 0 999 then 0 else 1
theorem dX9_setRiver_0 : decode cX9_setRiver 0 = .ok (.aload_n 0, 1) := by decide +kernel
theorem dX9_setRiver_1 : decode cX9_setRiver 1 = .ok (.iload_n 1, 1) := by decide +kernel
theorem dX9_setRiver_2 : decode cX9_setRiver 2 = .ok (.iconst 0, 1) := by decide +kernel
theorem dX9_setRiver_3 : decode cX9_setRiver 3 = .ok (.sipush 999, 3) := by decide +kernel
theorem dX9_setRiver_6 : decode cX9_setRiver 6 = .ok (.invokestatic 35, 3) := by decide +kernel
theorem dX9_setRiver_9 : decode cX9_setRiver 9 = .ok (.ifCond .eq 7, 3) := by decide +kernel
theorem dX9_setRiver_12 : decode cX9_setRiver 12 = .ok (.iconst 0, 1) := by decide +kernel
theorem dX9_setRiver_13 : decode cX9_setRiver 13 = .ok (.goto 4, 3) := by decide +kernel
theorem dX9_setRiver_16 : decode cX9_setRiver 16 = .ok (.iconst 1, 1) := by decide +kernel
theorem dX9_setRiver_17 : decode cX9_setRiver 17 = .ok (.invokevirtual 39, 3) := by decide +kernel
theorem dX9_setRiver_20 : decode cX9_setRiver 20 = .ok (.ifCond .eq 5, 3) := by decide +kernel
theorem dX9_setRiver_23 : decode cX9_setRiver 23 = .ok (.iconst 0, 1) := by decide +kernel
theorem dX9_setRiver_24 : decode cX9_setRiver 24 = .ok (.ireturn, 1) := by decide +kernel
theorem dX9_setRiver_25 : decode cX9_setRiver 25 = .ok (.aload_n 0, 1) := by decide +kernel
theorem dX9_setRiver_26 : decode cX9_setRiver 26 = .ok (.getfield 10, 3) := by decide +kernel
theorem dX9_setRiver_29 : decode cX9_setRiver 29 = .ok (.getfield 70, 3) := by decide +kernel
theorem dX9_setRiver_32 : decode cX9_setRiver 32 = .ok (.istore_n 2, 1) := by decide +kernel
theorem dX9_setRiver_33 : decode cX9_setRiver 33 = .ok (.aload_n 0, 1) := by decide +kernel
theorem dX9_setRiver_34 : decode cX9_setRiver 34 = .ok (.bipush 118, 2) := by decide +kernel
theorem dX9_setRiver_36 : decode cX9_setRiver 36 = .ok (.iload_n 1, 1) := by decide +kernel
theorem dX9_setRiver_37 : decode cX9_setRiver 37 = .ok (.iconst 0, 1) := by decide +kernel
theorem dX9_setRiver_38 : decode cX9_setRiver 38 = .ok (.iconst 0, 1) := by decide +kernel
theorem dX9_setRiver_39 : decode cX9_setRiver 39 = .ok (.iconst 0, 1) := by decide +kernel
theorem dX9_setRiver_40 : decode cX9_setRiver 40 = .ok (.invokevirtual 47, 3) := by decide +kernel
theorem dX9_setRiver_43 : decode cX9_setRiver 43 = .ok (.iload_n 2, 1) := by decide +kernel
theorem dX9_setRiver_44 : decode cX9_setRiver 44 = .ok (.ireturn, 1) := by decide +kernel
set_option maxHeartbeats 4000000 in
set_option maxRecDepth 100000 in
/-- reference: setRiver -/
theorem c_X9_setRiver (l : Launch) (g : Gm) (m0 : Nat) (b : Nat → Nat) (p0 : Int32) : MXi (S := Int32) l g yX9_setRiver cX9_setRiver 3 .int ({ frames := 6, cells := 2, slots := 15, locals := 128 } : Room) [.ref m0, .int p0] [(m0, .inr (9, [.int 0, .ref (b 0), .ref (b 17)])), ((b 17), .inr (8, [.int 0, .ref (g.2.2 0), .int 0])), ((b 0), .inr (10, [.ref (b 1), .ref (b 2), .ref (b 3), .ref (b 4), .ref (b 5), .ref (b 6), .ref (b 7), .ref (b 8), .ref (b 9), .ref (b 10), .ref (b 11), .ref (b 12), .int 0, .int 0, .int (nI 0), .ref (b 13), .ref (b 14), .ref (b 16)]))] (fun r u => u = kk_setRiver p0 ∧ (kk_setRiver p0 = 0 → r = 0)) (fun u => [(m0, .inr (9, [.int u, .ref (b 0), .ref (b 17)]))]) (fun _ => (2, 15)) := by
  intro sz tt
  refine ofX RX9 rfl (by decide +kernel) (Nat.le_of_ble_eq_true rfl) (fun p e s m args below meth c hargs S hml hr hlk hnm hsz htt hK hA hZ E ls hl => ?_)
  have hx := S.1
  have hb := S.2.1
  have hl : lv_has ls 3 [(0, .ref m0), (1, .int p0)] := hl
  refine lv_aload_n hx hb dX9_setRiver_0 rfl (lv_at hl 0 rfl) ?_
  refine lv_iload_n hx hb dX9_setRiver_1 rfl (lv_at hl 1 rfl) ?_
  refine lv_iconst (v := 0) hx hb dX9_setRiver_2 (by decide) ?_
  refine lv_sipush (v := 999) hx hb dX9_setRiver_3 (by decide) ?_
  refine w_reti (runS_X (As := [.int p0, .int 0, .int 999]) (rest := [.ref m0]) (n := 3) S hml hK (hZ.at E) (Cut.of (wc := []) (wr := [(m0, .inr (9, [.int 0, .ref (b 0), .ref (b 17)])), ((b 17), .inr (8, [.int 0, .ref (g.2.2 0), .int 0])), ((b 0), .inr (10, [.ref (b 1), .ref (b 2), .ref (b 3), .ref (b 4), .ref (b 5), .ref (b 6), .ref (b 7), .ref (b 8), .ref (b 9), .ref (b 10), .ref (b 11), .ref (b 12), .int 0, .int 0, .int (nI 0), .ref (b 13), .ref (b 14), .ref (b 16)]))]) E hA [] [0, 1, 2] rfl rfl rfl rfl (by decide)) (c_X9_in l g p0 0 999 _ _) ml_X9_35 st_X9_in in_X9 co_X9_in ⟨by decide +kernel, by decide +kernel, by decide +kernel⟩ ⟨Nat.le_of_ble_eq_true rfl, Nat.le_of_ble_eq_true rfl⟩ rfl hl.1 rfl (Nat.le_of_ble_eq_true rfl) dX9_setRiver_6 ⟨Nat.le_of_ble_eq_true rfl, Nat.le_of_ble_eq_true rfl⟩) (Cut.of (wc := []) (wr := [(m0, .inr (9, [.int 0, .ref (b 0), .ref (b 17)])), ((b 17), .inr (8, [.int 0, .ref (g.2.2 0), .int 0])), ((b 0), .inr (10, [.ref (b 1), .ref (b 2), .ref (b 3), .ref (b 4), .ref (b 5), .ref (b 6), .ref (b 7), .ref (b 8), .ref (b 9), .ref (b 10), .ref (b 11), .ref (b 12), .int 0, .int 0, .int (nI 0), .ref (b 13), .ref (b 14), .ref (b 16)]))]) E hA [] [0, 1, 2] rfl rfl rfl rfl (by decide)) E (fun r1 u1 H locs hp E => ?_)
  have E : Ev g _ s.heap H locs [(m0, .inr (9, [.int 0, .ref (b 0), .ref (b 17)])), ((b 17), .inr (8, [.int 0, .ref (g.2.2 0), .int 0])), ((b 0), .inr (10, [.ref (b 1), .ref (b 2), .ref (b 3), .ref (b 4), .ref (b 5), .ref (b 6), .ref (b 7), .ref (b 8), .ref (b 9), .ref (b 10), .ref (b 11), .ref (b 12), .int 0, .int 0, .int (nI 0), .ref (b 13), .ref (b 14), .ref (b 16)]))] := E
  rcases hp with ⟨rfl, hR2⟩ | ⟨rfl, hR2⟩
  · skip
    refine lv_if_eq (tgt := 16) hx hb dX9_setRiver_9 (by decide) (fun c_ => absurd c_ (show ¬ ((1 : Int32) = 0) by decide)) (fun _ => ?_)
    refine lv_iconst (v := 0) hx hb dX9_setRiver_12 (by decide) ?_
    refine lv_goto (tgt := 17) hx hb dX9_setRiver_13 (by decide) ?_
    refine w_reti (runV_X (As := [.int 0]) (rest := []) (q0 := 0) (n := 1) S hml hK (hZ.at E) (Cut.of (wc := [(m0, .inr (9, [.int 0, .ref (b 0), .ref (b 17)]))]) (wr := [((b 17), .inr (8, [.int 0, .ref (g.2.2 0), .int 0])), ((b 0), .inr (10, [.ref (b 1), .ref (b 2), .ref (b 3), .ref (b 4), .ref (b 5), .ref (b 6), .ref (b 7), .ref (b 8), .ref (b 9), .ref (b 10), .ref (b 11), .ref (b 12), .int 0, .int 0, .int (nI 0), .ref (b 13), .ref (b 14), .ref (b 16)]))]) E hA [0] [1, 2] rfl rfl rfl rfl (by decide)) (c_X9_fails l g m0 b 0 0 _ _) (gi_wsV ml_X9_39 im_X9_fails sl_X9_fails in_X9 co_X9_fails) ⟨rfl, by decide +kernel, by decide +kernel, by decide +kernel⟩ ⟨Nat.le_of_ble_eq_true rfl, Nat.le_of_ble_eq_true rfl⟩ rfl rfl rfl hl.1 rfl (Nat.le_of_ble_eq_true rfl) dX9_setRiver_17 ⟨Nat.le_of_ble_eq_true rfl, Nat.le_of_ble_eq_true rfl⟩) (Cut.of (wc := [(m0, .inr (9, [.int 0, .ref (b 0), .ref (b 17)]))]) (wr := [((b 17), .inr (8, [.int 0, .ref (g.2.2 0), .int 0])), ((b 0), .inr (10, [.ref (b 1), .ref (b 2), .ref (b 3), .ref (b 4), .ref (b 5), .ref (b 6), .ref (b 7), .ref (b 8), .ref (b 9), .ref (b 10), .ref (b 11), .ref (b 12), .int 0, .int 0, .int (nI 0), .ref (b 13), .ref (b 14), .ref (b 16)]))]) E hA [0] [1, 2] rfl rfl rfl rfl (by decide)) E (fun r3 u3 H locs hp E => ?_)
    have E : Ev g _ s.heap H locs [((b 17), .inr (8, [.int 0, .ref (g.2.2 0), .int 0])), ((b 0), .inr (10, [.ref (b 1), .ref (b 2), .ref (b 3), .ref (b 4), .ref (b 5), .ref (b 6), .ref (b 7), .ref (b 8), .ref (b 9), .ref (b 10), .ref (b 11), .ref (b 12), .int 0, .int 0, .int (nI 0), .ref (b 13), .ref (b 14), .ref (b 16)])), (m0, .inr (9, [.int 0, .ref (b 0), .ref (b 17)]))] := E
    obtain ⟨rfl, -⟩ := hp.resolve_left (fun z => z.2 (by decide))
    refine lv_if_eq (tgt := 25) hx hb dX9_setRiver_20 (by decide) (fun _ => ?_) (fun c_ => absurd (show (0 : Int32) = 0 by decide) c_)
    refine lv_aload_n hx hb dX9_setRiver_25 rfl (lv_at hl 0 rfl) ?_
    refine wg_X9_10 (v := .ref (b 0)) S hK E 2 rfl rfl dX9_setRiver_26 ?_
    refine wg_X9_70 (v := .int 0) S hZ.2.2.2.2.2.2.1 hK E 1 rfl rfl dX9_setRiver_29 ?_
    refine lv_istore_n (lv' := [(2, .int 0), (0, .ref m0), (1, .int p0)]) hx hb dX9_setRiver_32 rfl hl (by decide) rfl (fun ls hl => ?_)
    refine lv_aload_n hx hb dX9_setRiver_33 rfl (lv_at hl 1 rfl) ?_
    refine lv_bipush (v := 118) hx hb dX9_setRiver_34 (by decide) ?_
    refine lv_iload_n hx hb dX9_setRiver_36 rfl (lv_at hl 2 rfl) ?_
    refine lv_iconst (v := 0) hx hb dX9_setRiver_37 (by decide) ?_
    refine lv_iconst (v := 0) hx hb dX9_setRiver_38 (by decide) ?_
    refine lv_iconst (v := 0) hx hb dX9_setRiver_39 (by decide) ?_
    refine w_retv (runV_X (As := [.int 118, .int p0, .int 0, .int 0, .int 0]) (rest := []) (q0 := 0) (n := 5) S hml hK (hZ.at E) (Cut.of (wc := [(m0, .inr (9, [.int 0, .ref (b 0), .ref (b 17)])), ((b 17), .inr (8, [.int 0, .ref (g.2.2 0), .int 0])), ((b 0), .inr (10, [.ref (b 1), .ref (b 2), .ref (b 3), .ref (b 4), .ref (b 5), .ref (b 6), .ref (b 7), .ref (b 8), .ref (b 9), .ref (b 10), .ref (b 11), .ref (b 12), .int 0, .int 0, .int (nI 0), .ref (b 13), .ref (b 14), .ref (b 16)]))]) (wr := []) E hA [2, 0, 1] [] rfl rfl rfl rfl (by decide)) (c_ac118 l g m0 b 0 0 p0 _ _) (gi_wsV ml_X9_47 im_X9_act sl_X9_act in_X9 co_X9_act) ⟨rfl, by decide +kernel, by decide +kernel, by decide +kernel⟩ ⟨Nat.le_of_ble_eq_true rfl, Nat.le_of_ble_eq_true rfl⟩ rfl rfl rfl hl.1 rfl (Nat.le_of_ble_eq_true rfl) dX9_setRiver_40 ⟨Nat.le_of_ble_eq_true rfl, Nat.le_of_ble_eq_true rfl⟩) (Cut.of (wc := [(m0, .inr (9, [.int 0, .ref (b 0), .ref (b 17)])), ((b 17), .inr (8, [.int 0, .ref (g.2.2 0), .int 0])), ((b 0), .inr (10, [.ref (b 1), .ref (b 2), .ref (b 3), .ref (b 4), .ref (b 5), .ref (b 6), .ref (b 7), .ref (b 8), .ref (b 9), .ref (b 10), .ref (b 11), .ref (b 12), .int 0, .int 0, .int (nI 0), .ref (b 13), .ref (b 14), .ref (b 16)]))]) (wr := []) E hA [2, 0, 1] [] rfl rfl rfl rfl (by decide)) E (fun u4 H locs hp E => ?_)
    have E : Ev g _ s.heap H locs [(m0, .inr (9, [.int 0, .ref (b 0), .ref (b 17)]))] := E
    refine lv_iload_n hx hb dX9_setRiver_43 rfl (lv_at hl 0 rfl) ?_
    have hKK : (0 : Int32) = kk_setRiver p0 := (by unfold kk_setRiver; rw [if_pos hR2])
    exact x_iret 0 S hr hlk hsz htt hK E dX9_setRiver_44 ⟨hKK, fun _ => rfl⟩ rfl ⟨Nat.le_of_ble_eq_true rfl, Nat.le_of_ble_eq_true rfl⟩ ⟨Nat.le_of_ble_eq_true rfl, Nat.le_of_ble_eq_true rfl⟩
  · skip
    refine lv_if_eq (tgt := 16) hx hb dX9_setRiver_9 (by decide) (fun _ => ?_) (fun c_ => absurd (show (0 : Int32) = 0 by decide) c_)
    refine lv_iconst (v := 1) hx hb dX9_setRiver_16 (by decide) ?_
    refine w_reti (runV_X (As := [.int 1]) (rest := []) (q0 := 0) (n := 1) S hml hK (hZ.at E) (Cut.of (wc := [(m0, .inr (9, [.int 0, .ref (b 0), .ref (b 17)]))]) (wr := [((b 17), .inr (8, [.int 0, .ref (g.2.2 0), .int 0])), ((b 0), .inr (10, [.ref (b 1), .ref (b 2), .ref (b 3), .ref (b 4), .ref (b 5), .ref (b 6), .ref (b 7), .ref (b 8), .ref (b 9), .ref (b 10), .ref (b 11), .ref (b 12), .int 0, .int 0, .int (nI 0), .ref (b 13), .ref (b 14), .ref (b 16)]))]) E hA [0] [1, 2] rfl rfl rfl rfl (by decide)) (c_X9_fails l g m0 b 0 1 _ _) (gi_wsV ml_X9_39 im_X9_fails sl_X9_fails in_X9 co_X9_fails) ⟨rfl, by decide +kernel, by decide +kernel, by decide +kernel⟩ ⟨Nat.le_of_ble_eq_true rfl, Nat.le_of_ble_eq_true rfl⟩ rfl rfl rfl hl.1 rfl (Nat.le_of_ble_eq_true rfl) dX9_setRiver_17 ⟨Nat.le_of_ble_eq_true rfl, Nat.le_of_ble_eq_true rfl⟩) (Cut.of (wc := [(m0, .inr (9, [.int 0, .ref (b 0), .ref (b 17)]))]) (wr := [((b 17), .inr (8, [.int 0, .ref (g.2.2 0), .int 0])), ((b 0), .inr (10, [.ref (b 1), .ref (b 2), .ref (b 3), .ref (b 4), .ref (b 5), .ref (b 6), .ref (b 7), .ref (b 8), .ref (b 9), .ref (b 10), .ref (b 11), .ref (b 12), .int 0, .int 0, .int (nI 0), .ref (b 13), .ref (b 14), .ref (b 16)]))]) E hA [0] [1, 2] rfl rfl rfl rfl (by decide)) E (fun r5 u5 H locs hp E => ?_)
    have E : Ev g _ s.heap H locs [((b 17), .inr (8, [.int 0, .ref (g.2.2 0), .int 0])), ((b 0), .inr (10, [.ref (b 1), .ref (b 2), .ref (b 3), .ref (b 4), .ref (b 5), .ref (b 6), .ref (b 7), .ref (b 8), .ref (b 9), .ref (b 10), .ref (b 11), .ref (b 12), .int 0, .int 0, .int (nI 0), .ref (b 13), .ref (b 14), .ref (b 16)])), (m0, .inr (9, [.int 1, .ref (b 0), .ref (b 17)]))] := E
    obtain ⟨rfl, -⟩ := hp.resolve_right (fun z => absurd z.2 (by decide))
    refine lv_if_eq (tgt := 25) hx hb dX9_setRiver_20 (by decide) (fun c_ => absurd c_ (show ¬ ((1 : Int32) = 0) by decide)) (fun _ => ?_)
    refine lv_iconst (v := 0) hx hb dX9_setRiver_23 (by decide) ?_
    have hKK : (1 : Int32) = kk_setRiver p0 := (by unfold kk_setRiver; rw [if_neg (fun z => hR2 z)])
    have E : Ev g _ s.heap H locs [(m0, .inr (9, [.int 1, .ref (b 0), .ref (b 17)]))] := Ev.sub E [2] rfl rfl
    exact x_iret 1 S hr hlk hsz htt hK E dX9_setRiver_24 ⟨hKK, fun z => absurd (hKK.trans z) (by decide)⟩ rfl ⟨Nat.le_of_ble_eq_true rfl, Nat.le_of_ble_eq_true rfl⟩ ⟨Nat.le_of_ble_eq_true rfl, Nat.le_of_ble_eq_true rfl⟩

/-- what setSea throws at first: its number, 0 for nothing -/
def kk_setSea (p0 : Int32) : Int32 := if rgOK p0 0 9 then 0 else 1
theorem dX9_setSea_0 : decode cX9_setSea 0 = .ok (.aload_n 0, 1) := by decide +kernel
theorem dX9_setSea_1 : decode cX9_setSea 1 = .ok (.iload_n 1, 1) := by decide +kernel
theorem dX9_setSea_2 : decode cX9_setSea 2 = .ok (.iconst 0, 1) := by decide +kernel
theorem dX9_setSea_3 : decode cX9_setSea 3 = .ok (.bipush 9, 2) := by decide +kernel
theorem dX9_setSea_5 : decode cX9_setSea 5 = .ok (.invokestatic 35, 3) := by decide +kernel
theorem dX9_setSea_8 : decode cX9_setSea 8 = .ok (.ifCond .eq 7, 3) := by decide +kernel
theorem dX9_setSea_11 : decode cX9_setSea 11 = .ok (.iconst 0, 1) := by decide +kernel
theorem dX9_setSea_12 : decode cX9_setSea 12 = .ok (.goto 4, 3) := by decide +kernel
theorem dX9_setSea_15 : decode cX9_setSea 15 = .ok (.iconst 1, 1) := by decide +kernel
theorem dX9_setSea_16 : decode cX9_setSea 16 = .ok (.invokevirtual 39, 3) := by decide +kernel
theorem dX9_setSea_19 : decode cX9_setSea 19 = .ok (.ifCond .eq 5, 3) := by decide +kernel
theorem dX9_setSea_22 : decode cX9_setSea 22 = .ok (.iconst 0, 1) := by decide +kernel
theorem dX9_setSea_23 : decode cX9_setSea 23 = .ok (.ireturn, 1) := by decide +kernel
theorem dX9_setSea_24 : decode cX9_setSea 24 = .ok (.aload_n 0, 1) := by decide +kernel
theorem dX9_setSea_25 : decode cX9_setSea 25 = .ok (.getfield 10, 3) := by decide +kernel
theorem dX9_setSea_28 : decode cX9_setSea 28 = .ok (.getfield 73, 3) := by decide +kernel
theorem dX9_setSea_31 : decode cX9_setSea 31 = .ok (.istore_n 2, 1) := by decide +kernel
theorem dX9_setSea_32 : decode cX9_setSea 32 = .ok (.aload_n 0, 1) := by decide +kernel
theorem dX9_setSea_33 : decode cX9_setSea 33 = .ok (.bipush 115, 2) := by decide +kernel
theorem dX9_setSea_35 : decode cX9_setSea 35 = .ok (.iload_n 1, 1) := by decide +kernel
theorem dX9_setSea_36 : decode cX9_setSea 36 = .ok (.iconst 0, 1) := by decide +kernel
theorem dX9_setSea_37 : decode cX9_setSea 37 = .ok (.iconst 0, 1) := by decide +kernel
theorem dX9_setSea_38 : decode cX9_setSea 38 = .ok (.iconst 0, 1) := by decide +kernel
theorem dX9_setSea_39 : decode cX9_setSea 39 = .ok (.invokevirtual 47, 3) := by decide +kernel
theorem dX9_setSea_42 : decode cX9_setSea 42 = .ok (.iload_n 2, 1) := by decide +kernel
theorem dX9_setSea_43 : decode cX9_setSea 43 = .ok (.ireturn, 1) := by decide +kernel
set_option maxHeartbeats 4000000 in
set_option maxRecDepth 100000 in
/-- reference: setSea -/
theorem c_X9_setSea (l : Launch) (g : Gm) (m0 : Nat) (b : Nat → Nat) (p0 : Int32) : MXi (S := Int32) l g yX9_setSea cX9_setSea 3 .int ({ frames := 6, cells := 2, slots := 15, locals := 128 } : Room) [.ref m0, .int p0] [(m0, .inr (9, [.int 0, .ref (b 0), .ref (b 17)])), ((b 17), .inr (8, [.int 0, .ref (g.2.2 0), .int 0])), ((b 0), .inr (10, [.ref (b 1), .ref (b 2), .ref (b 3), .ref (b 4), .ref (b 5), .ref (b 6), .ref (b 7), .ref (b 8), .ref (b 9), .ref (b 10), .ref (b 11), .ref (b 12), .int 0, .int 0, .int (nI 0), .ref (b 13), .ref (b 14), .ref (b 16)]))] (fun r u => u = kk_setSea p0 ∧ (kk_setSea p0 = 0 → r = 0)) (fun u => [(m0, .inr (9, [.int u, .ref (b 0), .ref (b 17)]))]) (fun _ => (2, 15)) := by
  intro sz tt
  refine ofX RX9 rfl (by decide +kernel) (Nat.le_of_ble_eq_true rfl) (fun p e s m args below meth c hargs S hml hr hlk hnm hsz htt hK hA hZ E ls hl => ?_)
  have hx := S.1
  have hb := S.2.1
  have hl : lv_has ls 3 [(0, .ref m0), (1, .int p0)] := hl
  refine lv_aload_n hx hb dX9_setSea_0 rfl (lv_at hl 0 rfl) ?_
  refine lv_iload_n hx hb dX9_setSea_1 rfl (lv_at hl 1 rfl) ?_
  refine lv_iconst (v := 0) hx hb dX9_setSea_2 (by decide) ?_
  refine lv_bipush (v := 9) hx hb dX9_setSea_3 (by decide) ?_
  refine w_reti (runS_X (As := [.int p0, .int 0, .int 9]) (rest := [.ref m0]) (n := 3) S hml hK (hZ.at E) (Cut.of (wc := []) (wr := [(m0, .inr (9, [.int 0, .ref (b 0), .ref (b 17)])), ((b 17), .inr (8, [.int 0, .ref (g.2.2 0), .int 0])), ((b 0), .inr (10, [.ref (b 1), .ref (b 2), .ref (b 3), .ref (b 4), .ref (b 5), .ref (b 6), .ref (b 7), .ref (b 8), .ref (b 9), .ref (b 10), .ref (b 11), .ref (b 12), .int 0, .int 0, .int (nI 0), .ref (b 13), .ref (b 14), .ref (b 16)]))]) E hA [] [0, 1, 2] rfl rfl rfl rfl (by decide)) (c_X9_in l g p0 0 9 _ _) ml_X9_35 st_X9_in in_X9 co_X9_in ⟨by decide +kernel, by decide +kernel, by decide +kernel⟩ ⟨Nat.le_of_ble_eq_true rfl, Nat.le_of_ble_eq_true rfl⟩ rfl hl.1 rfl (Nat.le_of_ble_eq_true rfl) dX9_setSea_5 ⟨Nat.le_of_ble_eq_true rfl, Nat.le_of_ble_eq_true rfl⟩) (Cut.of (wc := []) (wr := [(m0, .inr (9, [.int 0, .ref (b 0), .ref (b 17)])), ((b 17), .inr (8, [.int 0, .ref (g.2.2 0), .int 0])), ((b 0), .inr (10, [.ref (b 1), .ref (b 2), .ref (b 3), .ref (b 4), .ref (b 5), .ref (b 6), .ref (b 7), .ref (b 8), .ref (b 9), .ref (b 10), .ref (b 11), .ref (b 12), .int 0, .int 0, .int (nI 0), .ref (b 13), .ref (b 14), .ref (b 16)]))]) E hA [] [0, 1, 2] rfl rfl rfl rfl (by decide)) E (fun r1 u1 H locs hp E => ?_)
  have E : Ev g _ s.heap H locs [(m0, .inr (9, [.int 0, .ref (b 0), .ref (b 17)])), ((b 17), .inr (8, [.int 0, .ref (g.2.2 0), .int 0])), ((b 0), .inr (10, [.ref (b 1), .ref (b 2), .ref (b 3), .ref (b 4), .ref (b 5), .ref (b 6), .ref (b 7), .ref (b 8), .ref (b 9), .ref (b 10), .ref (b 11), .ref (b 12), .int 0, .int 0, .int (nI 0), .ref (b 13), .ref (b 14), .ref (b 16)]))] := E
  rcases hp with ⟨rfl, hR2⟩ | ⟨rfl, hR2⟩
  · skip
    refine lv_if_eq (tgt := 15) hx hb dX9_setSea_8 (by decide) (fun c_ => absurd c_ (show ¬ ((1 : Int32) = 0) by decide)) (fun _ => ?_)
    refine lv_iconst (v := 0) hx hb dX9_setSea_11 (by decide) ?_
    refine lv_goto (tgt := 16) hx hb dX9_setSea_12 (by decide) ?_
    refine w_reti (runV_X (As := [.int 0]) (rest := []) (q0 := 0) (n := 1) S hml hK (hZ.at E) (Cut.of (wc := [(m0, .inr (9, [.int 0, .ref (b 0), .ref (b 17)]))]) (wr := [((b 17), .inr (8, [.int 0, .ref (g.2.2 0), .int 0])), ((b 0), .inr (10, [.ref (b 1), .ref (b 2), .ref (b 3), .ref (b 4), .ref (b 5), .ref (b 6), .ref (b 7), .ref (b 8), .ref (b 9), .ref (b 10), .ref (b 11), .ref (b 12), .int 0, .int 0, .int (nI 0), .ref (b 13), .ref (b 14), .ref (b 16)]))]) E hA [0] [1, 2] rfl rfl rfl rfl (by decide)) (c_X9_fails l g m0 b 0 0 _ _) (gi_wsV ml_X9_39 im_X9_fails sl_X9_fails in_X9 co_X9_fails) ⟨rfl, by decide +kernel, by decide +kernel, by decide +kernel⟩ ⟨Nat.le_of_ble_eq_true rfl, Nat.le_of_ble_eq_true rfl⟩ rfl rfl rfl hl.1 rfl (Nat.le_of_ble_eq_true rfl) dX9_setSea_16 ⟨Nat.le_of_ble_eq_true rfl, Nat.le_of_ble_eq_true rfl⟩) (Cut.of (wc := [(m0, .inr (9, [.int 0, .ref (b 0), .ref (b 17)]))]) (wr := [((b 17), .inr (8, [.int 0, .ref (g.2.2 0), .int 0])), ((b 0), .inr (10, [.ref (b 1), .ref (b 2), .ref (b 3), .ref (b 4), .ref (b 5), .ref (b 6), .ref (b 7), .ref (b 8), .ref (b 9), .ref (b 10), .ref (b 11), .ref (b 12), .int 0, .int 0, .int (nI 0), .ref (b 13), .ref (b 14), .ref (b 16)]))]) E hA [0] [1, 2] rfl rfl rfl rfl (by decide)) E (fun r3 u3 H locs hp E => ?_)
    have E : Ev g _ s.heap H locs [((b 17), .inr (8, [.int 0, .ref (g.2.2 0), .int 0])), ((b 0), .inr (10, [.ref (b 1), .ref (b 2), .ref (b 3), .ref (b 4), .ref (b 5), .ref (b 6), .ref (b 7), .ref (b 8), .ref (b 9), .ref (b 10), .ref (b 11), .ref (b 12), .int 0, .int 0, .int (nI 0), .ref (b 13), .ref (b 14), .ref (b 16)])), (m0, .inr (9, [.int 0, .ref (b 0), .ref (b 17)]))] := E
    obtain ⟨rfl, -⟩ := hp.resolve_left (fun z => z.2 (by decide))
    refine lv_if_eq (tgt := 24) hx hb dX9_setSea_19 (by decide) (fun _ => ?_) (fun c_ => absurd (show (0 : Int32) = 0 by decide) c_)
    refine lv_aload_n hx hb dX9_setSea_24 rfl (lv_at hl 0 rfl) ?_
    refine wg_X9_10 (v := .ref (b 0)) S hK E 2 rfl rfl dX9_setSea_25 ?_
    refine wg_X9_73 (v := .int 0) S hZ.2.2.2.2.2.2.1 hK E 1 rfl rfl dX9_setSea_28 ?_
    refine lv_istore_n (lv' := [(2, .int 0), (0, .ref m0), (1, .int p0)]) hx hb dX9_setSea_31 rfl hl (by decide) rfl (fun ls hl => ?_)
    refine lv_aload_n hx hb dX9_setSea_32 rfl (lv_at hl 1 rfl) ?_
    refine lv_bipush (v := 115) hx hb dX9_setSea_33 (by decide) ?_
    refine lv_iload_n hx hb dX9_setSea_35 rfl (lv_at hl 2 rfl) ?_
    refine lv_iconst (v := 0) hx hb dX9_setSea_36 (by decide) ?_
    refine lv_iconst (v := 0) hx hb dX9_setSea_37 (by decide) ?_
    refine lv_iconst (v := 0) hx hb dX9_setSea_38 (by decide) ?_
    refine w_retv (runV_X (As := [.int 115, .int p0, .int 0, .int 0, .int 0]) (rest := []) (q0 := 0) (n := 5) S hml hK (hZ.at E) (Cut.of (wc := [(m0, .inr (9, [.int 0, .ref (b 0), .ref (b 17)])), ((b 17), .inr (8, [.int 0, .ref (g.2.2 0), .int 0])), ((b 0), .inr (10, [.ref (b 1), .ref (b 2), .ref (b 3), .ref (b 4), .ref (b 5), .ref (b 6), .ref (b 7), .ref (b 8), .ref (b 9), .ref (b 10), .ref (b 11), .ref (b 12), .int 0, .int 0, .int (nI 0), .ref (b 13), .ref (b 14), .ref (b 16)]))]) (wr := []) E hA [2, 0, 1] [] rfl rfl rfl rfl (by decide)) (c_ac115 l g m0 b 0 0 p0 _ _) (gi_wsV ml_X9_47 im_X9_act sl_X9_act in_X9 co_X9_act) ⟨rfl, by decide +kernel, by decide +kernel, by decide +kernel⟩ ⟨Nat.le_of_ble_eq_true rfl, Nat.le_of_ble_eq_true rfl⟩ rfl rfl rfl hl.1 rfl (Nat.le_of_ble_eq_true rfl) dX9_setSea_39 ⟨Nat.le_of_ble_eq_true rfl, Nat.le_of_ble_eq_true rfl⟩) (Cut.of (wc := [(m0, .inr (9, [.int 0, .ref (b 0), .ref (b 17)])), ((b 17), .inr (8, [.int 0, .ref (g.2.2 0), .int 0])), ((b 0), .inr (10, [.ref (b 1), .ref (b 2), .ref (b 3), .ref (b 4), .ref (b 5), .ref (b 6), .ref (b 7), .ref (b 8), .ref (b 9), .ref (b 10), .ref (b 11), .ref (b 12), .int 0, .int 0, .int (nI 0), .ref (b 13), .ref (b 14), .ref (b 16)]))]) (wr := []) E hA [2, 0, 1] [] rfl rfl rfl rfl (by decide)) E (fun u4 H locs hp E => ?_)
    have E : Ev g _ s.heap H locs [(m0, .inr (9, [.int 0, .ref (b 0), .ref (b 17)]))] := E
    refine lv_iload_n hx hb dX9_setSea_42 rfl (lv_at hl 0 rfl) ?_
    have hKK : (0 : Int32) = kk_setSea p0 := (by unfold kk_setSea; rw [if_pos hR2])
    exact x_iret 0 S hr hlk hsz htt hK E dX9_setSea_43 ⟨hKK, fun _ => rfl⟩ rfl ⟨Nat.le_of_ble_eq_true rfl, Nat.le_of_ble_eq_true rfl⟩ ⟨Nat.le_of_ble_eq_true rfl, Nat.le_of_ble_eq_true rfl⟩
  · skip
    refine lv_if_eq (tgt := 15) hx hb dX9_setSea_8 (by decide) (fun _ => ?_) (fun c_ => absurd (show (0 : Int32) = 0 by decide) c_)
    refine lv_iconst (v := 1) hx hb dX9_setSea_15 (by decide) ?_
    refine w_reti (runV_X (As := [.int 1]) (rest := []) (q0 := 0) (n := 1) S hml hK (hZ.at E) (Cut.of (wc := [(m0, .inr (9, [.int 0, .ref (b 0), .ref (b 17)]))]) (wr := [((b 17), .inr (8, [.int 0, .ref (g.2.2 0), .int 0])), ((b 0), .inr (10, [.ref (b 1), .ref (b 2), .ref (b 3), .ref (b 4), .ref (b 5), .ref (b 6), .ref (b 7), .ref (b 8), .ref (b 9), .ref (b 10), .ref (b 11), .ref (b 12), .int 0, .int 0, .int (nI 0), .ref (b 13), .ref (b 14), .ref (b 16)]))]) E hA [0] [1, 2] rfl rfl rfl rfl (by decide)) (c_X9_fails l g m0 b 0 1 _ _) (gi_wsV ml_X9_39 im_X9_fails sl_X9_fails in_X9 co_X9_fails) ⟨rfl, by decide +kernel, by decide +kernel, by decide +kernel⟩ ⟨Nat.le_of_ble_eq_true rfl, Nat.le_of_ble_eq_true rfl⟩ rfl rfl rfl hl.1 rfl (Nat.le_of_ble_eq_true rfl) dX9_setSea_16 ⟨Nat.le_of_ble_eq_true rfl, Nat.le_of_ble_eq_true rfl⟩) (Cut.of (wc := [(m0, .inr (9, [.int 0, .ref (b 0), .ref (b 17)]))]) (wr := [((b 17), .inr (8, [.int 0, .ref (g.2.2 0), .int 0])), ((b 0), .inr (10, [.ref (b 1), .ref (b 2), .ref (b 3), .ref (b 4), .ref (b 5), .ref (b 6), .ref (b 7), .ref (b 8), .ref (b 9), .ref (b 10), .ref (b 11), .ref (b 12), .int 0, .int 0, .int (nI 0), .ref (b 13), .ref (b 14), .ref (b 16)]))]) E hA [0] [1, 2] rfl rfl rfl rfl (by decide)) E (fun r5 u5 H locs hp E => ?_)
    have E : Ev g _ s.heap H locs [((b 17), .inr (8, [.int 0, .ref (g.2.2 0), .int 0])), ((b 0), .inr (10, [.ref (b 1), .ref (b 2), .ref (b 3), .ref (b 4), .ref (b 5), .ref (b 6), .ref (b 7), .ref (b 8), .ref (b 9), .ref (b 10), .ref (b 11), .ref (b 12), .int 0, .int 0, .int (nI 0), .ref (b 13), .ref (b 14), .ref (b 16)])), (m0, .inr (9, [.int 1, .ref (b 0), .ref (b 17)]))] := E
    obtain ⟨rfl, -⟩ := hp.resolve_right (fun z => absurd z.2 (by decide))
    refine lv_if_eq (tgt := 24) hx hb dX9_setSea_19 (by decide) (fun c_ => absurd c_ (show ¬ ((1 : Int32) = 0) by decide)) (fun _ => ?_)
    refine lv_iconst (v := 0) hx hb dX9_setSea_22 (by decide) ?_
    have hKK : (1 : Int32) = kk_setSea p0 := (by unfold kk_setSea; rw [if_neg (fun z => hR2 z)])
    have E : Ev g _ s.heap H locs [(m0, .inr (9, [.int 1, .ref (b 0), .ref (b 17)]))] := Ev.sub E [2] rfl rfl
    exact x_iret 1 S hr hlk hsz htt hK E dX9_setSea_23 ⟨hKK, fun z => absurd (hKK.trans z) (by decide)⟩ rfl ⟨Nat.le_of_ble_eq_true rfl, Nat.le_of_ble_eq_true rfl⟩ ⟨Nat.le_of_ble_eq_true rfl, Nat.le_of_ble_eq_true rfl⟩

/-- what addWell throws at first: its number, 0 for nothing -/
def kk_addWell (p0 : Int32) (p1 : Int32) (p2 : Int32) : Int32 := if rgOK p0 0 15 then (if rgOK p1 0 9999 ∧ rgOK p2 0 999 then 0 else 2) else 1
theorem dX9_addWell_0 : decode cX9_addWell 0 = .ok (.iload_n 2, 1) := by decide +kernel
theorem dX9_addWell_1 : decode cX9_addWell 1 = .ok (.iconst 0, 1) := by decide +kernel
theorem dX9_addWell_2 : decode cX9_addWell 2 = .ok (.sipush 9999, 3) := by decide +kernel
theorem dX9_addWell_5 : decode cX9_addWell 5 = .ok (.invokestatic 35, 3) := by decide +kernel
theorem dX9_addWell_8 : decode cX9_addWell 8 = .ok (.ifCond .eq 18, 3) := by decide +kernel
theorem dX9_addWell_11 : decode cX9_addWell 11 = .ok (.iload_n 3, 1) := by decide +kernel
theorem dX9_addWell_12 : decode cX9_addWell 12 = .ok (.iconst 0, 1) := by decide +kernel
theorem dX9_addWell_13 : decode cX9_addWell 13 = .ok (.sipush 999, 3) := by decide +kernel
theorem dX9_addWell_16 : decode cX9_addWell 16 = .ok (.invokestatic 35, 3) := by decide +kernel
theorem dX9_addWell_19 : decode cX9_addWell 19 = .ok (.ifCond .eq 7, 3) := by decide +kernel
theorem dX9_addWell_22 : decode cX9_addWell 22 = .ok (.iconst 1, 1) := by decide +kernel
theorem dX9_addWell_23 : decode cX9_addWell 23 = .ok (.goto 4, 3) := by decide +kernel
theorem dX9_addWell_26 : decode cX9_addWell 26 = .ok (.iconst 0, 1) := by decide +kernel
theorem dX9_addWell_27 : decode cX9_addWell 27 = .ok (.istore 4, 2) := by decide +kernel
theorem dX9_addWell_29 : decode cX9_addWell 29 = .ok (.aload_n 0, 1) := by decide +kernel
theorem dX9_addWell_30 : decode cX9_addWell 30 = .ok (.iload_n 1, 1) := by decide +kernel
theorem dX9_addWell_31 : decode cX9_addWell 31 = .ok (.iconst 0, 1) := by decide +kernel
theorem dX9_addWell_32 : decode cX9_addWell 32 = .ok (.bipush 15, 2) := by decide +kernel
theorem dX9_addWell_34 : decode cX9_addWell 34 = .ok (.invokestatic 35, 3) := by decide +kernel
theorem dX9_addWell_37 : decode cX9_addWell 37 = .ok (.ifCond .ne 7, 3) := by decide +kernel
theorem dX9_addWell_40 : decode cX9_addWell 40 = .ok (.iconst 1, 1) := by decide +kernel
theorem dX9_addWell_41 : decode cX9_addWell 41 = .ok (.goto 32, 3) := by decide +kernel
theorem dX9_addWell_44 : decode cX9_addWell 44 = .ok (.iload 4, 2) := by decide +kernel
theorem dX9_addWell_46 : decode cX9_addWell 46 = .ok (.ifCond .ne 7, 3) := by decide +kernel
theorem dX9_addWell_49 : decode cX9_addWell 49 = .ok (.iconst 2, 1) := by decide +kernel
theorem dX9_addWell_50 : decode cX9_addWell 50 = .ok (.goto 23, 3) := by decide +kernel
theorem dX9_addWell_53 : decode cX9_addWell 53 = .ok (.aload_n 0, 1) := by decide +kernel
theorem dX9_addWell_54 : decode cX9_addWell 54 = .ok (.getfield 10, 3) := by decide +kernel
theorem dX9_addWell_57 : decode cX9_addWell 57 = .ok (.getfield 76, 3) := by decide +kernel
theorem dX9_addWell_60 : decode cX9_addWell 60 = .ok (.invokevirtual 79, 3) := by decide +kernel
theorem dX9_addWell_63 : decode cX9_addWell 63 = .ok (.bipush 6, 2) := by decide +kernel
theorem dX9_addWell_65 : decode cX9_addWell 65 = .ok (.if_icmp .ne 7, 3) := by decide +kernel
theorem dX9_addWell_68 : decode cX9_addWell 68 = .ok (.iconst 3, 1) := by decide +kernel
theorem dX9_addWell_69 : decode cX9_addWell 69 = .ok (.goto 4, 3) := by decide +kernel
theorem dX9_addWell_72 : decode cX9_addWell 72 = .ok (.iconst 0, 1) := by decide +kernel
theorem dX9_addWell_73 : decode cX9_addWell 73 = .ok (.invokevirtual 39, 3) := by decide +kernel
theorem dX9_addWell_76 : decode cX9_addWell 76 = .ok (.ifCond .eq 5, 3) := by decide +kernel
theorem dX9_addWell_79 : decode cX9_addWell 79 = .ok (.iconst 0, 1) := by decide +kernel
theorem dX9_addWell_80 : decode cX9_addWell 80 = .ok (.ireturn, 1) := by decide +kernel
theorem dX9_addWell_81 : decode cX9_addWell 81 = .ok (.aload_n 0, 1) := by decide +kernel
theorem dX9_addWell_82 : decode cX9_addWell 82 = .ok (.bipush 119, 2) := by decide +kernel
theorem dX9_addWell_84 : decode cX9_addWell 84 = .ok (.iload_n 1, 1) := by decide +kernel
theorem dX9_addWell_85 : decode cX9_addWell 85 = .ok (.iload_n 2, 1) := by decide +kernel
theorem dX9_addWell_86 : decode cX9_addWell 86 = .ok (.iload_n 3, 1) := by decide +kernel
theorem dX9_addWell_87 : decode cX9_addWell 87 = .ok (.iconst 0, 1) := by decide +kernel
theorem dX9_addWell_88 : decode cX9_addWell 88 = .ok (.invokevirtual 47, 3) := by decide +kernel
theorem dX9_addWell_91 : decode cX9_addWell 91 = .ok (.aload_n 0, 1) := by decide +kernel
theorem dX9_addWell_92 : decode cX9_addWell 92 = .ok (.getfield 10, 3) := by decide +kernel
theorem dX9_addWell_95 : decode cX9_addWell 95 = .ok (.getfield 76, 3) := by decide +kernel
theorem dX9_addWell_98 : decode cX9_addWell 98 = .ok (.invokevirtual 79, 3) := by decide +kernel
theorem dX9_addWell_101 : decode cX9_addWell 101 = .ok (.iconst 1, 1) := by decide +kernel
theorem dX9_addWell_102 : decode cX9_addWell 102 = .ok (.isub, 1) := by decide +kernel
theorem dX9_addWell_103 : decode cX9_addWell 103 = .ok (.ireturn, 1) := by decide +kernel
set_option maxHeartbeats 4000000 in
set_option maxRecDepth 100000 in
/-- reference: addWell -/
theorem c_X9_addWell (l : Launch) (g : Gm) (m0 : Nat) (b : Nat → Nat) (p0 : Int32) (p1 : Int32) (p2 : Int32) : MXi (S := Int32) l g yX9_addWell cX9_addWell 5 .int ({ frames := 7, cells := 4, slots := 34, locals := 153 } : Room) [.ref m0, .int p0, .int p1, .int p2] [(m0, .inr (9, [.int 0, .ref (b 0), .ref (b 17)])), ((b 17), .inr (8, [.int 0, .ref (g.2.2 0), .int 0])), ((b 0), .inr (10, [.ref (b 1), .ref (b 2), .ref (b 3), .ref (b 4), .ref (b 5), .ref (b 6), .ref (b 7), .ref (b 8), .ref (b 9), .ref (b 10), .ref (b 11), .ref (b 12), .int 0, .int 0, .int (nI 0), .ref (b 13), .ref (b 14), .ref (b 16)])), ((b 13), .inr (8, [.int 0, .ref (g.2.2 0), .int 0]))] (fun r u => u = kk_addWell p0 p1 p2 ∧ (kk_addWell p0 p1 p2 = 0 → r = 0)) (fun u => [(m0, .inr (9, [.int u, .ref (b 0), .ref (b 17)]))]) (fun _ => (4, 34)) := by
  intro sz tt
  refine ofX RX9 rfl (by decide +kernel) (Nat.le_of_ble_eq_true rfl) (fun p e s m args below meth c hargs S hml hr hlk hnm hsz htt hK hA hZ E ls hl => ?_)
  have hx := S.1
  have hb := S.2.1
  have hl : lv_has ls 5 [(0, .ref m0), (1, .int p0), (2, .int p1), (3, .int p2)] := hl
  refine lv_iload_n hx hb dX9_addWell_0 rfl (lv_at hl 2 rfl) ?_
  refine lv_iconst (v := 0) hx hb dX9_addWell_1 (by decide) ?_
  refine lv_sipush (v := 9999) hx hb dX9_addWell_2 (by decide) ?_
  refine w_reti (runS_X (As := [.int p1, .int 0, .int 9999]) (rest := []) (n := 3) S hml hK (hZ.at E) (Cut.of (wc := []) (wr := [(m0, .inr (9, [.int 0, .ref (b 0), .ref (b 17)])), ((b 17), .inr (8, [.int 0, .ref (g.2.2 0), .int 0])), ((b 0), .inr (10, [.ref (b 1), .ref (b 2), .ref (b 3), .ref (b 4), .ref (b 5), .ref (b 6), .ref (b 7), .ref (b 8), .ref (b 9), .ref (b 10), .ref (b 11), .ref (b 12), .int 0, .int 0, .int (nI 0), .ref (b 13), .ref (b 14), .ref (b 16)])), ((b 13), .inr (8, [.int 0, .ref (g.2.2 0), .int 0]))]) E hA [] [0, 1, 2, 3] rfl rfl rfl rfl (by decide)) (c_X9_in l g p1 0 9999 _ _) ml_X9_35 st_X9_in in_X9 co_X9_in ⟨by decide +kernel, by decide +kernel, by decide +kernel⟩ ⟨Nat.le_of_ble_eq_true rfl, Nat.le_of_ble_eq_true rfl⟩ rfl hl.1 rfl (Nat.le_of_ble_eq_true rfl) dX9_addWell_5 ⟨Nat.le_of_ble_eq_true rfl, Nat.le_of_ble_eq_true rfl⟩) (Cut.of (wc := []) (wr := [(m0, .inr (9, [.int 0, .ref (b 0), .ref (b 17)])), ((b 17), .inr (8, [.int 0, .ref (g.2.2 0), .int 0])), ((b 0), .inr (10, [.ref (b 1), .ref (b 2), .ref (b 3), .ref (b 4), .ref (b 5), .ref (b 6), .ref (b 7), .ref (b 8), .ref (b 9), .ref (b 10), .ref (b 11), .ref (b 12), .int 0, .int 0, .int (nI 0), .ref (b 13), .ref (b 14), .ref (b 16)])), ((b 13), .inr (8, [.int 0, .ref (g.2.2 0), .int 0]))]) E hA [] [0, 1, 2, 3] rfl rfl rfl rfl (by decide)) E (fun r1 u1 H locs hp E => ?_)
  have E : Ev g _ s.heap H locs [(m0, .inr (9, [.int 0, .ref (b 0), .ref (b 17)])), ((b 17), .inr (8, [.int 0, .ref (g.2.2 0), .int 0])), ((b 0), .inr (10, [.ref (b 1), .ref (b 2), .ref (b 3), .ref (b 4), .ref (b 5), .ref (b 6), .ref (b 7), .ref (b 8), .ref (b 9), .ref (b 10), .ref (b 11), .ref (b 12), .int 0, .int 0, .int (nI 0), .ref (b 13), .ref (b 14), .ref (b 16)])), ((b 13), .inr (8, [.int 0, .ref (g.2.2 0), .int 0]))] := E
  rcases hp with ⟨rfl, hR2⟩ | ⟨rfl, hR2⟩
  · skip
    refine lv_if_eq (tgt := 26) hx hb dX9_addWell_8 (by decide) (fun c_ => absurd c_ (show ¬ ((1 : Int32) = 0) by decide)) (fun _ => ?_)
    refine lv_iload_n hx hb dX9_addWell_11 rfl (lv_at hl 3 rfl) ?_
    refine lv_iconst (v := 0) hx hb dX9_addWell_12 (by decide) ?_
    refine lv_sipush (v := 999) hx hb dX9_addWell_13 (by decide) ?_
    refine w_reti (runS_X (As := [.int p2, .int 0, .int 999]) (rest := []) (n := 3) S hml hK (hZ.at E) (Cut.of (wc := []) (wr := [(m0, .inr (9, [.int 0, .ref (b 0), .ref (b 17)])), ((b 17), .inr (8, [.int 0, .ref (g.2.2 0), .int 0])), ((b 0), .inr (10, [.ref (b 1), .ref (b 2), .ref (b 3), .ref (b 4), .ref (b 5), .ref (b 6), .ref (b 7), .ref (b 8), .ref (b 9), .ref (b 10), .ref (b 11), .ref (b 12), .int 0, .int 0, .int (nI 0), .ref (b 13), .ref (b 14), .ref (b 16)])), ((b 13), .inr (8, [.int 0, .ref (g.2.2 0), .int 0]))]) E hA [] [0, 1, 2, 3] rfl rfl rfl rfl (by decide)) (c_X9_in l g p2 0 999 _ _) ml_X9_35 st_X9_in in_X9 co_X9_in ⟨by decide +kernel, by decide +kernel, by decide +kernel⟩ ⟨Nat.le_of_ble_eq_true rfl, Nat.le_of_ble_eq_true rfl⟩ rfl hl.1 rfl (Nat.le_of_ble_eq_true rfl) dX9_addWell_16 ⟨Nat.le_of_ble_eq_true rfl, Nat.le_of_ble_eq_true rfl⟩) (Cut.of (wc := []) (wr := [(m0, .inr (9, [.int 0, .ref (b 0), .ref (b 17)])), ((b 17), .inr (8, [.int 0, .ref (g.2.2 0), .int 0])), ((b 0), .inr (10, [.ref (b 1), .ref (b 2), .ref (b 3), .ref (b 4), .ref (b 5), .ref (b 6), .ref (b 7), .ref (b 8), .ref (b 9), .ref (b 10), .ref (b 11), .ref (b 12), .int 0, .int 0, .int (nI 0), .ref (b 13), .ref (b 14), .ref (b 16)])), ((b 13), .inr (8, [.int 0, .ref (g.2.2 0), .int 0]))]) E hA [] [0, 1, 2, 3] rfl rfl rfl rfl (by decide)) E (fun r3 u3 H locs hp E => ?_)
    have E : Ev g _ s.heap H locs [(m0, .inr (9, [.int 0, .ref (b 0), .ref (b 17)])), ((b 17), .inr (8, [.int 0, .ref (g.2.2 0), .int 0])), ((b 0), .inr (10, [.ref (b 1), .ref (b 2), .ref (b 3), .ref (b 4), .ref (b 5), .ref (b 6), .ref (b 7), .ref (b 8), .ref (b 9), .ref (b 10), .ref (b 11), .ref (b 12), .int 0, .int 0, .int (nI 0), .ref (b 13), .ref (b 14), .ref (b 16)])), ((b 13), .inr (8, [.int 0, .ref (g.2.2 0), .int 0]))] := E
    rcases hp with ⟨rfl, hR4⟩ | ⟨rfl, hR4⟩
    · skip
      refine lv_if_eq (tgt := 26) hx hb dX9_addWell_19 (by decide) (fun c_ => absurd c_ (show ¬ ((1 : Int32) = 0) by decide)) (fun _ => ?_)
      refine lv_iconst (v := 1) hx hb dX9_addWell_22 (by decide) ?_
      refine lv_goto (tgt := 27) hx hb dX9_addWell_23 (by decide) ?_
      refine lv_istore (lv' := [(4, .int 1), (0, .ref m0), (1, .int p0), (2, .int p1), (3, .int p2)]) hx hb dX9_addWell_27 hl (by decide) rfl (fun ls hl => ?_)
      refine lv_aload_n hx hb dX9_addWell_29 rfl (lv_at hl 1 rfl) ?_
      refine lv_iload_n hx hb dX9_addWell_30 rfl (lv_at hl 2 rfl) ?_
      refine lv_iconst (v := 0) hx hb dX9_addWell_31 (by decide) ?_
      refine lv_bipush (v := 15) hx hb dX9_addWell_32 (by decide) ?_
      refine w_reti (runS_X (As := [.int p0, .int 0, .int 15]) (rest := [.ref m0]) (n := 3) S hml hK (hZ.at E) (Cut.of (wc := []) (wr := [(m0, .inr (9, [.int 0, .ref (b 0), .ref (b 17)])), ((b 17), .inr (8, [.int 0, .ref (g.2.2 0), .int 0])), ((b 0), .inr (10, [.ref (b 1), .ref (b 2), .ref (b 3), .ref (b 4), .ref (b 5), .ref (b 6), .ref (b 7), .ref (b 8), .ref (b 9), .ref (b 10), .ref (b 11), .ref (b 12), .int 0, .int 0, .int (nI 0), .ref (b 13), .ref (b 14), .ref (b 16)])), ((b 13), .inr (8, [.int 0, .ref (g.2.2 0), .int 0]))]) E hA [] [0, 1, 2, 3] rfl rfl rfl rfl (by decide)) (c_X9_in l g p0 0 15 _ _) ml_X9_35 st_X9_in in_X9 co_X9_in ⟨by decide +kernel, by decide +kernel, by decide +kernel⟩ ⟨Nat.le_of_ble_eq_true rfl, Nat.le_of_ble_eq_true rfl⟩ rfl hl.1 rfl (Nat.le_of_ble_eq_true rfl) dX9_addWell_34 ⟨Nat.le_of_ble_eq_true rfl, Nat.le_of_ble_eq_true rfl⟩) (Cut.of (wc := []) (wr := [(m0, .inr (9, [.int 0, .ref (b 0), .ref (b 17)])), ((b 17), .inr (8, [.int 0, .ref (g.2.2 0), .int 0])), ((b 0), .inr (10, [.ref (b 1), .ref (b 2), .ref (b 3), .ref (b 4), .ref (b 5), .ref (b 6), .ref (b 7), .ref (b 8), .ref (b 9), .ref (b 10), .ref (b 11), .ref (b 12), .int 0, .int 0, .int (nI 0), .ref (b 13), .ref (b 14), .ref (b 16)])), ((b 13), .inr (8, [.int 0, .ref (g.2.2 0), .int 0]))]) E hA [] [0, 1, 2, 3] rfl rfl rfl rfl (by decide)) E (fun r5 u5 H locs hp E => ?_)
      have E : Ev g _ s.heap H locs [(m0, .inr (9, [.int 0, .ref (b 0), .ref (b 17)])), ((b 17), .inr (8, [.int 0, .ref (g.2.2 0), .int 0])), ((b 0), .inr (10, [.ref (b 1), .ref (b 2), .ref (b 3), .ref (b 4), .ref (b 5), .ref (b 6), .ref (b 7), .ref (b 8), .ref (b 9), .ref (b 10), .ref (b 11), .ref (b 12), .int 0, .int 0, .int (nI 0), .ref (b 13), .ref (b 14), .ref (b 16)])), ((b 13), .inr (8, [.int 0, .ref (g.2.2 0), .int 0]))] := E
      rcases hp with ⟨rfl, hR6⟩ | ⟨rfl, hR6⟩
      · skip
        refine lv_if_ne (tgt := 44) hx hb dX9_addWell_37 (by decide) (fun _ => ?_) (fun c_ => absurd c_ (show ¬ ((1 : Int32) = 0) by decide))
        refine lv_iload hx hb dX9_addWell_44 (lv_at hl 0 rfl) ?_
        refine lv_if_ne (tgt := 53) hx hb dX9_addWell_46 (by decide) (fun _ => ?_) (fun c_ => absurd c_ (show ¬ ((1 : Int32) = 0) by decide))
        refine lv_aload_n hx hb dX9_addWell_53 rfl (lv_at hl 1 rfl) ?_
        refine wg_X9_10 (v := .ref (b 0)) S hK E 0 rfl rfl dX9_addWell_54 ?_
        refine wg_X9_76 (v := .ref (b 13)) S hZ.2.2.2.2.2.2.1 hK E 2 rfl rfl dX9_addWell_57 ?_
        refine w_reti (runV_X (As := []) (rest := [.ref m0]) (q0 := 0) (n := 0) S hml hK (hZ.at E) (Cut.of (wc := [((b 13), .inr (8, [.int 0, .ref (g.2.2 0), .int 0]))]) (wr := [(m0, .inr (9, [.int 0, .ref (b 0), .ref (b 17)])), ((b 17), .inr (8, [.int 0, .ref (g.2.2 0), .int 0])), ((b 0), .inr (10, [.ref (b 1), .ref (b 2), .ref (b 3), .ref (b 4), .ref (b 5), .ref (b 6), .ref (b 7), .ref (b 8), .ref (b 9), .ref (b 10), .ref (b 11), .ref (b 12), .int 0, .int 0, .int (nI 0), .ref (b 13), .ref (b 14), .ref (b 16)]))]) E hA [3] [0, 1, 2] rfl rfl rfl rfl (by decide)) (c_Jx4a65c_size_8abf5 l g (b 13) 0 0 (g.2.2 0) _ _) (gi_wsV ml_X9_79 im_Jx4a65c_size_8abf5 sl_Jx4a65c_size_8abf5 in_Jx4a65c co_Jx4a65c_size_8abf5) ⟨rfl, by decide +kernel, by decide +kernel, by decide +kernel⟩ ⟨Nat.le_of_ble_eq_true rfl, Nat.le_of_ble_eq_true rfl⟩ rfl rfl rfl hl.1 rfl (Nat.le_of_ble_eq_true rfl) dX9_addWell_60 ⟨Nat.le_of_ble_eq_true rfl, Nat.le_of_ble_eq_true rfl⟩) (Cut.of (wc := [((b 13), .inr (8, [.int 0, .ref (g.2.2 0), .int 0]))]) (wr := [(m0, .inr (9, [.int 0, .ref (b 0), .ref (b 17)])), ((b 17), .inr (8, [.int 0, .ref (g.2.2 0), .int 0])), ((b 0), .inr (10, [.ref (b 1), .ref (b 2), .ref (b 3), .ref (b 4), .ref (b 5), .ref (b 6), .ref (b 7), .ref (b 8), .ref (b 9), .ref (b 10), .ref (b 11), .ref (b 12), .int 0, .int 0, .int (nI 0), .ref (b 13), .ref (b 14), .ref (b 16)]))]) E hA [3] [0, 1, 2] rfl rfl rfl rfl (by decide)) E (fun r7 u7 H locs hp E => ?_)
        have E : Ev g _ s.heap H locs [(m0, .inr (9, [.int 0, .ref (b 0), .ref (b 17)])), ((b 17), .inr (8, [.int 0, .ref (g.2.2 0), .int 0])), ((b 0), .inr (10, [.ref (b 1), .ref (b 2), .ref (b 3), .ref (b 4), .ref (b 5), .ref (b 6), .ref (b 7), .ref (b 8), .ref (b 9), .ref (b 10), .ref (b 11), .ref (b 12), .int 0, .int 0, .int (nI 0), .ref (b 13), .ref (b 14), .ref (b 16)])), ((b 13), .inr (8, [.int 0, .ref (g.2.2 0), .int 0]))] := E
        subst hp
        refine lv_bipush (v := 6) hx hb dX9_addWell_63 (by decide) ?_
        refine lv_icmp_ne (tgt := 72) hx hb dX9_addWell_65 (by decide) (fun _ => ?_) (fun c_ => absurd c_ (show ¬ ((0 : Int32) = (6 : Int32)) by decide))
        refine lv_iconst (v := 0) hx hb dX9_addWell_72 (by decide) ?_
        refine w_reti (runV_X (As := [.int 0]) (rest := []) (q0 := 0) (n := 1) S hml hK (hZ.at E) (Cut.of (wc := [(m0, .inr (9, [.int 0, .ref (b 0), .ref (b 17)]))]) (wr := [((b 17), .inr (8, [.int 0, .ref (g.2.2 0), .int 0])), ((b 0), .inr (10, [.ref (b 1), .ref (b 2), .ref (b 3), .ref (b 4), .ref (b 5), .ref (b 6), .ref (b 7), .ref (b 8), .ref (b 9), .ref (b 10), .ref (b 11), .ref (b 12), .int 0, .int 0, .int (nI 0), .ref (b 13), .ref (b 14), .ref (b 16)])), ((b 13), .inr (8, [.int 0, .ref (g.2.2 0), .int 0]))]) E hA [0] [1, 2, 3] rfl rfl rfl rfl (by decide)) (c_X9_fails l g m0 b 0 0 _ _) (gi_wsV ml_X9_39 im_X9_fails sl_X9_fails in_X9 co_X9_fails) ⟨rfl, by decide +kernel, by decide +kernel, by decide +kernel⟩ ⟨Nat.le_of_ble_eq_true rfl, Nat.le_of_ble_eq_true rfl⟩ rfl rfl rfl hl.1 rfl (Nat.le_of_ble_eq_true rfl) dX9_addWell_73 ⟨Nat.le_of_ble_eq_true rfl, Nat.le_of_ble_eq_true rfl⟩) (Cut.of (wc := [(m0, .inr (9, [.int 0, .ref (b 0), .ref (b 17)]))]) (wr := [((b 17), .inr (8, [.int 0, .ref (g.2.2 0), .int 0])), ((b 0), .inr (10, [.ref (b 1), .ref (b 2), .ref (b 3), .ref (b 4), .ref (b 5), .ref (b 6), .ref (b 7), .ref (b 8), .ref (b 9), .ref (b 10), .ref (b 11), .ref (b 12), .int 0, .int 0, .int (nI 0), .ref (b 13), .ref (b 14), .ref (b 16)])), ((b 13), .inr (8, [.int 0, .ref (g.2.2 0), .int 0]))]) E hA [0] [1, 2, 3] rfl rfl rfl rfl (by decide)) E (fun r8 u8 H locs hp E => ?_)
        have E : Ev g _ s.heap H locs [((b 17), .inr (8, [.int 0, .ref (g.2.2 0), .int 0])), ((b 0), .inr (10, [.ref (b 1), .ref (b 2), .ref (b 3), .ref (b 4), .ref (b 5), .ref (b 6), .ref (b 7), .ref (b 8), .ref (b 9), .ref (b 10), .ref (b 11), .ref (b 12), .int 0, .int 0, .int (nI 0), .ref (b 13), .ref (b 14), .ref (b 16)])), ((b 13), .inr (8, [.int 0, .ref (g.2.2 0), .int 0])), (m0, .inr (9, [.int 0, .ref (b 0), .ref (b 17)]))] := E
        obtain ⟨rfl, -⟩ := hp.resolve_left (fun z => z.2 (by decide))
        refine lv_if_eq (tgt := 81) hx hb dX9_addWell_76 (by decide) (fun _ => ?_) (fun c_ => absurd (show (0 : Int32) = 0 by decide) c_)
        refine lv_aload_n hx hb dX9_addWell_81 rfl (lv_at hl 1 rfl) ?_
        refine lv_bipush (v := 119) hx hb dX9_addWell_82 (by decide) ?_
        refine lv_iload_n hx hb dX9_addWell_84 rfl (lv_at hl 2 rfl) ?_
        refine lv_iload_n hx hb dX9_addWell_85 rfl (lv_at hl 3 rfl) ?_
        refine lv_iload_n hx hb dX9_addWell_86 rfl (lv_at hl 4 rfl) ?_
        refine lv_iconst (v := 0) hx hb dX9_addWell_87 (by decide) ?_
        refine w_retv (runV_X (As := [.int 119, .int p0, .int p1, .int p2, .int 0]) (rest := []) (q0 := 0) (n := 5) S hml hK (hZ.at E) (Cut.of (wc := [(m0, .inr (9, [.int 0, .ref (b 0), .ref (b 17)])), ((b 17), .inr (8, [.int 0, .ref (g.2.2 0), .int 0])), ((b 0), .inr (10, [.ref (b 1), .ref (b 2), .ref (b 3), .ref (b 4), .ref (b 5), .ref (b 6), .ref (b 7), .ref (b 8), .ref (b 9), .ref (b 10), .ref (b 11), .ref (b 12), .int 0, .int 0, .int (nI 0), .ref (b 13), .ref (b 14), .ref (b 16)])), ((b 13), .inr (8, [.int 0, .ref (g.2.2 0), .int 0]))]) (wr := []) E hA [3, 0, 1, 2] [] rfl rfl rfl rfl (by decide)) (c_ac119 l g m0 b 0 0 p0 p1 p2 _ _) (gi_wsV ml_X9_47 im_X9_act sl_X9_act in_X9 co_X9_act) ⟨rfl, by decide +kernel, by decide +kernel, by decide +kernel⟩ ⟨Nat.le_of_ble_eq_true rfl, Nat.le_of_ble_eq_true rfl⟩ rfl rfl rfl hl.1 rfl (Nat.le_of_ble_eq_true rfl) dX9_addWell_88 ⟨Nat.le_of_ble_eq_true rfl, Nat.le_of_ble_eq_true rfl⟩) (Cut.of (wc := [(m0, .inr (9, [.int 0, .ref (b 0), .ref (b 17)])), ((b 17), .inr (8, [.int 0, .ref (g.2.2 0), .int 0])), ((b 0), .inr (10, [.ref (b 1), .ref (b 2), .ref (b 3), .ref (b 4), .ref (b 5), .ref (b 6), .ref (b 7), .ref (b 8), .ref (b 9), .ref (b 10), .ref (b 11), .ref (b 12), .int 0, .int 0, .int (nI 0), .ref (b 13), .ref (b 14), .ref (b 16)])), ((b 13), .inr (8, [.int 0, .ref (g.2.2 0), .int 0]))]) (wr := []) E hA [3, 0, 1, 2] [] rfl rfl rfl rfl (by decide)) E (fun u9 H locs hp E => ?_)
        have E : Ev g _ s.heap H locs [(m0, .inr (9, [.int 0, .ref (b 0), .ref (b 17)])), ((b 0), .inr (10, [.ref (b 1), .ref (b 2), .ref (b 3), .ref (b 4), .ref (b 5), .ref (b 6), .ref (b 7), .ref (b 8), .ref (b 9), .ref (b 10), .ref (b 11), .ref (b 12), .int 0, .int 0, .int (nI 0), .ref (b 13), .ref (b 14), .ref (b 16)])), ((b 13), .inr (8, [.int 1, .ref u9, .int 1]))] := E
        refine lv_aload_n hx hb dX9_addWell_91 rfl (lv_at hl 1 rfl) ?_
        refine wg_X9_10 (v := .ref (b 0)) S hK E 0 rfl rfl dX9_addWell_92 ?_
        refine wg_X9_76 (v := .ref (b 13)) S hZ.2.2.2.2.2.2.1 hK E 1 rfl rfl dX9_addWell_95 ?_
        refine w_reti (runV_X (As := []) (rest := []) (q0 := 0) (n := 0) S hml hK (hZ.at E) (Cut.of (wc := [((b 13), .inr (8, [.int 1, .ref u9, .int 1]))]) (wr := [(m0, .inr (9, [.int 0, .ref (b 0), .ref (b 17)])), ((b 0), .inr (10, [.ref (b 1), .ref (b 2), .ref (b 3), .ref (b 4), .ref (b 5), .ref (b 6), .ref (b 7), .ref (b 8), .ref (b 9), .ref (b 10), .ref (b 11), .ref (b 12), .int 0, .int 0, .int (nI 0), .ref (b 13), .ref (b 14), .ref (b 16)]))]) E hA [2] [0, 1] rfl rfl rfl rfl (by decide)) (c_Jx4a65c_size_8abf5 l g (b 13) 1 1 u9 _ _) (gi_wsV ml_X9_79 im_Jx4a65c_size_8abf5 sl_Jx4a65c_size_8abf5 in_Jx4a65c co_Jx4a65c_size_8abf5) ⟨rfl, by decide +kernel, by decide +kernel, by decide +kernel⟩ ⟨Nat.le_of_ble_eq_true rfl, Nat.le_of_ble_eq_true rfl⟩ rfl rfl rfl hl.1 rfl (Nat.le_of_ble_eq_true rfl) dX9_addWell_98 ⟨Nat.le_of_ble_eq_true rfl, Nat.le_of_ble_eq_true rfl⟩) (Cut.of (wc := [((b 13), .inr (8, [.int 1, .ref u9, .int 1]))]) (wr := [(m0, .inr (9, [.int 0, .ref (b 0), .ref (b 17)])), ((b 0), .inr (10, [.ref (b 1), .ref (b 2), .ref (b 3), .ref (b 4), .ref (b 5), .ref (b 6), .ref (b 7), .ref (b 8), .ref (b 9), .ref (b 10), .ref (b 11), .ref (b 12), .int 0, .int 0, .int (nI 0), .ref (b 13), .ref (b 14), .ref (b 16)]))]) E hA [2] [0, 1] rfl rfl rfl rfl (by decide)) E (fun r10 u10 H locs hp E => ?_)
        have E : Ev g _ s.heap H locs [(m0, .inr (9, [.int 0, .ref (b 0), .ref (b 17)])), ((b 0), .inr (10, [.ref (b 1), .ref (b 2), .ref (b 3), .ref (b 4), .ref (b 5), .ref (b 6), .ref (b 7), .ref (b 8), .ref (b 9), .ref (b 10), .ref (b 11), .ref (b 12), .int 0, .int 0, .int (nI 0), .ref (b 13), .ref (b 14), .ref (b 16)])), ((b 13), .inr (8, [.int 1, .ref u9, .int 1]))] := E
        subst hp
        refine lv_iconst (v := 1) hx hb dX9_addWell_101 (by decide) ?_
        refine k_isub (v := 0) hx hb (by decide) dX9_addWell_102 ?_
        have hKK : (0 : Int32) = kk_addWell p0 p1 p2 := (by unfold kk_addWell; rw [if_pos hR6, if_pos ⟨hR2, hR4⟩])
        have E : Ev g _ s.heap H locs [(m0, .inr (9, [.int 0, .ref (b 0), .ref (b 17)]))] := Ev.sub E [0] rfl rfl
        exact x_iret 0 S hr hlk hsz htt hK E dX9_addWell_103 ⟨hKK, fun _ => rfl⟩ rfl ⟨Nat.le_of_ble_eq_true rfl, Nat.le_of_ble_eq_true rfl⟩ ⟨Nat.le_of_ble_eq_true rfl, Nat.le_of_ble_eq_true rfl⟩
      · skip
        refine lv_if_ne (tgt := 44) hx hb dX9_addWell_37 (by decide) (fun c_ => absurd (show (0 : Int32) = 0 by decide) c_) (fun _ => ?_)
        refine lv_iconst (v := 1) hx hb dX9_addWell_40 (by decide) ?_
        refine lv_goto (tgt := 73) hx hb dX9_addWell_41 (by decide) ?_
        refine w_reti (runV_X (As := [.int 1]) (rest := []) (q0 := 0) (n := 1) S hml hK (hZ.at E) (Cut.of (wc := [(m0, .inr (9, [.int 0, .ref (b 0), .ref (b 17)]))]) (wr := [((b 17), .inr (8, [.int 0, .ref (g.2.2 0), .int 0])), ((b 0), .inr (10, [.ref (b 1), .ref (b 2), .ref (b 3), .ref (b 4), .ref (b 5), .ref (b 6), .ref (b 7), .ref (b 8), .ref (b 9), .ref (b 10), .ref (b 11), .ref (b 12), .int 0, .int 0, .int (nI 0), .ref (b 13), .ref (b 14), .ref (b 16)])), ((b 13), .inr (8, [.int 0, .ref (g.2.2 0), .int 0]))]) E hA [0] [1, 2, 3] rfl rfl rfl rfl (by decide)) (c_X9_fails l g m0 b 0 1 _ _) (gi_wsV ml_X9_39 im_X9_fails sl_X9_fails in_X9 co_X9_fails) ⟨rfl, by decide +kernel, by decide +kernel, by decide +kernel⟩ ⟨Nat.le_of_ble_eq_true rfl, Nat.le_of_ble_eq_true rfl⟩ rfl rfl rfl hl.1 rfl (Nat.le_of_ble_eq_true rfl) dX9_addWell_73 ⟨Nat.le_of_ble_eq_true rfl, Nat.le_of_ble_eq_true rfl⟩) (Cut.of (wc := [(m0, .inr (9, [.int 0, .ref (b 0), .ref (b 17)]))]) (wr := [((b 17), .inr (8, [.int 0, .ref (g.2.2 0), .int 0])), ((b 0), .inr (10, [.ref (b 1), .ref (b 2), .ref (b 3), .ref (b 4), .ref (b 5), .ref (b 6), .ref (b 7), .ref (b 8), .ref (b 9), .ref (b 10), .ref (b 11), .ref (b 12), .int 0, .int 0, .int (nI 0), .ref (b 13), .ref (b 14), .ref (b 16)])), ((b 13), .inr (8, [.int 0, .ref (g.2.2 0), .int 0]))]) E hA [0] [1, 2, 3] rfl rfl rfl rfl (by decide)) E (fun r11 u11 H locs hp E => ?_)
        have E : Ev g _ s.heap H locs [((b 17), .inr (8, [.int 0, .ref (g.2.2 0), .int 0])), ((b 0), .inr (10, [.ref (b 1), .ref (b 2), .ref (b 3), .ref (b 4), .ref (b 5), .ref (b 6), .ref (b 7), .ref (b 8), .ref (b 9), .ref (b 10), .ref (b 11), .ref (b 12), .int 0, .int 0, .int (nI 0), .ref (b 13), .ref (b 14), .ref (b 16)])), ((b 13), .inr (8, [.int 0, .ref (g.2.2 0), .int 0])), (m0, .inr (9, [.int 1, .ref (b 0), .ref (b 17)]))] := E
        obtain ⟨rfl, -⟩ := hp.resolve_right (fun z => absurd z.2 (by decide))
        refine lv_if_eq (tgt := 81) hx hb dX9_addWell_76 (by decide) (fun c_ => absurd c_ (show ¬ ((1 : Int32) = 0) by decide)) (fun _ => ?_)
        refine lv_iconst (v := 0) hx hb dX9_addWell_79 (by decide) ?_
        have hKK : (1 : Int32) = kk_addWell p0 p1 p2 := (by unfold kk_addWell; rw [if_neg hR6])
        have E : Ev g _ s.heap H locs [(m0, .inr (9, [.int 1, .ref (b 0), .ref (b 17)]))] := Ev.sub E [3] rfl rfl
        exact x_iret 1 S hr hlk hsz htt hK E dX9_addWell_80 ⟨hKK, fun z => absurd (hKK.trans z) (by decide)⟩ rfl ⟨Nat.le_of_ble_eq_true rfl, Nat.le_of_ble_eq_true rfl⟩ ⟨Nat.le_of_ble_eq_true rfl, Nat.le_of_ble_eq_true rfl⟩
    · skip
      refine lv_if_eq (tgt := 26) hx hb dX9_addWell_19 (by decide) (fun _ => ?_) (fun c_ => absurd (show (0 : Int32) = 0 by decide) c_)
      refine lv_iconst (v := 0) hx hb dX9_addWell_26 (by decide) ?_
      refine lv_istore (lv' := [(4, .int 0), (0, .ref m0), (1, .int p0), (2, .int p1), (3, .int p2)]) hx hb dX9_addWell_27 hl (by decide) rfl (fun ls hl => ?_)
      refine lv_aload_n hx hb dX9_addWell_29 rfl (lv_at hl 1 rfl) ?_
      refine lv_iload_n hx hb dX9_addWell_30 rfl (lv_at hl 2 rfl) ?_
      refine lv_iconst (v := 0) hx hb dX9_addWell_31 (by decide) ?_
      refine lv_bipush (v := 15) hx hb dX9_addWell_32 (by decide) ?_
      refine w_reti (runS_X (As := [.int p0, .int 0, .int 15]) (rest := [.ref m0]) (n := 3) S hml hK (hZ.at E) (Cut.of (wc := []) (wr := [(m0, .inr (9, [.int 0, .ref (b 0), .ref (b 17)])), ((b 17), .inr (8, [.int 0, .ref (g.2.2 0), .int 0])), ((b 0), .inr (10, [.ref (b 1), .ref (b 2), .ref (b 3), .ref (b 4), .ref (b 5), .ref (b 6), .ref (b 7), .ref (b 8), .ref (b 9), .ref (b 10), .ref (b 11), .ref (b 12), .int 0, .int 0, .int (nI 0), .ref (b 13), .ref (b 14), .ref (b 16)])), ((b 13), .inr (8, [.int 0, .ref (g.2.2 0), .int 0]))]) E hA [] [0, 1, 2, 3] rfl rfl rfl rfl (by decide)) (c_X9_in l g p0 0 15 _ _) ml_X9_35 st_X9_in in_X9 co_X9_in ⟨by decide +kernel, by decide +kernel, by decide +kernel⟩ ⟨Nat.le_of_ble_eq_true rfl, Nat.le_of_ble_eq_true rfl⟩ rfl hl.1 rfl (Nat.le_of_ble_eq_true rfl) dX9_addWell_34 ⟨Nat.le_of_ble_eq_true rfl, Nat.le_of_ble_eq_true rfl⟩) (Cut.of (wc := []) (wr := [(m0, .inr (9, [.int 0, .ref (b 0), .ref (b 17)])), ((b 17), .inr (8, [.int 0, .ref (g.2.2 0), .int 0])), ((b 0), .inr (10, [.ref (b 1), .ref (b 2), .ref (b 3), .ref (b 4), .ref (b 5), .ref (b 6), .ref (b 7), .ref (b 8), .ref (b 9), .ref (b 10), .ref (b 11), .ref (b 12), .int 0, .int 0, .int (nI 0), .ref (b 13), .ref (b 14), .ref (b 16)])), ((b 13), .inr (8, [.int 0, .ref (g.2.2 0), .int 0]))]) E hA [] [0, 1, 2, 3] rfl rfl rfl rfl (by decide)) E (fun r12 u12 H locs hp E => ?_)
      have E : Ev g _ s.heap H locs [(m0, .inr (9, [.int 0, .ref (b 0), .ref (b 17)])), ((b 17), .inr (8, [.int 0, .ref (g.2.2 0), .int 0])), ((b 0), .inr (10, [.ref (b 1), .ref (b 2), .ref (b 3), .ref (b 4), .ref (b 5), .ref (b 6), .ref (b 7), .ref (b 8), .ref (b 9), .ref (b 10), .ref (b 11), .ref (b 12), .int 0, .int 0, .int (nI 0), .ref (b 13), .ref (b 14), .ref (b 16)])), ((b 13), .inr (8, [.int 0, .ref (g.2.2 0), .int 0]))] := E
      rcases hp with ⟨rfl, hR13⟩ | ⟨rfl, hR13⟩
      · skip
        refine lv_if_ne (tgt := 44) hx hb dX9_addWell_37 (by decide) (fun _ => ?_) (fun c_ => absurd c_ (show ¬ ((1 : Int32) = 0) by decide))
        refine lv_iload hx hb dX9_addWell_44 (lv_at hl 0 rfl) ?_
        refine lv_if_ne (tgt := 53) hx hb dX9_addWell_46 (by decide) (fun c_ => absurd (show (0 : Int32) = 0 by decide) c_) (fun _ => ?_)
        refine lv_iconst (v := 2) hx hb dX9_addWell_49 (by decide) ?_
        refine lv_goto (tgt := 73) hx hb dX9_addWell_50 (by decide) ?_
        refine w_reti (runV_X (As := [.int 2]) (rest := []) (q0 := 0) (n := 1) S hml hK (hZ.at E) (Cut.of (wc := [(m0, .inr (9, [.int 0, .ref (b 0), .ref (b 17)]))]) (wr := [((b 17), .inr (8, [.int 0, .ref (g.2.2 0), .int 0])), ((b 0), .inr (10, [.ref (b 1), .ref (b 2), .ref (b 3), .ref (b 4), .ref (b 5), .ref (b 6), .ref (b 7), .ref (b 8), .ref (b 9), .ref (b 10), .ref (b 11), .ref (b 12), .int 0, .int 0, .int (nI 0), .ref (b 13), .ref (b 14), .ref (b 16)])), ((b 13), .inr (8, [.int 0, .ref (g.2.2 0), .int 0]))]) E hA [0] [1, 2, 3] rfl rfl rfl rfl (by decide)) (c_X9_fails l g m0 b 0 2 _ _) (gi_wsV ml_X9_39 im_X9_fails sl_X9_fails in_X9 co_X9_fails) ⟨rfl, by decide +kernel, by decide +kernel, by decide +kernel⟩ ⟨Nat.le_of_ble_eq_true rfl, Nat.le_of_ble_eq_true rfl⟩ rfl rfl rfl hl.1 rfl (Nat.le_of_ble_eq_true rfl) dX9_addWell_73 ⟨Nat.le_of_ble_eq_true rfl, Nat.le_of_ble_eq_true rfl⟩) (Cut.of (wc := [(m0, .inr (9, [.int 0, .ref (b 0), .ref (b 17)]))]) (wr := [((b 17), .inr (8, [.int 0, .ref (g.2.2 0), .int 0])), ((b 0), .inr (10, [.ref (b 1), .ref (b 2), .ref (b 3), .ref (b 4), .ref (b 5), .ref (b 6), .ref (b 7), .ref (b 8), .ref (b 9), .ref (b 10), .ref (b 11), .ref (b 12), .int 0, .int 0, .int (nI 0), .ref (b 13), .ref (b 14), .ref (b 16)])), ((b 13), .inr (8, [.int 0, .ref (g.2.2 0), .int 0]))]) E hA [0] [1, 2, 3] rfl rfl rfl rfl (by decide)) E (fun r14 u14 H locs hp E => ?_)
        have E : Ev g _ s.heap H locs [((b 17), .inr (8, [.int 0, .ref (g.2.2 0), .int 0])), ((b 0), .inr (10, [.ref (b 1), .ref (b 2), .ref (b 3), .ref (b 4), .ref (b 5), .ref (b 6), .ref (b 7), .ref (b 8), .ref (b 9), .ref (b 10), .ref (b 11), .ref (b 12), .int 0, .int 0, .int (nI 0), .ref (b 13), .ref (b 14), .ref (b 16)])), ((b 13), .inr (8, [.int 0, .ref (g.2.2 0), .int 0])), (m0, .inr (9, [.int 2, .ref (b 0), .ref (b 17)]))] := E
        obtain ⟨rfl, -⟩ := hp.resolve_right (fun z => absurd z.2 (by decide))
        refine lv_if_eq (tgt := 81) hx hb dX9_addWell_76 (by decide) (fun c_ => absurd c_ (show ¬ ((1 : Int32) = 0) by decide)) (fun _ => ?_)
        refine lv_iconst (v := 0) hx hb dX9_addWell_79 (by decide) ?_
        have hKK : (2 : Int32) = kk_addWell p0 p1 p2 := (by unfold kk_addWell; rw [if_pos hR13, if_neg (fun z => hR4 z.2)])
        have E : Ev g _ s.heap H locs [(m0, .inr (9, [.int 2, .ref (b 0), .ref (b 17)]))] := Ev.sub E [3] rfl rfl
        exact x_iret 2 S hr hlk hsz htt hK E dX9_addWell_80 ⟨hKK, fun z => absurd (hKK.trans z) (by decide)⟩ rfl ⟨Nat.le_of_ble_eq_true rfl, Nat.le_of_ble_eq_true rfl⟩ ⟨Nat.le_of_ble_eq_true rfl, Nat.le_of_ble_eq_true rfl⟩
      · skip
        refine lv_if_ne (tgt := 44) hx hb dX9_addWell_37 (by decide) (fun c_ => absurd (show (0 : Int32) = 0 by decide) c_) (fun _ => ?_)
        refine lv_iconst (v := 1) hx hb dX9_addWell_40 (by decide) ?_
        refine lv_goto (tgt := 73) hx hb dX9_addWell_41 (by decide) ?_
        refine w_reti (runV_X (As := [.int 1]) (rest := []) (q0 := 0) (n := 1) S hml hK (hZ.at E) (Cut.of (wc := [(m0, .inr (9, [.int 0, .ref (b 0), .ref (b 17)]))]) (wr := [((b 17), .inr (8, [.int 0, .ref (g.2.2 0), .int 0])), ((b 0), .inr (10, [.ref (b 1), .ref (b 2), .ref (b 3), .ref (b 4), .ref (b 5), .ref (b 6), .ref (b 7), .ref (b 8), .ref (b 9), .ref (b 10), .ref (b 11), .ref (b 12), .int 0, .int 0, .int (nI 0), .ref (b 13), .ref (b 14), .ref (b 16)])), ((b 13), .inr (8, [.int 0, .ref (g.2.2 0), .int 0]))]) E hA [0] [1, 2, 3] rfl rfl rfl rfl (by decide)) (c_X9_fails l g m0 b 0 1 _ _) (gi_wsV ml_X9_39 im_X9_fails sl_X9_fails in_X9 co_X9_fails) ⟨rfl, by decide +kernel, by decide +kernel, by decide +kernel⟩ ⟨Nat.le_of_ble_eq_true rfl, Nat.le_of_ble_eq_true rfl⟩ rfl rfl rfl hl.1 rfl (Nat.le_of_ble_eq_true rfl) dX9_addWell_73 ⟨Nat.le_of_ble_eq_true rfl, Nat.le_of_ble_eq_true rfl⟩) (Cut.of (wc := [(m0, .inr (9, [.int 0, .ref (b 0), .ref (b 17)]))]) (wr := [((b 17), .inr (8, [.int 0, .ref (g.2.2 0), .int 0])), ((b 0), .inr (10, [.ref (b 1), .ref (b 2), .ref (b 3), .ref (b 4), .ref (b 5), .ref (b 6), .ref (b 7), .ref (b 8), .ref (b 9), .ref (b 10), .ref (b 11), .ref (b 12), .int 0, .int 0, .int (nI 0), .ref (b 13), .ref (b 14), .ref (b 16)])), ((b 13), .inr (8, [.int 0, .ref (g.2.2 0), .int 0]))]) E hA [0] [1, 2, 3] rfl rfl rfl rfl (by decide)) E (fun r15 u15 H locs hp E => ?_)
        have E : Ev g _ s.heap H locs [((b 17), .inr (8, [.int 0, .ref (g.2.2 0), .int 0])), ((b 0), .inr (10, [.ref (b 1), .ref (b 2), .ref (b 3), .ref (b 4), .ref (b 5), .ref (b 6), .ref (b 7), .ref (b 8), .ref (b 9), .ref (b 10), .ref (b 11), .ref (b 12), .int 0, .int 0, .int (nI 0), .ref (b 13), .ref (b 14), .ref (b 16)])), ((b 13), .inr (8, [.int 0, .ref (g.2.2 0), .int 0])), (m0, .inr (9, [.int 1, .ref (b 0), .ref (b 17)]))] := E
        obtain ⟨rfl, -⟩ := hp.resolve_right (fun z => absurd z.2 (by decide))
        refine lv_if_eq (tgt := 81) hx hb dX9_addWell_76 (by decide) (fun c_ => absurd c_ (show ¬ ((1 : Int32) = 0) by decide)) (fun _ => ?_)
        refine lv_iconst (v := 0) hx hb dX9_addWell_79 (by decide) ?_
        have hKK : (1 : Int32) = kk_addWell p0 p1 p2 := (by unfold kk_addWell; rw [if_neg hR13])
        have E : Ev g _ s.heap H locs [(m0, .inr (9, [.int 1, .ref (b 0), .ref (b 17)]))] := Ev.sub E [3] rfl rfl
        exact x_iret 1 S hr hlk hsz htt hK E dX9_addWell_80 ⟨hKK, fun z => absurd (hKK.trans z) (by decide)⟩ rfl ⟨Nat.le_of_ble_eq_true rfl, Nat.le_of_ble_eq_true rfl⟩ ⟨Nat.le_of_ble_eq_true rfl, Nat.le_of_ble_eq_true rfl⟩
  · skip
    refine lv_if_eq (tgt := 26) hx hb dX9_addWell_8 (by decide) (fun _ => ?_) (fun c_ => absurd (show (0 : Int32) = 0 by decide) c_)
    refine lv_iconst (v := 0) hx hb dX9_addWell_26 (by decide) ?_
    refine lv_istore (lv' := [(4, .int 0), (0, .ref m0), (1, .int p0), (2, .int p1), (3, .int p2)]) hx hb dX9_addWell_27 hl (by decide) rfl (fun ls hl => ?_)
    refine lv_aload_n hx hb dX9_addWell_29 rfl (lv_at hl 1 rfl) ?_
    refine lv_iload_n hx hb dX9_addWell_30 rfl (lv_at hl 2 rfl) ?_
    refine lv_iconst (v := 0) hx hb dX9_addWell_31 (by decide) ?_
    refine lv_bipush (v := 15) hx hb dX9_addWell_32 (by decide) ?_
    refine w_reti (runS_X (As := [.int p0, .int 0, .int 15]) (rest := [.ref m0]) (n := 3) S hml hK (hZ.at E) (Cut.of (wc := []) (wr := [(m0, .inr (9, [.int 0, .ref (b 0), .ref (b 17)])), ((b 17), .inr (8, [.int 0, .ref (g.2.2 0), .int 0])), ((b 0), .inr (10, [.ref (b 1), .ref (b 2), .ref (b 3), .ref (b 4), .ref (b 5), .ref (b 6), .ref (b 7), .ref (b 8), .ref (b 9), .ref (b 10), .ref (b 11), .ref (b 12), .int 0, .int 0, .int (nI 0), .ref (b 13), .ref (b 14), .ref (b 16)])), ((b 13), .inr (8, [.int 0, .ref (g.2.2 0), .int 0]))]) E hA [] [0, 1, 2, 3] rfl rfl rfl rfl (by decide)) (c_X9_in l g p0 0 15 _ _) ml_X9_35 st_X9_in in_X9 co_X9_in ⟨by decide +kernel, by decide +kernel, by decide +kernel⟩ ⟨Nat.le_of_ble_eq_true rfl, Nat.le_of_ble_eq_true rfl⟩ rfl hl.1 rfl (Nat.le_of_ble_eq_true rfl) dX9_addWell_34 ⟨Nat.le_of_ble_eq_true rfl, Nat.le_of_ble_eq_true rfl⟩) (Cut.of (wc := []) (wr := [(m0, .inr (9, [.int 0, .ref (b 0), .ref (b 17)])), ((b 17), .inr (8, [.int 0, .ref (g.2.2 0), .int 0])), ((b 0), .inr (10, [.ref (b 1), .ref (b 2), .ref (b 3), .ref (b 4), .ref (b 5), .ref (b 6), .ref (b 7), .ref (b 8), .ref (b 9), .ref (b 10), .ref (b 11), .ref (b 12), .int 0, .int 0, .int (nI 0), .ref (b 13), .ref (b 14), .ref (b 16)])), ((b 13), .inr (8, [.int 0, .ref (g.2.2 0), .int 0]))]) E hA [] [0, 1, 2, 3] rfl rfl rfl rfl (by decide)) E (fun r16 u16 H locs hp E => ?_)
    have E : Ev g _ s.heap H locs [(m0, .inr (9, [.int 0, .ref (b 0), .ref (b 17)])), ((b 17), .inr (8, [.int 0, .ref (g.2.2 0), .int 0])), ((b 0), .inr (10, [.ref (b 1), .ref (b 2), .ref (b 3), .ref (b 4), .ref (b 5), .ref (b 6), .ref (b 7), .ref (b 8), .ref (b 9), .ref (b 10), .ref (b 11), .ref (b 12), .int 0, .int 0, .int (nI 0), .ref (b 13), .ref (b 14), .ref (b 16)])), ((b 13), .inr (8, [.int 0, .ref (g.2.2 0), .int 0]))] := E
    rcases hp with ⟨rfl, hR17⟩ | ⟨rfl, hR17⟩
    · skip
      refine lv_if_ne (tgt := 44) hx hb dX9_addWell_37 (by decide) (fun _ => ?_) (fun c_ => absurd c_ (show ¬ ((1 : Int32) = 0) by decide))
      refine lv_iload hx hb dX9_addWell_44 (lv_at hl 0 rfl) ?_
      refine lv_if_ne (tgt := 53) hx hb dX9_addWell_46 (by decide) (fun c_ => absurd (show (0 : Int32) = 0 by decide) c_) (fun _ => ?_)
      refine lv_iconst (v := 2) hx hb dX9_addWell_49 (by decide) ?_
      refine lv_goto (tgt := 73) hx hb dX9_addWell_50 (by decide) ?_
      refine w_reti (runV_X (As := [.int 2]) (rest := []) (q0 := 0) (n := 1) S hml hK (hZ.at E) (Cut.of (wc := [(m0, .inr (9, [.int 0, .ref (b 0), .ref (b 17)]))]) (wr := [((b 17), .inr (8, [.int 0, .ref (g.2.2 0), .int 0])), ((b 0), .inr (10, [.ref (b 1), .ref (b 2), .ref (b 3), .ref (b 4), .ref (b 5), .ref (b 6), .ref (b 7), .ref (b 8), .ref (b 9), .ref (b 10), .ref (b 11), .ref (b 12), .int 0, .int 0, .int (nI 0), .ref (b 13), .ref (b 14), .ref (b 16)])), ((b 13), .inr (8, [.int 0, .ref (g.2.2 0), .int 0]))]) E hA [0] [1, 2, 3] rfl rfl rfl rfl (by decide)) (c_X9_fails l g m0 b 0 2 _ _) (gi_wsV ml_X9_39 im_X9_fails sl_X9_fails in_X9 co_X9_fails) ⟨rfl, by decide +kernel, by decide +kernel, by decide +kernel⟩ ⟨Nat.le_of_ble_eq_true rfl, Nat.le_of_ble_eq_true rfl⟩ rfl rfl rfl hl.1 rfl (Nat.le_of_ble_eq_true rfl) dX9_addWell_73 ⟨Nat.le_of_ble_eq_true rfl, Nat.le_of_ble_eq_true rfl⟩) (Cut.of (wc := [(m0, .inr (9, [.int 0, .ref (b 0), .ref (b 17)]))]) (wr := [((b 17), .inr (8, [.int 0, .ref (g.2.2 0), .int 0])), ((b 0), .inr (10, [.ref (b 1), .ref (b 2), .ref (b 3), .ref (b 4), .ref (b 5), .ref (b 6), .ref (b 7), .ref (b 8), .ref (b 9), .ref (b 10), .ref (b 11), .ref (b 12), .int 0, .int 0, .int (nI 0), .ref (b 13), .ref (b 14), .ref (b 16)])), ((b 13), .inr (8, [.int 0, .ref (g.2.2 0), .int 0]))]) E hA [0] [1, 2, 3] rfl rfl rfl rfl (by decide)) E (fun r18 u18 H locs hp E => ?_)
      have E : Ev g _ s.heap H locs [((b 17), .inr (8, [.int 0, .ref (g.2.2 0), .int 0])), ((b 0), .inr (10, [.ref (b 1), .ref (b 2), .ref (b 3), .ref (b 4), .ref (b 5), .ref (b 6), .ref (b 7), .ref (b 8), .ref (b 9), .ref (b 10), .ref (b 11), .ref (b 12), .int 0, .int 0, .int (nI 0), .ref (b 13), .ref (b 14), .ref (b 16)])), ((b 13), .inr (8, [.int 0, .ref (g.2.2 0), .int 0])), (m0, .inr (9, [.int 2, .ref (b 0), .ref (b 17)]))] := E
      obtain ⟨rfl, -⟩ := hp.resolve_right (fun z => absurd z.2 (by decide))
      refine lv_if_eq (tgt := 81) hx hb dX9_addWell_76 (by decide) (fun c_ => absurd c_ (show ¬ ((1 : Int32) = 0) by decide)) (fun _ => ?_)
      refine lv_iconst (v := 0) hx hb dX9_addWell_79 (by decide) ?_
      have hKK : (2 : Int32) = kk_addWell p0 p1 p2 := (by unfold kk_addWell; rw [if_pos hR17, if_neg (fun z => hR2 z.1)])
      have E : Ev g _ s.heap H locs [(m0, .inr (9, [.int 2, .ref (b 0), .ref (b 17)]))] := Ev.sub E [3] rfl rfl
      exact x_iret 2 S hr hlk hsz htt hK E dX9_addWell_80 ⟨hKK, fun z => absurd (hKK.trans z) (by decide)⟩ rfl ⟨Nat.le_of_ble_eq_true rfl, Nat.le_of_ble_eq_true rfl⟩ ⟨Nat.le_of_ble_eq_true rfl, Nat.le_of_ble_eq_true rfl⟩
    · skip
      refine lv_if_ne (tgt := 44) hx hb dX9_addWell_37 (by decide) (fun c_ => absurd (show (0 : Int32) = 0 by decide) c_) (fun _ => ?_)
      refine lv_iconst (v := 1) hx hb dX9_addWell_40 (by decide) ?_
      refine lv_goto (tgt := 73) hx hb dX9_addWell_41 (by decide) ?_
      refine w_reti (runV_X (As := [.int 1]) (rest := []) (q0 := 0) (n := 1) S hml hK (hZ.at E) (Cut.of (wc := [(m0, .inr (9, [.int 0, .ref (b 0), .ref (b 17)]))]) (wr := [((b 17), .inr (8, [.int 0, .ref (g.2.2 0), .int 0])), ((b 0), .inr (10, [.ref (b 1), .ref (b 2), .ref (b 3), .ref (b 4), .ref (b 5), .ref (b 6), .ref (b 7), .ref (b 8), .ref (b 9), .ref (b 10), .ref (b 11), .ref (b 12), .int 0, .int 0, .int (nI 0), .ref (b 13), .ref (b 14), .ref (b 16)])), ((b 13), .inr (8, [.int 0, .ref (g.2.2 0), .int 0]))]) E hA [0] [1, 2, 3] rfl rfl rfl rfl (by decide)) (c_X9_fails l g m0 b 0 1 _ _) (gi_wsV ml_X9_39 im_X9_fails sl_X9_fails in_X9 co_X9_fails) ⟨rfl, by decide +kernel, by decide +kernel, by decide +kernel⟩ ⟨Nat.le_of_ble_eq_true rfl, Nat.le_of_ble_eq_true rfl⟩ rfl rfl rfl hl.1 rfl (Nat.le_of_ble_eq_true rfl) dX9_addWell_73 ⟨Nat.le_of_ble_eq_true rfl, Nat.le_of_ble_eq_true rfl⟩) (Cut.of (wc := [(m0, .inr (9, [.int 0, .ref (b 0), .ref (b 17)]))]) (wr := [((b 17), .inr (8, [.int 0, .ref (g.2.2 0), .int 0])), ((b 0), .inr (10, [.ref (b 1), .ref (b 2), .ref (b 3), .ref (b 4), .ref (b 5), .ref (b 6), .ref (b 7), .ref (b 8), .ref (b 9), .ref (b 10), .ref (b 11), .ref (b 12), .int 0, .int 0, .int (nI 0), .ref (b 13), .ref (b 14), .ref (b 16)])), ((b 13), .inr (8, [.int 0, .ref (g.2.2 0), .int 0]))]) E hA [0] [1, 2, 3] rfl rfl rfl rfl (by decide)) E (fun r19 u19 H locs hp E => ?_)
      have E : Ev g _ s.heap H locs [((b 17), .inr (8, [.int 0, .ref (g.2.2 0), .int 0])), ((b 0), .inr (10, [.ref (b 1), .ref (b 2), .ref (b 3), .ref (b 4), .ref (b 5), .ref (b 6), .ref (b 7), .ref (b 8), .ref (b 9), .ref (b 10), .ref (b 11), .ref (b 12), .int 0, .int 0, .int (nI 0), .ref (b 13), .ref (b 14), .ref (b 16)])), ((b 13), .inr (8, [.int 0, .ref (g.2.2 0), .int 0])), (m0, .inr (9, [.int 1, .ref (b 0), .ref (b 17)]))] := E
      obtain ⟨rfl, -⟩ := hp.resolve_right (fun z => absurd z.2 (by decide))
      refine lv_if_eq (tgt := 81) hx hb dX9_addWell_76 (by decide) (fun c_ => absurd c_ (show ¬ ((1 : Int32) = 0) by decide)) (fun _ => ?_)
      refine lv_iconst (v := 0) hx hb dX9_addWell_79 (by decide) ?_
      have hKK : (1 : Int32) = kk_addWell p0 p1 p2 := (by unfold kk_addWell; rw [if_neg hR17])
      have E : Ev g _ s.heap H locs [(m0, .inr (9, [.int 1, .ref (b 0), .ref (b 17)]))] := Ev.sub E [3] rfl rfl
      exact x_iret 1 S hr hlk hsz htt hK E dX9_addWell_80 ⟨hKK, fun z => absurd (hKK.trans z) (by decide)⟩ rfl ⟨Nat.le_of_ble_eq_true rfl, Nat.le_of_ble_eq_true rfl⟩ ⟨Nat.le_of_ble_eq_true rfl, Nat.le_of_ble_eq_true rfl⟩

