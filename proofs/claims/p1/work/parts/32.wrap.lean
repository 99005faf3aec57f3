theorem dL_setCell_0 : decode cL_setCell 0 = .ok (.aload 5, 2) := by decide +kernel
theorem dL_setCell_2 : decode cL_setCell 2 = .ok (.iconst 0, 1) := by decide +kernel
theorem dL_setCell_3 : decode cL_setCell 3 = .ok (.aload_n 0, 1) := by decide +kernel
theorem dL_setCell_4 : decode cL_setCell 4 = .ok (.iload_n 1, 1) := by decide +kernel
theorem dL_setCell_5 : decode cL_setCell 5 = .ok (.iload_n 2, 1) := by decide +kernel
theorem dL_setCell_6 : decode cL_setCell 6 = .ok (.iload_n 3, 1) := by decide +kernel
theorem dL_setCell_7 : decode cL_setCell 7 = .ok (.iload 4, 2) := by decide +kernel
theorem dL_setCell_9 : decode cL_setCell 9 = .ok (.invokevirtual 7, 3) := by decide +kernel
theorem dL_setCell_12 : decode cL_setCell 12 = .ok (.i2l, 1) := by decide +kernel
theorem dL_setCell_13 : decode cL_setCell 13 = .ok (.lastore, 1) := by decide +kernel
theorem dL_setCell_14 : decode cL_setCell 14 = .ok (.goto 11, 3) := by decide +kernel
theorem dL_setCell_17 : decode cL_setCell 17 = .ok (.astore 6, 2) := by decide +kernel
theorem dL_setCell_19 : decode cL_setCell 19 = .ok (.iconst 1, 1) := by decide +kernel
theorem dL_setCell_20 : decode cL_setCell 20 = .ok (.ireturn, 1) := by decide +kernel
theorem dL_setCell_21 : decode cL_setCell 21 = .ok (.astore 6, 2) := by decide +kernel
theorem dL_setCell_23 : decode cL_setCell 23 = .ok (.iconst 2, 1) := by decide +kernel
theorem dL_setCell_24 : decode cL_setCell 24 = .ok (.ireturn, 1) := by decide +kernel
theorem dL_setCell_25 : decode cL_setCell 25 = .ok (.iconst 0, 1) := by decide +kernel
theorem dL_setCell_26 : decode cL_setCell 26 = .ok (.ireturn, 1) := by decide +kernel
set_option maxHeartbeats 4000000 in
set_option maxRecDepth 100000 in
/-- law: setCell -/
theorem c_L_setCell (l : Launch) (g : Gm) (hst : l.stackTraces = false) (x : Nat) (ag : Nat) (wo : Nat) (dy : Nat) (ad : Nat → Nat) (ea : Nat) (p0 : Int32) (p1 : Int32) (p2 : Int32) (p3 : Int32) (o : Nat) (fo : Nat → Int64) : HXi (S := Nat → Int64) l g yL_setCell cL_setCell 7 .int [(0, 14, 17, 13), (0, 14, 21, 15)] ({ frames := 8, cells := 14, slots := 100015, locals := 147 } : Room) [.ref x, .int p0, .int p1, .int p2, .int p3, .ref o] ([(x, .inr (6, [.ref (ad 0), .ref ag, .ref wo, .ref dy])), (dy, .inr (8, [.int 0, .ref (g.2.2 0), .int 0]))] ++ wsW g ad (-1) 1 0 ea σ0 ++ [(o, .inl (g.2.1 1, 1, .inr (.inl fo)))]) (fun r u => r = kk_setCell p0 p1 p2 p3 ∧ (kk_setCell p0 p1 p2 p3 = 0 → u 0 = 0)) (fun u => [(o, .inl (g.2.1 1, 1, .inr (.inl u)))]) (fun _ => (14, 100015)) := by
  intro sz tt
  refine ofH RL rfl (by decide +kernel) (Nat.le_of_ble_eq_true rfl) (fun p e s m args below meth c hargs S hml hr hlk htab hsz htt hK hA hZ E ls hl => ?_)
  have hx := S.1
  have hb := S.2.1
  have hl : lv_has ls 7 [(0, .ref x), (1, .int p0), (2, .int p1), (3, .int p2), (4, .int p3), (5, .ref o)] := hl
  refine lv_aload hx hb dL_setCell_0 (lv_at hl 5 rfl) ?_
  refine lv_iconst (v := 0) hx hb dL_setCell_2 (by decide) ?_
  refine lv_aload_n hx hb dL_setCell_3 rfl (lv_at hl 0 rfl) ?_
  refine lv_iload_n hx hb dL_setCell_4 rfl (lv_at hl 1 rfl) ?_
  refine lv_iload_n hx hb dL_setCell_5 rfl (lv_at hl 2 rfl) ?_
  refine lv_iload_n hx hb dL_setCell_6 rfl (lv_at hl 3 rfl) ?_
  refine lv_iload hx hb dL_setCell_7 (lv_at hl 4 rfl) ?_
  refine y_reti (yrunV (As := [.int p0, .int p1, .int p2, .int p3]) (rest := [.int 0, .ref o]) (q0 := 0) (n := 4) S hml hK (hZ.at E) (Cut.of (wc := ([(x, .inr (6, [.ref (ad 0), .ref ag, .ref wo, .ref dy])), (dy, .inr (8, [.int 0, .ref (g.2.2 0), .int 0]))] ++ wsW g ad (-1) 1 0 ea σ0)) (wr := [(o, .inl (g.2.1 1, 1, .inr (.inl fo)))]) E hA [0, 1, 2, 3, 4, 5, 6, 7, 8, 9, 10, 11, 12, 13, 14, 15, 16, 17, 18, 19, 20, 21, 22, 23, 24, 25, 26, 27, 28, 29, 30, 31, 32] [33] rfl rfl rfl rfl (by decide)) (c_X6_setCell l g hst x ag wo dy ad ea p0 p1 p2 p3 _ _) (gi_wsV ml_L_7 im_X6_setCell sl_X6_setCell in_X6 co_X6_setCell) ⟨rfl, by decide +kernel, by decide +kernel, by decide +kernel⟩ ⟨Nat.le_of_ble_eq_true rfl, Nat.le_of_ble_eq_true rfl⟩ rfl rfl rfl hl.1 rfl (Nat.le_of_ble_eq_true rfl) dL_setCell_9 ⟨Nat.le_of_ble_eq_true rfl, Nat.le_of_ble_eq_true rfl⟩) (Cut.of (wc := ([(x, .inr (6, [.ref (ad 0), .ref ag, .ref wo, .ref dy])), (dy, .inr (8, [.int 0, .ref (g.2.2 0), .int 0]))] ++ wsW g ad (-1) 1 0 ea σ0)) (wr := [(o, .inl (g.2.1 1, 1, .inr (.inl fo)))]) E hA [0, 1, 2, 3, 4, 5, 6, 7, 8, 9, 10, 11, 12, 13, 14, 15, 16, 17, 18, 19, 20, 21, 22, 23, 24, 25, 26, 27, 28, 29, 30, 31, 32] [33] rfl rfl rfl rfl (by decide)) E (fun En ce q9 H locs hp E hce hcv hcl => ?_) (fun r1 u1 H locs hp E => ?_)
  · have E : Ev g _ s.heap H locs ([(o, .inl (g.2.1 1, 1, .inr (.inl fo))), (x, .inr (6, [.ref (ad 0), .ref ag, .ref wo, .ref dy])), (dy, .inr (8, [.int 0, .ref (g.2.2 0), .int 0]))] ++ wsW g ad (-1) 1 0 ea σ0) := E
    rcases hp with ⟨rfl, hT⟩ | ⟨rfl, hT, hTB⟩
    · skip
      refine vx_catch (own := RL) (name := "java/lang/IndexOutOfBoundsException") S.2.2.2 [] ⟨0, 14, 17, 13⟩ [⟨0, 14, 21, 15⟩] htab (fun z hz => by cases hz) (by decide) (by decide) (S.2.2.1 _ cl_L_13) (va_Nw.use rfl (hZ.2.2.2.2.2.2.1 _ nw_ioob rfl)) hce hcv hcl ?_
      refine lv_astore (lv' := [(6, .ref q9), (0, .ref x), (1, .int p0), (2, .int p1), (3, .int p2), (4, .int p3), (5, .ref o)]) hx hb dL_setCell_17 hl (by decide) rfl (fun ls hl => ?_)
      refine lv_iconst (v := 1) hx hb dL_setCell_19 (by decide) ?_
      have hKK : (1 : Int32) = kk_setCell p0 p1 p2 p3 := (by unfold kk_setCell; rw [if_neg hT])
      have E : Ev g _ s.heap H locs [(o, .inl (g.2.1 1, 1, .inr (.inl fo)))] := Ev.sub E [0] rfl rfl
      exact vx_ret (x_iret fo S hr hlk hsz htt hK E dL_setCell_20 ⟨hKK, fun z => absurd (hKK.trans z) (by decide)⟩ rfl ⟨Nat.le_of_ble_eq_true rfl, Nat.le_of_ble_eq_true rfl⟩ ⟨Nat.le_of_ble_eq_true rfl, Nat.le_of_ble_eq_true rfl⟩)
    · skip
      refine vx_catch (own := RL) (name := "java/lang/IllegalArgumentException") S.2.2.2 [⟨0, 14, 17, 13⟩] ⟨0, 14, 21, 15⟩ [] htab (fun z hz => by simp only [List.mem_cons, List.not_mem_nil, or_false] at hz; rcases hz with rfl <;> first | exact Or.inr ⟨by decide, _, S.2.2.1 _ cl_L_13, hZ.2.2.2.2.2.2.2.1 ("java/lang/IllegalArgumentException", "java/lang/IndexOutOfBoundsException") (by decide)⟩) (by decide) (by decide) (S.2.2.1 _ cl_L_15) (va_Nw.use rfl (hZ.2.2.2.2.2.2.1 _ nw_iae rfl)) hce hcv hcl ?_
      refine lv_astore (lv' := [(6, .ref q9), (0, .ref x), (1, .int p0), (2, .int p1), (3, .int p2), (4, .int p3), (5, .ref o)]) hx hb dL_setCell_21 hl (by decide) rfl (fun ls hl => ?_)
      refine lv_iconst (v := 2) hx hb dL_setCell_23 (by decide) ?_
      have hKK : (2 : Int32) = kk_setCell p0 p1 p2 p3 := (by unfold kk_setCell; rw [if_pos hT, if_neg hTB])
      have E : Ev g _ s.heap H locs [(o, .inl (g.2.1 1, 1, .inr (.inl fo)))] := Ev.sub E [0] rfl rfl
      exact vx_ret (x_iret fo S hr hlk hsz htt hK E dL_setCell_24 ⟨hKK, fun z => absurd (hKK.trans z) (by decide)⟩ rfl ⟨Nat.le_of_ble_eq_true rfl, Nat.le_of_ble_eq_true rfl⟩ ⟨Nat.le_of_ble_eq_true rfl, Nat.le_of_ble_eq_true rfl⟩)
  · skip
    have E : Ev g _ s.heap H locs [(o, .inl (g.2.1 1, 1, .inr (.inl fo))), (x, .inr (6, [.ref (ad 0), .ref ag, .ref wo, .ref dy]))] := E
    obtain ⟨rfl, hQ0, hQ1, hQ2, hQ3⟩ := hp
    refine lv_i2l (v := 0) hx hb dL_setCell_12 (by decide) ?_
    refine w_lst (w' := [(o, .inl (g.2.1 1, 1, .inr (.inl (vp_updL fo (0 : Int32).toNatClampNeg 0)))), (x, .inr (6, [.ref (ad 0), .ref ag, .ref wo, .ref dy]))]) S hK E 0 1 rfl rfl (show vp_in 0 1 by unfold vp_in; decide) rfl dL_setCell_13 (fun H locs E => ?_)
    refine lv_goto (tgt := 25) hx hb dL_setCell_14 (by decide) ?_
    refine lv_iconst (v := 0) hx hb dL_setCell_25 (by decide) ?_
    have hKK : (0 : Int32) = kk_setCell p0 p1 p2 p3 := (by unfold kk_setCell; rw [if_pos hQ0, if_pos ⟨hQ1, hQ2, hQ3⟩])
    have E : Ev g _ s.heap H locs [(o, .inl (g.2.1 1, 1, .inr (.inl (vp_updL fo (0 : Int32).toNatClampNeg 0))))] := Ev.sub E [0] rfl rfl
    exact vx_ret (x_iret (vp_updL fo (0 : Int32).toNatClampNeg 0) S hr hlk hsz htt hK E dL_setCell_26 ⟨hKK, fun _ => rfl⟩ rfl ⟨Nat.le_of_ble_eq_true rfl, Nat.le_of_ble_eq_true rfl⟩ ⟨Nat.le_of_ble_eq_true rfl, Nat.le_of_ble_eq_true rfl⟩)

theorem dL_setGround_0 : decode cL_setGround 0 = .ok (.aload_n 3, 1) := by decide +kernel
theorem dL_setGround_1 : decode cL_setGround 1 = .ok (.iconst 0, 1) := by decide +kernel
theorem dL_setGround_2 : decode cL_setGround 2 = .ok (.aload_n 0, 1) := by decide +kernel
theorem dL_setGround_3 : decode cL_setGround 3 = .ok (.iload_n 1, 1) := by decide +kernel
theorem dL_setGround_4 : decode cL_setGround 4 = .ok (.iload_n 2, 1) := by decide +kernel
theorem dL_setGround_5 : decode cL_setGround 5 = .ok (.invokevirtual 17, 3) := by decide +kernel
theorem dL_setGround_8 : decode cL_setGround 8 = .ok (.i2l, 1) := by decide +kernel
theorem dL_setGround_9 : decode cL_setGround 9 = .ok (.lastore, 1) := by decide +kernel
theorem dL_setGround_10 : decode cL_setGround 10 = .ok (.goto 11, 3) := by decide +kernel
theorem dL_setGround_13 : decode cL_setGround 13 = .ok (.astore 4, 2) := by decide +kernel
theorem dL_setGround_15 : decode cL_setGround 15 = .ok (.iconst 1, 1) := by decide +kernel
theorem dL_setGround_16 : decode cL_setGround 16 = .ok (.ireturn, 1) := by decide +kernel
theorem dL_setGround_17 : decode cL_setGround 17 = .ok (.astore 4, 2) := by decide +kernel
theorem dL_setGround_19 : decode cL_setGround 19 = .ok (.iconst 2, 1) := by decide +kernel
theorem dL_setGround_20 : decode cL_setGround 20 = .ok (.ireturn, 1) := by decide +kernel
theorem dL_setGround_21 : decode cL_setGround 21 = .ok (.iconst 0, 1) := by decide +kernel
theorem dL_setGround_22 : decode cL_setGround 22 = .ok (.ireturn, 1) := by decide +kernel
set_option maxHeartbeats 4000000 in
set_option maxRecDepth 100000 in
/-- law: setGround -/
theorem c_L_setGround (l : Launch) (g : Gm) (hst : l.stackTraces = false) (x : Nat) (ag : Nat) (wo : Nat) (dy : Nat) (ad : Nat → Nat) (ea : Nat) (p0 : Int32) (p1 : Int32) (o : Nat) (fo : Nat → Int64) : HXi (S := Nat → Int64) l g yL_setGround cL_setGround 5 .int [(0, 10, 13, 13), (0, 10, 17, 15)] ({ frames := 8, cells := 14, slots := 100015, locals := 145 } : Room) [.ref x, .int p0, .int p1, .ref o] ([(x, .inr (6, [.ref (ad 0), .ref ag, .ref wo, .ref dy])), (dy, .inr (8, [.int 0, .ref (g.2.2 0), .int 0]))] ++ wsW g ad (-1) 1 0 ea σ0 ++ [(o, .inl (g.2.1 1, 1, .inr (.inl fo)))]) (fun r u => r = kk_setGround p0 p1 ∧ (kk_setGround p0 p1 = 0 → u 0 = 100)) (fun u => [(o, .inl (g.2.1 1, 1, .inr (.inl u)))]) (fun _ => (14, 100015)) := by
  intro sz tt
  refine ofH RL rfl (by decide +kernel) (Nat.le_of_ble_eq_true rfl) (fun p e s m args below meth c hargs S hml hr hlk htab hsz htt hK hA hZ E ls hl => ?_)
  have hx := S.1
  have hb := S.2.1
  have hl : lv_has ls 5 [(0, .ref x), (1, .int p0), (2, .int p1), (3, .ref o)] := hl
  refine lv_aload_n hx hb dL_setGround_0 rfl (lv_at hl 3 rfl) ?_
  refine lv_iconst (v := 0) hx hb dL_setGround_1 (by decide) ?_
  refine lv_aload_n hx hb dL_setGround_2 rfl (lv_at hl 0 rfl) ?_
  refine lv_iload_n hx hb dL_setGround_3 rfl (lv_at hl 1 rfl) ?_
  refine lv_iload_n hx hb dL_setGround_4 rfl (lv_at hl 2 rfl) ?_
  refine y_reti (yrunV (As := [.int p0, .int p1]) (rest := [.int 0, .ref o]) (q0 := 0) (n := 2) S hml hK (hZ.at E) (Cut.of (wc := ([(x, .inr (6, [.ref (ad 0), .ref ag, .ref wo, .ref dy])), (dy, .inr (8, [.int 0, .ref (g.2.2 0), .int 0]))] ++ wsW g ad (-1) 1 0 ea σ0)) (wr := [(o, .inl (g.2.1 1, 1, .inr (.inl fo)))]) E hA [0, 1, 2, 3, 4, 5, 6, 7, 8, 9, 10, 11, 12, 13, 14, 15, 16, 17, 18, 19, 20, 21, 22, 23, 24, 25, 26, 27, 28, 29, 30, 31, 32] [33] rfl rfl rfl rfl (by decide)) (c_X6_setGround l g hst x ag wo dy ad ea p0 p1 _ _) (gi_wsV ml_L_17 im_X6_setGround sl_X6_setGround in_X6 co_X6_setGround) ⟨rfl, by decide +kernel, by decide +kernel, by decide +kernel⟩ ⟨Nat.le_of_ble_eq_true rfl, Nat.le_of_ble_eq_true rfl⟩ rfl rfl rfl hl.1 rfl (Nat.le_of_ble_eq_true rfl) dL_setGround_5 ⟨Nat.le_of_ble_eq_true rfl, Nat.le_of_ble_eq_true rfl⟩) (Cut.of (wc := ([(x, .inr (6, [.ref (ad 0), .ref ag, .ref wo, .ref dy])), (dy, .inr (8, [.int 0, .ref (g.2.2 0), .int 0]))] ++ wsW g ad (-1) 1 0 ea σ0)) (wr := [(o, .inl (g.2.1 1, 1, .inr (.inl fo)))]) E hA [0, 1, 2, 3, 4, 5, 6, 7, 8, 9, 10, 11, 12, 13, 14, 15, 16, 17, 18, 19, 20, 21, 22, 23, 24, 25, 26, 27, 28, 29, 30, 31, 32] [33] rfl rfl rfl rfl (by decide)) E (fun En ce q9 H locs hp E hce hcv hcl => ?_) (fun r1 u1 H locs hp E => ?_)
  · have E : Ev g _ s.heap H locs ([(o, .inl (g.2.1 1, 1, .inr (.inl fo))), (x, .inr (6, [.ref (ad 0), .ref ag, .ref wo, .ref dy])), (dy, .inr (8, [.int 0, .ref (g.2.2 0), .int 0]))] ++ wsW g ad (-1) 1 0 ea σ0) := E
    rcases hp with ⟨rfl, hT⟩ | ⟨rfl, hT, hTB⟩
    · skip
      refine vx_catch (own := RL) (name := "java/lang/IndexOutOfBoundsException") S.2.2.2 [] ⟨0, 10, 13, 13⟩ [⟨0, 10, 17, 15⟩] htab (fun z hz => by cases hz) (by decide) (by decide) (S.2.2.1 _ cl_L_13) (va_Nw.use rfl (hZ.2.2.2.2.2.2.1 _ nw_ioob rfl)) hce hcv hcl ?_
      refine lv_astore (lv' := [(4, .ref q9), (0, .ref x), (1, .int p0), (2, .int p1), (3, .ref o)]) hx hb dL_setGround_13 hl (by decide) rfl (fun ls hl => ?_)
      refine lv_iconst (v := 1) hx hb dL_setGround_15 (by decide) ?_
      have hKK : (1 : Int32) = kk_setGround p0 p1 := (by unfold kk_setGround; rw [if_neg hT])
      have E : Ev g _ s.heap H locs [(o, .inl (g.2.1 1, 1, .inr (.inl fo)))] := Ev.sub E [0] rfl rfl
      exact vx_ret (x_iret fo S hr hlk hsz htt hK E dL_setGround_16 ⟨hKK, fun z => absurd (hKK.trans z) (by decide)⟩ rfl ⟨Nat.le_of_ble_eq_true rfl, Nat.le_of_ble_eq_true rfl⟩ ⟨Nat.le_of_ble_eq_true rfl, Nat.le_of_ble_eq_true rfl⟩)
    · skip
      refine vx_catch (own := RL) (name := "java/lang/IllegalArgumentException") S.2.2.2 [⟨0, 10, 13, 13⟩] ⟨0, 10, 17, 15⟩ [] htab (fun z hz => by simp only [List.mem_cons, List.not_mem_nil, or_false] at hz; rcases hz with rfl <;> first | exact Or.inr ⟨by decide, _, S.2.2.1 _ cl_L_13, hZ.2.2.2.2.2.2.2.1 ("java/lang/IllegalArgumentException", "java/lang/IndexOutOfBoundsException") (by decide)⟩) (by decide) (by decide) (S.2.2.1 _ cl_L_15) (va_Nw.use rfl (hZ.2.2.2.2.2.2.1 _ nw_iae rfl)) hce hcv hcl ?_
      refine lv_astore (lv' := [(4, .ref q9), (0, .ref x), (1, .int p0), (2, .int p1), (3, .ref o)]) hx hb dL_setGround_17 hl (by decide) rfl (fun ls hl => ?_)
      refine lv_iconst (v := 2) hx hb dL_setGround_19 (by decide) ?_
      have hKK : (2 : Int32) = kk_setGround p0 p1 := (by unfold kk_setGround; rw [if_pos hT, if_neg hTB])
      have E : Ev g _ s.heap H locs [(o, .inl (g.2.1 1, 1, .inr (.inl fo)))] := Ev.sub E [0] rfl rfl
      exact vx_ret (x_iret fo S hr hlk hsz htt hK E dL_setGround_20 ⟨hKK, fun z => absurd (hKK.trans z) (by decide)⟩ rfl ⟨Nat.le_of_ble_eq_true rfl, Nat.le_of_ble_eq_true rfl⟩ ⟨Nat.le_of_ble_eq_true rfl, Nat.le_of_ble_eq_true rfl⟩)
  · skip
    have E : Ev g _ s.heap H locs [(o, .inl (g.2.1 1, 1, .inr (.inl fo))), (x, .inr (6, [.ref (ad 0), .ref ag, .ref wo, .ref dy]))] := E
    obtain ⟨rfl, hQ0, hQ1⟩ := hp
    refine lv_i2l (v := 100) hx hb dL_setGround_8 (by decide) ?_
    refine w_lst (w' := [(o, .inl (g.2.1 1, 1, .inr (.inl (vp_updL fo (0 : Int32).toNatClampNeg 100)))), (x, .inr (6, [.ref (ad 0), .ref ag, .ref wo, .ref dy]))]) S hK E 0 1 rfl rfl (show vp_in 0 1 by unfold vp_in; decide) rfl dL_setGround_9 (fun H locs E => ?_)
    refine lv_goto (tgt := 21) hx hb dL_setGround_10 (by decide) ?_
    refine lv_iconst (v := 0) hx hb dL_setGround_21 (by decide) ?_
    have hKK : (0 : Int32) = kk_setGround p0 p1 := (by unfold kk_setGround; rw [if_pos hQ0, if_pos hQ1])
    have E : Ev g _ s.heap H locs [(o, .inl (g.2.1 1, 1, .inr (.inl (vp_updL fo (0 : Int32).toNatClampNeg 100))))] := Ev.sub E [0] rfl rfl
    exact vx_ret (x_iret (vp_updL fo (0 : Int32).toNatClampNeg 100) S hr hlk hsz htt hK E dL_setGround_22 ⟨hKK, fun _ => rfl⟩ rfl ⟨Nat.le_of_ble_eq_true rfl, Nat.le_of_ble_eq_true rfl⟩ ⟨Nat.le_of_ble_eq_true rfl, Nat.le_of_ble_eq_true rfl⟩)

theorem dL_setConductance_0 : decode cL_setConductance 0 = .ok (.aload_n 3, 1) := by decide +kernel
theorem dL_setConductance_1 : decode cL_setConductance 1 = .ok (.iconst 0, 1) := by decide +kernel
theorem dL_setConductance_2 : decode cL_setConductance 2 = .ok (.aload_n 0, 1) := by decide +kernel
theorem dL_setConductance_3 : decode cL_setConductance 3 = .ok (.iload_n 1, 1) := by decide +kernel
theorem dL_setConductance_4 : decode cL_setConductance 4 = .ok (.iload_n 2, 1) := by decide +kernel
theorem dL_setConductance_5 : decode cL_setConductance 5 = .ok (.invokevirtual 21, 3) := by decide +kernel
theorem dL_setConductance_8 : decode cL_setConductance 8 = .ok (.i2l, 1) := by decide +kernel
theorem dL_setConductance_9 : decode cL_setConductance 9 = .ok (.lastore, 1) := by decide +kernel
theorem dL_setConductance_10 : decode cL_setConductance 10 = .ok (.goto 11, 3) := by decide +kernel
theorem dL_setConductance_13 : decode cL_setConductance 13 = .ok (.astore 4, 2) := by decide +kernel
theorem dL_setConductance_15 : decode cL_setConductance 15 = .ok (.iconst 1, 1) := by decide +kernel
theorem dL_setConductance_16 : decode cL_setConductance 16 = .ok (.ireturn, 1) := by decide +kernel
theorem dL_setConductance_17 : decode cL_setConductance 17 = .ok (.astore 4, 2) := by decide +kernel
theorem dL_setConductance_19 : decode cL_setConductance 19 = .ok (.iconst 2, 1) := by decide +kernel
theorem dL_setConductance_20 : decode cL_setConductance 20 = .ok (.ireturn, 1) := by decide +kernel
theorem dL_setConductance_21 : decode cL_setConductance 21 = .ok (.iconst 0, 1) := by decide +kernel
theorem dL_setConductance_22 : decode cL_setConductance 22 = .ok (.ireturn, 1) := by decide +kernel
set_option maxHeartbeats 4000000 in
set_option maxRecDepth 100000 in
/-- law: setConductance -/
theorem c_L_setConductance (l : Launch) (g : Gm) (hst : l.stackTraces = false) (x : Nat) (ag : Nat) (wo : Nat) (dy : Nat) (ad : Nat → Nat) (ea : Nat) (p0 : Int32) (p1 : Int32) (o : Nat) (fo : Nat → Int64) : HXi (S := Nat → Int64) l g yL_setConductance cL_setConductance 5 .int [(0, 10, 13, 13), (0, 10, 17, 15)] ({ frames := 8, cells := 14, slots := 100015, locals := 145 } : Room) [.ref x, .int p0, .int p1, .ref o] ([(x, .inr (6, [.ref (ad 0), .ref ag, .ref wo, .ref dy])), (dy, .inr (8, [.int 0, .ref (g.2.2 0), .int 0]))] ++ wsW g ad (-1) 1 0 ea σ0 ++ [(o, .inl (g.2.1 1, 1, .inr (.inl fo)))]) (fun r u => r = kk_setConductance p0 p1 ∧ (kk_setConductance p0 p1 = 0 → u 0 = 4)) (fun u => [(o, .inl (g.2.1 1, 1, .inr (.inl u)))]) (fun _ => (14, 100015)) := by
  intro sz tt
  refine ofH RL rfl (by decide +kernel) (Nat.le_of_ble_eq_true rfl) (fun p e s m args below meth c hargs S hml hr hlk htab hsz htt hK hA hZ E ls hl => ?_)
  have hx := S.1
  have hb := S.2.1
  have hl : lv_has ls 5 [(0, .ref x), (1, .int p0), (2, .int p1), (3, .ref o)] := hl
  refine lv_aload_n hx hb dL_setConductance_0 rfl (lv_at hl 3 rfl) ?_
  refine lv_iconst (v := 0) hx hb dL_setConductance_1 (by decide) ?_
  refine lv_aload_n hx hb dL_setConductance_2 rfl (lv_at hl 0 rfl) ?_
  refine lv_iload_n hx hb dL_setConductance_3 rfl (lv_at hl 1 rfl) ?_
  refine lv_iload_n hx hb dL_setConductance_4 rfl (lv_at hl 2 rfl) ?_
  refine y_reti (yrunV (As := [.int p0, .int p1]) (rest := [.int 0, .ref o]) (q0 := 0) (n := 2) S hml hK (hZ.at E) (Cut.of (wc := ([(x, .inr (6, [.ref (ad 0), .ref ag, .ref wo, .ref dy])), (dy, .inr (8, [.int 0, .ref (g.2.2 0), .int 0]))] ++ wsW g ad (-1) 1 0 ea σ0)) (wr := [(o, .inl (g.2.1 1, 1, .inr (.inl fo)))]) E hA [0, 1, 2, 3, 4, 5, 6, 7, 8, 9, 10, 11, 12, 13, 14, 15, 16, 17, 18, 19, 20, 21, 22, 23, 24, 25, 26, 27, 28, 29, 30, 31, 32] [33] rfl rfl rfl rfl (by decide)) (c_X6_setConductance l g hst x ag wo dy ad ea p0 p1 _ _) (gi_wsV ml_L_21 im_X6_setConductance sl_X6_setConductance in_X6 co_X6_setConductance) ⟨rfl, by decide +kernel, by decide +kernel, by decide +kernel⟩ ⟨Nat.le_of_ble_eq_true rfl, Nat.le_of_ble_eq_true rfl⟩ rfl rfl rfl hl.1 rfl (Nat.le_of_ble_eq_true rfl) dL_setConductance_5 ⟨Nat.le_of_ble_eq_true rfl, Nat.le_of_ble_eq_true rfl⟩) (Cut.of (wc := ([(x, .inr (6, [.ref (ad 0), .ref ag, .ref wo, .ref dy])), (dy, .inr (8, [.int 0, .ref (g.2.2 0), .int 0]))] ++ wsW g ad (-1) 1 0 ea σ0)) (wr := [(o, .inl (g.2.1 1, 1, .inr (.inl fo)))]) E hA [0, 1, 2, 3, 4, 5, 6, 7, 8, 9, 10, 11, 12, 13, 14, 15, 16, 17, 18, 19, 20, 21, 22, 23, 24, 25, 26, 27, 28, 29, 30, 31, 32] [33] rfl rfl rfl rfl (by decide)) E (fun En ce q9 H locs hp E hce hcv hcl => ?_) (fun r1 u1 H locs hp E => ?_)
  · have E : Ev g _ s.heap H locs ([(o, .inl (g.2.1 1, 1, .inr (.inl fo))), (x, .inr (6, [.ref (ad 0), .ref ag, .ref wo, .ref dy])), (dy, .inr (8, [.int 0, .ref (g.2.2 0), .int 0]))] ++ wsW g ad (-1) 1 0 ea σ0) := E
    rcases hp with ⟨rfl, hT⟩ | ⟨rfl, hT, hTB⟩
    · skip
      refine vx_catch (own := RL) (name := "java/lang/IndexOutOfBoundsException") S.2.2.2 [] ⟨0, 10, 13, 13⟩ [⟨0, 10, 17, 15⟩] htab (fun z hz => by cases hz) (by decide) (by decide) (S.2.2.1 _ cl_L_13) (va_Nw.use rfl (hZ.2.2.2.2.2.2.1 _ nw_ioob rfl)) hce hcv hcl ?_
      refine lv_astore (lv' := [(4, .ref q9), (0, .ref x), (1, .int p0), (2, .int p1), (3, .ref o)]) hx hb dL_setConductance_13 hl (by decide) rfl (fun ls hl => ?_)
      refine lv_iconst (v := 1) hx hb dL_setConductance_15 (by decide) ?_
      have hKK : (1 : Int32) = kk_setConductance p0 p1 := (by unfold kk_setConductance; rw [if_neg hT])
      have E : Ev g _ s.heap H locs [(o, .inl (g.2.1 1, 1, .inr (.inl fo)))] := Ev.sub E [0] rfl rfl
      exact vx_ret (x_iret fo S hr hlk hsz htt hK E dL_setConductance_16 ⟨hKK, fun z => absurd (hKK.trans z) (by decide)⟩ rfl ⟨Nat.le_of_ble_eq_true rfl, Nat.le_of_ble_eq_true rfl⟩ ⟨Nat.le_of_ble_eq_true rfl, Nat.le_of_ble_eq_true rfl⟩)
    · skip
      refine vx_catch (own := RL) (name := "java/lang/IllegalArgumentException") S.2.2.2 [⟨0, 10, 13, 13⟩] ⟨0, 10, 17, 15⟩ [] htab (fun z hz => by simp only [List.mem_cons, List.not_mem_nil, or_false] at hz; rcases hz with rfl <;> first | exact Or.inr ⟨by decide, _, S.2.2.1 _ cl_L_13, hZ.2.2.2.2.2.2.2.1 ("java/lang/IllegalArgumentException", "java/lang/IndexOutOfBoundsException") (by decide)⟩) (by decide) (by decide) (S.2.2.1 _ cl_L_15) (va_Nw.use rfl (hZ.2.2.2.2.2.2.1 _ nw_iae rfl)) hce hcv hcl ?_
      refine lv_astore (lv' := [(4, .ref q9), (0, .ref x), (1, .int p0), (2, .int p1), (3, .ref o)]) hx hb dL_setConductance_17 hl (by decide) rfl (fun ls hl => ?_)
      refine lv_iconst (v := 2) hx hb dL_setConductance_19 (by decide) ?_
      have hKK : (2 : Int32) = kk_setConductance p0 p1 := (by unfold kk_setConductance; rw [if_pos hT, if_neg hTB])
      have E : Ev g _ s.heap H locs [(o, .inl (g.2.1 1, 1, .inr (.inl fo)))] := Ev.sub E [0] rfl rfl
      exact vx_ret (x_iret fo S hr hlk hsz htt hK E dL_setConductance_20 ⟨hKK, fun z => absurd (hKK.trans z) (by decide)⟩ rfl ⟨Nat.le_of_ble_eq_true rfl, Nat.le_of_ble_eq_true rfl⟩ ⟨Nat.le_of_ble_eq_true rfl, Nat.le_of_ble_eq_true rfl⟩)
  · skip
    have E : Ev g _ s.heap H locs [(o, .inl (g.2.1 1, 1, .inr (.inl fo))), (x, .inr (6, [.ref (ad 0), .ref ag, .ref wo, .ref dy]))] := E
    obtain ⟨rfl, hQ0, hQ1⟩ := hp
    refine lv_i2l (v := 4) hx hb dL_setConductance_8 (by decide) ?_
    refine w_lst (w' := [(o, .inl (g.2.1 1, 1, .inr (.inl (vp_updL fo (0 : Int32).toNatClampNeg 4)))), (x, .inr (6, [.ref (ad 0), .ref ag, .ref wo, .ref dy]))]) S hK E 0 1 rfl rfl (show vp_in 0 1 by unfold vp_in; decide) rfl dL_setConductance_9 (fun H locs E => ?_)
    refine lv_goto (tgt := 21) hx hb dL_setConductance_10 (by decide) ?_
    refine lv_iconst (v := 0) hx hb dL_setConductance_21 (by decide) ?_
    have hKK : (0 : Int32) = kk_setConductance p0 p1 := (by unfold kk_setConductance; rw [if_pos hQ0, if_pos hQ1])
    have E : Ev g _ s.heap H locs [(o, .inl (g.2.1 1, 1, .inr (.inl (vp_updL fo (0 : Int32).toNatClampNeg 4))))] := Ev.sub E [0] rfl rfl
    exact vx_ret (x_iret (vp_updL fo (0 : Int32).toNatClampNeg 4) S hr hlk hsz htt hK E dL_setConductance_22 ⟨hKK, fun _ => rfl⟩ rfl ⟨Nat.le_of_ble_eq_true rfl, Nat.le_of_ble_eq_true rfl⟩ ⟨Nat.le_of_ble_eq_true rfl, Nat.le_of_ble_eq_true rfl⟩)

theorem dL_setLeakage_0 : decode cL_setLeakage 0 = .ok (.aload_n 3, 1) := by decide +kernel
theorem dL_setLeakage_1 : decode cL_setLeakage 1 = .ok (.iconst 0, 1) := by decide +kernel
theorem dL_setLeakage_2 : decode cL_setLeakage 2 = .ok (.aload_n 0, 1) := by decide +kernel
theorem dL_setLeakage_3 : decode cL_setLeakage 3 = .ok (.iload_n 1, 1) := by decide +kernel
theorem dL_setLeakage_4 : decode cL_setLeakage 4 = .ok (.iload_n 2, 1) := by decide +kernel
theorem dL_setLeakage_5 : decode cL_setLeakage 5 = .ok (.invokevirtual 24, 3) := by decide +kernel
theorem dL_setLeakage_8 : decode cL_setLeakage 8 = .ok (.i2l, 1) := by decide +kernel
theorem dL_setLeakage_9 : decode cL_setLeakage 9 = .ok (.lastore, 1) := by decide +kernel
theorem dL_setLeakage_10 : decode cL_setLeakage 10 = .ok (.goto 11, 3) := by decide +kernel
theorem dL_setLeakage_13 : decode cL_setLeakage 13 = .ok (.astore 4, 2) := by decide +kernel
theorem dL_setLeakage_15 : decode cL_setLeakage 15 = .ok (.iconst 1, 1) := by decide +kernel
theorem dL_setLeakage_16 : decode cL_setLeakage 16 = .ok (.ireturn, 1) := by decide +kernel
theorem dL_setLeakage_17 : decode cL_setLeakage 17 = .ok (.astore 4, 2) := by decide +kernel
theorem dL_setLeakage_19 : decode cL_setLeakage 19 = .ok (.iconst 2, 1) := by decide +kernel
theorem dL_setLeakage_20 : decode cL_setLeakage 20 = .ok (.ireturn, 1) := by decide +kernel
theorem dL_setLeakage_21 : decode cL_setLeakage 21 = .ok (.iconst 0, 1) := by decide +kernel
theorem dL_setLeakage_22 : decode cL_setLeakage 22 = .ok (.ireturn, 1) := by decide +kernel
set_option maxHeartbeats 4000000 in
set_option maxRecDepth 100000 in
/-- law: setLeakage -/
theorem c_L_setLeakage (l : Launch) (g : Gm) (hst : l.stackTraces = false) (x : Nat) (ag : Nat) (wo : Nat) (dy : Nat) (ad : Nat → Nat) (ea : Nat) (p0 : Int32) (p1 : Int32) (o : Nat) (fo : Nat → Int64) : HXi (S := Nat → Int64) l g yL_setLeakage cL_setLeakage 5 .int [(0, 10, 13, 13), (0, 10, 17, 15)] ({ frames := 8, cells := 14, slots := 100015, locals := 145 } : Room) [.ref x, .int p0, .int p1, .ref o] ([(x, .inr (6, [.ref (ad 0), .ref ag, .ref wo, .ref dy])), (dy, .inr (8, [.int 0, .ref (g.2.2 0), .int 0]))] ++ wsW g ad (-1) 1 0 ea σ0 ++ [(o, .inl (g.2.1 1, 1, .inr (.inl fo)))]) (fun r u => r = kk_setLeakage p0 p1 ∧ (kk_setLeakage p0 p1 = 0 → u 0 = 0)) (fun u => [(o, .inl (g.2.1 1, 1, .inr (.inl u)))]) (fun _ => (14, 100015)) := by
  intro sz tt
  refine ofH RL rfl (by decide +kernel) (Nat.le_of_ble_eq_true rfl) (fun p e s m args below meth c hargs S hml hr hlk htab hsz htt hK hA hZ E ls hl => ?_)
  have hx := S.1
  have hb := S.2.1
  have hl : lv_has ls 5 [(0, .ref x), (1, .int p0), (2, .int p1), (3, .ref o)] := hl
  refine lv_aload_n hx hb dL_setLeakage_0 rfl (lv_at hl 3 rfl) ?_
  refine lv_iconst (v := 0) hx hb dL_setLeakage_1 (by decide) ?_
  refine lv_aload_n hx hb dL_setLeakage_2 rfl (lv_at hl 0 rfl) ?_
  refine lv_iload_n hx hb dL_setLeakage_3 rfl (lv_at hl 1 rfl) ?_
  refine lv_iload_n hx hb dL_setLeakage_4 rfl (lv_at hl 2 rfl) ?_
  refine y_reti (yrunV (As := [.int p0, .int p1]) (rest := [.int 0, .ref o]) (q0 := 0) (n := 2) S hml hK (hZ.at E) (Cut.of (wc := ([(x, .inr (6, [.ref (ad 0), .ref ag, .ref wo, .ref dy])), (dy, .inr (8, [.int 0, .ref (g.2.2 0), .int 0]))] ++ wsW g ad (-1) 1 0 ea σ0)) (wr := [(o, .inl (g.2.1 1, 1, .inr (.inl fo)))]) E hA [0, 1, 2, 3, 4, 5, 6, 7, 8, 9, 10, 11, 12, 13, 14, 15, 16, 17, 18, 19, 20, 21, 22, 23, 24, 25, 26, 27, 28, 29, 30, 31, 32] [33] rfl rfl rfl rfl (by decide)) (c_X6_setLeakage l g hst x ag wo dy ad ea p0 p1 _ _) (gi_wsV ml_L_24 im_X6_setLeakage sl_X6_setLeakage in_X6 co_X6_setLeakage) ⟨rfl, by decide +kernel, by decide +kernel, by decide +kernel⟩ ⟨Nat.le_of_ble_eq_true rfl, Nat.le_of_ble_eq_true rfl⟩ rfl rfl rfl hl.1 rfl (Nat.le_of_ble_eq_true rfl) dL_setLeakage_5 ⟨Nat.le_of_ble_eq_true rfl, Nat.le_of_ble_eq_true rfl⟩) (Cut.of (wc := ([(x, .inr (6, [.ref (ad 0), .ref ag, .ref wo, .ref dy])), (dy, .inr (8, [.int 0, .ref (g.2.2 0), .int 0]))] ++ wsW g ad (-1) 1 0 ea σ0)) (wr := [(o, .inl (g.2.1 1, 1, .inr (.inl fo)))]) E hA [0, 1, 2, 3, 4, 5, 6, 7, 8, 9, 10, 11, 12, 13, 14, 15, 16, 17, 18, 19, 20, 21, 22, 23, 24, 25, 26, 27, 28, 29, 30, 31, 32] [33] rfl rfl rfl rfl (by decide)) E (fun En ce q9 H locs hp E hce hcv hcl => ?_) (fun r1 u1 H locs hp E => ?_)
  · have E : Ev g _ s.heap H locs ([(o, .inl (g.2.1 1, 1, .inr (.inl fo))), (x, .inr (6, [.ref (ad 0), .ref ag, .ref wo, .ref dy])), (dy, .inr (8, [.int 0, .ref (g.2.2 0), .int 0]))] ++ wsW g ad (-1) 1 0 ea σ0) := E
    rcases hp with ⟨rfl, hT⟩ | ⟨rfl, hT, hTB⟩
    · skip
      refine vx_catch (own := RL) (name := "java/lang/IndexOutOfBoundsException") S.2.2.2 [] ⟨0, 10, 13, 13⟩ [⟨0, 10, 17, 15⟩] htab (fun z hz => by cases hz) (by decide) (by decide) (S.2.2.1 _ cl_L_13) (va_Nw.use rfl (hZ.2.2.2.2.2.2.1 _ nw_ioob rfl)) hce hcv hcl ?_
      refine lv_astore (lv' := [(4, .ref q9), (0, .ref x), (1, .int p0), (2, .int p1), (3, .ref o)]) hx hb dL_setLeakage_13 hl (by decide) rfl (fun ls hl => ?_)
      refine lv_iconst (v := 1) hx hb dL_setLeakage_15 (by decide) ?_
      have hKK : (1 : Int32) = kk_setLeakage p0 p1 := (by unfold kk_setLeakage; rw [if_neg hT])
      have E : Ev g _ s.heap H locs [(o, .inl (g.2.1 1, 1, .inr (.inl fo)))] := Ev.sub E [0] rfl rfl
      exact vx_ret (x_iret fo S hr hlk hsz htt hK E dL_setLeakage_16 ⟨hKK, fun z => absurd (hKK.trans z) (by decide)⟩ rfl ⟨Nat.le_of_ble_eq_true rfl, Nat.le_of_ble_eq_true rfl⟩ ⟨Nat.le_of_ble_eq_true rfl, Nat.le_of_ble_eq_true rfl⟩)
    · skip
      refine vx_catch (own := RL) (name := "java/lang/IllegalArgumentException") S.2.2.2 [⟨0, 10, 13, 13⟩] ⟨0, 10, 17, 15⟩ [] htab (fun z hz => by simp only [List.mem_cons, List.not_mem_nil, or_false] at hz; rcases hz with rfl <;> first | exact Or.inr ⟨by decide, _, S.2.2.1 _ cl_L_13, hZ.2.2.2.2.2.2.2.1 ("java/lang/IllegalArgumentException", "java/lang/IndexOutOfBoundsException") (by decide)⟩) (by decide) (by decide) (S.2.2.1 _ cl_L_15) (va_Nw.use rfl (hZ.2.2.2.2.2.2.1 _ nw_iae rfl)) hce hcv hcl ?_
      refine lv_astore (lv' := [(4, .ref q9), (0, .ref x), (1, .int p0), (2, .int p1), (3, .ref o)]) hx hb dL_setLeakage_17 hl (by decide) rfl (fun ls hl => ?_)
      refine lv_iconst (v := 2) hx hb dL_setLeakage_19 (by decide) ?_
      have hKK : (2 : Int32) = kk_setLeakage p0 p1 := (by unfold kk_setLeakage; rw [if_pos hT, if_neg hTB])
      have E : Ev g _ s.heap H locs [(o, .inl (g.2.1 1, 1, .inr (.inl fo)))] := Ev.sub E [0] rfl rfl
      exact vx_ret (x_iret fo S hr hlk hsz htt hK E dL_setLeakage_20 ⟨hKK, fun z => absurd (hKK.trans z) (by decide)⟩ rfl ⟨Nat.le_of_ble_eq_true rfl, Nat.le_of_ble_eq_true rfl⟩ ⟨Nat.le_of_ble_eq_true rfl, Nat.le_of_ble_eq_true rfl⟩)
  · skip
    have E : Ev g _ s.heap H locs [(o, .inl (g.2.1 1, 1, .inr (.inl fo))), (x, .inr (6, [.ref (ad 0), .ref ag, .ref wo, .ref dy]))] := E
    obtain ⟨rfl, hQ0, hQ1⟩ := hp
    refine lv_i2l (v := 0) hx hb dL_setLeakage_8 (by decide) ?_
    refine w_lst (w' := [(o, .inl (g.2.1 1, 1, .inr (.inl (vp_updL fo (0 : Int32).toNatClampNeg 0)))), (x, .inr (6, [.ref (ad 0), .ref ag, .ref wo, .ref dy]))]) S hK E 0 1 rfl rfl (show vp_in 0 1 by unfold vp_in; decide) rfl dL_setLeakage_9 (fun H locs E => ?_)
    refine lv_goto (tgt := 21) hx hb dL_setLeakage_10 (by decide) ?_
    refine lv_iconst (v := 0) hx hb dL_setLeakage_21 (by decide) ?_
    have hKK : (0 : Int32) = kk_setLeakage p0 p1 := (by unfold kk_setLeakage; rw [if_pos hQ0, if_pos hQ1])
    have E : Ev g _ s.heap H locs [(o, .inl (g.2.1 1, 1, .inr (.inl (vp_updL fo (0 : Int32).toNatClampNeg 0))))] := Ev.sub E [0] rfl rfl
    exact vx_ret (x_iret (vp_updL fo (0 : Int32).toNatClampNeg 0) S hr hlk hsz htt hK E dL_setLeakage_22 ⟨hKK, fun _ => rfl⟩ rfl ⟨Nat.le_of_ble_eq_true rfl, Nat.le_of_ble_eq_true rfl⟩ ⟨Nat.le_of_ble_eq_true rfl, Nat.le_of_ble_eq_true rfl⟩)

theorem dL_setRain_0 : decode cL_setRain 0 = .ok (.aload_n 3, 1) := by decide +kernel
theorem dL_setRain_1 : decode cL_setRain 1 = .ok (.iconst 0, 1) := by decide +kernel
theorem dL_setRain_2 : decode cL_setRain 2 = .ok (.aload_n 0, 1) := by decide +kernel
theorem dL_setRain_3 : decode cL_setRain 3 = .ok (.iload_n 1, 1) := by decide +kernel
theorem dL_setRain_4 : decode cL_setRain 4 = .ok (.iload_n 2, 1) := by decide +kernel
theorem dL_setRain_5 : decode cL_setRain 5 = .ok (.invokevirtual 27, 3) := by decide +kernel
theorem dL_setRain_8 : decode cL_setRain 8 = .ok (.i2l, 1) := by decide +kernel
theorem dL_setRain_9 : decode cL_setRain 9 = .ok (.lastore, 1) := by decide +kernel
theorem dL_setRain_10 : decode cL_setRain 10 = .ok (.goto 11, 3) := by decide +kernel
theorem dL_setRain_13 : decode cL_setRain 13 = .ok (.astore 4, 2) := by decide +kernel
theorem dL_setRain_15 : decode cL_setRain 15 = .ok (.iconst 1, 1) := by decide +kernel
theorem dL_setRain_16 : decode cL_setRain 16 = .ok (.ireturn, 1) := by decide +kernel
theorem dL_setRain_17 : decode cL_setRain 17 = .ok (.astore 4, 2) := by decide +kernel
theorem dL_setRain_19 : decode cL_setRain 19 = .ok (.iconst 2, 1) := by decide +kernel
theorem dL_setRain_20 : decode cL_setRain 20 = .ok (.ireturn, 1) := by decide +kernel
theorem dL_setRain_21 : decode cL_setRain 21 = .ok (.iconst 0, 1) := by decide +kernel
theorem dL_setRain_22 : decode cL_setRain 22 = .ok (.ireturn, 1) := by decide +kernel
set_option maxHeartbeats 4000000 in
set_option maxRecDepth 100000 in
/-- law: setRain -/
theorem c_L_setRain (l : Launch) (g : Gm) (hst : l.stackTraces = false) (x : Nat) (ag : Nat) (wo : Nat) (dy : Nat) (ad : Nat → Nat) (ea : Nat) (p0 : Int32) (p1 : Int32) (o : Nat) (fo : Nat → Int64) : HXi (S := Nat → Int64) l g yL_setRain cL_setRain 5 .int [(0, 10, 13, 13), (0, 10, 17, 15)] ({ frames := 8, cells := 14, slots := 100015, locals := 145 } : Room) [.ref x, .int p0, .int p1, .ref o] ([(x, .inr (6, [.ref (ad 0), .ref ag, .ref wo, .ref dy])), (dy, .inr (8, [.int 0, .ref (g.2.2 0), .int 0]))] ++ wsW g ad (-1) 1 0 ea σ0 ++ [(o, .inl (g.2.1 1, 1, .inr (.inl fo)))]) (fun r u => r = kk_setRain p0 p1 ∧ (kk_setRain p0 p1 = 0 → u 0 = 0)) (fun u => [(o, .inl (g.2.1 1, 1, .inr (.inl u)))]) (fun _ => (14, 100015)) := by
  intro sz tt
  refine ofH RL rfl (by decide +kernel) (Nat.le_of_ble_eq_true rfl) (fun p e s m args below meth c hargs S hml hr hlk htab hsz htt hK hA hZ E ls hl => ?_)
  have hx := S.1
  have hb := S.2.1
  have hl : lv_has ls 5 [(0, .ref x), (1, .int p0), (2, .int p1), (3, .ref o)] := hl
  refine lv_aload_n hx hb dL_setRain_0 rfl (lv_at hl 3 rfl) ?_
  refine lv_iconst (v := 0) hx hb dL_setRain_1 (by decide) ?_
  refine lv_aload_n hx hb dL_setRain_2 rfl (lv_at hl 0 rfl) ?_
  refine lv_iload_n hx hb dL_setRain_3 rfl (lv_at hl 1 rfl) ?_
  refine lv_iload_n hx hb dL_setRain_4 rfl (lv_at hl 2 rfl) ?_
  refine y_reti (yrunV (As := [.int p0, .int p1]) (rest := [.int 0, .ref o]) (q0 := 0) (n := 2) S hml hK (hZ.at E) (Cut.of (wc := ([(x, .inr (6, [.ref (ad 0), .ref ag, .ref wo, .ref dy])), (dy, .inr (8, [.int 0, .ref (g.2.2 0), .int 0]))] ++ wsW g ad (-1) 1 0 ea σ0)) (wr := [(o, .inl (g.2.1 1, 1, .inr (.inl fo)))]) E hA [0, 1, 2, 3, 4, 5, 6, 7, 8, 9, 10, 11, 12, 13, 14, 15, 16, 17, 18, 19, 20, 21, 22, 23, 24, 25, 26, 27, 28, 29, 30, 31, 32] [33] rfl rfl rfl rfl (by decide)) (c_X6_setRain l g hst x ag wo dy ad ea p0 p1 _ _) (gi_wsV ml_L_27 im_X6_setRain sl_X6_setRain in_X6 co_X6_setRain) ⟨rfl, by decide +kernel, by decide +kernel, by decide +kernel⟩ ⟨Nat.le_of_ble_eq_true rfl, Nat.le_of_ble_eq_true rfl⟩ rfl rfl rfl hl.1 rfl (Nat.le_of_ble_eq_true rfl) dL_setRain_5 ⟨Nat.le_of_ble_eq_true rfl, Nat.le_of_ble_eq_true rfl⟩) (Cut.of (wc := ([(x, .inr (6, [.ref (ad 0), .ref ag, .ref wo, .ref dy])), (dy, .inr (8, [.int 0, .ref (g.2.2 0), .int 0]))] ++ wsW g ad (-1) 1 0 ea σ0)) (wr := [(o, .inl (g.2.1 1, 1, .inr (.inl fo)))]) E hA [0, 1, 2, 3, 4, 5, 6, 7, 8, 9, 10, 11, 12, 13, 14, 15, 16, 17, 18, 19, 20, 21, 22, 23, 24, 25, 26, 27, 28, 29, 30, 31, 32] [33] rfl rfl rfl rfl (by decide)) E (fun En ce q9 H locs hp E hce hcv hcl => ?_) (fun r1 u1 H locs hp E => ?_)
  · have E : Ev g _ s.heap H locs ([(o, .inl (g.2.1 1, 1, .inr (.inl fo))), (x, .inr (6, [.ref (ad 0), .ref ag, .ref wo, .ref dy])), (dy, .inr (8, [.int 0, .ref (g.2.2 0), .int 0]))] ++ wsW g ad (-1) 1 0 ea σ0) := E
    rcases hp with ⟨rfl, hT⟩ | ⟨rfl, hT, hTB⟩
    · skip
      refine vx_catch (own := RL) (name := "java/lang/IndexOutOfBoundsException") S.2.2.2 [] ⟨0, 10, 13, 13⟩ [⟨0, 10, 17, 15⟩] htab (fun z hz => by cases hz) (by decide) (by decide) (S.2.2.1 _ cl_L_13) (va_Nw.use rfl (hZ.2.2.2.2.2.2.1 _ nw_ioob rfl)) hce hcv hcl ?_
      refine lv_astore (lv' := [(4, .ref q9), (0, .ref x), (1, .int p0), (2, .int p1), (3, .ref o)]) hx hb dL_setRain_13 hl (by decide) rfl (fun ls hl => ?_)
      refine lv_iconst (v := 1) hx hb dL_setRain_15 (by decide) ?_
      have hKK : (1 : Int32) = kk_setRain p0 p1 := (by unfold kk_setRain; rw [if_neg hT])
      have E : Ev g _ s.heap H locs [(o, .inl (g.2.1 1, 1, .inr (.inl fo)))] := Ev.sub E [0] rfl rfl
      exact vx_ret (x_iret fo S hr hlk hsz htt hK E dL_setRain_16 ⟨hKK, fun z => absurd (hKK.trans z) (by decide)⟩ rfl ⟨Nat.le_of_ble_eq_true rfl, Nat.le_of_ble_eq_true rfl⟩ ⟨Nat.le_of_ble_eq_true rfl, Nat.le_of_ble_eq_true rfl⟩)
    · skip
      refine vx_catch (own := RL) (name := "java/lang/IllegalArgumentException") S.2.2.2 [⟨0, 10, 13, 13⟩] ⟨0, 10, 17, 15⟩ [] htab (fun z hz => by simp only [List.mem_cons, List.not_mem_nil, or_false] at hz; rcases hz with rfl <;> first | exact Or.inr ⟨by decide, _, S.2.2.1 _ cl_L_13, hZ.2.2.2.2.2.2.2.1 ("java/lang/IllegalArgumentException", "java/lang/IndexOutOfBoundsException") (by decide)⟩) (by decide) (by decide) (S.2.2.1 _ cl_L_15) (va_Nw.use rfl (hZ.2.2.2.2.2.2.1 _ nw_iae rfl)) hce hcv hcl ?_
      refine lv_astore (lv' := [(4, .ref q9), (0, .ref x), (1, .int p0), (2, .int p1), (3, .ref o)]) hx hb dL_setRain_17 hl (by decide) rfl (fun ls hl => ?_)
      refine lv_iconst (v := 2) hx hb dL_setRain_19 (by decide) ?_
      have hKK : (2 : Int32) = kk_setRain p0 p1 := (by unfold kk_setRain; rw [if_pos hT, if_neg hTB])
      have E : Ev g _ s.heap H locs [(o, .inl (g.2.1 1, 1, .inr (.inl fo)))] := Ev.sub E [0] rfl rfl
      exact vx_ret (x_iret fo S hr hlk hsz htt hK E dL_setRain_20 ⟨hKK, fun z => absurd (hKK.trans z) (by decide)⟩ rfl ⟨Nat.le_of_ble_eq_true rfl, Nat.le_of_ble_eq_true rfl⟩ ⟨Nat.le_of_ble_eq_true rfl, Nat.le_of_ble_eq_true rfl⟩)
  · skip
    have E : Ev g _ s.heap H locs [(o, .inl (g.2.1 1, 1, .inr (.inl fo))), (x, .inr (6, [.ref (ad 0), .ref ag, .ref wo, .ref dy]))] := E
    obtain ⟨rfl, hQ0, hQ1⟩ := hp
    refine lv_i2l (v := 0) hx hb dL_setRain_8 (by decide) ?_
    refine w_lst (w' := [(o, .inl (g.2.1 1, 1, .inr (.inl (vp_updL fo (0 : Int32).toNatClampNeg 0)))), (x, .inr (6, [.ref (ad 0), .ref ag, .ref wo, .ref dy]))]) S hK E 0 1 rfl rfl (show vp_in 0 1 by unfold vp_in; decide) rfl dL_setRain_9 (fun H locs E => ?_)
    refine lv_goto (tgt := 21) hx hb dL_setRain_10 (by decide) ?_
    refine lv_iconst (v := 0) hx hb dL_setRain_21 (by decide) ?_
    have hKK : (0 : Int32) = kk_setRain p0 p1 := (by unfold kk_setRain; rw [if_pos hQ0, if_pos hQ1])
    have E : Ev g _ s.heap H locs [(o, .inl (g.2.1 1, 1, .inr (.inl (vp_updL fo (0 : Int32).toNatClampNeg 0))))] := Ev.sub E [0] rfl rfl
    exact vx_ret (x_iret (vp_updL fo (0 : Int32).toNatClampNeg 0) S hr hlk hsz htt hK E dL_setRain_22 ⟨hKK, fun _ => rfl⟩ rfl ⟨Nat.le_of_ble_eq_true rfl, Nat.le_of_ble_eq_true rfl⟩ ⟨Nat.le_of_ble_eq_true rfl, Nat.le_of_ble_eq_true rfl⟩)

theorem dL_setBed_0 : decode cL_setBed 0 = .ok (.aload 4, 2) := by decide +kernel
theorem dL_setBed_2 : decode cL_setBed 2 = .ok (.iconst 0, 1) := by decide +kernel
theorem dL_setBed_3 : decode cL_setBed 3 = .ok (.aload_n 0, 1) := by decide +kernel
theorem dL_setBed_4 : decode cL_setBed 4 = .ok (.iload_n 1, 1) := by decide +kernel
theorem dL_setBed_5 : decode cL_setBed 5 = .ok (.iload_n 2, 1) := by decide +kernel
theorem dL_setBed_6 : decode cL_setBed 6 = .ok (.iload_n 3, 1) := by decide +kernel
theorem dL_setBed_7 : decode cL_setBed 7 = .ok (.invokevirtual 30, 3) := by decide +kernel
theorem dL_setBed_10 : decode cL_setBed 10 = .ok (.i2l, 1) := by decide +kernel
theorem dL_setBed_11 : decode cL_setBed 11 = .ok (.lastore, 1) := by decide +kernel
theorem dL_setBed_12 : decode cL_setBed 12 = .ok (.goto 11, 3) := by decide +kernel
theorem dL_setBed_15 : decode cL_setBed 15 = .ok (.astore 5, 2) := by decide +kernel
theorem dL_setBed_17 : decode cL_setBed 17 = .ok (.iconst 1, 1) := by decide +kernel
theorem dL_setBed_18 : decode cL_setBed 18 = .ok (.ireturn, 1) := by decide +kernel
theorem dL_setBed_19 : decode cL_setBed 19 = .ok (.astore 5, 2) := by decide +kernel
theorem dL_setBed_21 : decode cL_setBed 21 = .ok (.iconst 2, 1) := by decide +kernel
theorem dL_setBed_22 : decode cL_setBed 22 = .ok (.ireturn, 1) := by decide +kernel
theorem dL_setBed_23 : decode cL_setBed 23 = .ok (.iconst 0, 1) := by decide +kernel
theorem dL_setBed_24 : decode cL_setBed 24 = .ok (.ireturn, 1) := by decide +kernel
set_option maxHeartbeats 4000000 in
set_option maxRecDepth 100000 in
/-- law: setBed -/
theorem c_L_setBed (l : Launch) (g : Gm) (hst : l.stackTraces = false) (x : Nat) (ag : Nat) (wo : Nat) (dy : Nat) (ad : Nat → Nat) (ea : Nat) (p0 : Int32) (p1 : Int32) (p2 : Int32) (o : Nat) (fo : Nat → Int64) : HXi (S := Nat → Int64) l g yL_setBed cL_setBed 6 .int [(0, 12, 15, 13), (0, 12, 19, 15)] ({ frames := 8, cells := 14, slots := 100015, locals := 146 } : Room) [.ref x, .int p0, .int p1, .int p2, .ref o] ([(x, .inr (6, [.ref (ad 0), .ref ag, .ref wo, .ref dy])), (dy, .inr (8, [.int 0, .ref (g.2.2 0), .int 0]))] ++ wsW g ad (-1) 1 0 ea σ0 ++ [(o, .inl (g.2.1 1, 1, .inr (.inl fo)))]) (fun r u => r = kk_setBed p0 p1 p2 ∧ (kk_setBed p0 p1 p2 = 0 → u 0 = 0)) (fun u => [(o, .inl (g.2.1 1, 1, .inr (.inl u)))]) (fun _ => (14, 100015)) := by
  intro sz tt
  refine ofH RL rfl (by decide +kernel) (Nat.le_of_ble_eq_true rfl) (fun p e s m args below meth c hargs S hml hr hlk htab hsz htt hK hA hZ E ls hl => ?_)
  have hx := S.1
  have hb := S.2.1
  have hl : lv_has ls 6 [(0, .ref x), (1, .int p0), (2, .int p1), (3, .int p2), (4, .ref o)] := hl
  refine lv_aload hx hb dL_setBed_0 (lv_at hl 4 rfl) ?_
  refine lv_iconst (v := 0) hx hb dL_setBed_2 (by decide) ?_
  refine lv_aload_n hx hb dL_setBed_3 rfl (lv_at hl 0 rfl) ?_
  refine lv_iload_n hx hb dL_setBed_4 rfl (lv_at hl 1 rfl) ?_
  refine lv_iload_n hx hb dL_setBed_5 rfl (lv_at hl 2 rfl) ?_
  refine lv_iload_n hx hb dL_setBed_6 rfl (lv_at hl 3 rfl) ?_
  refine y_reti (yrunV (As := [.int p0, .int p1, .int p2]) (rest := [.int 0, .ref o]) (q0 := 0) (n := 3) S hml hK (hZ.at E) (Cut.of (wc := ([(x, .inr (6, [.ref (ad 0), .ref ag, .ref wo, .ref dy])), (dy, .inr (8, [.int 0, .ref (g.2.2 0), .int 0]))] ++ wsW g ad (-1) 1 0 ea σ0)) (wr := [(o, .inl (g.2.1 1, 1, .inr (.inl fo)))]) E hA [0, 1, 2, 3, 4, 5, 6, 7, 8, 9, 10, 11, 12, 13, 14, 15, 16, 17, 18, 19, 20, 21, 22, 23, 24, 25, 26, 27, 28, 29, 30, 31, 32] [33] rfl rfl rfl rfl (by decide)) (c_X6_setBed l g hst x ag wo dy ad ea p0 p1 p2 _ _) (gi_wsV ml_L_30 im_X6_setBed sl_X6_setBed in_X6 co_X6_setBed) ⟨rfl, by decide +kernel, by decide +kernel, by decide +kernel⟩ ⟨Nat.le_of_ble_eq_true rfl, Nat.le_of_ble_eq_true rfl⟩ rfl rfl rfl hl.1 rfl (Nat.le_of_ble_eq_true rfl) dL_setBed_7 ⟨Nat.le_of_ble_eq_true rfl, Nat.le_of_ble_eq_true rfl⟩) (Cut.of (wc := ([(x, .inr (6, [.ref (ad 0), .ref ag, .ref wo, .ref dy])), (dy, .inr (8, [.int 0, .ref (g.2.2 0), .int 0]))] ++ wsW g ad (-1) 1 0 ea σ0)) (wr := [(o, .inl (g.2.1 1, 1, .inr (.inl fo)))]) E hA [0, 1, 2, 3, 4, 5, 6, 7, 8, 9, 10, 11, 12, 13, 14, 15, 16, 17, 18, 19, 20, 21, 22, 23, 24, 25, 26, 27, 28, 29, 30, 31, 32] [33] rfl rfl rfl rfl (by decide)) E (fun En ce q9 H locs hp E hce hcv hcl => ?_) (fun r1 u1 H locs hp E => ?_)
  · have E : Ev g _ s.heap H locs ([(o, .inl (g.2.1 1, 1, .inr (.inl fo))), (x, .inr (6, [.ref (ad 0), .ref ag, .ref wo, .ref dy])), (dy, .inr (8, [.int 0, .ref (g.2.2 0), .int 0]))] ++ wsW g ad (-1) 1 0 ea σ0) := E
    rcases hp with ⟨rfl, hT⟩ | ⟨rfl, hT, hTB⟩
    · skip
      refine vx_catch (own := RL) (name := "java/lang/IndexOutOfBoundsException") S.2.2.2 [] ⟨0, 12, 15, 13⟩ [⟨0, 12, 19, 15⟩] htab (fun z hz => by cases hz) (by decide) (by decide) (S.2.2.1 _ cl_L_13) (va_Nw.use rfl (hZ.2.2.2.2.2.2.1 _ nw_ioob rfl)) hce hcv hcl ?_
      refine lv_astore (lv' := [(5, .ref q9), (0, .ref x), (1, .int p0), (2, .int p1), (3, .int p2), (4, .ref o)]) hx hb dL_setBed_15 hl (by decide) rfl (fun ls hl => ?_)
      refine lv_iconst (v := 1) hx hb dL_setBed_17 (by decide) ?_
      have hKK : (1 : Int32) = kk_setBed p0 p1 p2 := (by unfold kk_setBed; rw [if_neg hT])
      have E : Ev g _ s.heap H locs [(o, .inl (g.2.1 1, 1, .inr (.inl fo)))] := Ev.sub E [0] rfl rfl
      exact vx_ret (x_iret fo S hr hlk hsz htt hK E dL_setBed_18 ⟨hKK, fun z => absurd (hKK.trans z) (by decide)⟩ rfl ⟨Nat.le_of_ble_eq_true rfl, Nat.le_of_ble_eq_true rfl⟩ ⟨Nat.le_of_ble_eq_true rfl, Nat.le_of_ble_eq_true rfl⟩)
    · skip
      refine vx_catch (own := RL) (name := "java/lang/IllegalArgumentException") S.2.2.2 [⟨0, 12, 15, 13⟩] ⟨0, 12, 19, 15⟩ [] htab (fun z hz => by simp only [List.mem_cons, List.not_mem_nil, or_false] at hz; rcases hz with rfl <;> first | exact Or.inr ⟨by decide, _, S.2.2.1 _ cl_L_13, hZ.2.2.2.2.2.2.2.1 ("java/lang/IllegalArgumentException", "java/lang/IndexOutOfBoundsException") (by decide)⟩) (by decide) (by decide) (S.2.2.1 _ cl_L_15) (va_Nw.use rfl (hZ.2.2.2.2.2.2.1 _ nw_iae rfl)) hce hcv hcl ?_
      refine lv_astore (lv' := [(5, .ref q9), (0, .ref x), (1, .int p0), (2, .int p1), (3, .int p2), (4, .ref o)]) hx hb dL_setBed_19 hl (by decide) rfl (fun ls hl => ?_)
      refine lv_iconst (v := 2) hx hb dL_setBed_21 (by decide) ?_
      have hKK : (2 : Int32) = kk_setBed p0 p1 p2 := (by unfold kk_setBed; rw [if_pos hT, if_neg hTB])
      have E : Ev g _ s.heap H locs [(o, .inl (g.2.1 1, 1, .inr (.inl fo)))] := Ev.sub E [0] rfl rfl
      exact vx_ret (x_iret fo S hr hlk hsz htt hK E dL_setBed_22 ⟨hKK, fun z => absurd (hKK.trans z) (by decide)⟩ rfl ⟨Nat.le_of_ble_eq_true rfl, Nat.le_of_ble_eq_true rfl⟩ ⟨Nat.le_of_ble_eq_true rfl, Nat.le_of_ble_eq_true rfl⟩)
  · skip
    have E : Ev g _ s.heap H locs [(o, .inl (g.2.1 1, 1, .inr (.inl fo))), (x, .inr (6, [.ref (ad 0), .ref ag, .ref wo, .ref dy]))] := E
    obtain ⟨rfl, hQ0, hQ1, hQ2⟩ := hp
    refine lv_i2l (v := 0) hx hb dL_setBed_10 (by decide) ?_
    refine w_lst (w' := [(o, .inl (g.2.1 1, 1, .inr (.inl (vp_updL fo (0 : Int32).toNatClampNeg 0)))), (x, .inr (6, [.ref (ad 0), .ref ag, .ref wo, .ref dy]))]) S hK E 0 1 rfl rfl (show vp_in 0 1 by unfold vp_in; decide) rfl dL_setBed_11 (fun H locs E => ?_)
    refine lv_goto (tgt := 23) hx hb dL_setBed_12 (by decide) ?_
    refine lv_iconst (v := 0) hx hb dL_setBed_23 (by decide) ?_
    have hKK : (0 : Int32) = kk_setBed p0 p1 p2 := (by unfold kk_setBed; rw [if_pos hQ0, if_pos ⟨hQ1, hQ2⟩])
    have E : Ev g _ s.heap H locs [(o, .inl (g.2.1 1, 1, .inr (.inl (vp_updL fo (0 : Int32).toNatClampNeg 0))))] := Ev.sub E [0] rfl rfl
    exact vx_ret (x_iret (vp_updL fo (0 : Int32).toNatClampNeg 0) S hr hlk hsz htt hK E dL_setBed_24 ⟨hKK, fun _ => rfl⟩ rfl ⟨Nat.le_of_ble_eq_true rfl, Nat.le_of_ble_eq_true rfl⟩ ⟨Nat.le_of_ble_eq_true rfl, Nat.le_of_ble_eq_true rfl⟩)

theorem dL_setRiver_0 : decode cL_setRiver 0 = .ok (.aload_n 2, 1) := by decide +kernel
theorem dL_setRiver_1 : decode cL_setRiver 1 = .ok (.iconst 0, 1) := by decide +kernel
theorem dL_setRiver_2 : decode cL_setRiver 2 = .ok (.aload_n 0, 1) := by decide +kernel
theorem dL_setRiver_3 : decode cL_setRiver 3 = .ok (.iload_n 1, 1) := by decide +kernel
theorem dL_setRiver_4 : decode cL_setRiver 4 = .ok (.invokevirtual 34, 3) := by decide +kernel
theorem dL_setRiver_7 : decode cL_setRiver 7 = .ok (.i2l, 1) := by decide +kernel
theorem dL_setRiver_8 : decode cL_setRiver 8 = .ok (.lastore, 1) := by decide +kernel
theorem dL_setRiver_9 : decode cL_setRiver 9 = .ok (.goto 6, 3) := by decide +kernel
theorem dL_setRiver_12 : decode cL_setRiver 12 = .ok (.astore_n 3, 1) := by decide +kernel
theorem dL_setRiver_13 : decode cL_setRiver 13 = .ok (.iconst 1, 1) := by decide +kernel
theorem dL_setRiver_14 : decode cL_setRiver 14 = .ok (.ireturn, 1) := by decide +kernel
theorem dL_setRiver_15 : decode cL_setRiver 15 = .ok (.iconst 0, 1) := by decide +kernel
theorem dL_setRiver_16 : decode cL_setRiver 16 = .ok (.ireturn, 1) := by decide +kernel
set_option maxHeartbeats 4000000 in
set_option maxRecDepth 100000 in
/-- law: setRiver -/
theorem c_L_setRiver (l : Launch) (g : Gm) (hst : l.stackTraces = false) (x : Nat) (ag : Nat) (wo : Nat) (dy : Nat) (ad : Nat → Nat) (ea : Nat) (p0 : Int32) (o : Nat) (fo : Nat → Int64) : HXi (S := Nat → Int64) l g yL_setRiver cL_setRiver 4 .int [(0, 9, 12, 15)] ({ frames := 8, cells := 14, slots := 100015, locals := 144 } : Room) [.ref x, .int p0, .ref o] ([(x, .inr (6, [.ref (ad 0), .ref ag, .ref wo, .ref dy])), (dy, .inr (8, [.int 0, .ref (g.2.2 0), .int 0]))] ++ wsW g ad (-1) 1 0 ea σ0 ++ [(o, .inl (g.2.1 1, 1, .inr (.inl fo)))]) (fun r u => r = kk_setRiver p0 ∧ (kk_setRiver p0 = 0 → u 0 = 0)) (fun u => [(o, .inl (g.2.1 1, 1, .inr (.inl u)))]) (fun _ => (14, 100015)) := by
  intro sz tt
  refine ofH RL rfl (by decide +kernel) (Nat.le_of_ble_eq_true rfl) (fun p e s m args below meth c hargs S hml hr hlk htab hsz htt hK hA hZ E ls hl => ?_)
  have hx := S.1
  have hb := S.2.1
  have hl : lv_has ls 4 [(0, .ref x), (1, .int p0), (2, .ref o)] := hl
  refine lv_aload_n hx hb dL_setRiver_0 rfl (lv_at hl 2 rfl) ?_
  refine lv_iconst (v := 0) hx hb dL_setRiver_1 (by decide) ?_
  refine lv_aload_n hx hb dL_setRiver_2 rfl (lv_at hl 0 rfl) ?_
  refine lv_iload_n hx hb dL_setRiver_3 rfl (lv_at hl 1 rfl) ?_
  refine y_reti (yrunV (As := [.int p0]) (rest := [.int 0, .ref o]) (q0 := 0) (n := 1) S hml hK (hZ.at E) (Cut.of (wc := ([(x, .inr (6, [.ref (ad 0), .ref ag, .ref wo, .ref dy])), (dy, .inr (8, [.int 0, .ref (g.2.2 0), .int 0]))] ++ wsW g ad (-1) 1 0 ea σ0)) (wr := [(o, .inl (g.2.1 1, 1, .inr (.inl fo)))]) E hA [0, 1, 2, 3, 4, 5, 6, 7, 8, 9, 10, 11, 12, 13, 14, 15, 16, 17, 18, 19, 20, 21, 22, 23, 24, 25, 26, 27, 28, 29, 30, 31, 32] [33] rfl rfl rfl rfl (by decide)) (c_X6_setRiver l g hst x ag wo dy ad ea p0 _ _) (gi_wsV ml_L_34 im_X6_setRiver sl_X6_setRiver in_X6 co_X6_setRiver) ⟨rfl, by decide +kernel, by decide +kernel, by decide +kernel⟩ ⟨Nat.le_of_ble_eq_true rfl, Nat.le_of_ble_eq_true rfl⟩ rfl rfl rfl hl.1 rfl (Nat.le_of_ble_eq_true rfl) dL_setRiver_4 ⟨Nat.le_of_ble_eq_true rfl, Nat.le_of_ble_eq_true rfl⟩) (Cut.of (wc := ([(x, .inr (6, [.ref (ad 0), .ref ag, .ref wo, .ref dy])), (dy, .inr (8, [.int 0, .ref (g.2.2 0), .int 0]))] ++ wsW g ad (-1) 1 0 ea σ0)) (wr := [(o, .inl (g.2.1 1, 1, .inr (.inl fo)))]) E hA [0, 1, 2, 3, 4, 5, 6, 7, 8, 9, 10, 11, 12, 13, 14, 15, 16, 17, 18, 19, 20, 21, 22, 23, 24, 25, 26, 27, 28, 29, 30, 31, 32] [33] rfl rfl rfl rfl (by decide)) E (fun En ce q9 H locs hp E hce hcv hcl => ?_) (fun r1 u1 H locs hp E => ?_)
  · have E : Ev g _ s.heap H locs ([(o, .inl (g.2.1 1, 1, .inr (.inl fo))), (x, .inr (6, [.ref (ad 0), .ref ag, .ref wo, .ref dy])), (dy, .inr (8, [.int 0, .ref (g.2.2 0), .int 0]))] ++ wsW g ad (-1) 1 0 ea σ0) := E
    obtain ⟨rfl, hTB⟩ := hp
    refine vx_catch (own := RL) (name := "java/lang/IllegalArgumentException") S.2.2.2 [] ⟨0, 9, 12, 15⟩ [] htab (fun z hz => by cases hz) (by decide) (by decide) (S.2.2.1 _ cl_L_15) (va_Nw.use rfl (hZ.2.2.2.2.2.2.1 _ nw_iae rfl)) hce hcv hcl ?_
    refine lv_astore_n (lv' := [(3, .ref q9), (0, .ref x), (1, .int p0), (2, .ref o)]) hx hb dL_setRiver_12 rfl hl (by decide) rfl (fun ls hl => ?_)
    refine lv_iconst (v := 1) hx hb dL_setRiver_13 (by decide) ?_
    have hKK : (1 : Int32) = kk_setRiver p0 := (by unfold kk_setRiver; rw [if_neg hTB])
    have E : Ev g _ s.heap H locs [(o, .inl (g.2.1 1, 1, .inr (.inl fo)))] := Ev.sub E [0] rfl rfl
    exact vx_ret (x_iret fo S hr hlk hsz htt hK E dL_setRiver_14 ⟨hKK, fun z => absurd (hKK.trans z) (by decide)⟩ rfl ⟨Nat.le_of_ble_eq_true rfl, Nat.le_of_ble_eq_true rfl⟩ ⟨Nat.le_of_ble_eq_true rfl, Nat.le_of_ble_eq_true rfl⟩)
  · skip
    have E : Ev g _ s.heap H locs [(o, .inl (g.2.1 1, 1, .inr (.inl fo))), (x, .inr (6, [.ref (ad 0), .ref ag, .ref wo, .ref dy]))] := E
    obtain ⟨rfl, hQ0⟩ := hp
    refine lv_i2l (v := 0) hx hb dL_setRiver_7 (by decide) ?_
    refine w_lst (w' := [(o, .inl (g.2.1 1, 1, .inr (.inl (vp_updL fo (0 : Int32).toNatClampNeg 0)))), (x, .inr (6, [.ref (ad 0), .ref ag, .ref wo, .ref dy]))]) S hK E 0 1 rfl rfl (show vp_in 0 1 by unfold vp_in; decide) rfl dL_setRiver_8 (fun H locs E => ?_)
    refine lv_goto (tgt := 15) hx hb dL_setRiver_9 (by decide) ?_
    refine lv_iconst (v := 0) hx hb dL_setRiver_15 (by decide) ?_
    have hKK : (0 : Int32) = kk_setRiver p0 := (by unfold kk_setRiver; rw [if_pos hQ0])
    have E : Ev g _ s.heap H locs [(o, .inl (g.2.1 1, 1, .inr (.inl (vp_updL fo (0 : Int32).toNatClampNeg 0))))] := Ev.sub E [0] rfl rfl
    exact vx_ret (x_iret (vp_updL fo (0 : Int32).toNatClampNeg 0) S hr hlk hsz htt hK E dL_setRiver_16 ⟨hKK, fun _ => rfl⟩ rfl ⟨Nat.le_of_ble_eq_true rfl, Nat.le_of_ble_eq_true rfl⟩ ⟨Nat.le_of_ble_eq_true rfl, Nat.le_of_ble_eq_true rfl⟩)

theorem dL_setSea_0 : decode cL_setSea 0 = .ok (.aload_n 2, 1) := by decide +kernel
theorem dL_setSea_1 : decode cL_setSea 1 = .ok (.iconst 0, 1) := by decide +kernel
theorem dL_setSea_2 : decode cL_setSea 2 = .ok (.aload_n 0, 1) := by decide +kernel
theorem dL_setSea_3 : decode cL_setSea 3 = .ok (.iload_n 1, 1) := by decide +kernel
theorem dL_setSea_4 : decode cL_setSea 4 = .ok (.invokevirtual 38, 3) := by decide +kernel
theorem dL_setSea_7 : decode cL_setSea 7 = .ok (.i2l, 1) := by decide +kernel
theorem dL_setSea_8 : decode cL_setSea 8 = .ok (.lastore, 1) := by decide +kernel
theorem dL_setSea_9 : decode cL_setSea 9 = .ok (.goto 6, 3) := by decide +kernel
theorem dL_setSea_12 : decode cL_setSea 12 = .ok (.astore_n 3, 1) := by decide +kernel
theorem dL_setSea_13 : decode cL_setSea 13 = .ok (.iconst 1, 1) := by decide +kernel
theorem dL_setSea_14 : decode cL_setSea 14 = .ok (.ireturn, 1) := by decide +kernel
theorem dL_setSea_15 : decode cL_setSea 15 = .ok (.iconst 0, 1) := by decide +kernel
theorem dL_setSea_16 : decode cL_setSea 16 = .ok (.ireturn, 1) := by decide +kernel
set_option maxHeartbeats 4000000 in
set_option maxRecDepth 100000 in
/-- law: setSea -/
theorem c_L_setSea (l : Launch) (g : Gm) (hst : l.stackTraces = false) (x : Nat) (ag : Nat) (wo : Nat) (dy : Nat) (ad : Nat → Nat) (ea : Nat) (p0 : Int32) (o : Nat) (fo : Nat → Int64) : HXi (S := Nat → Int64) l g yL_setSea cL_setSea 4 .int [(0, 9, 12, 15)] ({ frames := 8, cells := 14, slots := 100015, locals := 144 } : Room) [.ref x, .int p0, .ref o] ([(x, .inr (6, [.ref (ad 0), .ref ag, .ref wo, .ref dy])), (dy, .inr (8, [.int 0, .ref (g.2.2 0), .int 0]))] ++ wsW g ad (-1) 1 0 ea σ0 ++ [(o, .inl (g.2.1 1, 1, .inr (.inl fo)))]) (fun r u => r = kk_setSea p0 ∧ (kk_setSea p0 = 0 → u 0 = 0)) (fun u => [(o, .inl (g.2.1 1, 1, .inr (.inl u)))]) (fun _ => (14, 100015)) := by
  intro sz tt
  refine ofH RL rfl (by decide +kernel) (Nat.le_of_ble_eq_true rfl) (fun p e s m args below meth c hargs S hml hr hlk htab hsz htt hK hA hZ E ls hl => ?_)
  have hx := S.1
  have hb := S.2.1
  have hl : lv_has ls 4 [(0, .ref x), (1, .int p0), (2, .ref o)] := hl
  refine lv_aload_n hx hb dL_setSea_0 rfl (lv_at hl 2 rfl) ?_
  refine lv_iconst (v := 0) hx hb dL_setSea_1 (by decide) ?_
  refine lv_aload_n hx hb dL_setSea_2 rfl (lv_at hl 0 rfl) ?_
  refine lv_iload_n hx hb dL_setSea_3 rfl (lv_at hl 1 rfl) ?_
  refine y_reti (yrunV (As := [.int p0]) (rest := [.int 0, .ref o]) (q0 := 0) (n := 1) S hml hK (hZ.at E) (Cut.of (wc := ([(x, .inr (6, [.ref (ad 0), .ref ag, .ref wo, .ref dy])), (dy, .inr (8, [.int 0, .ref (g.2.2 0), .int 0]))] ++ wsW g ad (-1) 1 0 ea σ0)) (wr := [(o, .inl (g.2.1 1, 1, .inr (.inl fo)))]) E hA [0, 1, 2, 3, 4, 5, 6, 7, 8, 9, 10, 11, 12, 13, 14, 15, 16, 17, 18, 19, 20, 21, 22, 23, 24, 25, 26, 27, 28, 29, 30, 31, 32] [33] rfl rfl rfl rfl (by decide)) (c_X6_setSea l g hst x ag wo dy ad ea p0 _ _) (gi_wsV ml_L_38 im_X6_setSea sl_X6_setSea in_X6 co_X6_setSea) ⟨rfl, by decide +kernel, by decide +kernel, by decide +kernel⟩ ⟨Nat.le_of_ble_eq_true rfl, Nat.le_of_ble_eq_true rfl⟩ rfl rfl rfl hl.1 rfl (Nat.le_of_ble_eq_true rfl) dL_setSea_4 ⟨Nat.le_of_ble_eq_true rfl, Nat.le_of_ble_eq_true rfl⟩) (Cut.of (wc := ([(x, .inr (6, [.ref (ad 0), .ref ag, .ref wo, .ref dy])), (dy, .inr (8, [.int 0, .ref (g.2.2 0), .int 0]))] ++ wsW g ad (-1) 1 0 ea σ0)) (wr := [(o, .inl (g.2.1 1, 1, .inr (.inl fo)))]) E hA [0, 1, 2, 3, 4, 5, 6, 7, 8, 9, 10, 11, 12, 13, 14, 15, 16, 17, 18, 19, 20, 21, 22, 23, 24, 25, 26, 27, 28, 29, 30, 31, 32] [33] rfl rfl rfl rfl (by decide)) E (fun En ce q9 H locs hp E hce hcv hcl => ?_) (fun r1 u1 H locs hp E => ?_)
  · have E : Ev g _ s.heap H locs ([(o, .inl (g.2.1 1, 1, .inr (.inl fo))), (x, .inr (6, [.ref (ad 0), .ref ag, .ref wo, .ref dy])), (dy, .inr (8, [.int 0, .ref (g.2.2 0), .int 0]))] ++ wsW g ad (-1) 1 0 ea σ0) := E
    obtain ⟨rfl, hTB⟩ := hp
    refine vx_catch (own := RL) (name := "java/lang/IllegalArgumentException") S.2.2.2 [] ⟨0, 9, 12, 15⟩ [] htab (fun z hz => by cases hz) (by decide) (by decide) (S.2.2.1 _ cl_L_15) (va_Nw.use rfl (hZ.2.2.2.2.2.2.1 _ nw_iae rfl)) hce hcv hcl ?_
    refine lv_astore_n (lv' := [(3, .ref q9), (0, .ref x), (1, .int p0), (2, .ref o)]) hx hb dL_setSea_12 rfl hl (by decide) rfl (fun ls hl => ?_)
    refine lv_iconst (v := 1) hx hb dL_setSea_13 (by decide) ?_
    have hKK : (1 : Int32) = kk_setSea p0 := (by unfold kk_setSea; rw [if_neg hTB])
    have E : Ev g _ s.heap H locs [(o, .inl (g.2.1 1, 1, .inr (.inl fo)))] := Ev.sub E [0] rfl rfl
    exact vx_ret (x_iret fo S hr hlk hsz htt hK E dL_setSea_14 ⟨hKK, fun z => absurd (hKK.trans z) (by decide)⟩ rfl ⟨Nat.le_of_ble_eq_true rfl, Nat.le_of_ble_eq_true rfl⟩ ⟨Nat.le_of_ble_eq_true rfl, Nat.le_of_ble_eq_true rfl⟩)
  · skip
    have E : Ev g _ s.heap H locs [(o, .inl (g.2.1 1, 1, .inr (.inl fo))), (x, .inr (6, [.ref (ad 0), .ref ag, .ref wo, .ref dy]))] := E
    obtain ⟨rfl, hQ0⟩ := hp
    refine lv_i2l (v := 0) hx hb dL_setSea_7 (by decide) ?_
    refine w_lst (w' := [(o, .inl (g.2.1 1, 1, .inr (.inl (vp_updL fo (0 : Int32).toNatClampNeg 0)))), (x, .inr (6, [.ref (ad 0), .ref ag, .ref wo, .ref dy]))]) S hK E 0 1 rfl rfl (show vp_in 0 1 by unfold vp_in; decide) rfl dL_setSea_8 (fun H locs E => ?_)
    refine lv_goto (tgt := 15) hx hb dL_setSea_9 (by decide) ?_
    refine lv_iconst (v := 0) hx hb dL_setSea_15 (by decide) ?_
    have hKK : (0 : Int32) = kk_setSea p0 := (by unfold kk_setSea; rw [if_pos hQ0])
    have E : Ev g _ s.heap H locs [(o, .inl (g.2.1 1, 1, .inr (.inl (vp_updL fo (0 : Int32).toNatClampNeg 0))))] := Ev.sub E [0] rfl rfl
    exact vx_ret (x_iret (vp_updL fo (0 : Int32).toNatClampNeg 0) S hr hlk hsz htt hK E dL_setSea_16 ⟨hKK, fun _ => rfl⟩ rfl ⟨Nat.le_of_ble_eq_true rfl, Nat.le_of_ble_eq_true rfl⟩ ⟨Nat.le_of_ble_eq_true rfl, Nat.le_of_ble_eq_true rfl⟩)

theorem dL_addWell_0 : decode cL_addWell 0 = .ok (.aload 4, 2) := by decide +kernel
theorem dL_addWell_2 : decode cL_addWell 2 = .ok (.iconst 0, 1) := by decide +kernel
theorem dL_addWell_3 : decode cL_addWell 3 = .ok (.aload_n 0, 1) := by decide +kernel
theorem dL_addWell_4 : decode cL_addWell 4 = .ok (.iload_n 1, 1) := by decide +kernel
theorem dL_addWell_5 : decode cL_addWell 5 = .ok (.iload_n 2, 1) := by decide +kernel
theorem dL_addWell_6 : decode cL_addWell 6 = .ok (.iload_n 3, 1) := by decide +kernel
theorem dL_addWell_7 : decode cL_addWell 7 = .ok (.invokevirtual 41, 3) := by decide +kernel
theorem dL_addWell_10 : decode cL_addWell 10 = .ok (.i2l, 1) := by decide +kernel
theorem dL_addWell_11 : decode cL_addWell 11 = .ok (.lastore, 1) := by decide +kernel
theorem dL_addWell_12 : decode cL_addWell 12 = .ok (.goto 15, 3) := by decide +kernel
theorem dL_addWell_15 : decode cL_addWell 15 = .ok (.astore 5, 2) := by decide +kernel
theorem dL_addWell_17 : decode cL_addWell 17 = .ok (.iconst 1, 1) := by decide +kernel
theorem dL_addWell_18 : decode cL_addWell 18 = .ok (.ireturn, 1) := by decide +kernel
theorem dL_addWell_19 : decode cL_addWell 19 = .ok (.astore 5, 2) := by decide +kernel
theorem dL_addWell_21 : decode cL_addWell 21 = .ok (.iconst 2, 1) := by decide +kernel
theorem dL_addWell_22 : decode cL_addWell 22 = .ok (.ireturn, 1) := by decide +kernel
theorem dL_addWell_23 : decode cL_addWell 23 = .ok (.astore 5, 2) := by decide +kernel
theorem dL_addWell_25 : decode cL_addWell 25 = .ok (.iconst 3, 1) := by decide +kernel
theorem dL_addWell_26 : decode cL_addWell 26 = .ok (.ireturn, 1) := by decide +kernel
theorem dL_addWell_27 : decode cL_addWell 27 = .ok (.iconst 0, 1) := by decide +kernel
theorem dL_addWell_28 : decode cL_addWell 28 = .ok (.ireturn, 1) := by decide +kernel
set_option maxHeartbeats 4000000 in
set_option maxRecDepth 100000 in
/-- law: addWell -/
theorem c_L_addWell (l : Launch) (g : Gm) (hst : l.stackTraces = false) (x : Nat) (ag : Nat) (wo : Nat) (dy : Nat) (ad : Nat → Nat) (ea : Nat) (p0 : Int32) (p1 : Int32) (p2 : Int32) (o : Nat) (fo : Nat → Int64) : HXi (S := Nat → Int64) l g yL_addWell cL_addWell 6 .int [(0, 12, 15, 13), (0, 12, 19, 15), (0, 12, 23, 44)] ({ frames := 8, cells := 14, slots := 100015, locals := 146 } : Room) [.ref x, .int p0, .int p1, .int p2, .ref o] ([(x, .inr (6, [.ref (ad 0), .ref ag, .ref wo, .ref dy])), (dy, .inr (8, [.int 0, .ref (g.2.2 0), .int 0]))] ++ wsW g ad (-1) 1 0 ea σ0 ++ [(o, .inl (g.2.1 1, 1, .inr (.inl fo)))]) (fun r u => r = kk_addWell p0 p1 p2 ∧ (kk_addWell p0 p1 p2 = 0 → u 0 = 0)) (fun u => [(o, .inl (g.2.1 1, 1, .inr (.inl u)))]) (fun _ => (14, 100015)) := by
  intro sz tt
  refine ofH RL rfl (by decide +kernel) (Nat.le_of_ble_eq_true rfl) (fun p e s m args below meth c hargs S hml hr hlk htab hsz htt hK hA hZ E ls hl => ?_)
  have hx := S.1
  have hb := S.2.1
  have hl : lv_has ls 6 [(0, .ref x), (1, .int p0), (2, .int p1), (3, .int p2), (4, .ref o)] := hl
  refine lv_aload hx hb dL_addWell_0 (lv_at hl 4 rfl) ?_
  refine lv_iconst (v := 0) hx hb dL_addWell_2 (by decide) ?_
  refine lv_aload_n hx hb dL_addWell_3 rfl (lv_at hl 0 rfl) ?_
  refine lv_iload_n hx hb dL_addWell_4 rfl (lv_at hl 1 rfl) ?_
  refine lv_iload_n hx hb dL_addWell_5 rfl (lv_at hl 2 rfl) ?_
  refine lv_iload_n hx hb dL_addWell_6 rfl (lv_at hl 3 rfl) ?_
  refine y_reti (yrunV (As := [.int p0, .int p1, .int p2]) (rest := [.int 0, .ref o]) (q0 := 0) (n := 3) S hml hK (hZ.at E) (Cut.of (wc := ([(x, .inr (6, [.ref (ad 0), .ref ag, .ref wo, .ref dy])), (dy, .inr (8, [.int 0, .ref (g.2.2 0), .int 0]))] ++ wsW g ad (-1) 1 0 ea σ0)) (wr := [(o, .inl (g.2.1 1, 1, .inr (.inl fo)))]) E hA [0, 1, 2, 3, 4, 5, 6, 7, 8, 9, 10, 11, 12, 13, 14, 15, 16, 17, 18, 19, 20, 21, 22, 23, 24, 25, 26, 27, 28, 29, 30, 31, 32] [33] rfl rfl rfl rfl (by decide)) (c_X6_addWell l g hst x ag wo dy ad ea p0 p1 p2 _ _) (gi_wsV ml_L_41 im_X6_addWell sl_X6_addWell in_X6 co_X6_addWell) ⟨rfl, by decide +kernel, by decide +kernel, by decide +kernel⟩ ⟨Nat.le_of_ble_eq_true rfl, Nat.le_of_ble_eq_true rfl⟩ rfl rfl rfl hl.1 rfl (Nat.le_of_ble_eq_true rfl) dL_addWell_7 ⟨Nat.le_of_ble_eq_true rfl, Nat.le_of_ble_eq_true rfl⟩) (Cut.of (wc := ([(x, .inr (6, [.ref (ad 0), .ref ag, .ref wo, .ref dy])), (dy, .inr (8, [.int 0, .ref (g.2.2 0), .int 0]))] ++ wsW g ad (-1) 1 0 ea σ0)) (wr := [(o, .inl (g.2.1 1, 1, .inr (.inl fo)))]) E hA [0, 1, 2, 3, 4, 5, 6, 7, 8, 9, 10, 11, 12, 13, 14, 15, 16, 17, 18, 19, 20, 21, 22, 23, 24, 25, 26, 27, 28, 29, 30, 31, 32] [33] rfl rfl rfl rfl (by decide)) E (fun En ce q9 H locs hp E hce hcv hcl => ?_) (fun r1 u1 H locs hp E => ?_)
  · have E : Ev g _ s.heap H locs ([(o, .inl (g.2.1 1, 1, .inr (.inl fo))), (x, .inr (6, [.ref (ad 0), .ref ag, .ref wo, .ref dy])), (dy, .inr (8, [.int 0, .ref (g.2.2 0), .int 0]))] ++ wsW g ad (-1) 1 0 ea σ0) := E
    rcases hp with ⟨rfl, hT⟩ | ⟨rfl, hT, hTB⟩
    · skip
      refine vx_catch (own := RL) (name := "java/lang/IndexOutOfBoundsException") S.2.2.2 [] ⟨0, 12, 15, 13⟩ [⟨0, 12, 19, 15⟩, ⟨0, 12, 23, 44⟩] htab (fun z hz => by cases hz) (by decide) (by decide) (S.2.2.1 _ cl_L_13) (va_Nw.use rfl (hZ.2.2.2.2.2.2.1 _ nw_ioob rfl)) hce hcv hcl ?_
      refine lv_astore (lv' := [(5, .ref q9), (0, .ref x), (1, .int p0), (2, .int p1), (3, .int p2), (4, .ref o)]) hx hb dL_addWell_15 hl (by decide) rfl (fun ls hl => ?_)
      refine lv_iconst (v := 1) hx hb dL_addWell_17 (by decide) ?_
      have hKK : (1 : Int32) = kk_addWell p0 p1 p2 := (by unfold kk_addWell; rw [if_neg hT])
      have E : Ev g _ s.heap H locs [(o, .inl (g.2.1 1, 1, .inr (.inl fo)))] := Ev.sub E [0] rfl rfl
      exact vx_ret (x_iret fo S hr hlk hsz htt hK E dL_addWell_18 ⟨hKK, fun z => absurd (hKK.trans z) (by decide)⟩ rfl ⟨Nat.le_of_ble_eq_true rfl, Nat.le_of_ble_eq_true rfl⟩ ⟨Nat.le_of_ble_eq_true rfl, Nat.le_of_ble_eq_true rfl⟩)
    · skip
      refine vx_catch (own := RL) (name := "java/lang/IllegalArgumentException") S.2.2.2 [⟨0, 12, 15, 13⟩] ⟨0, 12, 19, 15⟩ [⟨0, 12, 23, 44⟩] htab (fun z hz => by simp only [List.mem_cons, List.not_mem_nil, or_false] at hz; rcases hz with rfl <;> first | exact Or.inr ⟨by decide, _, S.2.2.1 _ cl_L_13, hZ.2.2.2.2.2.2.2.1 ("java/lang/IllegalArgumentException", "java/lang/IndexOutOfBoundsException") (by decide)⟩) (by decide) (by decide) (S.2.2.1 _ cl_L_15) (va_Nw.use rfl (hZ.2.2.2.2.2.2.1 _ nw_iae rfl)) hce hcv hcl ?_
      refine lv_astore (lv' := [(5, .ref q9), (0, .ref x), (1, .int p0), (2, .int p1), (3, .int p2), (4, .ref o)]) hx hb dL_addWell_19 hl (by decide) rfl (fun ls hl => ?_)
      refine lv_iconst (v := 2) hx hb dL_addWell_21 (by decide) ?_
      have hKK : (2 : Int32) = kk_addWell p0 p1 p2 := (by unfold kk_addWell; rw [if_pos hT, if_neg hTB])
      have E : Ev g _ s.heap H locs [(o, .inl (g.2.1 1, 1, .inr (.inl fo)))] := Ev.sub E [0] rfl rfl
      exact vx_ret (x_iret fo S hr hlk hsz htt hK E dL_addWell_22 ⟨hKK, fun z => absurd (hKK.trans z) (by decide)⟩ rfl ⟨Nat.le_of_ble_eq_true rfl, Nat.le_of_ble_eq_true rfl⟩ ⟨Nat.le_of_ble_eq_true rfl, Nat.le_of_ble_eq_true rfl⟩)
  · skip
    have E : Ev g _ s.heap H locs [(o, .inl (g.2.1 1, 1, .inr (.inl fo))), (x, .inr (6, [.ref (ad 0), .ref ag, .ref wo, .ref dy]))] := E
    obtain ⟨rfl, hQ0, hQ1, hQ2⟩ := hp
    refine lv_i2l (v := 0) hx hb dL_addWell_10 (by decide) ?_
    refine w_lst (w' := [(o, .inl (g.2.1 1, 1, .inr (.inl (vp_updL fo (0 : Int32).toNatClampNeg 0)))), (x, .inr (6, [.ref (ad 0), .ref ag, .ref wo, .ref dy]))]) S hK E 0 1 rfl rfl (show vp_in 0 1 by unfold vp_in; decide) rfl dL_addWell_11 (fun H locs E => ?_)
    refine lv_goto (tgt := 27) hx hb dL_addWell_12 (by decide) ?_
    refine lv_iconst (v := 0) hx hb dL_addWell_27 (by decide) ?_
    have hKK : (0 : Int32) = kk_addWell p0 p1 p2 := (by unfold kk_addWell; rw [if_pos hQ0, if_pos ⟨hQ1, hQ2⟩])
    have E : Ev g _ s.heap H locs [(o, .inl (g.2.1 1, 1, .inr (.inl (vp_updL fo (0 : Int32).toNatClampNeg 0))))] := Ev.sub E [0] rfl rfl
    exact vx_ret (x_iret (vp_updL fo (0 : Int32).toNatClampNeg 0) S hr hlk hsz htt hK E dL_addWell_28 ⟨hKK, fun _ => rfl⟩ rfl ⟨Nat.le_of_ble_eq_true rfl, Nat.le_of_ble_eq_true rfl⟩ ⟨Nat.le_of_ble_eq_true rfl, Nat.le_of_ble_eq_true rfl⟩)

theorem dL_pass_0 : decode cL_pass 0 = .ok (.aload_n 2, 1) := by decide +kernel
theorem dL_pass_1 : decode cL_pass 1 = .ok (.iconst 0, 1) := by decide +kernel
theorem dL_pass_2 : decode cL_pass 2 = .ok (.aload_n 0, 1) := by decide +kernel
theorem dL_pass_3 : decode cL_pass 3 = .ok (.iload_n 1, 1) := by decide +kernel
theorem dL_pass_4 : decode cL_pass 4 = .ok (.invokevirtual 54, 3) := by decide +kernel
theorem dL_pass_7 : decode cL_pass 7 = .ok (.i2l, 1) := by decide +kernel
theorem dL_pass_8 : decode cL_pass 8 = .ok (.lastore, 1) := by decide +kernel
theorem dL_pass_9 : decode cL_pass 9 = .ok (.goto 9, 3) := by decide +kernel
theorem dL_pass_12 : decode cL_pass 12 = .ok (.astore_n 3, 1) := by decide +kernel
theorem dL_pass_13 : decode cL_pass 13 = .ok (.iconst 1, 1) := by decide +kernel
theorem dL_pass_14 : decode cL_pass 14 = .ok (.ireturn, 1) := by decide +kernel
theorem dL_pass_15 : decode cL_pass 15 = .ok (.astore_n 3, 1) := by decide +kernel
theorem dL_pass_16 : decode cL_pass 16 = .ok (.iconst 2, 1) := by decide +kernel
theorem dL_pass_17 : decode cL_pass 17 = .ok (.ireturn, 1) := by decide +kernel
theorem dL_pass_18 : decode cL_pass 18 = .ok (.iconst 0, 1) := by decide +kernel
theorem dL_pass_19 : decode cL_pass 19 = .ok (.ireturn, 1) := by decide +kernel
set_option maxHeartbeats 4000000 in
set_option maxRecDepth 100000 in
/-- law: pass -/
theorem c_L_pass (l : Launch) (g : Gm) (hst : l.stackTraces = false) (x : Nat) (ag : Nat) (wo : Nat) (dy : Nat) (ad : Nat → Nat) (ea : Nat) (p0 : Int32) (o : Nat) (fo : Nat → Int64) : HXi (S := Nat → Int64) l g yL_pass cL_pass 4 .int [(0, 9, 12, 15), (0, 9, 15, 57)] ({ frames := 13, cells := 51, slots := 500017, locals := 1152 } : Room) [.ref x, .int p0, .ref o] ([(x, .inr (6, [.ref (ad 0), .ref ag, .ref wo, .ref dy])), (dy, .inr (8, [.int 0, .ref (g.2.2 0), .int 0]))] ++ wsW g ad (-1) 1 0 ea σ0 ++ [(o, .inl (g.2.1 1, 1, .inr (.inl fo)))]) (fun r u => r = kk_pass p0 ∧ (kk_pass p0 = 0 → u 0 = (p0).toInt64)) (fun u => [(o, .inl (g.2.1 1, 1, .inr (.inl u)))]) (fun _ => (51, 500017)) := by
  intro sz tt
  refine ofH RL rfl (by decide +kernel) (Nat.le_of_ble_eq_true rfl) (fun p e s m args below meth c hargs S hml hr hlk htab hsz htt hK hA hZ E ls hl => ?_)
  have hx := S.1
  have hb := S.2.1
  have hl : lv_has ls 4 [(0, .ref x), (1, .int p0), (2, .ref o)] := hl
  refine lv_aload_n hx hb dL_pass_0 rfl (lv_at hl 2 rfl) ?_
  refine lv_iconst (v := 0) hx hb dL_pass_1 (by decide) ?_
  refine lv_aload_n hx hb dL_pass_2 rfl (lv_at hl 0 rfl) ?_
  refine lv_iload_n hx hb dL_pass_3 rfl (lv_at hl 1 rfl) ?_
  refine y_reti (yrunV (As := [.int p0]) (rest := [.int 0, .ref o]) (q0 := 0) (n := 1) S hml hK (hZ.at E) (Cut.of (wc := ([(x, .inr (6, [.ref (ad 0), .ref ag, .ref wo, .ref dy])), (dy, .inr (8, [.int 0, .ref (g.2.2 0), .int 0]))] ++ wsW g ad (-1) 1 0 ea σ0)) (wr := [(o, .inl (g.2.1 1, 1, .inr (.inl fo)))]) E hA [0, 1, 2, 3, 4, 5, 6, 7, 8, 9, 10, 11, 12, 13, 14, 15, 16, 17, 18, 19, 20, 21, 22, 23, 24, 25, 26, 27, 28, 29, 30, 31, 32] [33] rfl rfl rfl rfl (by decide)) (c_X6_pass l g hst x ag wo dy ad ea p0 _ _) (gi_wsV ml_L_54 im_X6_pass sl_X6_pass in_X6 co_X6_pass) ⟨rfl, by decide +kernel, by decide +kernel, by decide +kernel⟩ ⟨Nat.le_of_ble_eq_true rfl, Nat.le_of_ble_eq_true rfl⟩ rfl rfl rfl hl.1 rfl (Nat.le_of_ble_eq_true rfl) dL_pass_4 ⟨Nat.le_of_ble_eq_true rfl, Nat.le_of_ble_eq_true rfl⟩) (Cut.of (wc := ([(x, .inr (6, [.ref (ad 0), .ref ag, .ref wo, .ref dy])), (dy, .inr (8, [.int 0, .ref (g.2.2 0), .int 0]))] ++ wsW g ad (-1) 1 0 ea σ0)) (wr := [(o, .inl (g.2.1 1, 1, .inr (.inl fo)))]) E hA [0, 1, 2, 3, 4, 5, 6, 7, 8, 9, 10, 11, 12, 13, 14, 15, 16, 17, 18, 19, 20, 21, 22, 23, 24, 25, 26, 27, 28, 29, 30, 31, 32] [33] rfl rfl rfl rfl (by decide)) E (fun En ce q9 H locs hp E hce hcv hcl => ?_) (fun r1 u1 H locs hp E => ?_)
  · have E : Ev g _ s.heap H locs ([(o, .inl (g.2.1 1, 1, .inr (.inl fo))), (x, .inr (6, [.ref (ad 0), .ref ag, .ref wo, .ref dy])), (dy, .inr (8, [.int 0, .ref (g.2.2 0), .int 0]))] ++ wsW g ad (-1) 1 0 ea σ0) := E
    obtain ⟨rfl, hTB⟩ := hp
    refine vx_catch (own := RL) (name := "java/lang/IllegalArgumentException") S.2.2.2 [] ⟨0, 9, 12, 15⟩ [⟨0, 9, 15, 57⟩] htab (fun z hz => by cases hz) (by decide) (by decide) (S.2.2.1 _ cl_L_15) (va_Nw.use rfl (hZ.2.2.2.2.2.2.1 _ nw_iae rfl)) hce hcv hcl ?_
    refine lv_astore_n (lv' := [(3, .ref q9), (0, .ref x), (1, .int p0), (2, .ref o)]) hx hb dL_pass_12 rfl hl (by decide) rfl (fun ls hl => ?_)
    refine lv_iconst (v := 1) hx hb dL_pass_13 (by decide) ?_
    have hKK : (1 : Int32) = kk_pass p0 := (by unfold kk_pass; rw [if_neg hTB])
    have E : Ev g _ s.heap H locs [(o, .inl (g.2.1 1, 1, .inr (.inl fo)))] := Ev.sub E [0] rfl rfl
    exact vx_ret (x_iret fo S hr hlk hsz htt hK E dL_pass_14 ⟨hKK, fun z => absurd (hKK.trans z) (by decide)⟩ rfl ⟨Nat.le_of_ble_eq_true rfl, Nat.le_of_ble_eq_true rfl⟩ ⟨Nat.le_of_ble_eq_true rfl, Nat.le_of_ble_eq_true rfl⟩)
  · skip
    have E : Ev g _ s.heap H locs [(o, .inl (g.2.1 1, 1, .inr (.inl fo))), (x, .inr (6, [.ref (ad 0), .ref ag, .ref wo, .ref dy]))] := E
    obtain ⟨hr0, hQ0⟩ := hp
    have hr1 := hr0.symm
    subst hr1
    refine lv_i2l (v := (p0).toInt64) hx hb dL_pass_7 rfl ?_
    refine w_lst (w' := [(o, .inl (g.2.1 1, 1, .inr (.inl (vp_updL fo (0 : Int32).toNatClampNeg ((p0).toInt64))))), (x, .inr (6, [.ref (ad 0), .ref ag, .ref wo, .ref dy]))]) S hK E 0 1 rfl rfl (show vp_in 0 1 by unfold vp_in; decide) rfl dL_pass_8 (fun H locs E => ?_)
    refine lv_goto (tgt := 18) hx hb dL_pass_9 (by decide) ?_
    refine lv_iconst (v := 0) hx hb dL_pass_18 (by decide) ?_
    have hKK : (0 : Int32) = kk_pass p0 := (by unfold kk_pass; rw [if_pos hQ0])
    have E : Ev g _ s.heap H locs [(o, .inl (g.2.1 1, 1, .inr (.inl (vp_updL fo (0 : Int32).toNatClampNeg ((p0).toInt64)))))] := Ev.sub E [0] rfl rfl
    exact vx_ret (x_iret (vp_updL fo (0 : Int32).toNatClampNeg ((p0).toInt64)) S hr hlk hsz htt hK E dL_pass_19 ⟨hKK, fun _ => rfl⟩ rfl ⟨Nat.le_of_ble_eq_true rfl, Nat.le_of_ble_eq_true rfl⟩ ⟨Nat.le_of_ble_eq_true rfl, Nat.le_of_ble_eq_true rfl⟩)

theorem dL_level_0 : decode cL_level 0 = .ok (.aload_n 2, 1) := by decide +kernel
theorem dL_level_1 : decode cL_level 1 = .ok (.iconst 0, 1) := by decide +kernel
theorem dL_level_2 : decode cL_level 2 = .ok (.aload_n 0, 1) := by decide +kernel
theorem dL_level_3 : decode cL_level 3 = .ok (.iload_n 1, 1) := by decide +kernel
theorem dL_level_4 : decode cL_level 4 = .ok (.invokevirtual 59, 3) := by decide +kernel
theorem dL_level_7 : decode cL_level 7 = .ok (.i2l, 1) := by decide +kernel
theorem dL_level_8 : decode cL_level 8 = .ok (.lastore, 1) := by decide +kernel
theorem dL_level_9 : decode cL_level 9 = .ok (.goto 6, 3) := by decide +kernel
theorem dL_level_12 : decode cL_level 12 = .ok (.astore_n 3, 1) := by decide +kernel
theorem dL_level_13 : decode cL_level 13 = .ok (.iconst 1, 1) := by decide +kernel
theorem dL_level_14 : decode cL_level 14 = .ok (.ireturn, 1) := by decide +kernel
theorem dL_level_15 : decode cL_level 15 = .ok (.iconst 0, 1) := by decide +kernel
theorem dL_level_16 : decode cL_level 16 = .ok (.ireturn, 1) := by decide +kernel
set_option maxHeartbeats 4000000 in
set_option maxRecDepth 100000 in
/-- law: level -/
theorem c_L_level (l : Launch) (g : Gm) (hst : l.stackTraces = false) (x : Nat) (ag : Nat) (wo : Nat) (dy : Nat) (ad : Nat → Nat) (p0 : Int32) (o : Nat) (fo : Nat → Int64) : HXi (S := Nat → Int64) l g yL_level cL_level 4 .int [(0, 9, 12, 13)] ({ frames := 8, cells := 1, slots := 6, locals := 124 } : Room) [.ref x, .int p0, .ref o] [(x, .inr (6, [.ref (ad 0), .ref ag, .ref wo, .ref dy])), ((ad 0), .inr (5, [.ref (ad 1), .ref (ad 2), .ref (ad 3), .ref (ad 4), .ref (ad 29), .ref (ad 5), .ref (ad 6), .ref (ad 7), .int (-1), .int 1, .int 0, .int 0])), ((ad 1), .inr (2, [.ref (ad 8), .ref (ad 9), .ref (ad 10), .ref (ad 11)])), ((ad 8), .inl (g.2.1 0, 16, .inl (fun _ => 0))), ((ad 9), .inl (g.2.1 0, 16, .inl (fun _ => 10))), ((ad 10), .inl (g.2.1 0, 16, .inl (fun _ => 0))), (o, .inl (g.2.1 1, 1, .inr (.inl fo)))] (fun r u => r = kk_cell p0 ∧ (kk_cell p0 = 0 → u 0 = 0)) (fun u => [(o, .inl (g.2.1 1, 1, .inr (.inl u)))]) (fun _ => (1, 6)) := by
  intro sz tt
  refine ofH RL rfl (by decide +kernel) (Nat.le_of_ble_eq_true rfl) (fun p e s m args below meth c hargs S hml hr hlk htab hsz htt hK hA hZ E ls hl => ?_)
  have hx := S.1
  have hb := S.2.1
  have hl : lv_has ls 4 [(0, .ref x), (1, .int p0), (2, .ref o)] := hl
  refine lv_aload_n hx hb dL_level_0 rfl (lv_at hl 2 rfl) ?_
  refine lv_iconst (v := 0) hx hb dL_level_1 (by decide) ?_
  refine lv_aload_n hx hb dL_level_2 rfl (lv_at hl 0 rfl) ?_
  refine lv_iload_n hx hb dL_level_3 rfl (lv_at hl 1 rfl) ?_
  refine y_reti (yrunV (As := [.int p0]) (rest := [.int 0, .ref o]) (q0 := 0) (n := 1) S hml hK (hZ.at E) (Cut.of (wc := [(x, .inr (6, [.ref (ad 0), .ref ag, .ref wo, .ref dy])), ((ad 0), .inr (5, [.ref (ad 1), .ref (ad 2), .ref (ad 3), .ref (ad 4), .ref (ad 29), .ref (ad 5), .ref (ad 6), .ref (ad 7), .int (-1), .int 1, .int 0, .int 0])), ((ad 1), .inr (2, [.ref (ad 8), .ref (ad 9), .ref (ad 10), .ref (ad 11)])), ((ad 8), .inl (g.2.1 0, 16, .inl (fun _ => 0))), ((ad 9), .inl (g.2.1 0, 16, .inl (fun _ => 10))), ((ad 10), .inl (g.2.1 0, 16, .inl (fun _ => 0)))]) (wr := [(o, .inl (g.2.1 1, 1, .inr (.inl fo)))]) E hA [0, 1, 2, 3, 4, 5] [6] rfl rfl rfl rfl (by decide)) (c_X6_level l g hst x ag wo dy ad p0 _ _) (gi_wsV ml_L_59 im_X6_level sl_X6_level in_X6 co_X6_level) ⟨rfl, by decide +kernel, by decide +kernel, by decide +kernel⟩ ⟨Nat.le_of_ble_eq_true rfl, Nat.le_of_ble_eq_true rfl⟩ rfl rfl rfl hl.1 rfl (Nat.le_of_ble_eq_true rfl) dL_level_4 ⟨Nat.le_of_ble_eq_true rfl, Nat.le_of_ble_eq_true rfl⟩) (Cut.of (wc := [(x, .inr (6, [.ref (ad 0), .ref ag, .ref wo, .ref dy])), ((ad 0), .inr (5, [.ref (ad 1), .ref (ad 2), .ref (ad 3), .ref (ad 4), .ref (ad 29), .ref (ad 5), .ref (ad 6), .ref (ad 7), .int (-1), .int 1, .int 0, .int 0])), ((ad 1), .inr (2, [.ref (ad 8), .ref (ad 9), .ref (ad 10), .ref (ad 11)])), ((ad 8), .inl (g.2.1 0, 16, .inl (fun _ => 0))), ((ad 9), .inl (g.2.1 0, 16, .inl (fun _ => 10))), ((ad 10), .inl (g.2.1 0, 16, .inl (fun _ => 0)))]) (wr := [(o, .inl (g.2.1 1, 1, .inr (.inl fo)))]) E hA [0, 1, 2, 3, 4, 5] [6] rfl rfl rfl rfl (by decide)) E (fun En ce q9 H locs hp E hce hcv hcl => ?_) (fun r1 u1 H locs hp E => ?_)
  · have E : Ev g _ s.heap H locs [(o, .inl (g.2.1 1, 1, .inr (.inl fo))), (x, .inr (6, [.ref (ad 0), .ref ag, .ref wo, .ref dy])), ((ad 0), .inr (5, [.ref (ad 1), .ref (ad 2), .ref (ad 3), .ref (ad 4), .ref (ad 29), .ref (ad 5), .ref (ad 6), .ref (ad 7), .int (-1), .int 1, .int 0, .int 0])), ((ad 1), .inr (2, [.ref (ad 8), .ref (ad 9), .ref (ad 10), .ref (ad 11)])), ((ad 8), .inl (g.2.1 0, 16, .inl (fun _ => 0))), ((ad 9), .inl (g.2.1 0, 16, .inl (fun _ => 10))), ((ad 10), .inl (g.2.1 0, 16, .inl (fun _ => 0)))] := E
    obtain ⟨rfl, hT⟩ := hp
    refine vx_catch (own := RL) (name := "java/lang/IndexOutOfBoundsException") S.2.2.2 [] ⟨0, 9, 12, 13⟩ [] htab (fun z hz => by cases hz) (by decide) (by decide) (S.2.2.1 _ cl_L_13) (va_Nw.use rfl (hZ.2.2.2.2.2.2.1 _ nw_ioob rfl)) hce hcv hcl ?_
    refine lv_astore_n (lv' := [(3, .ref q9), (0, .ref x), (1, .int p0), (2, .ref o)]) hx hb dL_level_12 rfl hl (by decide) rfl (fun ls hl => ?_)
    refine lv_iconst (v := 1) hx hb dL_level_13 (by decide) ?_
    have hKK : (1 : Int32) = kk_cell p0 := (by unfold kk_cell; rw [if_neg hT])
    have E : Ev g _ s.heap H locs [(o, .inl (g.2.1 1, 1, .inr (.inl fo)))] := Ev.sub E [0] rfl rfl
    exact vx_ret (x_iret fo S hr hlk hsz htt hK E dL_level_14 ⟨hKK, fun z => absurd (hKK.trans z) (by decide)⟩ rfl ⟨Nat.le_of_ble_eq_true rfl, Nat.le_of_ble_eq_true rfl⟩ ⟨Nat.le_of_ble_eq_true rfl, Nat.le_of_ble_eq_true rfl⟩)
  · skip
    have E : Ev g _ s.heap H locs [(o, .inl (g.2.1 1, 1, .inr (.inl fo))), (x, .inr (6, [.ref (ad 0), .ref ag, .ref wo, .ref dy])), ((ad 0), .inr (5, [.ref (ad 1), .ref (ad 2), .ref (ad 3), .ref (ad 4), .ref (ad 29), .ref (ad 5), .ref (ad 6), .ref (ad 7), .int (-1), .int 1, .int 0, .int 0])), ((ad 1), .inr (2, [.ref (ad 8), .ref (ad 9), .ref (ad 10), .ref (ad 11)])), ((ad 8), .inl (g.2.1 0, 16, .inl (fun _ => 0))), ((ad 9), .inl (g.2.1 0, 16, .inl (fun _ => 10))), ((ad 10), .inl (g.2.1 0, 16, .inl (fun _ => 0)))] := E
    obtain ⟨rfl, hQ0⟩ := hp
    refine lv_i2l (v := 0) hx hb dL_level_7 (by decide) ?_
    refine w_lst (w' := [(o, .inl (g.2.1 1, 1, .inr (.inl (vp_updL fo (0 : Int32).toNatClampNeg 0)))), (x, .inr (6, [.ref (ad 0), .ref ag, .ref wo, .ref dy])), ((ad 0), .inr (5, [.ref (ad 1), .ref (ad 2), .ref (ad 3), .ref (ad 4), .ref (ad 29), .ref (ad 5), .ref (ad 6), .ref (ad 7), .int (-1), .int 1, .int 0, .int 0])), ((ad 1), .inr (2, [.ref (ad 8), .ref (ad 9), .ref (ad 10), .ref (ad 11)])), ((ad 8), .inl (g.2.1 0, 16, .inl (fun _ => 0))), ((ad 9), .inl (g.2.1 0, 16, .inl (fun _ => 10))), ((ad 10), .inl (g.2.1 0, 16, .inl (fun _ => 0)))]) S hK E 0 1 rfl rfl (show vp_in 0 1 by unfold vp_in; decide) rfl dL_level_8 (fun H locs E => ?_)
    refine lv_goto (tgt := 15) hx hb dL_level_9 (by decide) ?_
    refine lv_iconst (v := 0) hx hb dL_level_15 (by decide) ?_
    have hKK : (0 : Int32) = kk_cell p0 := (by unfold kk_cell; rw [if_pos hQ0])
    have E : Ev g _ s.heap H locs [(o, .inl (g.2.1 1, 1, .inr (.inl (vp_updL fo (0 : Int32).toNatClampNeg 0))))] := Ev.sub E [0] rfl rfl
    exact vx_ret (x_iret (vp_updL fo (0 : Int32).toNatClampNeg 0) S hr hlk hsz htt hK E dL_level_16 ⟨hKK, fun _ => rfl⟩ rfl ⟨Nat.le_of_ble_eq_true rfl, Nat.le_of_ble_eq_true rfl⟩ ⟨Nat.le_of_ble_eq_true rfl, Nat.le_of_ble_eq_true rfl⟩)

theorem dL_water_0 : decode cL_water 0 = .ok (.aload_n 2, 1) := by decide +kernel
theorem dL_water_1 : decode cL_water 1 = .ok (.iconst 0, 1) := by decide +kernel
theorem dL_water_2 : decode cL_water 2 = .ok (.aload_n 0, 1) := by decide +kernel
theorem dL_water_3 : decode cL_water 3 = .ok (.iload_n 1, 1) := by decide +kernel
theorem dL_water_4 : decode cL_water 4 = .ok (.invokevirtual 62, 3) := by decide +kernel
theorem dL_water_7 : decode cL_water 7 = .ok (.i2l, 1) := by decide +kernel
theorem dL_water_8 : decode cL_water 8 = .ok (.lastore, 1) := by decide +kernel
theorem dL_water_9 : decode cL_water 9 = .ok (.goto 6, 3) := by decide +kernel
theorem dL_water_12 : decode cL_water 12 = .ok (.astore_n 3, 1) := by decide +kernel
theorem dL_water_13 : decode cL_water 13 = .ok (.iconst 1, 1) := by decide +kernel
theorem dL_water_14 : decode cL_water 14 = .ok (.ireturn, 1) := by decide +kernel
theorem dL_water_15 : decode cL_water 15 = .ok (.iconst 0, 1) := by decide +kernel
theorem dL_water_16 : decode cL_water 16 = .ok (.ireturn, 1) := by decide +kernel
set_option maxHeartbeats 4000000 in
set_option maxRecDepth 100000 in
/-- law: water -/
theorem c_L_water (l : Launch) (g : Gm) (hst : l.stackTraces = false) (x : Nat) (ag : Nat) (wo : Nat) (dy : Nat) (ad : Nat → Nat) (p0 : Int32) (o : Nat) (fo : Nat → Int64) : HXi (S := Nat → Int64) l g yL_water cL_water 4 .int [(0, 9, 12, 13)] ({ frames := 8, cells := 1, slots := 6, locals := 124 } : Room) [.ref x, .int p0, .ref o] [(x, .inr (6, [.ref (ad 0), .ref ag, .ref wo, .ref dy])), ((ad 0), .inr (5, [.ref (ad 1), .ref (ad 2), .ref (ad 3), .ref (ad 4), .ref (ad 29), .ref (ad 5), .ref (ad 6), .ref (ad 7), .int (-1), .int 1, .int 0, .int 0])), ((ad 1), .inr (2, [.ref (ad 8), .ref (ad 9), .ref (ad 10), .ref (ad 11)])), ((ad 10), .inl (g.2.1 0, 16, .inl (fun _ => 0))), (o, .inl (g.2.1 1, 1, .inr (.inl fo)))] (fun r u => r = kk_cell p0 ∧ (kk_cell p0 = 0 → u 0 = 0)) (fun u => [(o, .inl (g.2.1 1, 1, .inr (.inl u)))]) (fun _ => (1, 6)) := by
  intro sz tt
  refine ofH RL rfl (by decide +kernel) (Nat.le_of_ble_eq_true rfl) (fun p e s m args below meth c hargs S hml hr hlk htab hsz htt hK hA hZ E ls hl => ?_)
  have hx := S.1
  have hb := S.2.1
  have hl : lv_has ls 4 [(0, .ref x), (1, .int p0), (2, .ref o)] := hl
  refine lv_aload_n hx hb dL_water_0 rfl (lv_at hl 2 rfl) ?_
  refine lv_iconst (v := 0) hx hb dL_water_1 (by decide) ?_
  refine lv_aload_n hx hb dL_water_2 rfl (lv_at hl 0 rfl) ?_
  refine lv_iload_n hx hb dL_water_3 rfl (lv_at hl 1 rfl) ?_
  refine y_reti (yrunV (As := [.int p0]) (rest := [.int 0, .ref o]) (q0 := 0) (n := 1) S hml hK (hZ.at E) (Cut.of (wc := [(x, .inr (6, [.ref (ad 0), .ref ag, .ref wo, .ref dy])), ((ad 0), .inr (5, [.ref (ad 1), .ref (ad 2), .ref (ad 3), .ref (ad 4), .ref (ad 29), .ref (ad 5), .ref (ad 6), .ref (ad 7), .int (-1), .int 1, .int 0, .int 0])), ((ad 1), .inr (2, [.ref (ad 8), .ref (ad 9), .ref (ad 10), .ref (ad 11)])), ((ad 10), .inl (g.2.1 0, 16, .inl (fun _ => 0)))]) (wr := [(o, .inl (g.2.1 1, 1, .inr (.inl fo)))]) E hA [0, 1, 2, 3] [4] rfl rfl rfl rfl (by decide)) (c_X6_water l g hst x ag wo dy ad p0 _ _) (gi_wsV ml_L_62 im_X6_water sl_X6_water in_X6 co_X6_water) ⟨rfl, by decide +kernel, by decide +kernel, by decide +kernel⟩ ⟨Nat.le_of_ble_eq_true rfl, Nat.le_of_ble_eq_true rfl⟩ rfl rfl rfl hl.1 rfl (Nat.le_of_ble_eq_true rfl) dL_water_4 ⟨Nat.le_of_ble_eq_true rfl, Nat.le_of_ble_eq_true rfl⟩) (Cut.of (wc := [(x, .inr (6, [.ref (ad 0), .ref ag, .ref wo, .ref dy])), ((ad 0), .inr (5, [.ref (ad 1), .ref (ad 2), .ref (ad 3), .ref (ad 4), .ref (ad 29), .ref (ad 5), .ref (ad 6), .ref (ad 7), .int (-1), .int 1, .int 0, .int 0])), ((ad 1), .inr (2, [.ref (ad 8), .ref (ad 9), .ref (ad 10), .ref (ad 11)])), ((ad 10), .inl (g.2.1 0, 16, .inl (fun _ => 0)))]) (wr := [(o, .inl (g.2.1 1, 1, .inr (.inl fo)))]) E hA [0, 1, 2, 3] [4] rfl rfl rfl rfl (by decide)) E (fun En ce q9 H locs hp E hce hcv hcl => ?_) (fun r1 u1 H locs hp E => ?_)
  · have E : Ev g _ s.heap H locs [(o, .inl (g.2.1 1, 1, .inr (.inl fo))), (x, .inr (6, [.ref (ad 0), .ref ag, .ref wo, .ref dy])), ((ad 0), .inr (5, [.ref (ad 1), .ref (ad 2), .ref (ad 3), .ref (ad 4), .ref (ad 29), .ref (ad 5), .ref (ad 6), .ref (ad 7), .int (-1), .int 1, .int 0, .int 0])), ((ad 1), .inr (2, [.ref (ad 8), .ref (ad 9), .ref (ad 10), .ref (ad 11)])), ((ad 10), .inl (g.2.1 0, 16, .inl (fun _ => 0)))] := E
    obtain ⟨rfl, hT⟩ := hp
    refine vx_catch (own := RL) (name := "java/lang/IndexOutOfBoundsException") S.2.2.2 [] ⟨0, 9, 12, 13⟩ [] htab (fun z hz => by cases hz) (by decide) (by decide) (S.2.2.1 _ cl_L_13) (va_Nw.use rfl (hZ.2.2.2.2.2.2.1 _ nw_ioob rfl)) hce hcv hcl ?_
    refine lv_astore_n (lv' := [(3, .ref q9), (0, .ref x), (1, .int p0), (2, .ref o)]) hx hb dL_water_12 rfl hl (by decide) rfl (fun ls hl => ?_)
    refine lv_iconst (v := 1) hx hb dL_water_13 (by decide) ?_
    have hKK : (1 : Int32) = kk_cell p0 := (by unfold kk_cell; rw [if_neg hT])
    have E : Ev g _ s.heap H locs [(o, .inl (g.2.1 1, 1, .inr (.inl fo)))] := Ev.sub E [0] rfl rfl
    exact vx_ret (x_iret fo S hr hlk hsz htt hK E dL_water_14 ⟨hKK, fun z => absurd (hKK.trans z) (by decide)⟩ rfl ⟨Nat.le_of_ble_eq_true rfl, Nat.le_of_ble_eq_true rfl⟩ ⟨Nat.le_of_ble_eq_true rfl, Nat.le_of_ble_eq_true rfl⟩)
  · skip
    have E : Ev g _ s.heap H locs [(o, .inl (g.2.1 1, 1, .inr (.inl fo))), (x, .inr (6, [.ref (ad 0), .ref ag, .ref wo, .ref dy])), ((ad 0), .inr (5, [.ref (ad 1), .ref (ad 2), .ref (ad 3), .ref (ad 4), .ref (ad 29), .ref (ad 5), .ref (ad 6), .ref (ad 7), .int (-1), .int 1, .int 0, .int 0])), ((ad 1), .inr (2, [.ref (ad 8), .ref (ad 9), .ref (ad 10), .ref (ad 11)])), ((ad 10), .inl (g.2.1 0, 16, .inl (fun _ => 0)))] := E
    obtain ⟨rfl, hQ0⟩ := hp
    refine lv_i2l (v := 0) hx hb dL_water_7 (by decide) ?_
    refine w_lst (w' := [(o, .inl (g.2.1 1, 1, .inr (.inl (vp_updL fo (0 : Int32).toNatClampNeg 0)))), (x, .inr (6, [.ref (ad 0), .ref ag, .ref wo, .ref dy])), ((ad 0), .inr (5, [.ref (ad 1), .ref (ad 2), .ref (ad 3), .ref (ad 4), .ref (ad 29), .ref (ad 5), .ref (ad 6), .ref (ad 7), .int (-1), .int 1, .int 0, .int 0])), ((ad 1), .inr (2, [.ref (ad 8), .ref (ad 9), .ref (ad 10), .ref (ad 11)])), ((ad 10), .inl (g.2.1 0, 16, .inl (fun _ => 0)))]) S hK E 0 1 rfl rfl (show vp_in 0 1 by unfold vp_in; decide) rfl dL_water_8 (fun H locs E => ?_)
    refine lv_goto (tgt := 15) hx hb dL_water_9 (by decide) ?_
    refine lv_iconst (v := 0) hx hb dL_water_15 (by decide) ?_
    have hKK : (0 : Int32) = kk_cell p0 := (by unfold kk_cell; rw [if_pos hQ0])
    have E : Ev g _ s.heap H locs [(o, .inl (g.2.1 1, 1, .inr (.inl (vp_updL fo (0 : Int32).toNatClampNeg 0))))] := Ev.sub E [0] rfl rfl
    exact vx_ret (x_iret (vp_updL fo (0 : Int32).toNatClampNeg 0) S hr hlk hsz htt hK E dL_water_16 ⟨hKK, fun _ => rfl⟩ rfl ⟨Nat.le_of_ble_eq_true rfl, Nat.le_of_ble_eq_true rfl⟩ ⟨Nat.le_of_ble_eq_true rfl, Nat.le_of_ble_eq_true rfl⟩)

theorem dL_salt_0 : decode cL_salt 0 = .ok (.aload_n 2, 1) := by decide +kernel
theorem dL_salt_1 : decode cL_salt 1 = .ok (.iconst 0, 1) := by decide +kernel
theorem dL_salt_2 : decode cL_salt 2 = .ok (.aload_n 0, 1) := by decide +kernel
theorem dL_salt_3 : decode cL_salt 3 = .ok (.iload_n 1, 1) := by decide +kernel
theorem dL_salt_4 : decode cL_salt 4 = .ok (.invokevirtual 65, 3) := by decide +kernel
theorem dL_salt_7 : decode cL_salt 7 = .ok (.i2l, 1) := by decide +kernel
theorem dL_salt_8 : decode cL_salt 8 = .ok (.lastore, 1) := by decide +kernel
theorem dL_salt_9 : decode cL_salt 9 = .ok (.goto 6, 3) := by decide +kernel
theorem dL_salt_12 : decode cL_salt 12 = .ok (.astore_n 3, 1) := by decide +kernel
theorem dL_salt_13 : decode cL_salt 13 = .ok (.iconst 1, 1) := by decide +kernel
theorem dL_salt_14 : decode cL_salt 14 = .ok (.ireturn, 1) := by decide +kernel
theorem dL_salt_15 : decode cL_salt 15 = .ok (.iconst 0, 1) := by decide +kernel
theorem dL_salt_16 : decode cL_salt 16 = .ok (.ireturn, 1) := by decide +kernel
set_option maxHeartbeats 4000000 in
set_option maxRecDepth 100000 in
/-- law: salt -/
theorem c_L_salt (l : Launch) (g : Gm) (hst : l.stackTraces = false) (x : Nat) (ag : Nat) (wo : Nat) (dy : Nat) (ad : Nat → Nat) (p0 : Int32) (o : Nat) (fo : Nat → Int64) : HXi (S := Nat → Int64) l g yL_salt cL_salt 4 .int [(0, 9, 12, 13)] ({ frames := 8, cells := 1, slots := 6, locals := 124 } : Room) [.ref x, .int p0, .ref o] [(x, .inr (6, [.ref (ad 0), .ref ag, .ref wo, .ref dy])), ((ad 0), .inr (5, [.ref (ad 1), .ref (ad 2), .ref (ad 3), .ref (ad 4), .ref (ad 29), .ref (ad 5), .ref (ad 6), .ref (ad 7), .int (-1), .int 1, .int 0, .int 0])), ((ad 1), .inr (2, [.ref (ad 8), .ref (ad 9), .ref (ad 10), .ref (ad 11)])), ((ad 11), .inl (g.2.1 0, 16, .inl (fun _ => 0))), (o, .inl (g.2.1 1, 1, .inr (.inl fo)))] (fun r u => r = kk_cell p0 ∧ (kk_cell p0 = 0 → u 0 = 0)) (fun u => [(o, .inl (g.2.1 1, 1, .inr (.inl u)))]) (fun _ => (1, 6)) := by
  intro sz tt
  refine ofH RL rfl (by decide +kernel) (Nat.le_of_ble_eq_true rfl) (fun p e s m args below meth c hargs S hml hr hlk htab hsz htt hK hA hZ E ls hl => ?_)
  have hx := S.1
  have hb := S.2.1
  have hl : lv_has ls 4 [(0, .ref x), (1, .int p0), (2, .ref o)] := hl
  refine lv_aload_n hx hb dL_salt_0 rfl (lv_at hl 2 rfl) ?_
  refine lv_iconst (v := 0) hx hb dL_salt_1 (by decide) ?_
  refine lv_aload_n hx hb dL_salt_2 rfl (lv_at hl 0 rfl) ?_
  refine lv_iload_n hx hb dL_salt_3 rfl (lv_at hl 1 rfl) ?_
  refine y_reti (yrunV (As := [.int p0]) (rest := [.int 0, .ref o]) (q0 := 0) (n := 1) S hml hK (hZ.at E) (Cut.of (wc := [(x, .inr (6, [.ref (ad 0), .ref ag, .ref wo, .ref dy])), ((ad 0), .inr (5, [.ref (ad 1), .ref (ad 2), .ref (ad 3), .ref (ad 4), .ref (ad 29), .ref (ad 5), .ref (ad 6), .ref (ad 7), .int (-1), .int 1, .int 0, .int 0])), ((ad 1), .inr (2, [.ref (ad 8), .ref (ad 9), .ref (ad 10), .ref (ad 11)])), ((ad 11), .inl (g.2.1 0, 16, .inl (fun _ => 0)))]) (wr := [(o, .inl (g.2.1 1, 1, .inr (.inl fo)))]) E hA [0, 1, 2, 3] [4] rfl rfl rfl rfl (by decide)) (c_X6_salt l g hst x ag wo dy ad p0 _ _) (gi_wsV ml_L_65 im_X6_salt sl_X6_salt in_X6 co_X6_salt) ⟨rfl, by decide +kernel, by decide +kernel, by decide +kernel⟩ ⟨Nat.le_of_ble_eq_true rfl, Nat.le_of_ble_eq_true rfl⟩ rfl rfl rfl hl.1 rfl (Nat.le_of_ble_eq_true rfl) dL_salt_4 ⟨Nat.le_of_ble_eq_true rfl, Nat.le_of_ble_eq_true rfl⟩) (Cut.of (wc := [(x, .inr (6, [.ref (ad 0), .ref ag, .ref wo, .ref dy])), ((ad 0), .inr (5, [.ref (ad 1), .ref (ad 2), .ref (ad 3), .ref (ad 4), .ref (ad 29), .ref (ad 5), .ref (ad 6), .ref (ad 7), .int (-1), .int 1, .int 0, .int 0])), ((ad 1), .inr (2, [.ref (ad 8), .ref (ad 9), .ref (ad 10), .ref (ad 11)])), ((ad 11), .inl (g.2.1 0, 16, .inl (fun _ => 0)))]) (wr := [(o, .inl (g.2.1 1, 1, .inr (.inl fo)))]) E hA [0, 1, 2, 3] [4] rfl rfl rfl rfl (by decide)) E (fun En ce q9 H locs hp E hce hcv hcl => ?_) (fun r1 u1 H locs hp E => ?_)
  · have E : Ev g _ s.heap H locs [(o, .inl (g.2.1 1, 1, .inr (.inl fo))), (x, .inr (6, [.ref (ad 0), .ref ag, .ref wo, .ref dy])), ((ad 0), .inr (5, [.ref (ad 1), .ref (ad 2), .ref (ad 3), .ref (ad 4), .ref (ad 29), .ref (ad 5), .ref (ad 6), .ref (ad 7), .int (-1), .int 1, .int 0, .int 0])), ((ad 1), .inr (2, [.ref (ad 8), .ref (ad 9), .ref (ad 10), .ref (ad 11)])), ((ad 11), .inl (g.2.1 0, 16, .inl (fun _ => 0)))] := E
    obtain ⟨rfl, hT⟩ := hp
    refine vx_catch (own := RL) (name := "java/lang/IndexOutOfBoundsException") S.2.2.2 [] ⟨0, 9, 12, 13⟩ [] htab (fun z hz => by cases hz) (by decide) (by decide) (S.2.2.1 _ cl_L_13) (va_Nw.use rfl (hZ.2.2.2.2.2.2.1 _ nw_ioob rfl)) hce hcv hcl ?_
    refine lv_astore_n (lv' := [(3, .ref q9), (0, .ref x), (1, .int p0), (2, .ref o)]) hx hb dL_salt_12 rfl hl (by decide) rfl (fun ls hl => ?_)
    refine lv_iconst (v := 1) hx hb dL_salt_13 (by decide) ?_
    have hKK : (1 : Int32) = kk_cell p0 := (by unfold kk_cell; rw [if_neg hT])
    have E : Ev g _ s.heap H locs [(o, .inl (g.2.1 1, 1, .inr (.inl fo)))] := Ev.sub E [0] rfl rfl
    exact vx_ret (x_iret fo S hr hlk hsz htt hK E dL_salt_14 ⟨hKK, fun z => absurd (hKK.trans z) (by decide)⟩ rfl ⟨Nat.le_of_ble_eq_true rfl, Nat.le_of_ble_eq_true rfl⟩ ⟨Nat.le_of_ble_eq_true rfl, Nat.le_of_ble_eq_true rfl⟩)
  · skip
    have E : Ev g _ s.heap H locs [(o, .inl (g.2.1 1, 1, .inr (.inl fo))), (x, .inr (6, [.ref (ad 0), .ref ag, .ref wo, .ref dy])), ((ad 0), .inr (5, [.ref (ad 1), .ref (ad 2), .ref (ad 3), .ref (ad 4), .ref (ad 29), .ref (ad 5), .ref (ad 6), .ref (ad 7), .int (-1), .int 1, .int 0, .int 0])), ((ad 1), .inr (2, [.ref (ad 8), .ref (ad 9), .ref (ad 10), .ref (ad 11)])), ((ad 11), .inl (g.2.1 0, 16, .inl (fun _ => 0)))] := E
    obtain ⟨rfl, hQ0⟩ := hp
    refine lv_i2l (v := 0) hx hb dL_salt_7 (by decide) ?_
    refine w_lst (w' := [(o, .inl (g.2.1 1, 1, .inr (.inl (vp_updL fo (0 : Int32).toNatClampNeg 0)))), (x, .inr (6, [.ref (ad 0), .ref ag, .ref wo, .ref dy])), ((ad 0), .inr (5, [.ref (ad 1), .ref (ad 2), .ref (ad 3), .ref (ad 4), .ref (ad 29), .ref (ad 5), .ref (ad 6), .ref (ad 7), .int (-1), .int 1, .int 0, .int 0])), ((ad 1), .inr (2, [.ref (ad 8), .ref (ad 9), .ref (ad 10), .ref (ad 11)])), ((ad 11), .inl (g.2.1 0, 16, .inl (fun _ => 0)))]) S hK E 0 1 rfl rfl (show vp_in 0 1 by unfold vp_in; decide) rfl dL_salt_8 (fun H locs E => ?_)
    refine lv_goto (tgt := 15) hx hb dL_salt_9 (by decide) ?_
    refine lv_iconst (v := 0) hx hb dL_salt_15 (by decide) ?_
    have hKK : (0 : Int32) = kk_cell p0 := (by unfold kk_cell; rw [if_pos hQ0])
    have E : Ev g _ s.heap H locs [(o, .inl (g.2.1 1, 1, .inr (.inl (vp_updL fo (0 : Int32).toNatClampNeg 0))))] := Ev.sub E [0] rfl rfl
    exact vx_ret (x_iret (vp_updL fo (0 : Int32).toNatClampNeg 0) S hr hlk hsz htt hK E dL_salt_16 ⟨hKK, fun _ => rfl⟩ rfl ⟨Nat.le_of_ble_eq_true rfl, Nat.le_of_ble_eq_true rfl⟩ ⟨Nat.le_of_ble_eq_true rfl, Nat.le_of_ble_eq_true rfl⟩)

theorem dL_setWish_0 : decode cL_setWish 0 = .ok (.aload_n 3, 1) := by decide +kernel
theorem dL_setWish_1 : decode cL_setWish 1 = .ok (.iconst 0, 1) := by decide +kernel
theorem dL_setWish_2 : decode cL_setWish 2 = .ok (.aload_n 0, 1) := by decide +kernel
theorem dL_setWish_3 : decode cL_setWish 3 = .ok (.iload_n 1, 1) := by decide +kernel
theorem dL_setWish_4 : decode cL_setWish 4 = .ok (.iload_n 2, 1) := by decide +kernel
theorem dL_setWish_5 : decode cL_setWish 5 = .ok (.invokevirtual 46, 3) := by decide +kernel
theorem dL_setWish_8 : decode cL_setWish 8 = .ok (.i2l, 1) := by decide +kernel
theorem dL_setWish_9 : decode cL_setWish 9 = .ok (.lastore, 1) := by decide +kernel
theorem dL_setWish_10 : decode cL_setWish 10 = .ok (.goto 11, 3) := by decide +kernel
theorem dL_setWish_13 : decode cL_setWish 13 = .ok (.astore 4, 2) := by decide +kernel
theorem dL_setWish_15 : decode cL_setWish 15 = .ok (.iconst 1, 1) := by decide +kernel
theorem dL_setWish_16 : decode cL_setWish 16 = .ok (.ireturn, 1) := by decide +kernel
theorem dL_setWish_17 : decode cL_setWish 17 = .ok (.astore 4, 2) := by decide +kernel
theorem dL_setWish_19 : decode cL_setWish 19 = .ok (.iconst 2, 1) := by decide +kernel
theorem dL_setWish_20 : decode cL_setWish 20 = .ok (.ireturn, 1) := by decide +kernel
theorem dL_setWish_21 : decode cL_setWish 21 = .ok (.iconst 0, 1) := by decide +kernel
theorem dL_setWish_22 : decode cL_setWish 22 = .ok (.ireturn, 1) := by decide +kernel
set_option maxHeartbeats 4000000 in
set_option maxRecDepth 100000 in
/-- law: setWish -/
theorem c_L_setWish (l : Launch) (g : Gm) (hst : l.stackTraces = false) (x : Nat) (ag : Nat) (wo : Nat) (dy : Nat) (ad : Nat → Nat) (p0 : Int32) (p1 : Int32) (o : Nat) (fo : Nat → Int64) : HXi (S := Nat → Int64) l g yL_setWish cL_setWish 5 .int [(0, 10, 13, 13), (0, 10, 17, 15)] ({ frames := 9, cells := 1, slots := 6, locals := 147 } : Room) [.ref x, .int p0, .int p1, .ref o] [(x, .inr (6, [.ref (ad 0), .ref ag, .ref wo, .ref dy])), ((ad 0), .inr (5, [.ref (ad 1), .ref (ad 2), .ref (ad 3), .ref (ad 4), .ref (ad 29), .ref (ad 5), .ref (ad 6), .ref (ad 7), .int (-1), .int 1, .int 0, .int 0])), ((ad 3), .inr (4, [.ref (ad 18), .ref (ad 19), .ref (ad 20), .ref (ad 21), .ref (ad 22), .ref (ad 23), .ref (ad 24), .ref (ad 25), .ref (ad 26), .ref (ad 27), .int 0])), (o, .inl (g.2.1 1, 1, .inr (.inl fo)))] (fun r _ => r = 1) (fun u => [(o, .inl (g.2.1 1, 1, .inr (.inl u)))]) (fun _ => (1, 6)) := by
  intro sz tt
  refine ofH RL rfl (by decide +kernel) (Nat.le_of_ble_eq_true rfl) (fun p e s m args below meth c hargs S hml hr hlk htab hsz htt hK hA hZ E ls hl => ?_)
  have hx := S.1
  have hb := S.2.1
  have hl : lv_has ls 5 [(0, .ref x), (1, .int p0), (2, .int p1), (3, .ref o)] := hl
  refine lv_aload_n hx hb dL_setWish_0 rfl (lv_at hl 3 rfl) ?_
  refine lv_iconst (v := 0) hx hb dL_setWish_1 (by decide) ?_
  refine lv_aload_n hx hb dL_setWish_2 rfl (lv_at hl 0 rfl) ?_
  refine lv_iload_n hx hb dL_setWish_3 rfl (lv_at hl 1 rfl) ?_
  refine lv_iload_n hx hb dL_setWish_4 rfl (lv_at hl 2 rfl) ?_
  refine y_reti (yrunV (As := [.int p0, .int p1]) (rest := [.int 0, .ref o]) (q0 := 0) (n := 2) S hml hK (hZ.at E) (Cut.of (wc := [(x, .inr (6, [.ref (ad 0), .ref ag, .ref wo, .ref dy])), ((ad 0), .inr (5, [.ref (ad 1), .ref (ad 2), .ref (ad 3), .ref (ad 4), .ref (ad 29), .ref (ad 5), .ref (ad 6), .ref (ad 7), .int (-1), .int 1, .int 0, .int 0])), ((ad 3), .inr (4, [.ref (ad 18), .ref (ad 19), .ref (ad 20), .ref (ad 21), .ref (ad 22), .ref (ad 23), .ref (ad 24), .ref (ad 25), .ref (ad 26), .ref (ad 27), .int 0]))]) (wr := [(o, .inl (g.2.1 1, 1, .inr (.inl fo)))]) E hA [0, 1, 2] [3] rfl rfl rfl rfl (by decide)) (c_X6_setWish l g hst x ag wo dy ad p0 p1 _ _) (gi_wsV ml_L_46 im_X6_setWish sl_X6_setWish in_X6 co_X6_setWish) ⟨rfl, by decide +kernel, by decide +kernel, by decide +kernel⟩ ⟨Nat.le_of_ble_eq_true rfl, Nat.le_of_ble_eq_true rfl⟩ rfl rfl rfl hl.1 rfl (Nat.le_of_ble_eq_true rfl) dL_setWish_5 ⟨Nat.le_of_ble_eq_true rfl, Nat.le_of_ble_eq_true rfl⟩) (Cut.of (wc := [(x, .inr (6, [.ref (ad 0), .ref ag, .ref wo, .ref dy])), ((ad 0), .inr (5, [.ref (ad 1), .ref (ad 2), .ref (ad 3), .ref (ad 4), .ref (ad 29), .ref (ad 5), .ref (ad 6), .ref (ad 7), .int (-1), .int 1, .int 0, .int 0])), ((ad 3), .inr (4, [.ref (ad 18), .ref (ad 19), .ref (ad 20), .ref (ad 21), .ref (ad 22), .ref (ad 23), .ref (ad 24), .ref (ad 25), .ref (ad 26), .ref (ad 27), .int 0]))]) (wr := [(o, .inl (g.2.1 1, 1, .inr (.inl fo)))]) E hA [0, 1, 2] [3] rfl rfl rfl rfl (by decide)) E (fun En ce q9 H locs hp E hce hcv hcl => ?_) (fun r1 u1 H locs hp E => ?_)
  · have E : Ev g _ s.heap H locs [(o, .inl (g.2.1 1, 1, .inr (.inl fo))), (x, .inr (6, [.ref (ad 0), .ref ag, .ref wo, .ref dy])), ((ad 0), .inr (5, [.ref (ad 1), .ref (ad 2), .ref (ad 3), .ref (ad 4), .ref (ad 29), .ref (ad 5), .ref (ad 6), .ref (ad 7), .int (-1), .int 1, .int 0, .int 0])), ((ad 3), .inr (4, [.ref (ad 18), .ref (ad 19), .ref (ad 20), .ref (ad 21), .ref (ad 22), .ref (ad 23), .ref (ad 24), .ref (ad 25), .ref (ad 26), .ref (ad 27), .int 0]))] := E
    obtain rfl := hp
    refine vx_catch (own := RL) (name := "java/lang/IndexOutOfBoundsException") S.2.2.2 [] ⟨0, 10, 13, 13⟩ [⟨0, 10, 17, 15⟩] htab (fun z hz => by cases hz) (by decide) (by decide) (S.2.2.1 _ cl_L_13) (va_Nw.use rfl (hZ.2.2.2.2.2.2.1 _ nw_ioob rfl)) hce hcv hcl ?_
    refine lv_astore (lv' := [(4, .ref q9), (0, .ref x), (1, .int p0), (2, .int p1), (3, .ref o)]) hx hb dL_setWish_13 hl (by decide) rfl (fun ls hl => ?_)
    refine lv_iconst (v := 1) hx hb dL_setWish_15 (by decide) ?_
    have E : Ev g _ s.heap H locs [(o, .inl (g.2.1 1, 1, .inr (.inl fo)))] := Ev.sub E [0] rfl rfl
    exact vx_ret (x_iret fo S hr hlk hsz htt hK E dL_setWish_16 rfl rfl ⟨Nat.le_of_ble_eq_true rfl, Nat.le_of_ble_eq_true rfl⟩ ⟨Nat.le_of_ble_eq_true rfl, Nat.le_of_ble_eq_true rfl⟩)
  · skip
    exact hp.elim

theorem dL_transfer_0 : decode cL_transfer 0 = .ok (.aload 4, 2) := by decide +kernel
theorem dL_transfer_2 : decode cL_transfer 2 = .ok (.iconst 0, 1) := by decide +kernel
theorem dL_transfer_3 : decode cL_transfer 3 = .ok (.aload_n 0, 1) := by decide +kernel
theorem dL_transfer_4 : decode cL_transfer 4 = .ok (.iload_n 1, 1) := by decide +kernel
theorem dL_transfer_5 : decode cL_transfer 5 = .ok (.iload_n 2, 1) := by decide +kernel
theorem dL_transfer_6 : decode cL_transfer 6 = .ok (.iload_n 3, 1) := by decide +kernel
theorem dL_transfer_7 : decode cL_transfer 7 = .ok (.invokevirtual 49, 3) := by decide +kernel
theorem dL_transfer_10 : decode cL_transfer 10 = .ok (.i2l, 1) := by decide +kernel
theorem dL_transfer_11 : decode cL_transfer 11 = .ok (.lastore, 1) := by decide +kernel
theorem dL_transfer_12 : decode cL_transfer 12 = .ok (.goto 15, 3) := by decide +kernel
theorem dL_transfer_15 : decode cL_transfer 15 = .ok (.astore 5, 2) := by decide +kernel
theorem dL_transfer_17 : decode cL_transfer 17 = .ok (.iconst 1, 1) := by decide +kernel
theorem dL_transfer_18 : decode cL_transfer 18 = .ok (.ireturn, 1) := by decide +kernel
theorem dL_transfer_19 : decode cL_transfer 19 = .ok (.astore 5, 2) := by decide +kernel
theorem dL_transfer_21 : decode cL_transfer 21 = .ok (.iconst 2, 1) := by decide +kernel
theorem dL_transfer_22 : decode cL_transfer 22 = .ok (.ireturn, 1) := by decide +kernel
theorem dL_transfer_23 : decode cL_transfer 23 = .ok (.astore 5, 2) := by decide +kernel
theorem dL_transfer_25 : decode cL_transfer 25 = .ok (.iconst 3, 1) := by decide +kernel
theorem dL_transfer_26 : decode cL_transfer 26 = .ok (.ireturn, 1) := by decide +kernel
theorem dL_transfer_27 : decode cL_transfer 27 = .ok (.iconst 0, 1) := by decide +kernel
theorem dL_transfer_28 : decode cL_transfer 28 = .ok (.ireturn, 1) := by decide +kernel
set_option maxHeartbeats 4000000 in
set_option maxRecDepth 100000 in
/-- law: transfer -/
theorem c_L_transfer (l : Launch) (g : Gm) (hst : l.stackTraces = false) (x : Nat) (ag : Nat) (wo : Nat) (dy : Nat) (ad : Nat → Nat) (p0 : Int32) (p1 : Int32) (p2 : Int32) (o : Nat) (fo : Nat → Int64) : HXi (S := Nat → Int64) l g yL_transfer cL_transfer 6 .int [(0, 12, 15, 13), (0, 12, 19, 15), (0, 12, 23, 52)] ({ frames := 9, cells := 1, slots := 6, locals := 147 } : Room) [.ref x, .int p0, .int p1, .int p2, .ref o] [(x, .inr (6, [.ref (ad 0), .ref ag, .ref wo, .ref dy])), ((ad 0), .inr (5, [.ref (ad 1), .ref (ad 2), .ref (ad 3), .ref (ad 4), .ref (ad 29), .ref (ad 5), .ref (ad 6), .ref (ad 7), .int (-1), .int 1, .int 0, .int 0])), ((ad 3), .inr (4, [.ref (ad 18), .ref (ad 19), .ref (ad 20), .ref (ad 21), .ref (ad 22), .ref (ad 23), .ref (ad 24), .ref (ad 25), .ref (ad 26), .ref (ad 27), .int 0])), (o, .inl (g.2.1 1, 1, .inr (.inl fo)))] (fun r _ => r = 1) (fun u => [(o, .inl (g.2.1 1, 1, .inr (.inl u)))]) (fun _ => (1, 6)) := by
  intro sz tt
  refine ofH RL rfl (by decide +kernel) (Nat.le_of_ble_eq_true rfl) (fun p e s m args below meth c hargs S hml hr hlk htab hsz htt hK hA hZ E ls hl => ?_)
  have hx := S.1
  have hb := S.2.1
  have hl : lv_has ls 6 [(0, .ref x), (1, .int p0), (2, .int p1), (3, .int p2), (4, .ref o)] := hl
  refine lv_aload hx hb dL_transfer_0 (lv_at hl 4 rfl) ?_
  refine lv_iconst (v := 0) hx hb dL_transfer_2 (by decide) ?_
  refine lv_aload_n hx hb dL_transfer_3 rfl (lv_at hl 0 rfl) ?_
  refine lv_iload_n hx hb dL_transfer_4 rfl (lv_at hl 1 rfl) ?_
  refine lv_iload_n hx hb dL_transfer_5 rfl (lv_at hl 2 rfl) ?_
  refine lv_iload_n hx hb dL_transfer_6 rfl (lv_at hl 3 rfl) ?_
  refine y_reti (yrunV (As := [.int p0, .int p1, .int p2]) (rest := [.int 0, .ref o]) (q0 := 0) (n := 3) S hml hK (hZ.at E) (Cut.of (wc := [(x, .inr (6, [.ref (ad 0), .ref ag, .ref wo, .ref dy])), ((ad 0), .inr (5, [.ref (ad 1), .ref (ad 2), .ref (ad 3), .ref (ad 4), .ref (ad 29), .ref (ad 5), .ref (ad 6), .ref (ad 7), .int (-1), .int 1, .int 0, .int 0])), ((ad 3), .inr (4, [.ref (ad 18), .ref (ad 19), .ref (ad 20), .ref (ad 21), .ref (ad 22), .ref (ad 23), .ref (ad 24), .ref (ad 25), .ref (ad 26), .ref (ad 27), .int 0]))]) (wr := [(o, .inl (g.2.1 1, 1, .inr (.inl fo)))]) E hA [0, 1, 2] [3] rfl rfl rfl rfl (by decide)) (c_X6_transfer l g hst x ag wo dy ad p0 p1 p2 _ _) (gi_wsV ml_L_49 im_X6_transfer sl_X6_transfer in_X6 co_X6_transfer) ⟨rfl, by decide +kernel, by decide +kernel, by decide +kernel⟩ ⟨Nat.le_of_ble_eq_true rfl, Nat.le_of_ble_eq_true rfl⟩ rfl rfl rfl hl.1 rfl (Nat.le_of_ble_eq_true rfl) dL_transfer_7 ⟨Nat.le_of_ble_eq_true rfl, Nat.le_of_ble_eq_true rfl⟩) (Cut.of (wc := [(x, .inr (6, [.ref (ad 0), .ref ag, .ref wo, .ref dy])), ((ad 0), .inr (5, [.ref (ad 1), .ref (ad 2), .ref (ad 3), .ref (ad 4), .ref (ad 29), .ref (ad 5), .ref (ad 6), .ref (ad 7), .int (-1), .int 1, .int 0, .int 0])), ((ad 3), .inr (4, [.ref (ad 18), .ref (ad 19), .ref (ad 20), .ref (ad 21), .ref (ad 22), .ref (ad 23), .ref (ad 24), .ref (ad 25), .ref (ad 26), .ref (ad 27), .int 0]))]) (wr := [(o, .inl (g.2.1 1, 1, .inr (.inl fo)))]) E hA [0, 1, 2] [3] rfl rfl rfl rfl (by decide)) E (fun En ce q9 H locs hp E hce hcv hcl => ?_) (fun r1 u1 H locs hp E => ?_)
  · have E : Ev g _ s.heap H locs [(o, .inl (g.2.1 1, 1, .inr (.inl fo))), (x, .inr (6, [.ref (ad 0), .ref ag, .ref wo, .ref dy])), ((ad 0), .inr (5, [.ref (ad 1), .ref (ad 2), .ref (ad 3), .ref (ad 4), .ref (ad 29), .ref (ad 5), .ref (ad 6), .ref (ad 7), .int (-1), .int 1, .int 0, .int 0])), ((ad 3), .inr (4, [.ref (ad 18), .ref (ad 19), .ref (ad 20), .ref (ad 21), .ref (ad 22), .ref (ad 23), .ref (ad 24), .ref (ad 25), .ref (ad 26), .ref (ad 27), .int 0]))] := E
    obtain rfl := hp
    refine vx_catch (own := RL) (name := "java/lang/IndexOutOfBoundsException") S.2.2.2 [] ⟨0, 12, 15, 13⟩ [⟨0, 12, 19, 15⟩, ⟨0, 12, 23, 52⟩] htab (fun z hz => by cases hz) (by decide) (by decide) (S.2.2.1 _ cl_L_13) (va_Nw.use rfl (hZ.2.2.2.2.2.2.1 _ nw_ioob rfl)) hce hcv hcl ?_
    refine lv_astore (lv' := [(5, .ref q9), (0, .ref x), (1, .int p0), (2, .int p1), (3, .int p2), (4, .ref o)]) hx hb dL_transfer_15 hl (by decide) rfl (fun ls hl => ?_)
    refine lv_iconst (v := 1) hx hb dL_transfer_17 (by decide) ?_
    have E : Ev g _ s.heap H locs [(o, .inl (g.2.1 1, 1, .inr (.inl fo)))] := Ev.sub E [0] rfl rfl
    exact vx_ret (x_iret fo S hr hlk hsz htt hK E dL_transfer_18 rfl rfl ⟨Nat.le_of_ble_eq_true rfl, Nat.le_of_ble_eq_true rfl⟩ ⟨Nat.le_of_ble_eq_true rfl, Nat.le_of_ble_eq_true rfl⟩)
  · skip
    exact hp.elim

theorem dL_amount_0 : decode cL_amount 0 = .ok (.aload_n 2, 1) := by decide +kernel
theorem dL_amount_1 : decode cL_amount 1 = .ok (.iconst 0, 1) := by decide +kernel
theorem dL_amount_2 : decode cL_amount 2 = .ok (.aload_n 0, 1) := by decide +kernel
theorem dL_amount_3 : decode cL_amount 3 = .ok (.iload_n 1, 1) := by decide +kernel
theorem dL_amount_4 : decode cL_amount 4 = .ok (.invokevirtual 68, 3) := by decide +kernel
theorem dL_amount_7 : decode cL_amount 7 = .ok (.i2l, 1) := by decide +kernel
theorem dL_amount_8 : decode cL_amount 8 = .ok (.lastore, 1) := by decide +kernel
theorem dL_amount_9 : decode cL_amount 9 = .ok (.goto 6, 3) := by decide +kernel
theorem dL_amount_12 : decode cL_amount 12 = .ok (.astore_n 3, 1) := by decide +kernel
theorem dL_amount_13 : decode cL_amount 13 = .ok (.iconst 1, 1) := by decide +kernel
theorem dL_amount_14 : decode cL_amount 14 = .ok (.ireturn, 1) := by decide +kernel
theorem dL_amount_15 : decode cL_amount 15 = .ok (.iconst 0, 1) := by decide +kernel
theorem dL_amount_16 : decode cL_amount 16 = .ok (.ireturn, 1) := by decide +kernel
set_option maxHeartbeats 4000000 in
set_option maxRecDepth 100000 in
/-- law: amount -/
theorem c_L_amount (l : Launch) (g : Gm) (hst : l.stackTraces = false) (x : Nat) (ag : Nat) (wo : Nat) (dy : Nat) (ad : Nat → Nat) (p0 : Int32) (o : Nat) (fo : Nat → Int64) : HXi (S := Nat → Int64) l g yL_amount cL_amount 4 .int [(0, 9, 12, 13)] ({ frames := 9, cells := 1, slots := 6, locals := 145 } : Room) [.ref x, .int p0, .ref o] [(x, .inr (6, [.ref (ad 0), .ref ag, .ref wo, .ref dy])), ((ad 0), .inr (5, [.ref (ad 1), .ref (ad 2), .ref (ad 3), .ref (ad 4), .ref (ad 29), .ref (ad 5), .ref (ad 6), .ref (ad 7), .int (-1), .int 1, .int 0, .int 0])), ((ad 3), .inr (4, [.ref (ad 18), .ref (ad 19), .ref (ad 20), .ref (ad 21), .ref (ad 22), .ref (ad 23), .ref (ad 24), .ref (ad 25), .ref (ad 26), .ref (ad 27), .int 0])), (o, .inl (g.2.1 1, 1, .inr (.inl fo)))] (fun r _ => r = 1) (fun u => [(o, .inl (g.2.1 1, 1, .inr (.inl u)))]) (fun _ => (1, 6)) := by
  intro sz tt
  refine ofH RL rfl (by decide +kernel) (Nat.le_of_ble_eq_true rfl) (fun p e s m args below meth c hargs S hml hr hlk htab hsz htt hK hA hZ E ls hl => ?_)
  have hx := S.1
  have hb := S.2.1
  have hl : lv_has ls 4 [(0, .ref x), (1, .int p0), (2, .ref o)] := hl
  refine lv_aload_n hx hb dL_amount_0 rfl (lv_at hl 2 rfl) ?_
  refine lv_iconst (v := 0) hx hb dL_amount_1 (by decide) ?_
  refine lv_aload_n hx hb dL_amount_2 rfl (lv_at hl 0 rfl) ?_
  refine lv_iload_n hx hb dL_amount_3 rfl (lv_at hl 1 rfl) ?_
  refine y_reti (yrunV (As := [.int p0]) (rest := [.int 0, .ref o]) (q0 := 0) (n := 1) S hml hK (hZ.at E) (Cut.of (wc := [(x, .inr (6, [.ref (ad 0), .ref ag, .ref wo, .ref dy])), ((ad 0), .inr (5, [.ref (ad 1), .ref (ad 2), .ref (ad 3), .ref (ad 4), .ref (ad 29), .ref (ad 5), .ref (ad 6), .ref (ad 7), .int (-1), .int 1, .int 0, .int 0])), ((ad 3), .inr (4, [.ref (ad 18), .ref (ad 19), .ref (ad 20), .ref (ad 21), .ref (ad 22), .ref (ad 23), .ref (ad 24), .ref (ad 25), .ref (ad 26), .ref (ad 27), .int 0]))]) (wr := [(o, .inl (g.2.1 1, 1, .inr (.inl fo)))]) E hA [0, 1, 2] [3] rfl rfl rfl rfl (by decide)) (c_X6_amount l g hst x ag wo dy ad p0 _ _) (gi_wsV ml_L_68 im_X6_amount sl_X6_amount in_X6 co_X6_amount) ⟨rfl, by decide +kernel, by decide +kernel, by decide +kernel⟩ ⟨Nat.le_of_ble_eq_true rfl, Nat.le_of_ble_eq_true rfl⟩ rfl rfl rfl hl.1 rfl (Nat.le_of_ble_eq_true rfl) dL_amount_4 ⟨Nat.le_of_ble_eq_true rfl, Nat.le_of_ble_eq_true rfl⟩) (Cut.of (wc := [(x, .inr (6, [.ref (ad 0), .ref ag, .ref wo, .ref dy])), ((ad 0), .inr (5, [.ref (ad 1), .ref (ad 2), .ref (ad 3), .ref (ad 4), .ref (ad 29), .ref (ad 5), .ref (ad 6), .ref (ad 7), .int (-1), .int 1, .int 0, .int 0])), ((ad 3), .inr (4, [.ref (ad 18), .ref (ad 19), .ref (ad 20), .ref (ad 21), .ref (ad 22), .ref (ad 23), .ref (ad 24), .ref (ad 25), .ref (ad 26), .ref (ad 27), .int 0]))]) (wr := [(o, .inl (g.2.1 1, 1, .inr (.inl fo)))]) E hA [0, 1, 2] [3] rfl rfl rfl rfl (by decide)) E (fun En ce q9 H locs hp E hce hcv hcl => ?_) (fun r1 u1 H locs hp E => ?_)
  · have E : Ev g _ s.heap H locs [(o, .inl (g.2.1 1, 1, .inr (.inl fo))), (x, .inr (6, [.ref (ad 0), .ref ag, .ref wo, .ref dy])), ((ad 0), .inr (5, [.ref (ad 1), .ref (ad 2), .ref (ad 3), .ref (ad 4), .ref (ad 29), .ref (ad 5), .ref (ad 6), .ref (ad 7), .int (-1), .int 1, .int 0, .int 0])), ((ad 3), .inr (4, [.ref (ad 18), .ref (ad 19), .ref (ad 20), .ref (ad 21), .ref (ad 22), .ref (ad 23), .ref (ad 24), .ref (ad 25), .ref (ad 26), .ref (ad 27), .int 0]))] := E
    obtain rfl := hp
    refine vx_catch (own := RL) (name := "java/lang/IndexOutOfBoundsException") S.2.2.2 [] ⟨0, 9, 12, 13⟩ [] htab (fun z hz => by cases hz) (by decide) (by decide) (S.2.2.1 _ cl_L_13) (va_Nw.use rfl (hZ.2.2.2.2.2.2.1 _ nw_ioob rfl)) hce hcv hcl ?_
    refine lv_astore_n (lv' := [(3, .ref q9), (0, .ref x), (1, .int p0), (2, .ref o)]) hx hb dL_amount_12 rfl hl (by decide) rfl (fun ls hl => ?_)
    refine lv_iconst (v := 1) hx hb dL_amount_13 (by decide) ?_
    have E : Ev g _ s.heap H locs [(o, .inl (g.2.1 1, 1, .inr (.inl fo)))] := Ev.sub E [0] rfl rfl
    exact vx_ret (x_iret fo S hr hlk hsz htt hK E dL_amount_14 rfl rfl ⟨Nat.le_of_ble_eq_true rfl, Nat.le_of_ble_eq_true rfl⟩ ⟨Nat.le_of_ble_eq_true rfl, Nat.le_of_ble_eq_true rfl⟩)
  · skip
    exact hp.elim

theorem dL_yearly_0 : decode cL_yearly 0 = .ok (.aload_n 2, 1) := by decide +kernel
theorem dL_yearly_1 : decode cL_yearly 1 = .ok (.iconst 0, 1) := by decide +kernel
theorem dL_yearly_2 : decode cL_yearly 2 = .ok (.aload_n 0, 1) := by decide +kernel
theorem dL_yearly_3 : decode cL_yearly 3 = .ok (.iload_n 1, 1) := by decide +kernel
theorem dL_yearly_4 : decode cL_yearly 4 = .ok (.invokevirtual 71, 3) := by decide +kernel
theorem dL_yearly_7 : decode cL_yearly 7 = .ok (.i2l, 1) := by decide +kernel
theorem dL_yearly_8 : decode cL_yearly 8 = .ok (.lastore, 1) := by decide +kernel
theorem dL_yearly_9 : decode cL_yearly 9 = .ok (.goto 6, 3) := by decide +kernel
theorem dL_yearly_12 : decode cL_yearly 12 = .ok (.astore_n 3, 1) := by decide +kernel
theorem dL_yearly_13 : decode cL_yearly 13 = .ok (.iconst 1, 1) := by decide +kernel
theorem dL_yearly_14 : decode cL_yearly 14 = .ok (.ireturn, 1) := by decide +kernel
theorem dL_yearly_15 : decode cL_yearly 15 = .ok (.iconst 0, 1) := by decide +kernel
theorem dL_yearly_16 : decode cL_yearly 16 = .ok (.ireturn, 1) := by decide +kernel
set_option maxHeartbeats 4000000 in
set_option maxRecDepth 100000 in
/-- law: yearly -/
theorem c_L_yearly (l : Launch) (g : Gm) (hst : l.stackTraces = false) (x : Nat) (ag : Nat) (wo : Nat) (dy : Nat) (ad : Nat → Nat) (p0 : Int32) (o : Nat) (fo : Nat → Int64) : HXi (S := Nat → Int64) l g yL_yearly cL_yearly 4 .int [(0, 9, 12, 13)] ({ frames := 9, cells := 1, slots := 6, locals := 145 } : Room) [.ref x, .int p0, .ref o] [(x, .inr (6, [.ref (ad 0), .ref ag, .ref wo, .ref dy])), ((ad 0), .inr (5, [.ref (ad 1), .ref (ad 2), .ref (ad 3), .ref (ad 4), .ref (ad 29), .ref (ad 5), .ref (ad 6), .ref (ad 7), .int (-1), .int 1, .int 0, .int 0])), ((ad 3), .inr (4, [.ref (ad 18), .ref (ad 19), .ref (ad 20), .ref (ad 21), .ref (ad 22), .ref (ad 23), .ref (ad 24), .ref (ad 25), .ref (ad 26), .ref (ad 27), .int 0])), (o, .inl (g.2.1 1, 1, .inr (.inl fo)))] (fun r _ => r = 1) (fun u => [(o, .inl (g.2.1 1, 1, .inr (.inl u)))]) (fun _ => (1, 6)) := by
  intro sz tt
  refine ofH RL rfl (by decide +kernel) (Nat.le_of_ble_eq_true rfl) (fun p e s m args below meth c hargs S hml hr hlk htab hsz htt hK hA hZ E ls hl => ?_)
  have hx := S.1
  have hb := S.2.1
  have hl : lv_has ls 4 [(0, .ref x), (1, .int p0), (2, .ref o)] := hl
  refine lv_aload_n hx hb dL_yearly_0 rfl (lv_at hl 2 rfl) ?_
  refine lv_iconst (v := 0) hx hb dL_yearly_1 (by decide) ?_
  refine lv_aload_n hx hb dL_yearly_2 rfl (lv_at hl 0 rfl) ?_
  refine lv_iload_n hx hb dL_yearly_3 rfl (lv_at hl 1 rfl) ?_
  refine y_reti (yrunV (As := [.int p0]) (rest := [.int 0, .ref o]) (q0 := 0) (n := 1) S hml hK (hZ.at E) (Cut.of (wc := [(x, .inr (6, [.ref (ad 0), .ref ag, .ref wo, .ref dy])), ((ad 0), .inr (5, [.ref (ad 1), .ref (ad 2), .ref (ad 3), .ref (ad 4), .ref (ad 29), .ref (ad 5), .ref (ad 6), .ref (ad 7), .int (-1), .int 1, .int 0, .int 0])), ((ad 3), .inr (4, [.ref (ad 18), .ref (ad 19), .ref (ad 20), .ref (ad 21), .ref (ad 22), .ref (ad 23), .ref (ad 24), .ref (ad 25), .ref (ad 26), .ref (ad 27), .int 0]))]) (wr := [(o, .inl (g.2.1 1, 1, .inr (.inl fo)))]) E hA [0, 1, 2] [3] rfl rfl rfl rfl (by decide)) (c_X6_yearly l g hst x ag wo dy ad p0 _ _) (gi_wsV ml_L_71 im_X6_yearly sl_X6_yearly in_X6 co_X6_yearly) ⟨rfl, by decide +kernel, by decide +kernel, by decide +kernel⟩ ⟨Nat.le_of_ble_eq_true rfl, Nat.le_of_ble_eq_true rfl⟩ rfl rfl rfl hl.1 rfl (Nat.le_of_ble_eq_true rfl) dL_yearly_4 ⟨Nat.le_of_ble_eq_true rfl, Nat.le_of_ble_eq_true rfl⟩) (Cut.of (wc := [(x, .inr (6, [.ref (ad 0), .ref ag, .ref wo, .ref dy])), ((ad 0), .inr (5, [.ref (ad 1), .ref (ad 2), .ref (ad 3), .ref (ad 4), .ref (ad 29), .ref (ad 5), .ref (ad 6), .ref (ad 7), .int (-1), .int 1, .int 0, .int 0])), ((ad 3), .inr (4, [.ref (ad 18), .ref (ad 19), .ref (ad 20), .ref (ad 21), .ref (ad 22), .ref (ad 23), .ref (ad 24), .ref (ad 25), .ref (ad 26), .ref (ad 27), .int 0]))]) (wr := [(o, .inl (g.2.1 1, 1, .inr (.inl fo)))]) E hA [0, 1, 2] [3] rfl rfl rfl rfl (by decide)) E (fun En ce q9 H locs hp E hce hcv hcl => ?_) (fun r1 u1 H locs hp E => ?_)
  · have E : Ev g _ s.heap H locs [(o, .inl (g.2.1 1, 1, .inr (.inl fo))), (x, .inr (6, [.ref (ad 0), .ref ag, .ref wo, .ref dy])), ((ad 0), .inr (5, [.ref (ad 1), .ref (ad 2), .ref (ad 3), .ref (ad 4), .ref (ad 29), .ref (ad 5), .ref (ad 6), .ref (ad 7), .int (-1), .int 1, .int 0, .int 0])), ((ad 3), .inr (4, [.ref (ad 18), .ref (ad 19), .ref (ad 20), .ref (ad 21), .ref (ad 22), .ref (ad 23), .ref (ad 24), .ref (ad 25), .ref (ad 26), .ref (ad 27), .int 0]))] := E
    obtain rfl := hp
    refine vx_catch (own := RL) (name := "java/lang/IndexOutOfBoundsException") S.2.2.2 [] ⟨0, 9, 12, 13⟩ [] htab (fun z hz => by cases hz) (by decide) (by decide) (S.2.2.1 _ cl_L_13) (va_Nw.use rfl (hZ.2.2.2.2.2.2.1 _ nw_ioob rfl)) hce hcv hcl ?_
    refine lv_astore_n (lv' := [(3, .ref q9), (0, .ref x), (1, .int p0), (2, .ref o)]) hx hb dL_yearly_12 rfl hl (by decide) rfl (fun ls hl => ?_)
    refine lv_iconst (v := 1) hx hb dL_yearly_13 (by decide) ?_
    have E : Ev g _ s.heap H locs [(o, .inl (g.2.1 1, 1, .inr (.inl fo)))] := Ev.sub E [0] rfl rfl
    exact vx_ret (x_iret fo S hr hlk hsz htt hK E dL_yearly_14 rfl rfl ⟨Nat.le_of_ble_eq_true rfl, Nat.le_of_ble_eq_true rfl⟩ ⟨Nat.le_of_ble_eq_true rfl, Nat.le_of_ble_eq_true rfl⟩)
  · skip
    exact hp.elim

theorem dL_pumped_0 : decode cL_pumped 0 = .ok (.aload_n 2, 1) := by decide +kernel
theorem dL_pumped_1 : decode cL_pumped 1 = .ok (.iconst 0, 1) := by decide +kernel
theorem dL_pumped_2 : decode cL_pumped 2 = .ok (.aload_n 0, 1) := by decide +kernel
theorem dL_pumped_3 : decode cL_pumped 3 = .ok (.iload_n 1, 1) := by decide +kernel
theorem dL_pumped_4 : decode cL_pumped 4 = .ok (.invokevirtual 74, 3) := by decide +kernel
theorem dL_pumped_7 : decode cL_pumped 7 = .ok (.lastore, 1) := by decide +kernel
theorem dL_pumped_8 : decode cL_pumped 8 = .ok (.goto 6, 3) := by decide +kernel
theorem dL_pumped_11 : decode cL_pumped 11 = .ok (.astore_n 3, 1) := by decide +kernel
theorem dL_pumped_12 : decode cL_pumped 12 = .ok (.iconst 1, 1) := by decide +kernel
theorem dL_pumped_13 : decode cL_pumped 13 = .ok (.ireturn, 1) := by decide +kernel
theorem dL_pumped_14 : decode cL_pumped 14 = .ok (.iconst 0, 1) := by decide +kernel
theorem dL_pumped_15 : decode cL_pumped 15 = .ok (.ireturn, 1) := by decide +kernel
set_option maxHeartbeats 4000000 in
set_option maxRecDepth 100000 in
/-- law: pumped -/
theorem c_L_pumped (l : Launch) (g : Gm) (hst : l.stackTraces = false) (x : Nat) (ag : Nat) (wo : Nat) (dy : Nat) (ad : Nat → Nat) (p0 : Int32) (o : Nat) (fo : Nat → Int64) : HXi (S := Nat → Int64) l g yL_pumped cL_pumped 4 .int [(0, 8, 11, 13)] ({ frames := 9, cells := 1, slots := 6, locals := 145 } : Room) [.ref x, .int p0, .ref o] [(x, .inr (6, [.ref (ad 0), .ref ag, .ref wo, .ref dy])), ((ad 0), .inr (5, [.ref (ad 1), .ref (ad 2), .ref (ad 3), .ref (ad 4), .ref (ad 29), .ref (ad 5), .ref (ad 6), .ref (ad 7), .int (-1), .int 1, .int 0, .int 0])), ((ad 3), .inr (4, [.ref (ad 18), .ref (ad 19), .ref (ad 20), .ref (ad 21), .ref (ad 22), .ref (ad 23), .ref (ad 24), .ref (ad 25), .ref (ad 26), .ref (ad 27), .int 0])), (o, .inl (g.2.1 1, 1, .inr (.inl fo)))] (fun r _ => r = 1) (fun u => [(o, .inl (g.2.1 1, 1, .inr (.inl u)))]) (fun _ => (1, 6)) := by
  intro sz tt
  refine ofH RL rfl (by decide +kernel) (Nat.le_of_ble_eq_true rfl) (fun p e s m args below meth c hargs S hml hr hlk htab hsz htt hK hA hZ E ls hl => ?_)
  have hx := S.1
  have hb := S.2.1
  have hl : lv_has ls 4 [(0, .ref x), (1, .int p0), (2, .ref o)] := hl
  refine lv_aload_n hx hb dL_pumped_0 rfl (lv_at hl 2 rfl) ?_
  refine lv_iconst (v := 0) hx hb dL_pumped_1 (by decide) ?_
  refine lv_aload_n hx hb dL_pumped_2 rfl (lv_at hl 0 rfl) ?_
  refine lv_iload_n hx hb dL_pumped_3 rfl (lv_at hl 1 rfl) ?_
  refine y_retl (yrunV (As := [.int p0]) (rest := [.int 0, .ref o]) (q0 := 0) (n := 1) S hml hK (hZ.at E) (Cut.of (wc := [(x, .inr (6, [.ref (ad 0), .ref ag, .ref wo, .ref dy])), ((ad 0), .inr (5, [.ref (ad 1), .ref (ad 2), .ref (ad 3), .ref (ad 4), .ref (ad 29), .ref (ad 5), .ref (ad 6), .ref (ad 7), .int (-1), .int 1, .int 0, .int 0])), ((ad 3), .inr (4, [.ref (ad 18), .ref (ad 19), .ref (ad 20), .ref (ad 21), .ref (ad 22), .ref (ad 23), .ref (ad 24), .ref (ad 25), .ref (ad 26), .ref (ad 27), .int 0]))]) (wr := [(o, .inl (g.2.1 1, 1, .inr (.inl fo)))]) E hA [0, 1, 2] [3] rfl rfl rfl rfl (by decide)) (c_X6_pumped l g hst x ag wo dy ad p0 _ _) (gi_wsV ml_L_74 im_X6_pumped sl_X6_pumped in_X6 co_X6_pumped) ⟨rfl, by decide +kernel, by decide +kernel, by decide +kernel⟩ ⟨Nat.le_of_ble_eq_true rfl, Nat.le_of_ble_eq_true rfl⟩ rfl rfl rfl hl.1 rfl (Nat.le_of_ble_eq_true rfl) dL_pumped_4 ⟨Nat.le_of_ble_eq_true rfl, Nat.le_of_ble_eq_true rfl⟩) (Cut.of (wc := [(x, .inr (6, [.ref (ad 0), .ref ag, .ref wo, .ref dy])), ((ad 0), .inr (5, [.ref (ad 1), .ref (ad 2), .ref (ad 3), .ref (ad 4), .ref (ad 29), .ref (ad 5), .ref (ad 6), .ref (ad 7), .int (-1), .int 1, .int 0, .int 0])), ((ad 3), .inr (4, [.ref (ad 18), .ref (ad 19), .ref (ad 20), .ref (ad 21), .ref (ad 22), .ref (ad 23), .ref (ad 24), .ref (ad 25), .ref (ad 26), .ref (ad 27), .int 0]))]) (wr := [(o, .inl (g.2.1 1, 1, .inr (.inl fo)))]) E hA [0, 1, 2] [3] rfl rfl rfl rfl (by decide)) E (fun En ce q9 H locs hp E hce hcv hcl => ?_) (fun r1 u1 H locs hp E => ?_)
  · have E : Ev g _ s.heap H locs [(o, .inl (g.2.1 1, 1, .inr (.inl fo))), (x, .inr (6, [.ref (ad 0), .ref ag, .ref wo, .ref dy])), ((ad 0), .inr (5, [.ref (ad 1), .ref (ad 2), .ref (ad 3), .ref (ad 4), .ref (ad 29), .ref (ad 5), .ref (ad 6), .ref (ad 7), .int (-1), .int 1, .int 0, .int 0])), ((ad 3), .inr (4, [.ref (ad 18), .ref (ad 19), .ref (ad 20), .ref (ad 21), .ref (ad 22), .ref (ad 23), .ref (ad 24), .ref (ad 25), .ref (ad 26), .ref (ad 27), .int 0]))] := E
    obtain rfl := hp
    refine vx_catch (own := RL) (name := "java/lang/IndexOutOfBoundsException") S.2.2.2 [] ⟨0, 8, 11, 13⟩ [] htab (fun z hz => by cases hz) (by decide) (by decide) (S.2.2.1 _ cl_L_13) (va_Nw.use rfl (hZ.2.2.2.2.2.2.1 _ nw_ioob rfl)) hce hcv hcl ?_
    refine lv_astore_n (lv' := [(3, .ref q9), (0, .ref x), (1, .int p0), (2, .ref o)]) hx hb dL_pumped_11 rfl hl (by decide) rfl (fun ls hl => ?_)
    refine lv_iconst (v := 1) hx hb dL_pumped_12 (by decide) ?_
    have E : Ev g _ s.heap H locs [(o, .inl (g.2.1 1, 1, .inr (.inl fo)))] := Ev.sub E [0] rfl rfl
    exact vx_ret (x_iret fo S hr hlk hsz htt hK E dL_pumped_13 rfl rfl ⟨Nat.le_of_ble_eq_true rfl, Nat.le_of_ble_eq_true rfl⟩ ⟨Nat.le_of_ble_eq_true rfl, Nat.le_of_ble_eq_true rfl⟩)
  · skip
    exact hp.elim

theorem dL_isShut_0 : decode cL_isShut 0 = .ok (.aload_n 2, 1) := by decide +kernel
theorem dL_isShut_1 : decode cL_isShut 1 = .ok (.iconst 0, 1) := by decide +kernel
theorem dL_isShut_2 : decode cL_isShut 2 = .ok (.aload_n 0, 1) := by decide +kernel
theorem dL_isShut_3 : decode cL_isShut 3 = .ok (.iload_n 1, 1) := by decide +kernel
theorem dL_isShut_4 : decode cL_isShut 4 = .ok (.invokevirtual 78, 3) := by decide +kernel
theorem dL_isShut_7 : decode cL_isShut 7 = .ok (.ifCond .eq 7, 3) := by decide +kernel
theorem dL_isShut_10 : decode cL_isShut 10 = .ok (.lconst 1, 1) := by decide +kernel
theorem dL_isShut_11 : decode cL_isShut 11 = .ok (.goto 4, 3) := by decide +kernel
theorem dL_isShut_14 : decode cL_isShut 14 = .ok (.lconst 0, 1) := by decide +kernel
theorem dL_isShut_15 : decode cL_isShut 15 = .ok (.lastore, 1) := by decide +kernel
theorem dL_isShut_16 : decode cL_isShut 16 = .ok (.goto 6, 3) := by decide +kernel
theorem dL_isShut_19 : decode cL_isShut 19 = .ok (.astore_n 3, 1) := by decide +kernel
theorem dL_isShut_20 : decode cL_isShut 20 = .ok (.iconst 1, 1) := by decide +kernel
theorem dL_isShut_21 : decode cL_isShut 21 = .ok (.ireturn, 1) := by decide +kernel
theorem dL_isShut_22 : decode cL_isShut 22 = .ok (.iconst 0, 1) := by decide +kernel
theorem dL_isShut_23 : decode cL_isShut 23 = .ok (.ireturn, 1) := by decide +kernel
set_option maxHeartbeats 4000000 in
set_option maxRecDepth 100000 in
/-- law: isShut -/
theorem c_L_isShut (l : Launch) (g : Gm) (hst : l.stackTraces = false) (x : Nat) (ag : Nat) (wo : Nat) (dy : Nat) (ad : Nat → Nat) (p0 : Int32) (o : Nat) (fo : Nat → Int64) : HXi (S := Nat → Int64) l g yL_isShut cL_isShut 4 .int [(0, 16, 19, 13)] ({ frames := 9, cells := 1, slots := 6, locals := 145 } : Room) [.ref x, .int p0, .ref o] [(x, .inr (6, [.ref (ad 0), .ref ag, .ref wo, .ref dy])), ((ad 0), .inr (5, [.ref (ad 1), .ref (ad 2), .ref (ad 3), .ref (ad 4), .ref (ad 29), .ref (ad 5), .ref (ad 6), .ref (ad 7), .int (-1), .int 1, .int 0, .int 0])), ((ad 3), .inr (4, [.ref (ad 18), .ref (ad 19), .ref (ad 20), .ref (ad 21), .ref (ad 22), .ref (ad 23), .ref (ad 24), .ref (ad 25), .ref (ad 26), .ref (ad 27), .int 0])), (o, .inl (g.2.1 1, 1, .inr (.inl fo)))] (fun r _ => r = 1) (fun u => [(o, .inl (g.2.1 1, 1, .inr (.inl u)))]) (fun _ => (1, 6)) := by
  intro sz tt
  refine ofH RL rfl (by decide +kernel) (Nat.le_of_ble_eq_true rfl) (fun p e s m args below meth c hargs S hml hr hlk htab hsz htt hK hA hZ E ls hl => ?_)
  have hx := S.1
  have hb := S.2.1
  have hl : lv_has ls 4 [(0, .ref x), (1, .int p0), (2, .ref o)] := hl
  refine lv_aload_n hx hb dL_isShut_0 rfl (lv_at hl 2 rfl) ?_
  refine lv_iconst (v := 0) hx hb dL_isShut_1 (by decide) ?_
  refine lv_aload_n hx hb dL_isShut_2 rfl (lv_at hl 0 rfl) ?_
  refine lv_iload_n hx hb dL_isShut_3 rfl (lv_at hl 1 rfl) ?_
  refine y_reti (yrunV (As := [.int p0]) (rest := [.int 0, .ref o]) (q0 := 0) (n := 1) S hml hK (hZ.at E) (Cut.of (wc := [(x, .inr (6, [.ref (ad 0), .ref ag, .ref wo, .ref dy])), ((ad 0), .inr (5, [.ref (ad 1), .ref (ad 2), .ref (ad 3), .ref (ad 4), .ref (ad 29), .ref (ad 5), .ref (ad 6), .ref (ad 7), .int (-1), .int 1, .int 0, .int 0])), ((ad 3), .inr (4, [.ref (ad 18), .ref (ad 19), .ref (ad 20), .ref (ad 21), .ref (ad 22), .ref (ad 23), .ref (ad 24), .ref (ad 25), .ref (ad 26), .ref (ad 27), .int 0]))]) (wr := [(o, .inl (g.2.1 1, 1, .inr (.inl fo)))]) E hA [0, 1, 2] [3] rfl rfl rfl rfl (by decide)) (c_X6_isShut l g hst x ag wo dy ad p0 _ _) (gi_wsV ml_L_78 im_X6_isShut sl_X6_isShut in_X6 co_X6_isShut) ⟨rfl, by decide +kernel, by decide +kernel, by decide +kernel⟩ ⟨Nat.le_of_ble_eq_true rfl, Nat.le_of_ble_eq_true rfl⟩ rfl rfl rfl hl.1 rfl (Nat.le_of_ble_eq_true rfl) dL_isShut_4 ⟨Nat.le_of_ble_eq_true rfl, Nat.le_of_ble_eq_true rfl⟩) (Cut.of (wc := [(x, .inr (6, [.ref (ad 0), .ref ag, .ref wo, .ref dy])), ((ad 0), .inr (5, [.ref (ad 1), .ref (ad 2), .ref (ad 3), .ref (ad 4), .ref (ad 29), .ref (ad 5), .ref (ad 6), .ref (ad 7), .int (-1), .int 1, .int 0, .int 0])), ((ad 3), .inr (4, [.ref (ad 18), .ref (ad 19), .ref (ad 20), .ref (ad 21), .ref (ad 22), .ref (ad 23), .ref (ad 24), .ref (ad 25), .ref (ad 26), .ref (ad 27), .int 0]))]) (wr := [(o, .inl (g.2.1 1, 1, .inr (.inl fo)))]) E hA [0, 1, 2] [3] rfl rfl rfl rfl (by decide)) E (fun En ce q9 H locs hp E hce hcv hcl => ?_) (fun r1 u1 H locs hp E => ?_)
  · have E : Ev g _ s.heap H locs [(o, .inl (g.2.1 1, 1, .inr (.inl fo))), (x, .inr (6, [.ref (ad 0), .ref ag, .ref wo, .ref dy])), ((ad 0), .inr (5, [.ref (ad 1), .ref (ad 2), .ref (ad 3), .ref (ad 4), .ref (ad 29), .ref (ad 5), .ref (ad 6), .ref (ad 7), .int (-1), .int 1, .int 0, .int 0])), ((ad 3), .inr (4, [.ref (ad 18), .ref (ad 19), .ref (ad 20), .ref (ad 21), .ref (ad 22), .ref (ad 23), .ref (ad 24), .ref (ad 25), .ref (ad 26), .ref (ad 27), .int 0]))] := E
    obtain rfl := hp
    refine vx_catch (own := RL) (name := "java/lang/IndexOutOfBoundsException") S.2.2.2 [] ⟨0, 16, 19, 13⟩ [] htab (fun z hz => by cases hz) (by decide) (by decide) (S.2.2.1 _ cl_L_13) (va_Nw.use rfl (hZ.2.2.2.2.2.2.1 _ nw_ioob rfl)) hce hcv hcl ?_
    refine lv_astore_n (lv' := [(3, .ref q9), (0, .ref x), (1, .int p0), (2, .ref o)]) hx hb dL_isShut_19 rfl hl (by decide) rfl (fun ls hl => ?_)
    refine lv_iconst (v := 1) hx hb dL_isShut_20 (by decide) ?_
    have E : Ev g _ s.heap H locs [(o, .inl (g.2.1 1, 1, .inr (.inl fo)))] := Ev.sub E [0] rfl rfl
    exact vx_ret (x_iret fo S hr hlk hsz htt hK E dL_isShut_21 rfl rfl ⟨Nat.le_of_ble_eq_true rfl, Nat.le_of_ble_eq_true rfl⟩ ⟨Nat.le_of_ble_eq_true rfl, Nat.le_of_ble_eq_true rfl⟩)
  · skip
    exact hp.elim

theorem dL_pumpedWithout_0 : decode cL_pumpedWithout 0 = .ok (.aload_n 3, 1) := by decide +kernel
theorem dL_pumpedWithout_1 : decode cL_pumpedWithout 1 = .ok (.iconst 0, 1) := by decide +kernel
theorem dL_pumpedWithout_2 : decode cL_pumpedWithout 2 = .ok (.aload_n 0, 1) := by decide +kernel
theorem dL_pumpedWithout_3 : decode cL_pumpedWithout 3 = .ok (.iload_n 1, 1) := by decide +kernel
theorem dL_pumpedWithout_4 : decode cL_pumpedWithout 4 = .ok (.iload_n 2, 1) := by decide +kernel
theorem dL_pumpedWithout_5 : decode cL_pumpedWithout 5 = .ok (.invokevirtual 87, 3) := by decide +kernel
theorem dL_pumpedWithout_8 : decode cL_pumpedWithout 8 = .ok (.lastore, 1) := by decide +kernel
theorem dL_pumpedWithout_9 : decode cL_pumpedWithout 9 = .ok (.goto 11, 3) := by decide +kernel
theorem dL_pumpedWithout_12 : decode cL_pumpedWithout 12 = .ok (.astore 4, 2) := by decide +kernel
theorem dL_pumpedWithout_14 : decode cL_pumpedWithout 14 = .ok (.iconst 1, 1) := by decide +kernel
theorem dL_pumpedWithout_15 : decode cL_pumpedWithout 15 = .ok (.ireturn, 1) := by decide +kernel
theorem dL_pumpedWithout_16 : decode cL_pumpedWithout 16 = .ok (.astore 4, 2) := by decide +kernel
theorem dL_pumpedWithout_18 : decode cL_pumpedWithout 18 = .ok (.iconst 2, 1) := by decide +kernel
theorem dL_pumpedWithout_19 : decode cL_pumpedWithout 19 = .ok (.ireturn, 1) := by decide +kernel
theorem dL_pumpedWithout_20 : decode cL_pumpedWithout 20 = .ok (.iconst 0, 1) := by decide +kernel
theorem dL_pumpedWithout_21 : decode cL_pumpedWithout 21 = .ok (.ireturn, 1) := by decide +kernel
set_option maxHeartbeats 4000000 in
set_option maxRecDepth 100000 in
/-- law: pumpedWithout -/
theorem c_L_pumpedWithout (l : Launch) (g : Gm) (hst : l.stackTraces = false) (x : Nat) (ag : Nat) (wo : Nat) (dy : Nat) (ad : Nat → Nat) (p0 : Int32) (p1 : Int32) (o : Nat) (fo : Nat → Int64) : HXi (S := Nat → Int64) l g yL_pumpedWithout cL_pumpedWithout 5 .int [(0, 9, 12, 13), (0, 9, 16, 52)] ({ frames := 9, cells := 1, slots := 6, locals := 147 } : Room) [.ref x, .int p0, .int p1, .ref o] [(x, .inr (6, [.ref (ad 0), .ref ag, .ref wo, .ref dy])), ((ad 0), .inr (5, [.ref (ad 1), .ref (ad 2), .ref (ad 3), .ref (ad 4), .ref (ad 29), .ref (ad 5), .ref (ad 6), .ref (ad 7), .int (-1), .int 1, .int 0, .int 0])), ((ad 3), .inr (4, [.ref (ad 18), .ref (ad 19), .ref (ad 20), .ref (ad 21), .ref (ad 22), .ref (ad 23), .ref (ad 24), .ref (ad 25), .ref (ad 26), .ref (ad 27), .int 0])), (o, .inl (g.2.1 1, 1, .inr (.inl fo)))] (fun r _ => r = 1) (fun u => [(o, .inl (g.2.1 1, 1, .inr (.inl u)))]) (fun _ => (1, 6)) := by
  intro sz tt
  refine ofH RL rfl (by decide +kernel) (Nat.le_of_ble_eq_true rfl) (fun p e s m args below meth c hargs S hml hr hlk htab hsz htt hK hA hZ E ls hl => ?_)
  have hx := S.1
  have hb := S.2.1
  have hl : lv_has ls 5 [(0, .ref x), (1, .int p0), (2, .int p1), (3, .ref o)] := hl
  refine lv_aload_n hx hb dL_pumpedWithout_0 rfl (lv_at hl 3 rfl) ?_
  refine lv_iconst (v := 0) hx hb dL_pumpedWithout_1 (by decide) ?_
  refine lv_aload_n hx hb dL_pumpedWithout_2 rfl (lv_at hl 0 rfl) ?_
  refine lv_iload_n hx hb dL_pumpedWithout_3 rfl (lv_at hl 1 rfl) ?_
  refine lv_iload_n hx hb dL_pumpedWithout_4 rfl (lv_at hl 2 rfl) ?_
  refine y_retl (yrunV (As := [.int p0, .int p1]) (rest := [.int 0, .ref o]) (q0 := 0) (n := 2) S hml hK (hZ.at E) (Cut.of (wc := [(x, .inr (6, [.ref (ad 0), .ref ag, .ref wo, .ref dy])), ((ad 0), .inr (5, [.ref (ad 1), .ref (ad 2), .ref (ad 3), .ref (ad 4), .ref (ad 29), .ref (ad 5), .ref (ad 6), .ref (ad 7), .int (-1), .int 1, .int 0, .int 0])), ((ad 3), .inr (4, [.ref (ad 18), .ref (ad 19), .ref (ad 20), .ref (ad 21), .ref (ad 22), .ref (ad 23), .ref (ad 24), .ref (ad 25), .ref (ad 26), .ref (ad 27), .int 0]))]) (wr := [(o, .inl (g.2.1 1, 1, .inr (.inl fo)))]) E hA [0, 1, 2] [3] rfl rfl rfl rfl (by decide)) (c_X6_pumpedWithout l g hst x ag wo dy ad p0 p1 _ _) (gi_wsV ml_L_87 im_X6_pumpedWithout sl_X6_pumpedWithout in_X6 co_X6_pumpedWithout) ⟨rfl, by decide +kernel, by decide +kernel, by decide +kernel⟩ ⟨Nat.le_of_ble_eq_true rfl, Nat.le_of_ble_eq_true rfl⟩ rfl rfl rfl hl.1 rfl (Nat.le_of_ble_eq_true rfl) dL_pumpedWithout_5 ⟨Nat.le_of_ble_eq_true rfl, Nat.le_of_ble_eq_true rfl⟩) (Cut.of (wc := [(x, .inr (6, [.ref (ad 0), .ref ag, .ref wo, .ref dy])), ((ad 0), .inr (5, [.ref (ad 1), .ref (ad 2), .ref (ad 3), .ref (ad 4), .ref (ad 29), .ref (ad 5), .ref (ad 6), .ref (ad 7), .int (-1), .int 1, .int 0, .int 0])), ((ad 3), .inr (4, [.ref (ad 18), .ref (ad 19), .ref (ad 20), .ref (ad 21), .ref (ad 22), .ref (ad 23), .ref (ad 24), .ref (ad 25), .ref (ad 26), .ref (ad 27), .int 0]))]) (wr := [(o, .inl (g.2.1 1, 1, .inr (.inl fo)))]) E hA [0, 1, 2] [3] rfl rfl rfl rfl (by decide)) E (fun En ce q9 H locs hp E hce hcv hcl => ?_) (fun r1 u1 H locs hp E => ?_)
  · have E : Ev g _ s.heap H locs [(o, .inl (g.2.1 1, 1, .inr (.inl fo))), (x, .inr (6, [.ref (ad 0), .ref ag, .ref wo, .ref dy])), ((ad 0), .inr (5, [.ref (ad 1), .ref (ad 2), .ref (ad 3), .ref (ad 4), .ref (ad 29), .ref (ad 5), .ref (ad 6), .ref (ad 7), .int (-1), .int 1, .int 0, .int 0])), ((ad 3), .inr (4, [.ref (ad 18), .ref (ad 19), .ref (ad 20), .ref (ad 21), .ref (ad 22), .ref (ad 23), .ref (ad 24), .ref (ad 25), .ref (ad 26), .ref (ad 27), .int 0]))] := E
    obtain rfl := hp
    refine vx_catch (own := RL) (name := "java/lang/IndexOutOfBoundsException") S.2.2.2 [] ⟨0, 9, 12, 13⟩ [⟨0, 9, 16, 52⟩] htab (fun z hz => by cases hz) (by decide) (by decide) (S.2.2.1 _ cl_L_13) (va_Nw.use rfl (hZ.2.2.2.2.2.2.1 _ nw_ioob rfl)) hce hcv hcl ?_
    refine lv_astore (lv' := [(4, .ref q9), (0, .ref x), (1, .int p0), (2, .int p1), (3, .ref o)]) hx hb dL_pumpedWithout_12 hl (by decide) rfl (fun ls hl => ?_)
    refine lv_iconst (v := 1) hx hb dL_pumpedWithout_14 (by decide) ?_
    have E : Ev g _ s.heap H locs [(o, .inl (g.2.1 1, 1, .inr (.inl fo)))] := Ev.sub E [0] rfl rfl
    exact vx_ret (x_iret fo S hr hlk hsz htt hK E dL_pumpedWithout_15 rfl rfl ⟨Nat.le_of_ble_eq_true rfl, Nat.le_of_ble_eq_true rfl⟩ ⟨Nat.le_of_ble_eq_true rfl, Nat.le_of_ble_eq_true rfl⟩)
  · skip
    exact hp.elim

theorem dL_eventAt_0 : decode cL_eventAt 0 = .ok (.aload_n 2, 1) := by decide +kernel
theorem dL_eventAt_1 : decode cL_eventAt 1 = .ok (.iconst 0, 1) := by decide +kernel
theorem dL_eventAt_2 : decode cL_eventAt 2 = .ok (.aload_n 0, 1) := by decide +kernel
theorem dL_eventAt_3 : decode cL_eventAt 3 = .ok (.iload_n 1, 1) := by decide +kernel
theorem dL_eventAt_4 : decode cL_eventAt 4 = .ok (.invokevirtual 91, 3) := by decide +kernel
theorem dL_eventAt_7 : decode cL_eventAt 7 = .ok (.i2l, 1) := by decide +kernel
theorem dL_eventAt_8 : decode cL_eventAt 8 = .ok (.lastore, 1) := by decide +kernel
theorem dL_eventAt_9 : decode cL_eventAt 9 = .ok (.goto 6, 3) := by decide +kernel
theorem dL_eventAt_12 : decode cL_eventAt 12 = .ok (.astore_n 3, 1) := by decide +kernel
theorem dL_eventAt_13 : decode cL_eventAt 13 = .ok (.iconst 1, 1) := by decide +kernel
theorem dL_eventAt_14 : decode cL_eventAt 14 = .ok (.ireturn, 1) := by decide +kernel
theorem dL_eventAt_15 : decode cL_eventAt 15 = .ok (.iconst 0, 1) := by decide +kernel
theorem dL_eventAt_16 : decode cL_eventAt 16 = .ok (.ireturn, 1) := by decide +kernel
set_option maxHeartbeats 4000000 in
set_option maxRecDepth 100000 in
/-- law: eventAt -/
theorem c_L_eventAt (l : Launch) (g : Gm) (hst : l.stackTraces = false) (x : Nat) (ag : Nat) (wo : Nat) (dy : Nat) (ad : Nat → Nat) (ea : Nat) (p0 : Int32) (o : Nat) (fo : Nat → Int64) : HXi (S := Nat → Int64) l g yL_eventAt cL_eventAt 4 .int [(0, 9, 12, 13)] ({ frames := 8, cells := 1, slots := 6, locals := 124 } : Room) [.ref x, .int p0, .ref o] [(x, .inr (6, [.ref (ad 0), .ref ag, .ref wo, .ref dy])), ((ad 0), .inr (5, [.ref (ad 1), .ref (ad 2), .ref (ad 3), .ref (ad 4), .ref (ad 29), .ref (ad 5), .ref (ad 6), .ref (ad 7), .int (-1), .int 1, .int 0, .int 0])), ((ad 29), .inr (7, [.ref ea, .int 0, .int 0, .int 0])), (o, .inl (g.2.1 1, 1, .inr (.inl fo)))] (fun r _ => r = 1) (fun u => [(o, .inl (g.2.1 1, 1, .inr (.inl u)))]) (fun _ => (1, 6)) := by
  intro sz tt
  refine ofH RL rfl (by decide +kernel) (Nat.le_of_ble_eq_true rfl) (fun p e s m args below meth c hargs S hml hr hlk htab hsz htt hK hA hZ E ls hl => ?_)
  have hx := S.1
  have hb := S.2.1
  have hl : lv_has ls 4 [(0, .ref x), (1, .int p0), (2, .ref o)] := hl
  refine lv_aload_n hx hb dL_eventAt_0 rfl (lv_at hl 2 rfl) ?_
  refine lv_iconst (v := 0) hx hb dL_eventAt_1 (by decide) ?_
  refine lv_aload_n hx hb dL_eventAt_2 rfl (lv_at hl 0 rfl) ?_
  refine lv_iload_n hx hb dL_eventAt_3 rfl (lv_at hl 1 rfl) ?_
  refine y_reti (yrunV (As := [.int p0]) (rest := [.int 0, .ref o]) (q0 := 0) (n := 1) S hml hK (hZ.at E) (Cut.of (wc := [(x, .inr (6, [.ref (ad 0), .ref ag, .ref wo, .ref dy])), ((ad 0), .inr (5, [.ref (ad 1), .ref (ad 2), .ref (ad 3), .ref (ad 4), .ref (ad 29), .ref (ad 5), .ref (ad 6), .ref (ad 7), .int (-1), .int 1, .int 0, .int 0])), ((ad 29), .inr (7, [.ref ea, .int 0, .int 0, .int 0]))]) (wr := [(o, .inl (g.2.1 1, 1, .inr (.inl fo)))]) E hA [0, 1, 2] [3] rfl rfl rfl rfl (by decide)) (c_X6_eventAt l g hst x ag wo dy ad ea p0 _ _) (gi_wsV ml_L_91 im_X6_eventAt sl_X6_eventAt in_X6 co_X6_eventAt) ⟨rfl, by decide +kernel, by decide +kernel, by decide +kernel⟩ ⟨Nat.le_of_ble_eq_true rfl, Nat.le_of_ble_eq_true rfl⟩ rfl rfl rfl hl.1 rfl (Nat.le_of_ble_eq_true rfl) dL_eventAt_4 ⟨Nat.le_of_ble_eq_true rfl, Nat.le_of_ble_eq_true rfl⟩) (Cut.of (wc := [(x, .inr (6, [.ref (ad 0), .ref ag, .ref wo, .ref dy])), ((ad 0), .inr (5, [.ref (ad 1), .ref (ad 2), .ref (ad 3), .ref (ad 4), .ref (ad 29), .ref (ad 5), .ref (ad 6), .ref (ad 7), .int (-1), .int 1, .int 0, .int 0])), ((ad 29), .inr (7, [.ref ea, .int 0, .int 0, .int 0]))]) (wr := [(o, .inl (g.2.1 1, 1, .inr (.inl fo)))]) E hA [0, 1, 2] [3] rfl rfl rfl rfl (by decide)) E (fun En ce q9 H locs hp E hce hcv hcl => ?_) (fun r1 u1 H locs hp E => ?_)
  · have E : Ev g _ s.heap H locs [(o, .inl (g.2.1 1, 1, .inr (.inl fo))), (x, .inr (6, [.ref (ad 0), .ref ag, .ref wo, .ref dy])), ((ad 0), .inr (5, [.ref (ad 1), .ref (ad 2), .ref (ad 3), .ref (ad 4), .ref (ad 29), .ref (ad 5), .ref (ad 6), .ref (ad 7), .int (-1), .int 1, .int 0, .int 0])), ((ad 29), .inr (7, [.ref ea, .int 0, .int 0, .int 0]))] := E
    obtain rfl := hp
    refine vx_catch (own := RL) (name := "java/lang/IndexOutOfBoundsException") S.2.2.2 [] ⟨0, 9, 12, 13⟩ [] htab (fun z hz => by cases hz) (by decide) (by decide) (S.2.2.1 _ cl_L_13) (va_Nw.use rfl (hZ.2.2.2.2.2.2.1 _ nw_ioob rfl)) hce hcv hcl ?_
    refine lv_astore_n (lv' := [(3, .ref q9), (0, .ref x), (1, .int p0), (2, .ref o)]) hx hb dL_eventAt_12 rfl hl (by decide) rfl (fun ls hl => ?_)
    refine lv_iconst (v := 1) hx hb dL_eventAt_13 (by decide) ?_
    have E : Ev g _ s.heap H locs [(o, .inl (g.2.1 1, 1, .inr (.inl fo)))] := Ev.sub E [0] rfl rfl
    exact vx_ret (x_iret fo S hr hlk hsz htt hK E dL_eventAt_14 rfl rfl ⟨Nat.le_of_ble_eq_true rfl, Nat.le_of_ble_eq_true rfl⟩ ⟨Nat.le_of_ble_eq_true rfl, Nat.le_of_ble_eq_true rfl⟩)
  · skip
    exact hp.elim

