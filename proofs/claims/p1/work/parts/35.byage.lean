/-! byAge: the throw of NoSuchElementException -/
set_option maxHeartbeats 4000000 in
set_option maxRecDepth 100000 in
/-- byAge -/
theorem c_X6_byAge (l : Launch) (g : Gm) (hst : l.stackTraces = false) (x : Nat) (ag : Nat) (wo : Nat) (dy : Nat) (ad : Nat → Nat) (p0 : Int32) : YXi (S := Unit) l g yX6_byAge cX6_byAge 2 .int ({ frames := 6, cells := 1, slots := 6, locals := 82 } : Room) [.ref x, .int p0] [(x, .inr (6, [.ref (ad 0), .ref ag, .ref wo, .ref dy])), ((ad 0), .inr (5, [.ref (ad 1), .ref (ad 2), .ref (ad 3), .ref (ad 4), .ref (ad 29), .ref (ad 5), .ref (ad 6), .ref (ad 7), .int (-1), .int 1, .int 0, .int 0])), ((ad 3), .inr (4, [.ref (ad 18), .ref (ad 19), .ref (ad 20), .ref (ad 21), .ref (ad 22), .ref (ad 23), .ref (ad 24), .ref (ad 25), .ref (ad 26), .ref (ad 27), .int 0]))] (fun _ _ => False) (fun _ => [(x, .inr (6, [.ref (ad 0), .ref ag, .ref wo, .ref dy])), ((ad 0), .inr (5, [.ref (ad 1), .ref (ad 2), .ref (ad 3), .ref (ad 4), .ref (ad 29), .ref (ad 5), .ref (ad 6), .ref (ad 7), .int (-1), .int 1, .int 0, .int 0])), ((ad 3), .inr (4, [.ref (ad 18), .ref (ad 19), .ref (ad 20), .ref (ad 21), .ref (ad 22), .ref (ad 23), .ref (ad 24), .ref (ad 25), .ref (ad 26), .ref (ad 27), .int 0]))]) (fun _ => (0, 0)) [(x, .inr (6, [.ref (ad 0), .ref ag, .ref wo, .ref dy])), ((ad 0), .inr (5, [.ref (ad 1), .ref (ad 2), .ref (ad 3), .ref (ad 4), .ref (ad 29), .ref (ad 5), .ref (ad 6), .ref (ad 7), .int (-1), .int 1, .int 0, .int 0])), ((ad 3), .inr (4, [.ref (ad 18), .ref (ad 19), .ref (ad 20), .ref (ad 21), .ref (ad 22), .ref (ad 23), .ref (ad 24), .ref (ad 25), .ref (ad 26), .ref (ad 27), .int 0]))] (fun En => En = nseC) := by
  intro sz tt
  refine ofY RX6 rfl (by decide +kernel) (Nat.le_of_ble_eq_true rfl) (fun p e s m args below meth c hargs S hml hr hlk hex hsz htt hK hA hZ E ls hl => ?_)
  have hx := S.1
  have hb := S.2.1
  have hl : lv_has ls 2 [(0, .ref x), (1, .int p0)] := hl
  refine lv_iload_n hx hb dX6_byAge_0 rfl (lv_at hl 1 rfl) ?_
  refine lv_if_lt (tgt := 18) hx hb dX6_byAge_1 (by decide) (fun c1 => ?_) (fun c1 => ?_)
  · have c1 : p0 < 0 := c1
    exact y_throwN (text := "there is no such index") S hst hml hl hex hlk hK hZ E rfl rfl cl_X6_148 in__java_util_NoSuchElementException (by decide +kernel) at_nse dX6_byAge_18 dX6_byAge_21 dX6_byAge_22 dX6_byAge_24 dX6_byAge_27 (Nat.le_of_ble_eq_true rfl) (Nat.le_of_ble_eq_true rfl) ⟨Nat.le_of_ble_eq_true rfl, Nat.le_of_ble_eq_true rfl⟩ ⟨Nat.le_of_ble_eq_true rfl, Nat.le_of_ble_eq_true rfl⟩
  · have c1 : ¬ (p0 < 0) := c1
    refine lv_iload_n hx hb dX6_byAge_4 rfl (lv_at hl 1 rfl) ?_
    refine lv_aload_n hx hb dX6_byAge_5 rfl (lv_at hl 0 rfl) ?_
    refine wg_X6_14 (v := .ref (ad 0)) S hK E 0 rfl rfl dX6_byAge_6 ?_
    refine wg_X6_87 (v := .ref (ad 3)) S hK E 1 rfl rfl dX6_byAge_9 ?_
    refine wg_X6_91 (v := .int 0) S hK E 2 rfl rfl dX6_byAge_12 ?_
    refine lv_icmp_lt (tgt := 28) hx hb dX6_byAge_15 (by decide) (fun c_ => absurd c_ c1) (fun _ => ?_)
    exact y_throwN (text := "there is no such index") S hst hml hl hex hlk hK hZ E rfl rfl cl_X6_148 in__java_util_NoSuchElementException (by decide +kernel) at_nse dX6_byAge_18 dX6_byAge_21 dX6_byAge_22 dX6_byAge_24 dX6_byAge_27 (Nat.le_of_ble_eq_true rfl) (Nat.le_of_ble_eq_true rfl) ⟨Nat.le_of_ble_eq_true rfl, Nat.le_of_ble_eq_true rfl⟩ ⟨Nat.le_of_ble_eq_true rfl, Nat.le_of_ble_eq_true rfl⟩

theorem dL_byAge_0 : decode cL_byAge 0 = .ok (.aload_n 2, 1) := by decide +kernel
theorem dL_byAge_1 : decode cL_byAge 1 = .ok (.iconst 0, 1) := by decide +kernel
theorem dL_byAge_2 : decode cL_byAge 2 = .ok (.aload_n 0, 1) := by decide +kernel
theorem dL_byAge_3 : decode cL_byAge 3 = .ok (.iload_n 1, 1) := by decide +kernel
theorem dL_byAge_4 : decode cL_byAge 4 = .ok (.invokevirtual 82, 3) := by decide +kernel
theorem dL_byAge_7 : decode cL_byAge 7 = .ok (.i2l, 1) := by decide +kernel
theorem dL_byAge_8 : decode cL_byAge 8 = .ok (.lastore, 1) := by decide +kernel
theorem dL_byAge_9 : decode cL_byAge 9 = .ok (.goto 6, 3) := by decide +kernel
theorem dL_byAge_12 : decode cL_byAge 12 = .ok (.astore_n 3, 1) := by decide +kernel
theorem dL_byAge_13 : decode cL_byAge 13 = .ok (.iconst 1, 1) := by decide +kernel
theorem dL_byAge_14 : decode cL_byAge 14 = .ok (.ireturn, 1) := by decide +kernel
theorem dL_byAge_15 : decode cL_byAge 15 = .ok (.iconst 0, 1) := by decide +kernel
theorem dL_byAge_16 : decode cL_byAge 16 = .ok (.ireturn, 1) := by decide +kernel
set_option maxHeartbeats 4000000 in
set_option maxRecDepth 100000 in
/-- law: byAge -/
theorem c_L_byAge (l : Launch) (g : Gm) (hst : l.stackTraces = false) (x : Nat) (ag : Nat) (wo : Nat) (dy : Nat) (ad : Nat → Nat) (p0 : Int32) (o : Nat) (fo : Nat → Int64) : HXi (S := Nat → Int64) l g yL_byAge cL_byAge 4 .int [(0, 9, 12, 85)] ({ frames := 7, cells := 1, slots := 6, locals := 103 } : Room) [.ref x, .int p0, .ref o] [(x, .inr (6, [.ref (ad 0), .ref ag, .ref wo, .ref dy])), ((ad 0), .inr (5, [.ref (ad 1), .ref (ad 2), .ref (ad 3), .ref (ad 4), .ref (ad 29), .ref (ad 5), .ref (ad 6), .ref (ad 7), .int (-1), .int 1, .int 0, .int 0])), ((ad 3), .inr (4, [.ref (ad 18), .ref (ad 19), .ref (ad 20), .ref (ad 21), .ref (ad 22), .ref (ad 23), .ref (ad 24), .ref (ad 25), .ref (ad 26), .ref (ad 27), .int 0])), (o, .inl (g.2.1 1, 1, .inr (.inl fo)))] (fun r _ => r = 1) (fun u => [(o, .inl (g.2.1 1, 1, .inr (.inl u)))]) (fun _ => (1, 6)) := by
  intro sz tt
  refine ofH RL rfl (by decide +kernel) (Nat.le_of_ble_eq_true rfl) (fun p e s m args below meth c hargs S hml hr hlk htab hsz htt hK hA hZ E ls hl => ?_)
  have hx := S.1
  have hb := S.2.1
  have hl : lv_has ls 4 [(0, .ref x), (1, .int p0), (2, .ref o)] := hl
  refine lv_aload_n hx hb dL_byAge_0 rfl (lv_at hl 2 rfl) ?_
  refine lv_iconst (v := 0) hx hb dL_byAge_1 (by decide) ?_
  refine lv_aload_n hx hb dL_byAge_2 rfl (lv_at hl 0 rfl) ?_
  refine lv_iload_n hx hb dL_byAge_3 rfl (lv_at hl 1 rfl) ?_
  refine y_reti (yrunV (As := [.int p0]) (rest := [.int 0, .ref o]) (q0 := 0) (n := 1) S hml hK (hZ.at E) (Cut.of (wc := [(x, .inr (6, [.ref (ad 0), .ref ag, .ref wo, .ref dy])), ((ad 0), .inr (5, [.ref (ad 1), .ref (ad 2), .ref (ad 3), .ref (ad 4), .ref (ad 29), .ref (ad 5), .ref (ad 6), .ref (ad 7), .int (-1), .int 1, .int 0, .int 0])), ((ad 3), .inr (4, [.ref (ad 18), .ref (ad 19), .ref (ad 20), .ref (ad 21), .ref (ad 22), .ref (ad 23), .ref (ad 24), .ref (ad 25), .ref (ad 26), .ref (ad 27), .int 0]))]) (wr := [(o, .inl (g.2.1 1, 1, .inr (.inl fo)))]) E hA [0, 1, 2] [3] rfl rfl rfl rfl (by decide)) (c_X6_byAge l g hst x ag wo dy ad p0 _ _) (gi_wsV ml_L_82 im_X6_byAge sl_X6_byAge in_X6 co_X6_byAge) ⟨rfl, by decide +kernel, by decide +kernel, by decide +kernel⟩ ⟨Nat.le_of_ble_eq_true rfl, Nat.le_of_ble_eq_true rfl⟩ rfl rfl rfl hl.1 rfl (Nat.le_of_ble_eq_true rfl) dL_byAge_4 ⟨Nat.le_of_ble_eq_true rfl, Nat.le_of_ble_eq_true rfl⟩) (Cut.of (wc := [(x, .inr (6, [.ref (ad 0), .ref ag, .ref wo, .ref dy])), ((ad 0), .inr (5, [.ref (ad 1), .ref (ad 2), .ref (ad 3), .ref (ad 4), .ref (ad 29), .ref (ad 5), .ref (ad 6), .ref (ad 7), .int (-1), .int 1, .int 0, .int 0])), ((ad 3), .inr (4, [.ref (ad 18), .ref (ad 19), .ref (ad 20), .ref (ad 21), .ref (ad 22), .ref (ad 23), .ref (ad 24), .ref (ad 25), .ref (ad 26), .ref (ad 27), .int 0]))]) (wr := [(o, .inl (g.2.1 1, 1, .inr (.inl fo)))]) E hA [0, 1, 2] [3] rfl rfl rfl rfl (by decide)) E (fun En ce q9 H locs hp E hce hcv hcl => ?_) (fun r1 u1 H locs hp E => ?_)
  · have E : Ev g _ s.heap H locs [(o, .inl (g.2.1 1, 1, .inr (.inl fo))), (x, .inr (6, [.ref (ad 0), .ref ag, .ref wo, .ref dy])), ((ad 0), .inr (5, [.ref (ad 1), .ref (ad 2), .ref (ad 3), .ref (ad 4), .ref (ad 29), .ref (ad 5), .ref (ad 6), .ref (ad 7), .int (-1), .int 1, .int 0, .int 0])), ((ad 3), .inr (4, [.ref (ad 18), .ref (ad 19), .ref (ad 20), .ref (ad 21), .ref (ad 22), .ref (ad 23), .ref (ad 24), .ref (ad 25), .ref (ad 26), .ref (ad 27), .int 0]))] := E
    obtain rfl := hp
    refine vx_catch (own := RL) (name := "java/util/NoSuchElementException") S.2.2.2 [] ⟨0, 9, 12, 85⟩ [] htab (fun z hz => by cases hz) (by decide) (by decide) (S.2.2.1 _ cl_L_85) (va_Nw.use rfl (hZ.2.2.2.2.2.2.1 _ nw_nse rfl)) hce hcv hcl ?_
    refine lv_astore_n (lv' := [(3, .ref q9), (0, .ref x), (1, .int p0), (2, .ref o)]) hx hb dL_byAge_12 rfl hl (by decide) rfl (fun ls hl => ?_)
    refine lv_iconst (v := 1) hx hb dL_byAge_13 (by decide) ?_
    have E : Ev g _ s.heap H locs [(o, .inl (g.2.1 1, 1, .inr (.inl fo)))] := Ev.sub E [0] rfl rfl
    exact vx_ret (x_iret fo S hr hlk hsz htt hK E dL_byAge_14 rfl rfl ⟨Nat.le_of_ble_eq_true rfl, Nat.le_of_ble_eq_true rfl⟩ ⟨Nat.le_of_ble_eq_true rfl, Nat.le_of_ble_eq_true rfl⟩)
  · skip
    exact hp.elim

