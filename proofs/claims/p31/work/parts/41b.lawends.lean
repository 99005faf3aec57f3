/-! THE LAW'S pumpedWithout -/
set_option maxHeartbeats 1000000 in
set_option maxRecDepth 100000 in
theorem c_L_PW1 (l : Launch) (g : Gm) (hst : l.stackTraces = false) (q : Fx) (u : SOB) (σ : Sg) (fw : Nat → Option Nat) (a b : Nat) (hN : fw b = none) {C M : Nat} {cvs : List CV} (hD : DI C M u σ cvs) (hC : C ≤ 500) (ha : a < cnt σ) (hbn : b < cnt σ) (hab : a ≠ b) : HXl (S := (Nat → Nat) × Nat) l g yL_pumpedWithout cL_pumpedWithout 4 [(0, 6, 7, 19), (0, 6, 12, 61)] ({ frames := 14, cells := 120, slots := 700000, locals := 1223 } : Room) [.ref q.1, .int (nI a), .int (nI b)] (SW g q u σ ++ [(q.2.1, .inl (g.2.1 5, 6, .inr (.inr (.inr (.inr fw)))))]) (fun r _ => r = gl (folS (nI b) cvs σ0) 23 (nI a)) (fun w => SW g q u σ ++ ([(q.2.1, .inl (g.2.1 5, 6, .inr (.inr (.inr (.inr (va_up fw b (some (w.1 0))))))))] ++ wsW g w.1 (nI b) 0 (nI u.2.2.2.2.length) w.2 (folS (nI b) cvs σ0))) (fun _ => (50, 91000)) := by
  intro sz tt
  refine ofH RL rfl (by decide +kernel) (Nat.le_of_ble_eq_true rfl) (fun p e s m args below meth c hargs S hml hr hlk htab hsz htt hK hA hZ E ls hl => ?_)
  have hx := S.1
  have hb := S.2.1
  have hl : lv_has ls 4 [(0, .ref q.1), (1, .int (nI a)), (2, .int (nI b))] := hl
  refine lv_aload_n hx hb dL_pumpedWithout_0 rfl (lv_at hl 0 rfl) ?_
  refine lv_iload_n hx hb dL_pumpedWithout_1 rfl (lv_at hl 1 rfl) ?_
  refine lv_iload_n hx hb dL_pumpedWithout_2 rfl (lv_at hl 2 rfl) ?_
  have E : Ev g _ s.heap _ _ (SW g q u σ ++ [(q.2.1, .inl (g.2.1 5, 6, .inr (.inr (.inr (.inr fw)))))]) := E
  refine y_retl (yrunV (As := [.int (nI a), .int (nI b)]) (rest := []) (q0 := 0) (n := 2) S hml hK (hZ.at E) (Cut.full E hA) (c_PW1 l g hst q u σ fw a b hN hD hC ha hbn hab _ _) (gi_wsV ml_L_91 im_X6_pumpedWithout sl_X6_pumpedWithout in_X6 co_X6_pumpedWithout) ⟨rfl, by decide +kernel, by decide +kernel, by decide +kernel⟩ ⟨Nat.le_of_ble_eq_true rfl, Nat.le_of_ble_eq_true rfl⟩ rfl rfl rfl hl.1 rfl (Nat.le_of_ble_eq_true rfl) dL_pumpedWithout_3 ⟨Nat.le_of_ble_eq_true rfl, Nat.le_of_ble_eq_true rfl⟩) (Cut.full E hA) E (fun En ce q9 H locs hp E hce hcv hcl => False.elim hp) (fun r1 u1 H locs hp E => ?_)
  have hr1 := hp
  subst hr1
  exact vx_ret (x_lret u1 S hr hlk hsz htt hK E dL_pumpedWithout_6 rfl rfl ⟨Nat.le_of_ble_eq_true rfl, Nat.le_of_ble_eq_true rfl⟩ ⟨Nat.le_of_ble_eq_true rfl, Nat.le_of_ble_eq_true rfl⟩)
set_option maxHeartbeats 1000000 in
set_option maxRecDepth 100000 in
theorem c_L_PW2 (l : Launch) (g : Gm) (hst : l.stackTraces = false) (q : Fx) (u : SOB) (σ : Sg) (fw : Nat → Option Nat) (a b : Nat) (ad2 : Nat → Nat) (ea2 : Nat) (hN : fw b = some (ad2 0)) {C M : Nat} {cvs : List CV} (hD : DI C M u σ cvs) (hC : C ≤ 500) (ha : a < cnt σ) (hbn : b < cnt σ) (hab : a ≠ b) : HXl (S := Nat) l g yL_pumpedWithout cL_pumpedWithout 4 [(0, 6, 7, 19), (0, 6, 12, 61)] ({ frames := 14, cells := 120, slots := 700000, locals := 1223 } : Room) [.ref q.1, .int (nI a), .int (nI b)] (SW g q u σ ++ ([(q.2.1, .inl (g.2.1 5, 6, .inr (.inr (.inr (.inr fw)))))] ++ wsW g ad2 (nI b) 0 (nI u.2.2.2.2.length) ea2 (folS (nI b) cvs σ0))) (fun r _ => r = gl (folS (nI b) cvs σ0) 23 (nI a)) (fun w => SW g q u σ ++ ([(q.2.1, .inl (g.2.1 5, 6, .inr (.inr (.inr (.inr fw)))))] ++ wsW g ad2 (nI b) 0 (nI u.2.2.2.2.length) w (folS (nI b) cvs σ0))) (fun _ => (50, 91000)) := by
  intro sz tt
  refine ofH RL rfl (by decide +kernel) (Nat.le_of_ble_eq_true rfl) (fun p e s m args below meth c hargs S hml hr hlk htab hsz htt hK hA hZ E ls hl => ?_)
  have hx := S.1
  have hb := S.2.1
  have hl : lv_has ls 4 [(0, .ref q.1), (1, .int (nI a)), (2, .int (nI b))] := hl
  refine lv_aload_n hx hb dL_pumpedWithout_0 rfl (lv_at hl 0 rfl) ?_
  refine lv_iload_n hx hb dL_pumpedWithout_1 rfl (lv_at hl 1 rfl) ?_
  refine lv_iload_n hx hb dL_pumpedWithout_2 rfl (lv_at hl 2 rfl) ?_
  have E : Ev g _ s.heap _ _ (SW g q u σ ++ ([(q.2.1, .inl (g.2.1 5, 6, .inr (.inr (.inr (.inr fw)))))] ++ wsW g ad2 (nI b) 0 (nI u.2.2.2.2.length) ea2 (folS (nI b) cvs σ0))) := E
  refine y_retl (yrunV (As := [.int (nI a), .int (nI b)]) (rest := []) (q0 := 0) (n := 2) S hml hK (hZ.at E) (Cut.full E hA) (c_PW2 l g hst q u σ fw a b ad2 ea2 hN hD hC ha hbn hab _ _) (gi_wsV ml_L_91 im_X6_pumpedWithout sl_X6_pumpedWithout in_X6 co_X6_pumpedWithout) ⟨rfl, by decide +kernel, by decide +kernel, by decide +kernel⟩ ⟨Nat.le_of_ble_eq_true rfl, Nat.le_of_ble_eq_true rfl⟩ rfl rfl rfl hl.1 rfl (Nat.le_of_ble_eq_true rfl) dL_pumpedWithout_3 ⟨Nat.le_of_ble_eq_true rfl, Nat.le_of_ble_eq_true rfl⟩) (Cut.full E hA) E (fun En ce q9 H locs hp E hce hcv hcl => False.elim hp) (fun r1 u1 H locs hp E => ?_)
  have hr1 := hp
  subst hr1
  exact vx_ret (x_lret u1 S hr hlk hsz htt hK E dL_pumpedWithout_6 rfl rfl ⟨Nat.le_of_ble_eq_true rfl, Nat.le_of_ble_eq_true rfl⟩ ⟨Nat.le_of_ble_eq_true rfl, Nat.le_of_ble_eq_true rfl⟩)
set_option maxHeartbeats 1000000 in
set_option maxRecDepth 100000 in
theorem c_L_PWN (l : Launch) (g : Gm) (hst : l.stackTraces = false) (q : Fx) (ea : Nat) (σ : Sg) (a : Nat) (i : Int32) (hixa : ixOK (nI a) (gs σ 4)) (hN : ¬ ixOK i (gs σ 4)) : HXl (S := Unit) l g yL_pumpedWithout cL_pumpedWithout 4 [(0, 6, 7, 19), (0, 6, 12, 61)] ({ frames := 10, cells := 2, slots := 12, locals := 173 } : Room) [.ref q.1, .int (nI a), .int i] (OX g q ea σ) (fun r _ => r = (-2500000)) (fun _ => OX g q ea σ) (fun _ => (2, 12)) := by
  intro sz tt
  refine ofH RL rfl (by decide +kernel) (Nat.le_of_ble_eq_true rfl) (fun p e s m args below meth c hargs S hml hr hlk htab hsz htt hK hA hZ E ls hl => ?_)
  have hx := S.1
  have hb := S.2.1
  have hl : lv_has ls 4 [(0, .ref q.1), (1, .int (nI a)), (2, .int i)] := hl
  refine lv_aload_n hx hb dL_pumpedWithout_0 rfl (lv_at hl 0 rfl) ?_
  refine lv_iload_n hx hb dL_pumpedWithout_1 rfl (lv_at hl 1 rfl) ?_
  refine lv_iload_n hx hb dL_pumpedWithout_2 rfl (lv_at hl 2 rfl) ?_
  have E : Ev g _ s.heap _ _ (OX g q ea σ) := E
  refine y_retl (yrunV (As := [.int (nI a), .int i]) (rest := []) (q0 := 0) (n := 2) S hml hK (hZ.at E) (Cut.full E hA) (c_PWN l g hst q ea σ a i hixa hN _ _) (gi_wsV ml_L_91 im_X6_pumpedWithout sl_X6_pumpedWithout in_X6 co_X6_pumpedWithout) ⟨rfl, by decide +kernel, by decide +kernel, by decide +kernel⟩ ⟨Nat.le_of_ble_eq_true rfl, Nat.le_of_ble_eq_true rfl⟩ rfl rfl rfl hl.1 rfl (Nat.le_of_ble_eq_true rfl) dL_pumpedWithout_3 ⟨Nat.le_of_ble_eq_true rfl, Nat.le_of_ble_eq_true rfl⟩) (Cut.full E hA) E (fun En ce q9 H locs hp E hce hcv hcl => ?_) (fun r1 u1 H locs hp E => ?_)
  · have hEn : En = "java/lang/IndexOutOfBoundsException" := hp
    subst hEn
    refine vx_catch (own := RL) (name := "java/lang/IndexOutOfBoundsException") S.2.2.2 [] ⟨0, 6, 7, 19⟩ [⟨0, 6, 12, 61⟩] htab (fun z hz => by cases hz) (by decide) (by decide) (S.2.2.1 _ cl_L_19) (va_Nw.use rfl (hZ.2.2.2.2.2.2.1 _ nw_ioob rfl)) hce hcv hcl ?_
    refine lv_astore_n (lv' := (3, .ref q9) :: [(0, .ref q.1), (1, .int (nI a)), (2, .int i)]) hx hb dL_pumpedWithout_7 rfl hl (by decide) rfl (fun ls hl => ?_)
    refine lv_ldc2 (v := (-2500000)) hx hb S.2.2.2 (S.2.2.1 _ cn_L_83) dL_pumpedWithout_8 ?_
    exact vx_ret (x_lret () S hr hlk hsz htt hK (E) dL_pumpedWithout_11 rfl rfl ⟨Nat.le_of_ble_eq_true rfl, Nat.le_of_ble_eq_true rfl⟩ ⟨Nat.le_of_ble_eq_true rfl, Nat.le_of_ble_eq_true rfl⟩)
  · exact False.elim hp
set_option maxHeartbeats 1000000 in
set_option maxRecDepth 100000 in
theorem c_L_waterX (l : Launch) (g : Gm) (hst : l.stackTraces = false) (q : Fx) (ea : Nat) (σ : Sg) (p0 : Int32) (hN : ¬ rgOK p0 0 15) : HXi (S := Unit) l g yL_water cL_water 3 .int [(0, 5, 6, 19)] ({ frames := 8, cells := 1, slots := 6, locals := 124 } : Room) [.ref q.1, .int p0] (OX g q ea σ) (fun r _ => r = (-2500000)) (fun _ => OX g q ea σ) (fun _ => (1, 6)) := by
  intro sz tt
  refine ofH RL rfl (by decide +kernel) (Nat.le_of_ble_eq_true rfl) (fun p e s m args below meth c hargs S hml hr hlk htab hsz htt hK hA hZ E ls hl => ?_)
  have hx := S.1
  have hb := S.2.1
  have hl : lv_has ls 3 [(0, .ref q.1), (1, .int p0)] := hl
  refine lv_aload_n hx hb dL_water_0 rfl (lv_at hl 0 rfl) ?_
  refine lv_iload_n hx hb dL_water_1 rfl (lv_at hl 1 rfl) ?_
  have E : Ev g _ s.heap _ _ (OX g q ea σ) := E
  refine y_reti (yrunV (As := [.int p0]) (rest := []) (q0 := 0) (n := 1) S hml hK (hZ.at E) (Cut.full E hA) (c_G_water l g hst q ea σ p0 _ _) (gi_wsV ml_L_67 im_X6_water sl_X6_water in_X6 co_X6_water) ⟨rfl, by decide +kernel, by decide +kernel, by decide +kernel⟩ ⟨Nat.le_of_ble_eq_true rfl, Nat.le_of_ble_eq_true rfl⟩ rfl rfl rfl hl.1 rfl (Nat.le_of_ble_eq_true rfl) dL_water_2 ⟨Nat.le_of_ble_eq_true rfl, Nat.le_of_ble_eq_true rfl⟩) (Cut.full E hA) E (fun En ce q9 H locs hp E hce hcv hcl => ?_) (fun r1 u1 H locs hp E => ?_)
  · have hEn : En = "java/lang/IndexOutOfBoundsException" := hp.1
    subst hEn
    refine vx_catch (own := RL) (name := "java/lang/IndexOutOfBoundsException") S.2.2.2 [] ⟨0, 5, 6, 19⟩ [] htab (fun z hz => by cases hz) (by decide) (by decide) (S.2.2.1 _ cl_L_19) (va_Nw.use rfl (hZ.2.2.2.2.2.2.1 _ nw_ioob rfl)) hce hcv hcl ?_
    refine lv_astore_n (lv' := (2, .ref q9) :: [(0, .ref q.1), (1, .int p0)]) hx hb dL_water_6 rfl hl (by decide) rfl (fun ls hl => ?_)
    refine lv_ldc (v := (-2500000)) hx hb S.2.2.2 (S.2.2.1 _ cn_L_21) dL_water_7 ?_
    exact vx_ret (x_iret () S hr hlk hsz htt hK (E) dL_water_9 rfl rfl ⟨Nat.le_of_ble_eq_true rfl, Nat.le_of_ble_eq_true rfl⟩ ⟨Nat.le_of_ble_eq_true rfl, Nat.le_of_ble_eq_true rfl⟩)
  · exact absurd hp.2 hN
set_option maxHeartbeats 1000000 in
set_option maxRecDepth 100000 in
theorem c_L_pumpedX (l : Launch) (g : Gm) (hst : l.stackTraces = false) (q : Fx) (ea : Nat) (σ : Sg) (p0 : Int32) (hW : WF σ) (h0 : ixOK p0 (gs σ 4)) : HXl (S := Unit) l g yL_pumped cL_pumped 3 [(0, 5, 6, 19)] ({ frames := 9, cells := 1, slots := 6, locals := 145 } : Room) [.ref q.1, .int p0] (OX g q ea σ) (fun r _ => r = gl σ 23 p0) (fun _ => OX g q ea σ) (fun _ => (0, 0)) := by
  intro sz tt
  refine ofH RL rfl (by decide +kernel) (Nat.le_of_ble_eq_true rfl) (fun p e s m args below meth c hargs S hml hr hlk htab hsz htt hK hA hZ E ls hl => ?_)
  have hx := S.1
  have hb := S.2.1
  have hl : lv_has ls 3 [(0, .ref q.1), (1, .int p0)] := hl
  refine lv_aload_n hx hb dL_pumped_0 rfl (lv_at hl 0 rfl) ?_
  refine lv_iload_n hx hb dL_pumped_1 rfl (lv_at hl 1 rfl) ?_
  have E : Ev g _ s.heap _ _ (OX g q ea σ) := E
  refine y_retl (yrunV (As := [.int p0]) (rest := []) (q0 := 0) (n := 1) S hml hK (hZ.at E) (Cut.full E hA) (c_G_pumped l g hst q ea σ p0 hW _ _) (gi_wsV ml_L_79 im_X6_pumped sl_X6_pumped in_X6 co_X6_pumped) ⟨rfl, by decide +kernel, by decide +kernel, by decide +kernel⟩ ⟨Nat.le_of_ble_eq_true rfl, Nat.le_of_ble_eq_true rfl⟩ rfl rfl rfl hl.1 rfl (Nat.le_of_ble_eq_true rfl) dL_pumped_2 ⟨Nat.le_of_ble_eq_true rfl, Nat.le_of_ble_eq_true rfl⟩) (Cut.full E hA) E (fun En ce q9 H locs hp E hce hcv hcl => absurd h0 hp.2) (fun r1 u1 H locs hp E => ?_)
  obtain ⟨rfl, -⟩ := hp
  exact vx_ret (x_lret () S hr hlk hsz htt hK E dL_pumped_5 rfl rfl ⟨Nat.le_of_ble_eq_true rfl, Nat.le_of_ble_eq_true rfl⟩ ⟨Nat.le_of_ble_eq_true rfl, Nat.le_of_ble_eq_true rfl⟩)
