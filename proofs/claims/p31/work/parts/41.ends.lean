/-! THE WORLDS WITHOUT A WELL; IS IT SOUND -/
section PERMS41
variable {X W D T Z N A : va_W} {x z : Nat × va_E}
theorem pm_rw : (((D ++ T) ++ Z) ++ X).Perm (((X ++ D) ++ T) ++ Z) := by
  have h := perm_ix [X, D, T, Z] (is := [1, 2, 3, 0]) (js := [0, 1, 2, 3]) (by decide)
  simpa [cat] using h
theorem pm_ww : ((W ++ (D ++ T)) ++ ([x] ++ [z])).Perm (((([x] ++ W) ++ D) ++ T) ++ [z]) := by
  have h := perm_ix [[x], W, D, T, [z]] (is := [1, 2, 3, 0, 4]) (js := [0, 1, 2, 3, 4]) (by decide)
  simpa [cat] using h
theorem pm_ww2 : ((W ++ (D ++ (T ++ N))) ++ ([x] ++ [z])).Perm (((([x] ++ W) ++ D) ++ T) ++ ([z] ++ N)) := by
  have h := perm_ix [[x], W, D, T, [z], N] (is := [1, 2, 3, 5, 0, 4]) (js := [0, 1, 2, 3, 4, 5]) (by decide)
  simpa [cat] using h
theorem pm_fd : ((W ++ [x, z]) ++ ((N ++ D) ++ T)).Perm ((W ++ (D ++ T)) ++ ([x, z] ++ N)) := by
  have h := perm_ix [W, [x], [z], N, D, T] (is := [0, 1, 2, 3, 4, 5]) (js := [0, 4, 5, 1, 2, 3]) (by decide)
  simpa [cat] using h
theorem pm_fd2 : ((W ++ [x, z]) ++ ((N ++ D) ++ T)).Perm ((W ++ (D ++ (T ++ N))) ++ ([x] ++ [z])) := by
  have h := perm_ix [W, [x], [z], N, D, T] (is := [0, 1, 2, 3, 4, 5]) (js := [0, 4, 5, 3, 1, 2]) (by decide)
  simpa [cat] using h
theorem pm_pw : (((([x] ++ W) ++ D) ++ T) ++ ([z] ++ N)).Perm ((W ++ [x, z]) ++ ((N ++ D) ++ T)) := by
  have h := perm_ix [[x], W, D, T, [z], N] (is := [0, 1, 2, 3, 4, 5]) (js := [1, 0, 4, 5, 2, 3]) (by decide)
  simpa [cat] using h
theorem pm_s1 : (X ++ ((A ++ D) ++ T)).Perm (A ++ ((X ++ D) ++ T)) := by
  have h := perm_ix [A, X, D, T] (is := [1, 0, 2, 3]) (js := [0, 1, 2, 3]) (by decide)
  simpa [cat] using h
theorem pm_s2 : ((([x] ++ ((A ++ D) ++ T))) ++ W).Perm (([x] ++ W) ++ ((A ++ D) ++ T)) := by
  have h := perm_ix [[x], W, A, D, T] (is := [0, 2, 3, 4, 1]) (js := [0, 1, 2, 3, 4]) (by decide)
  simpa [cat] using h
theorem pm_s3 : (([x] ++ (D ++ T)) ++ (W ++ A)).Perm (([x] ++ W) ++ ((A ++ D) ++ T)) := by
  have h := perm_ix [[x], W, A, D, T] (is := [0, 3, 4, 1, 2]) (js := [0, 1, 2, 3, 4]) (by decide)
  simpa [cat] using h
theorem pm_s4 : (A ++ ((([x] ++ W) ++ D) ++ T)).Perm (([x] ++ W) ++ ((A ++ D) ++ T)) := by
  have h := perm_ix [[x], W, A, D, T] (is := [2, 0, 1, 3, 4]) (js := [0, 1, 2, 3, 4]) (by decide)
  simpa [cat] using h
end PERMS41
set_option maxHeartbeats 1000000 in
set_option maxRecDepth 100000 in
/-- the world without a well, the first time -/
theorem c_ww1 (l : Launch) (g : Gm) (q : Fx) (fw : Nat → Option Nat) (i : Int32) (hN : fw i.toNatClampNeg = none) (hin : vp_in i 6) : MXr (S := Nat × (Nat → Nat)) l g yX6_worldWithout cX6_worldWithout 3 (.object "Aquiferward$World") ({ frames := 5, cells := 31, slots := 279, locals := 90 } : Room) [.ref q.1, .int i] ([(q.1, .inr (6, [.ref (q.2.2.2.1 0), .ref (q.2.2.2.2.1 0), .ref q.2.1, .ref q.2.2.1]))] ++ [(q.2.1, .inl (g.2.1 5, 6, .inr (.inr (.inr (.inr fw)))))]) (fun _ => True) (fun u => u.1) (fun u => [(q.1, .inr (6, [.ref (q.2.2.2.1 0), .ref (q.2.2.2.2.1 0), .ref q.2.1, .ref q.2.2.1])), (q.2.1, .inl (g.2.1 5, 6, .inr (.inr (.inr (.inr (va_up fw i.toNatClampNeg (some u.1)))))))] ++ wsW g (adw u.1 u.2) i 0 0 (u.2 30) σ0) (fun _ => (31, 279)) := by
  intro sz tt
  refine ofX RX6 rfl (by decide +kernel) (Nat.le_of_ble_eq_true rfl) (fun p e s m args below meth c hargs S hml hr hlk hnm hsz htt hK hA hZ E ls hl => ?_)
  have hx := S.1
  have hb := S.2.1
  have hl : lv_has ls 3 [(0, .ref q.1), (1, .int i)] := hl
  refine lv_aload_n hx hb dX6_worldWithout_0 rfl (lv_at hl 0 rfl) ?_
  refine wg_X6_21 (v := .ref q.2.1) S hK E 0 rfl rfl dX6_worldWithout_1 ?_
  refine lv_iload_n hx hb dX6_worldWithout_4 rfl (lv_at hl 1 rfl) ?_
  refine va_aldq S.1 S.2.1 hK E.1 1 5 rfl rfl hin dX6_worldWithout_5 ?_
  rw [hN]
  refine lv_astore_nN (lv' := [(2, .null), (0, .ref q.1), (1, .int i)]) hx hb dX6_worldWithout_6 rfl hl (by decide) rfl (fun ls hl => ?_)
  refine lv_aload_nN hx hb dX6_worldWithout_7 rfl (lv_at hl 0 rfl) ?_
  refine lv_ifnonnullN hx hb dX6_worldWithout_8 ?_
  refine w_new (ci := 5) (fs := [.null, .null, .null, .null, .null, .null, .null, .null, .int 0, .int 0, .int 0, .int 0]) (C := RX5) (T := TX5) (N := 12) S hK E hA fw_X5 tyX5 tyX5_ok cl_X6_7 ib_X5 in_X5 rfl (fun j hj => by rcases (show j = 0 ∨ j = 1 ∨ j = 2 ∨ j = 3 ∨ j = 4 ∨ j = 5 ∨ j = 6 ∨ j = 7 ∨ j = 8 ∨ j = 9 ∨ j = 10 ∨ j = 11 by omega) with rfl | rfl | rfl | rfl | rfl | rfl | rfl | rfl | rfl | rfl | rfl | rfl <;> rfl) (Nat.le_of_ble_eq_true rfl) (Nat.le_of_ble_eq_true rfl) dX6_worldWithout_11 (fun q1 H E => ?_)
  have E : Ev g _ s.heap H _ (([(q.1, .inr (6, [.ref (q.2.2.2.1 0), .ref (q.2.2.2.2.1 0), .ref q.2.1, .ref q.2.2.1]))] ++ [(q.2.1, .inl (g.2.1 5, 6, .inr (.inr (.inr (.inr fw)))))]) ++ [(q1, .inr (5, [.null, .null, .null, .null, .null, .null, .null, .null, .int 0, .int 0, .int 0, .int 0]))]) := E
  refine lv_dup hx hb dX6_worldWithout_14 rfl ?_
  refine lv_iload_n hx hb dX6_worldWithout_15 rfl (lv_at hl 2 rfl) ?_
  refine lv_iconst (v := 0) hx hb dX6_worldWithout_16 (by decide) ?_
  refine w_retv (runI_X (As := [.int i, .int 0]) (rest := [.ref q1]) (n := 2) S hml hK (hZ.at E) (Cut.app E hA) (c_X5_init l g q1 i 0 (Or.inl rfl) _ _) ml_X6_11 im_X5_init in_X5 co_X5_init rfl ⟨by decide +kernel, by decide +kernel, by decide +kernel⟩ ⟨Nat.le_of_ble_eq_true rfl, Nat.le_of_ble_eq_true rfl⟩ rfl hl.1 rfl (Nat.le_of_ble_eq_true rfl) dX6_worldWithout_17 ⟨Nat.le_of_ble_eq_true rfl, Nat.le_of_ble_eq_true rfl⟩) (Cut.app E hA) E (fun uu H locs hp E => ?_)
  have E : Ev g _ s.heap H locs (([(q.1, .inr (6, [.ref (q.2.2.2.1 0), .ref (q.2.2.2.2.1 0), .ref q.2.1, .ref q.2.2.1]))] ++ [(q.2.1, .inl (g.2.1 5, 6, .inr (.inr (.inr (.inr fw)))))]) ++ wsW g (adw q1 uu) i 0 0 (uu 30) σ0) := E
  refine lv_astore_n (lv' := [(2, .ref q1), (0, .ref q.1), (1, .int i)]) hx hb dX6_worldWithout_20 rfl hl (by decide) rfl (fun ls hl => ?_)
  refine lv_aload_n hx hb dX6_worldWithout_21 rfl (lv_at hl 1 rfl) ?_
  refine wg_X6_21 (v := .ref q.2.1) S hK E 0 rfl rfl dX6_worldWithout_22 ?_
  refine lv_iload_n hx hb dX6_worldWithout_25 rfl (lv_at hl 2 rfl) ?_
  refine lv_aload_n hx hb dX6_worldWithout_26 rfl (lv_at hl 0 rfl) ?_
  refine va_astq (r := (RX5, TX5, 12)) S.1 S.2.1 hK E.1 E.2.1 E.2.2 1 5 2 5 rfl rfl rfl rfl hin dX6_worldWithout_27 (fun H1 l1 hP hD hS => ?_)
  have E : Ev g _ s.heap H1 l1 ([(q.1, .inr (6, [.ref (q.2.2.2.1 0), .ref (q.2.2.2.2.1 0), .ref q.2.1, .ref q.2.2.1])), (q.2.1, .inl (g.2.1 5, 6, .inr (.inr (.inr (.inr (va_up fw i.toNatClampNeg (some q1)))))))] ++ wsW g (adw q1 uu) i 0 0 (uu 30) σ0) := ⟨hP, hD, hS⟩
  refine lv_aload_n hx hb dX6_worldWithout_28 rfl (lv_at hl 0 rfl) ?_
  exact x_aret (q1, uu) S hr (by first | exact Or.inl ⟨_, rfl⟩ | exact Or.inr ⟨_, rfl⟩) hlk hsz htt hK E dX6_worldWithout_29 trivial rfl rfl ⟨Nat.le_of_ble_eq_true rfl, Nat.le_of_ble_eq_true rfl⟩ ⟨Nat.le_of_ble_eq_true rfl, Nat.le_of_ble_eq_true rfl⟩
set_option maxHeartbeats 1000000 in
set_option maxRecDepth 100000 in
/-- the world without a well, later -/
theorem c_ww2 (l : Launch) (g : Gm) (q : Fx) (fw : Nat → Option Nat) (i : Int32) (w : Nat) (hN : fw i.toNatClampNeg = some w) (hin : vp_in i 6) : MXr (S := Unit) l g yX6_worldWithout cX6_worldWithout 3 (.object "Aquiferward$World") ({ frames := 5, cells := 31, slots := 279, locals := 90 } : Room) [.ref q.1, .int i] ([(q.1, .inr (6, [.ref (q.2.2.2.1 0), .ref (q.2.2.2.2.1 0), .ref q.2.1, .ref q.2.2.1]))] ++ [(q.2.1, .inl (g.2.1 5, 6, .inr (.inr (.inr (.inr fw)))))]) (fun _ => True) (fun _ => w) (fun _ => [(q.1, .inr (6, [.ref (q.2.2.2.1 0), .ref (q.2.2.2.2.1 0), .ref q.2.1, .ref q.2.2.1]))] ++ [(q.2.1, .inl (g.2.1 5, 6, .inr (.inr (.inr (.inr fw)))))]) (fun _ => (0, 0)) := by
  intro sz tt
  refine ofX RX6 rfl (by decide +kernel) (Nat.le_of_ble_eq_true rfl) (fun p e s m args below meth c hargs S hml hr hlk hnm hsz htt hK hA hZ E ls hl => ?_)
  have hx := S.1
  have hb := S.2.1
  have hl : lv_has ls 3 [(0, .ref q.1), (1, .int i)] := hl
  refine lv_aload_n hx hb dX6_worldWithout_0 rfl (lv_at hl 0 rfl) ?_
  refine wg_X6_21 (v := .ref q.2.1) S hK E 0 rfl rfl dX6_worldWithout_1 ?_
  refine lv_iload_n hx hb dX6_worldWithout_4 rfl (lv_at hl 1 rfl) ?_
  refine w_aldq (v := w) S hK E 1 5 rfl rfl hin hN dX6_worldWithout_5 ?_
  refine lv_astore_n (lv' := [(2, .ref w), (0, .ref q.1), (1, .int i)]) hx hb dX6_worldWithout_6 rfl hl (by decide) rfl (fun ls hl => ?_)
  refine lv_aload_n hx hb dX6_worldWithout_7 rfl (lv_at hl 0 rfl) ?_
  refine lv_ifnonnull (tgt := 28) hx hb dX6_worldWithout_8 (by decide) ?_
  refine lv_aload_n hx hb dX6_worldWithout_28 rfl (lv_at hl 0 rfl) ?_
  exact x_aret () S hr (by first | exact Or.inl ⟨_, rfl⟩ | exact Or.inr ⟨_, rfl⟩) hlk hsz htt hK E dX6_worldWithout_29 trivial rfl rfl ⟨Nat.le_of_ble_eq_true rfl, Nat.le_of_ble_eq_true rfl⟩ ⟨Nat.le_of_ble_eq_true rfl, Nat.le_of_ble_eq_true rfl⟩
set_option maxHeartbeats 2000000 in
set_option maxRecDepth 100000 in
/-- pumpedWithout, the first time -/
theorem c_PW1 (l : Launch) (g : Gm) (hst : l.stackTraces = false) (q : Fx) (u : SOB) (σ : Sg) (fw : Nat → Option Nat) (a b : Nat) (hN : fw b = none) {C M : Nat} {cvs : List CV} (hD : DI C M u σ cvs) (hC : C ≤ 500) (ha : a < cnt σ) (hbn : b < cnt σ) (hab : a ≠ b) : YXl (S := (Nat → Nat) × Nat) l g yX6_pumpedWithout cX6_pumpedWithout 4 ({ frames := 13, cells := 120, slots := 700000, locals := 1200 } : Room) [.ref q.1, .int (nI a), .int (nI b)] (SW g q u σ ++ [(q.2.1, .inl (g.2.1 5, 6, .inr (.inr (.inr (.inr fw)))))]) (fun r _ => r = gl (folS (nI b) cvs σ0) 23 (nI a)) (fun w => SW g q u σ ++ ([(q.2.1, .inl (g.2.1 5, 6, .inr (.inr (.inr (.inr (va_up fw b (some (w.1 0))))))))] ++ wsW g w.1 (nI b) 0 (nI u.2.2.2.2.length) w.2 (folS (nI b) cvs σ0))) (fun _ => (50, 91000)) (SW g q u σ ++ [(q.2.1, .inl (g.2.1 5, 6, .inr (.inr (.inr (.inr fw)))))]) (fun _ => False) := by
  intro sz tt
  refine ofY RX6 rfl (by decide +kernel) (Nat.le_of_ble_eq_true rfl) (fun p e s m args below meth c hargs S hml hr hlk hex hsz htt hK hA hZ E ls hl => ?_)
  have hx := S.1
  have hb := S.2.1
  have hI := hD.1
  have h6 := hI.wf.le
  have hln := dc_len hD.2.2.1
  have hlC := hD.2.2.2.2.2.1
  have hcap := hD.2.1
  have hixa := ixN hI.wf ha
  have hixb := ixN hI.wf hbn
  obtain ⟨iT, iT2, -⟩ := inv_folS (lo := nI b) cvs σ0 0 0 inv0 (by omega) (by rw [cnt0]; exact hD.2.2.2.2.1)
  obtain ⟨gt1, gt2⟩ := nt_c iT.ev (Nat.le_trans iT.en (by decide))
  have hl : lv_has ls 4 [(0, .ref q.1), (1, .int (nI a)), (2, .int (nI b))] := hl
  have bc : (nI b).toNatClampNeg = b := nI_clamp (by omega)
  refine lv_aload_n hx hb dX6_pumpedWithout_0 rfl (lv_at hl 0 rfl) ?_
  refine lv_iload_n hx hb dX6_pumpedWithout_1 rfl (lv_at hl 1 rfl) ?_
  have E1 : Ev g _ s.heap _ _ (((DN g q u ++ u.2.2.2.2) ++ [(q.2.1, .inl (g.2.1 5, 6, .inr (.inr (.inr (.inr fw)))))]) ++ OX g q u.1 σ) := E.perm pm_rw
  refine y_retv (yrunV (As := [.int (nI a)]) (rest := []) (q0 := 0) (n := 1) S hml hK (hZ.at E) (Cut.app E1 hA) (c_X6_requireWell l g hst q u.1 σ (nI a) _ _) (gi_wsV ml_X6_103 im_X6_requireWell sl_X6_requireWell in_X6 co_X6_requireWell) ⟨rfl, by decide +kernel, by decide +kernel, by decide +kernel⟩ ⟨Nat.le_of_ble_eq_true rfl, Nat.le_of_ble_eq_true rfl⟩ rfl rfl rfl hl.1 rfl (Nat.le_of_ble_eq_true rfl) dX6_pumpedWithout_2 ⟨Nat.le_of_ble_eq_true rfl, Nat.le_of_ble_eq_true rfl⟩) (Cut.app E1 hA) E1 (fun En ce q9 H locs hp E hce hcv hcl => absurd hixa hp.2) (fun u9 H locs hp E2 => ?_)
  have E : Ev g _ s.heap H locs (SW g q u σ ++ [(q.2.1, .inl (g.2.1 5, 6, .inr (.inr (.inr (.inr fw)))))]) := E2.perm pm_rw.symm
  refine lv_aload_n hx hb dX6_pumpedWithout_5 rfl (lv_at hl 0 rfl) ?_
  refine lv_iload_n hx hb dX6_pumpedWithout_6 rfl (lv_at hl 2 rfl) ?_
  have E1 : Ev g _ s.heap _ _ (((DN g q u ++ u.2.2.2.2) ++ [(q.2.1, .inl (g.2.1 5, 6, .inr (.inr (.inr (.inr fw)))))]) ++ OX g q u.1 σ) := E.perm pm_rw
  refine y_retv (yrunV (As := [.int (nI b)]) (rest := []) (q0 := 0) (n := 1) S hml hK (hZ.at E) (Cut.app E1 hA) (c_X6_requireWell l g hst q u.1 σ (nI b) _ _) (gi_wsV ml_X6_103 im_X6_requireWell sl_X6_requireWell in_X6 co_X6_requireWell) ⟨rfl, by decide +kernel, by decide +kernel, by decide +kernel⟩ ⟨Nat.le_of_ble_eq_true rfl, Nat.le_of_ble_eq_true rfl⟩ rfl rfl rfl hl.1 rfl (Nat.le_of_ble_eq_true rfl) dX6_pumpedWithout_7 ⟨Nat.le_of_ble_eq_true rfl, Nat.le_of_ble_eq_true rfl⟩) (Cut.app E1 hA) E1 (fun En ce q9 H locs hp E hce hcv hcl => absurd hixb hp.2) (fun u9 H locs hp E2 => ?_)
  have E : Ev g _ s.heap H locs (SW g q u σ ++ [(q.2.1, .inl (g.2.1 5, 6, .inr (.inr (.inr (.inr fw)))))]) := E2.perm pm_rw.symm
  refine lv_iload_n hx hb dX6_pumpedWithout_10 rfl (lv_at hl 1 rfl) ?_
  refine lv_iload_n hx hb dX6_pumpedWithout_11 rfl (lv_at hl 2 rfl) ?_
  refine lv_icmp_ne (tgt := 25) hx hb dX6_pumpedWithout_12 (by decide) (fun _ => ?_) (fun c_ => absurd (fun z => hab ((nI_eq (by omega) (by omega)).mp z)) (not_not_intro c_))
  refine lv_aload_n hx hb dX6_pumpedWithout_25 rfl (lv_at hl 0 rfl) ?_
  refine lv_iload_n hx hb dX6_pumpedWithout_26 rfl (lv_at hl 2 rfl) ?_
  have E1 : Ev g _ s.heap H locs ((wsW g q.2.2.2.1 (-1) 1 0 u.1 σ ++ (DN g q u ++ u.2.2.2.2)) ++ ([(q.1, .inr (6, [.ref (q.2.2.2.1 0), .ref (q.2.2.2.2.1 0), .ref q.2.1, .ref q.2.2.1]))] ++ [(q.2.1, .inl (g.2.1 5, 6, .inr (.inr (.inr (.inr fw)))))])) := E.perm pm_ww
  refine w_retr (runV_X (As := [.int (nI b)]) (rest := []) (q0 := 0) (n := 1) S hml hK (hZ.at E) (Cut.app E1 hA) (c_ww1 l g q fw (nI b) (by rw [bc]; exact hN) (vp_in_nI (by omega) (by decide)) _ _) (gi_wsV ml_X6_158 im_X6_worldWithout sl_X6_worldWithout in_X6 co_X6_worldWithout) ⟨rfl, by decide +kernel, by decide +kernel, by decide +kernel⟩ ⟨Nat.le_of_ble_eq_true rfl, Nat.le_of_ble_eq_true rfl⟩ rfl rfl rfl hl.1 rfl (Nat.le_of_ble_eq_true rfl) dX6_pumpedWithout_27 ⟨Nat.le_of_ble_eq_true rfl, Nat.le_of_ble_eq_true rfl⟩) (Cut.app E1 hA) E1 (fun uu H locs hp E2 => ?_)
  obtain ⟨w, uf⟩ := uu
  rw [bc] at E2
  have E : Ev g _ s.heap H locs ((wsW g q.2.2.2.1 (-1) 1 0 u.1 σ ++ [(q.1, .inr (6, [.ref (q.2.2.2.1 0), .ref (q.2.2.2.2.1 0), .ref q.2.1, .ref q.2.2.1])), (q.2.1, .inl (g.2.1 5, 6, .inr (.inr (.inr (.inr (va_up fw b (some w)))))))]) ++ ((wsW g (adw w uf) (nI b) 0 0 (uf 30) σ0 ++ DN g q u) ++ u.2.2.2.2)) := E2.perm pm_fd
  refine lv_astore_n (lv' := [(3, .ref w), (0, .ref q.1), (1, .int (nI a)), (2, .int (nI b))]) hx hb dX6_pumpedWithout_30 rfl hl (by decide) rfl (fun ls hl => ?_)
  refine lv_aload_n hx hb dX6_pumpedWithout_31 rfl (lv_at hl 0 rfl) ?_
  refine lv_aload_n hx hb dX6_pumpedWithout_32 rfl (lv_at hl 1 rfl) ?_
  refine wg_X6_28 (v := .ref q.2.2.1) S hK E 31 rfl rfl dX6_pumpedWithout_33 ?_
  refine w_retv (runV_X (As := [.ref q.2.2.1]) (rest := []) (q0 := 0) (n := 1) S hml hK (hZ.at E) (Cut.app E hA) (c_followDiary l g (adw w uf) (nI b) 0 (uf 30) σ0 q.2.2.1 u.2.1 u.2.2.1 u.2.2.2.1 u.2.2.2.2 cvs 0 inv0 (Or.inl rfl) hD.2.2.1 (Nat.zero_le _) hcap.2.1 hcap.2.2.2.1 (by omega) (by rw [cnt0]; exact hD.2.2.2.2.1) _ _) (gi_wsV ml_X6_162 im_X5_followDiary sl_X5_followDiary in_X5 co_X5_followDiary) ⟨rfl, by decide +kernel, by decide +kernel, by decide +kernel⟩ ⟨Nat.le_of_ble_eq_true rfl, Nat.le_of_ble_eq_true rfl⟩ rfl rfl rfl hl.1 rfl (Nat.le_of_ble_eq_true rfl) dX6_pumpedWithout_36 ⟨by show 31 + 61 ≤ 120; decide, by show 279 + 600000 ≤ 700000; decide⟩) (Cut.app E hA) E (fun ea3 H locs hp E2 => ?_)
  have E : Ev g _ s.heap H locs ((wsW g q.2.2.2.1 (-1) 1 0 u.1 σ ++ [(q.1, .inr (6, [.ref (q.2.2.2.1 0), .ref (q.2.2.2.2.1 0), .ref q.2.1, .ref q.2.2.1])), (q.2.1, .inl (g.2.1 5, 6, .inr (.inr (.inr (.inr (va_up fw b (some w)))))))]) ++ ((wsW g (adw w uf) (nI b) 0 (nI u.2.2.2.2.length) ea3 (folS (nI b) cvs σ0) ++ DN g q u) ++ u.2.2.2.2)) := E2
  refine lv_aload_n hx hb dX6_pumpedWithout_39 rfl (lv_at hl 0 rfl) ?_
  refine wg_X6_87 (v := .ref ((adw w uf) 3)) S hK E 33 rfl rfl dX6_pumpedWithout_40 ?_
  refine wg_X6_140 (v := .ref ((adw w uf) 23)) S hK E 36 rfl rfl dX6_pumpedWithout_43 ?_
  refine lv_iload_n hx hb dX6_pumpedWithout_46 rfl (lv_at hl 2 rfl) ?_
  refine w_lld (v := gl (folS (nI b) cvs σ0) 23 (nI a)) S hK E 56 1 rfl rfl (vp_in_nI (by omega) (by decide)) rfl dX6_pumpedWithout_47 ?_
  have E : Ev g _ s.heap H locs (SW g q u σ ++ ([(q.2.1, .inl (g.2.1 5, 6, .inr (.inr (.inr (.inr (va_up fw b (some w)))))))] ++ wsW g (adw w uf) (nI b) 0 (nI u.2.2.2.2.length) ea3 (folS (nI b) cvs σ0))) := E.perm pm_pw
  exact vx_ret (x_lret ((adw w uf), ea3) S hr hlk hsz htt hK E dX6_pumpedWithout_48 rfl rfl ⟨by show 31 + (eg (folS (nI b) (cvs.drop 0) σ0) - eg σ0) ≤ 50; have : eg (folS (nI b) (cvs.drop 0) σ0) ≤ 11 := gt1; omega, by show 279 + (2 * ec (folS (nI b) (cvs.drop 0) σ0) - 2 * ec σ0) ≤ 91000; have : ec (folS (nI b) (cvs.drop 0) σ0) ≤ 40016 := gt2; omega⟩ ⟨by show 31 + (eg (folS (nI b) (cvs.drop 0) σ0) - eg σ0) ≤ 120; have : eg (folS (nI b) (cvs.drop 0) σ0) ≤ 11 := gt1; omega, by show 279 + (2 * ec (folS (nI b) (cvs.drop 0) σ0) - 2 * ec σ0) ≤ 700000; have : ec (folS (nI b) (cvs.drop 0) σ0) ≤ 40016 := gt2; omega⟩)
set_option maxHeartbeats 2000000 in
set_option maxRecDepth 100000 in
/-- pumpedWithout, later -/
theorem c_PW2 (l : Launch) (g : Gm) (hst : l.stackTraces = false) (q : Fx) (u : SOB) (σ : Sg) (fw : Nat → Option Nat) (a b : Nat) (ad2 : Nat → Nat) (ea2 : Nat) (hN : fw b = some (ad2 0)) {C M : Nat} {cvs : List CV} (hD : DI C M u σ cvs) (hC : C ≤ 500) (ha : a < cnt σ) (hbn : b < cnt σ) (hab : a ≠ b) : YXl (S := Nat) l g yX6_pumpedWithout cX6_pumpedWithout 4 ({ frames := 13, cells := 120, slots := 700000, locals := 1200 } : Room) [.ref q.1, .int (nI a), .int (nI b)] (SW g q u σ ++ ([(q.2.1, .inl (g.2.1 5, 6, .inr (.inr (.inr (.inr fw)))))] ++ wsW g ad2 (nI b) 0 (nI u.2.2.2.2.length) ea2 (folS (nI b) cvs σ0))) (fun r _ => r = gl (folS (nI b) cvs σ0) 23 (nI a)) (fun w => SW g q u σ ++ ([(q.2.1, .inl (g.2.1 5, 6, .inr (.inr (.inr (.inr fw)))))] ++ wsW g ad2 (nI b) 0 (nI u.2.2.2.2.length) w (folS (nI b) cvs σ0))) (fun _ => (50, 91000)) (SW g q u σ ++ ([(q.2.1, .inl (g.2.1 5, 6, .inr (.inr (.inr (.inr fw)))))] ++ wsW g ad2 (nI b) 0 (nI u.2.2.2.2.length) ea2 (folS (nI b) cvs σ0))) (fun _ => False) := by
  intro sz tt
  refine ofY RX6 rfl (by decide +kernel) (Nat.le_of_ble_eq_true rfl) (fun p e s m args below meth c hargs S hml hr hlk hex hsz htt hK hA hZ E ls hl => ?_)
  have hx := S.1
  have hb := S.2.1
  have hI := hD.1
  have h6 := hI.wf.le
  have hln := dc_len hD.2.2.1
  have hlC := hD.2.2.2.2.2.1
  have hcap := hD.2.1
  have hixa := ixN hI.wf ha
  have hixb := ixN hI.wf hbn
  obtain ⟨iT, iT2, -⟩ := inv_folS (lo := nI b) cvs σ0 0 0 inv0 (by omega) (by rw [cnt0]; exact hD.2.2.2.2.1)
  obtain ⟨gt1, gt2⟩ := nt_c iT.ev (Nat.le_trans iT.en (by decide))
  have hl : lv_has ls 4 [(0, .ref q.1), (1, .int (nI a)), (2, .int (nI b))] := hl
  have bc : (nI b).toNatClampNeg = b := nI_clamp (by omega)
  refine lv_aload_n hx hb dX6_pumpedWithout_0 rfl (lv_at hl 0 rfl) ?_
  refine lv_iload_n hx hb dX6_pumpedWithout_1 rfl (lv_at hl 1 rfl) ?_
  have E1 : Ev g _ s.heap _ _ (((DN g q u ++ u.2.2.2.2) ++ ([(q.2.1, .inl (g.2.1 5, 6, .inr (.inr (.inr (.inr fw)))))] ++ wsW g ad2 (nI b) 0 (nI u.2.2.2.2.length) ea2 (folS (nI b) cvs σ0))) ++ OX g q u.1 σ) := E.perm pm_rw
  refine y_retv (yrunV (As := [.int (nI a)]) (rest := []) (q0 := 0) (n := 1) S hml hK (hZ.at E) (Cut.app E1 hA) (c_X6_requireWell l g hst q u.1 σ (nI a) _ _) (gi_wsV ml_X6_103 im_X6_requireWell sl_X6_requireWell in_X6 co_X6_requireWell) ⟨rfl, by decide +kernel, by decide +kernel, by decide +kernel⟩ ⟨Nat.le_of_ble_eq_true rfl, Nat.le_of_ble_eq_true rfl⟩ rfl rfl rfl hl.1 rfl (Nat.le_of_ble_eq_true rfl) dX6_pumpedWithout_2 ⟨Nat.le_of_ble_eq_true rfl, Nat.le_of_ble_eq_true rfl⟩) (Cut.app E1 hA) E1 (fun En ce q9 H locs hp E hce hcv hcl => absurd hixa hp.2) (fun u9 H locs hp E2 => ?_)
  have E : Ev g _ s.heap H locs (SW g q u σ ++ ([(q.2.1, .inl (g.2.1 5, 6, .inr (.inr (.inr (.inr fw)))))] ++ wsW g ad2 (nI b) 0 (nI u.2.2.2.2.length) ea2 (folS (nI b) cvs σ0))) := E2.perm pm_rw.symm
  refine lv_aload_n hx hb dX6_pumpedWithout_5 rfl (lv_at hl 0 rfl) ?_
  refine lv_iload_n hx hb dX6_pumpedWithout_6 rfl (lv_at hl 2 rfl) ?_
  have E1 : Ev g _ s.heap _ _ (((DN g q u ++ u.2.2.2.2) ++ ([(q.2.1, .inl (g.2.1 5, 6, .inr (.inr (.inr (.inr fw)))))] ++ wsW g ad2 (nI b) 0 (nI u.2.2.2.2.length) ea2 (folS (nI b) cvs σ0))) ++ OX g q u.1 σ) := E.perm pm_rw
  refine y_retv (yrunV (As := [.int (nI b)]) (rest := []) (q0 := 0) (n := 1) S hml hK (hZ.at E) (Cut.app E1 hA) (c_X6_requireWell l g hst q u.1 σ (nI b) _ _) (gi_wsV ml_X6_103 im_X6_requireWell sl_X6_requireWell in_X6 co_X6_requireWell) ⟨rfl, by decide +kernel, by decide +kernel, by decide +kernel⟩ ⟨Nat.le_of_ble_eq_true rfl, Nat.le_of_ble_eq_true rfl⟩ rfl rfl rfl hl.1 rfl (Nat.le_of_ble_eq_true rfl) dX6_pumpedWithout_7 ⟨Nat.le_of_ble_eq_true rfl, Nat.le_of_ble_eq_true rfl⟩) (Cut.app E1 hA) E1 (fun En ce q9 H locs hp E hce hcv hcl => absurd hixb hp.2) (fun u9 H locs hp E2 => ?_)
  have E : Ev g _ s.heap H locs (SW g q u σ ++ ([(q.2.1, .inl (g.2.1 5, 6, .inr (.inr (.inr (.inr fw)))))] ++ wsW g ad2 (nI b) 0 (nI u.2.2.2.2.length) ea2 (folS (nI b) cvs σ0))) := E2.perm pm_rw.symm
  refine lv_iload_n hx hb dX6_pumpedWithout_10 rfl (lv_at hl 1 rfl) ?_
  refine lv_iload_n hx hb dX6_pumpedWithout_11 rfl (lv_at hl 2 rfl) ?_
  refine lv_icmp_ne (tgt := 25) hx hb dX6_pumpedWithout_12 (by decide) (fun _ => ?_) (fun c_ => absurd (fun z => hab ((nI_eq (by omega) (by omega)).mp z)) (not_not_intro c_))
  refine lv_aload_n hx hb dX6_pumpedWithout_25 rfl (lv_at hl 0 rfl) ?_
  refine lv_iload_n hx hb dX6_pumpedWithout_26 rfl (lv_at hl 2 rfl) ?_
  have E1 : Ev g _ s.heap H locs ((wsW g q.2.2.2.1 (-1) 1 0 u.1 σ ++ (DN g q u ++ (u.2.2.2.2 ++ wsW g ad2 (nI b) 0 (nI u.2.2.2.2.length) ea2 (folS (nI b) cvs σ0)))) ++ ([(q.1, .inr (6, [.ref (q.2.2.2.1 0), .ref (q.2.2.2.2.1 0), .ref q.2.1, .ref q.2.2.1]))] ++ [(q.2.1, .inl (g.2.1 5, 6, .inr (.inr (.inr (.inr fw)))))])) := E.perm pm_ww2
  refine w_retr (runV_X (As := [.int (nI b)]) (rest := []) (q0 := 0) (n := 1) S hml hK (hZ.at E) (Cut.app E1 hA) (c_ww2 l g q fw (nI b) (ad2 0) (by rw [bc]; exact hN) (vp_in_nI (by omega) (by decide)) _ _) (gi_wsV ml_X6_158 im_X6_worldWithout sl_X6_worldWithout in_X6 co_X6_worldWithout) ⟨rfl, by decide +kernel, by decide +kernel, by decide +kernel⟩ ⟨Nat.le_of_ble_eq_true rfl, Nat.le_of_ble_eq_true rfl⟩ rfl rfl rfl hl.1 rfl (Nat.le_of_ble_eq_true rfl) dX6_pumpedWithout_27 ⟨Nat.le_of_ble_eq_true rfl, Nat.le_of_ble_eq_true rfl⟩) (Cut.app E1 hA) E1 (fun uu H locs hp E2 => ?_)
  have E : Ev g _ s.heap H locs ((wsW g q.2.2.2.1 (-1) 1 0 u.1 σ ++ [(q.1, .inr (6, [.ref (q.2.2.2.1 0), .ref (q.2.2.2.2.1 0), .ref q.2.1, .ref q.2.2.1])), (q.2.1, .inl (g.2.1 5, 6, .inr (.inr (.inr (.inr fw)))))]) ++ ((wsW g ad2 (nI b) 0 (nI u.2.2.2.2.length) ea2 (folS (nI b) cvs σ0) ++ DN g q u) ++ u.2.2.2.2)) := E2.perm pm_fd2
  refine lv_astore_n (lv' := [(3, .ref (ad2 0)), (0, .ref q.1), (1, .int (nI a)), (2, .int (nI b))]) hx hb dX6_pumpedWithout_30 rfl hl (by decide) rfl (fun ls hl => ?_)
  refine lv_aload_n hx hb dX6_pumpedWithout_31 rfl (lv_at hl 0 rfl) ?_
  refine lv_aload_n hx hb dX6_pumpedWithout_32 rfl (lv_at hl 1 rfl) ?_
  refine wg_X6_28 (v := .ref q.2.2.1) S hK E 31 rfl rfl dX6_pumpedWithout_33 ?_
  refine w_retv (runV_X (As := [.ref q.2.2.1]) (rest := []) (q0 := 0) (n := 1) S hml hK (hZ.at E) (Cut.app E hA) (c_followDiary l g ad2 (nI b) 0 ea2 (folS (nI b) cvs σ0) q.2.2.1 u.2.1 u.2.2.1 u.2.2.2.1 u.2.2.2.2 cvs u.2.2.2.2.length iT (Or.inl rfl) hD.2.2.1 (Nat.le_refl _) hcap.2.1 hcap.2.2.2.1 (by omega) (by rw [hln, List.drop_length]; trivial) _ _) (gi_wsV ml_X6_162 im_X5_followDiary sl_X5_followDiary in_X5 co_X5_followDiary) ⟨rfl, by decide +kernel, by decide +kernel, by decide +kernel⟩ ⟨Nat.le_of_ble_eq_true rfl, Nat.le_of_ble_eq_true rfl⟩ rfl rfl rfl hl.1 rfl (Nat.le_of_ble_eq_true rfl) dX6_pumpedWithout_36 ⟨by show 0 + 61 ≤ 120; decide, by show 0 + 600000 ≤ 700000; decide⟩) (Cut.app E hA) E (fun ea3 H locs hp E2 => ?_)
  have edr : folS (nI b) (cvs.drop u.2.2.2.2.length) (folS (nI b) cvs σ0) = (folS (nI b) cvs σ0) := by rw [hln, List.drop_length]; rfl
  have E3 : Ev g _ s.heap H locs ((wsW g q.2.2.2.1 (-1) 1 0 u.1 σ ++ [(q.1, .inr (6, [.ref (q.2.2.2.1 0), .ref (q.2.2.2.2.1 0), .ref q.2.1, .ref q.2.2.1])), (q.2.1, .inl (g.2.1 5, 6, .inr (.inr (.inr (.inr fw)))))]) ++ ((wsW g ad2 (nI b) 0 (nI u.2.2.2.2.length) ea3 (folS (nI b) (cvs.drop u.2.2.2.2.length) (folS (nI b) cvs σ0)) ++ DN g q u) ++ u.2.2.2.2)) := E2
  rw [edr] at E3
  have E : Ev g _ s.heap H locs ((wsW g q.2.2.2.1 (-1) 1 0 u.1 σ ++ [(q.1, .inr (6, [.ref (q.2.2.2.1 0), .ref (q.2.2.2.2.1 0), .ref q.2.1, .ref q.2.2.1])), (q.2.1, .inl (g.2.1 5, 6, .inr (.inr (.inr (.inr fw)))))]) ++ ((wsW g ad2 (nI b) 0 (nI u.2.2.2.2.length) ea3 (folS (nI b) cvs σ0) ++ DN g q u) ++ u.2.2.2.2)) := E3
  refine lv_aload_n hx hb dX6_pumpedWithout_39 rfl (lv_at hl 0 rfl) ?_
  refine wg_X6_87 (v := .ref (ad2 3)) S hK E 33 rfl rfl dX6_pumpedWithout_40 ?_
  refine wg_X6_140 (v := .ref (ad2 23)) S hK E 36 rfl rfl dX6_pumpedWithout_43 ?_
  refine lv_iload_n hx hb dX6_pumpedWithout_46 rfl (lv_at hl 2 rfl) ?_
  refine w_lld (v := gl (folS (nI b) cvs σ0) 23 (nI a)) S hK E 56 1 rfl rfl (vp_in_nI (by omega) (by decide)) rfl dX6_pumpedWithout_47 ?_
  have E : Ev g _ s.heap H locs (SW g q u σ ++ ([(q.2.1, .inl (g.2.1 5, 6, .inr (.inr (.inr (.inr fw)))))] ++ wsW g ad2 (nI b) 0 (nI u.2.2.2.2.length) ea3 (folS (nI b) cvs σ0))) := E.perm pm_pw
  exact vx_ret (x_lret ea3 S hr hlk hsz htt hK E dX6_pumpedWithout_48 rfl rfl ⟨by show 0 + (eg (folS (nI b) (cvs.drop u.2.2.2.2.length) (folS (nI b) cvs σ0)) - eg (folS (nI b) cvs σ0)) ≤ 50; rw [edr]; omega, by show 0 + (2 * ec (folS (nI b) (cvs.drop u.2.2.2.2.length) (folS (nI b) cvs σ0)) - 2 * ec (folS (nI b) cvs σ0)) ≤ 91000; rw [edr]; omega⟩ ⟨by show 0 + (eg (folS (nI b) (cvs.drop u.2.2.2.2.length) (folS (nI b) cvs σ0)) - eg (folS (nI b) cvs σ0)) ≤ 120; rw [edr]; omega, by show 0 + (2 * ec (folS (nI b) (cvs.drop u.2.2.2.2.length) (folS (nI b) cvs σ0)) - 2 * ec (folS (nI b) cvs σ0)) ≤ 700000; rw [edr]; omega⟩)
set_option maxHeartbeats 1000000 in
set_option maxRecDepth 100000 in
/-- pumpedWithout, without a well that isn't there -/
theorem c_PWN (l : Launch) (g : Gm) (hst : l.stackTraces = false) (q : Fx) (ea : Nat) (σ : Sg) (a : Nat) (i : Int32) (hixa : ixOK (nI a) (gs σ 4)) (hN : ¬ ixOK i (gs σ 4)) : YXl (S := Unit) l g yX6_pumpedWithout cX6_pumpedWithout 4 ({ frames := 9, cells := 2, slots := 12, locals := 150 } : Room) [.ref q.1, .int (nI a), .int i] (OX g q ea σ) (fun _ _ => False) (fun _ => OX g q ea σ) (fun _ => (0, 0)) (OX g q ea σ) (fun En => En = "java/lang/IndexOutOfBoundsException") := by
  intro sz tt
  refine ofY RX6 rfl (by decide +kernel) (Nat.le_of_ble_eq_true rfl) (fun p e s m args below meth c hargs S hml hr hlk hex hsz htt hK hA hZ E ls hl => ?_)
  have hx := S.1
  have hb := S.2.1
  have hl : lv_has ls 4 [(0, .ref q.1), (1, .int (nI a)), (2, .int i)] := hl
  refine lv_aload_n hx hb dX6_pumpedWithout_0 rfl (lv_at hl 0 rfl) ?_
  refine lv_iload_n hx hb dX6_pumpedWithout_1 rfl (lv_at hl 1 rfl) ?_
  refine y_retv (yrunV (As := [.int (nI a)]) (rest := []) (q0 := 0) (n := 1) S hml hK (hZ.at E) (Cut.full E hA) (c_X6_requireWell l g hst q ea σ (nI a) _ _) (gi_wsV ml_X6_103 im_X6_requireWell sl_X6_requireWell in_X6 co_X6_requireWell) ⟨rfl, by decide +kernel, by decide +kernel, by decide +kernel⟩ ⟨Nat.le_of_ble_eq_true rfl, Nat.le_of_ble_eq_true rfl⟩ rfl rfl rfl hl.1 rfl (Nat.le_of_ble_eq_true rfl) dX6_pumpedWithout_2 ⟨Nat.le_of_ble_eq_true rfl, Nat.le_of_ble_eq_true rfl⟩) (Cut.full E hA) E (fun En ce q9 H locs hp E hce hcv hcl => absurd hixa hp.2) (fun u9 H locs hp E => ?_)
  refine lv_aload_n hx hb dX6_pumpedWithout_5 rfl (lv_at hl 0 rfl) ?_
  refine lv_iload_n hx hb dX6_pumpedWithout_6 rfl (lv_at hl 2 rfl) ?_
  have E : Ev g _ s.heap H locs (OX g q ea σ) := E
  refine y_retv (yrunV (As := [.int i]) (rest := []) (q0 := 0) (n := 1) S hml hK (hZ.at E) (Cut.full E hA) (c_X6_requireWell l g hst q ea σ i _ _) (gi_wsV ml_X6_103 im_X6_requireWell sl_X6_requireWell in_X6 co_X6_requireWell) ⟨rfl, by decide +kernel, by decide +kernel, by decide +kernel⟩ ⟨Nat.le_of_ble_eq_true rfl, Nat.le_of_ble_eq_true rfl⟩ rfl rfl rfl hl.1 rfl (Nat.le_of_ble_eq_true rfl) dX6_pumpedWithout_7 ⟨Nat.le_of_ble_eq_true rfl, Nat.le_of_ble_eq_true rfl⟩) (Cut.full E hA) E (fun En ce q9 H locs hp E hce hcv hcl => ?_) (fun u9 H locs hp E => absurd hp hN)
  have E : Ev g _ s.heap H locs (OX g q ea σ) := E
  exact y_out hex hlk hK E rfl hp.1 hce hcv hcl ⟨Nat.le_of_ble_eq_true rfl, Nat.le_of_ble_eq_true rfl⟩
theorem wa_th {σ : Sg} : ∀ (k i : Nat), f_X2_waterInAll_L4 σ k i (th σ i) = th σ (i + k) := by
  intro k
  induction k with
  | zero => intro i; rfl
  | succ k ih =>
    intro i
    have h := ih (i + 1)
    rw [show i + (k + 1) = i + 1 + k by omega, ← h]
    rfl
theorem so_b {C M : Nat} {σ : Sg} (h : Inv C M σ) : f_X0_balanceWith σ (f_X2_waterInAll σ) = 1 := by
  have ew : f_X2_waterInAll σ = th σ 16 := wa_th 16 0
  obtain ⟨q, hq⟩ := th_e (σ := σ) 16 (Nat.le_refl _)
  obtain ⟨q0, h0⟩ := h.bk
  have h0' : (gl σ 28 0).toInt + (gl σ 28 1).toInt - (gl σ 28 2).toInt + (gl σ 28 3).toInt - (gl σ 28 4).toInt - (gl σ 28 5).toInt + (gl σ 28 6).toInt - (gl σ 28 7).toInt = Sm (rI 10 σ) 16 + q0 * 18446744073709551616 := h0
  have e : ((gl σ 28 0 + gl σ 28 1) + gl σ 28 3) + gl σ 28 6 = (((gl σ 28 2 + gl σ 28 4) + gl σ 28 5) + gl σ 28 7) + th σ 16 := by
    obtain ⟨a1, h1⟩ := l_add (gl σ 28 0) (gl σ 28 1)
    obtain ⟨a2, h2⟩ := l_add (gl σ 28 0 + gl σ 28 1) (gl σ 28 3)
    obtain ⟨a3, h3⟩ := l_add (gl σ 28 0 + gl σ 28 1 + gl σ 28 3) (gl σ 28 6)
    obtain ⟨b1, h4⟩ := l_add (gl σ 28 2) (gl σ 28 4)
    obtain ⟨b2, h5⟩ := l_add (gl σ 28 2 + gl σ 28 4) (gl σ 28 5)
    obtain ⟨b3, h6⟩ := l_add (gl σ 28 2 + gl σ 28 4 + gl σ 28 5) (gl σ 28 7)
    obtain ⟨b4, h7⟩ := l_add (gl σ 28 2 + gl σ 28 4 + gl σ 28 5 + gl σ 28 7) (th σ 16)
    refine l_cong ⟨a1 + a2 + a3 - b1 - b2 - b3 - b4 - q + q0, ?_⟩
    omega
  unfold f_X0_balanceWith
  rw [ew, e, lg_self, if_pos rfl]
theorem so_k {C M : Nat} {σ : Sg} (h : Inv C M σ) : ∀ (k i : Nat), i + k ≤ 6 → f_X4_keptToAmounts_L2 σ k i = 1 := by
  intro k
  have hC := h.2.2.2.1
  have hM := h.2.2.2.2
  induction k with
  | zero => intro i _; rfl
  | succ k ih =>
    intro i hi
    have a := h.aw i (by omega)
    have e22 : gi σ 22 (nI i) = σ.1 22 i := gi_n (by omega)
    have e20 : gi σ 20 (nI i) = σ.1 20 i := gi_n (by omega)
    have e26 : gi σ 26 (nI i) = σ.1 26 i := gi_n (by omega)
    have r22 : (σ.1 22 i).toInt = rI 22 σ i := rfl
    have r20 : (σ.1 20 i).toInt = rI 20 σ i := rfl
    have r26 : (σ.1 26 i).toInt = rI 26 σ i := rfl
    obtain ⟨⟨a1, a2⟩, -, ⟨a3, -, -⟩, ⟨a4, a5⟩, a6, -⟩ := a
    show (if gi σ 22 (nI i) ≤ gi σ 20 (nI i) + gi σ 26 (nI i) then f_X4_keptToAmounts_L2 σ k (i + 1) else 0) = 1
    rw [if_pos, ih (i + 1) (by omega)]
    rw [e22, e20, e26, i_le, i_add (by omega) (by omega)]
    omega
set_option maxHeartbeats 2000000 in
set_option maxRecDepth 100000 in
/-- isSound -/
theorem c_G_isSound (l : Launch) (g : Gm) (q : Fx) (u : SOB) (σ : Sg) {C M : Nat} {cvs : List CV} (hD : DI C M u σ cvs) (hC : C ≤ 500) : MXi (S := Nat) l g yX6_isSound cX6_isSound 1 .boolean ({ frames := 13, cells := 61, slots := 600000, locals := 1200 } : Room) [.ref q.1] (wsW g q.2.2.2.2.1 (-1) 0 0 q.2.2.2.2.2 σ0 ++ SW g q u σ) (fun r _ => r = 1) (fun eb => wsW g q.2.2.2.2.1 (-1) 0 (nI u.2.2.2.2.length) eb σ ++ SW g q u σ) (fun _ => (15, 91000)) := by
  intro sz tt
  refine ofX RX6 rfl (by decide +kernel) (Nat.le_of_ble_eq_true rfl) (fun p e s m args below meth c hargs S hml hr hlk hnm hsz htt hK hA hZ E ls hl => ?_)
  have hx := S.1
  have hb := S.2.1
  have hI := hD.1
  have h6 := hI.wf.le
  have hln := dc_len hD.2.2.1
  have hlC := hD.2.2.2.2.2.1
  have hcap := hD.2.1
  obtain ⟨gt1, gt2⟩ := nt_c hI.ev (Nat.le_trans hI.en (by decide))
  have hl : lv_has ls 1 [(0, .ref q.1)] := hl
  have E : Ev g _ s.heap _ _ (OX g q u.1 σ ++ ((wsW g q.2.2.2.2.1 (-1) 0 0 q.2.2.2.2.2 σ0 ++ DN g q u) ++ u.2.2.2.2)) := E.perm pm_s1
  refine lv_aload_n hx hb dX6_isSound_0 rfl (lv_at hl 0 rfl) ?_
  refine wg_X6_18 (v := .ref (q.2.2.2.2.1 0)) S hK E 0 rfl rfl dX6_isSound_1 ?_
  refine lv_aload_n hx hb dX6_isSound_4 rfl (lv_at hl 0 rfl) ?_
  refine wg_X6_28 (v := .ref q.2.2.1) S hK E 0 rfl rfl dX6_isSound_5 ?_
  refine w_retv (runV_X (As := [.ref q.2.2.1]) (rest := []) (q0 := 0) (n := 1) S hml hK (hZ.at E) (Cut.app E hA) (c_followDiary l g q.2.2.2.2.1 (-1) 0 q.2.2.2.2.2 σ0 q.2.2.1 u.2.1 u.2.2.1 u.2.2.2.1 u.2.2.2.2 cvs 0 inv0 (Or.inl rfl) hD.2.2.1 (Nat.zero_le _) hcap.2.1 hcap.2.2.2.1 (by omega) (by rw [cnt0]; exact hD.2.2.2.2.1) _ _) (gi_wsV ml_X6_162 im_X5_followDiary sl_X5_followDiary in_X5 co_X5_followDiary) ⟨rfl, by decide +kernel, by decide +kernel, by decide +kernel⟩ ⟨Nat.le_of_ble_eq_true rfl, Nat.le_of_ble_eq_true rfl⟩ rfl rfl rfl hl.1 rfl (Nat.le_of_ble_eq_true rfl) dX6_isSound_8 ⟨Nat.le_of_ble_eq_true rfl, Nat.le_of_ble_eq_true rfl⟩) (Cut.app E hA) E (fun eb H locs hp E2 => ?_)
  have edr : folS (-1) (cvs.drop 0) σ0 = σ := hD.2.2.2.1
  have E3 : Ev g _ s.heap H locs (OX g q u.1 σ ++ ((wsW g q.2.2.2.2.1 (-1) 0 (nI u.2.2.2.2.length) eb (folS (-1) (cvs.drop 0) σ0) ++ DN g q u) ++ u.2.2.2.2)) := E2
  rw [edr] at E3
  have E : Ev g _ s.heap H locs (OX g q u.1 σ ++ ((wsW g q.2.2.2.2.1 (-1) 0 (nI u.2.2.2.2.length) eb σ ++ DN g q u) ++ u.2.2.2.2)) := E3
  refine lv_aload_n hx hb dX6_isSound_11 rfl (lv_at hl 0 rfl) ?_
  refine wg_X6_14 (v := .ref (q.2.2.2.1 0)) S hK E 0 rfl rfl dX6_isSound_12 ?_
  refine wg_X6_194 (v := .ref (q.2.2.2.1 4)) S hK E 1 rfl rfl dX6_isSound_15 ?_
  refine lv_aload_n hx hb dX6_isSound_18 rfl (lv_at hl 0 rfl) ?_
  refine wg_X6_14 (v := .ref (q.2.2.2.1 0)) S hK E 0 rfl rfl dX6_isSound_19 ?_
  refine wg_X6_40 (v := .ref (q.2.2.2.1 1)) S hK E 1 rfl rfl dX6_isSound_22 ?_
  have E1 : Ev g _ s.heap H locs ((([(q.1, .inr (6, [.ref (q.2.2.2.1 0), .ref (q.2.2.2.2.1 0), .ref q.2.1, .ref q.2.2.1]))] ++ ((wsW g q.2.2.2.2.1 (-1) 0 (nI u.2.2.2.2.length) eb σ ++ DN g q u) ++ u.2.2.2.2))) ++ wsW g q.2.2.2.1 (-1) 1 0 u.1 σ) := E.perm pm_s2
  refine w_retl (runV_X (As := []) (rest := [.ref (q.2.2.2.1 4)]) (q0 := 1) (n := 0) S hml hK (hZ.at E) (Cut.app E1 hA) (c_X2_waterInAll l g q.2.2.2.1 (-1) 1 0 u.1 σ _ _) (gi_wsV ml_X6_208 im_X2_waterInAll sl_X2_waterInAll in_X2 co_X2_waterInAll) ⟨rfl, by decide +kernel, by decide +kernel, by decide +kernel⟩ ⟨Nat.le_of_ble_eq_true rfl, Nat.le_of_ble_eq_true rfl⟩ rfl rfl rfl hl.1 rfl (Nat.le_of_ble_eq_true rfl) dX6_isSound_25 ⟨by show 0 + (eg (folS (-1) (cvs.drop 0) σ0) - eg σ0) + 0 ≤ 61; rw [edr]; omega, by show 0 + (2 * ec (folS (-1) (cvs.drop 0) σ0) - 2 * ec σ0) + 0 ≤ 600000; rw [edr]; omega⟩) (Cut.app E1 hA) E1 (fun r1 u1 H locs hp E2 => ?_)
  obtain ⟨hr1, hu1⟩ := hp
  have hu1 := hu1.symm
  subst hu1
  subst hr1
  have E : Ev g _ s.heap H locs (OX g q u.1 σ ++ ((wsW g q.2.2.2.2.1 (-1) 0 (nI u.2.2.2.2.length) eb σ ++ DN g q u) ++ u.2.2.2.2)) := E2.perm pm_s2.symm
  have E1 : Ev g _ s.heap H locs ((([(q.1, .inr (6, [.ref (q.2.2.2.1 0), .ref (q.2.2.2.2.1 0), .ref q.2.1, .ref q.2.2.1]))] ++ ((wsW g q.2.2.2.2.1 (-1) 0 (nI u.2.2.2.2.length) eb σ ++ DN g q u) ++ u.2.2.2.2))) ++ wsW g q.2.2.2.1 (-1) 1 0 u.1 σ) := E.perm pm_s2
  refine w_reti (runV_X (As := [.long (f_X2_waterInAll σ)]) (rest := []) (q0 := 4) (n := 1) S hml hK (hZ.at E) (Cut.app E1 hA) (c_X0_balanceWith l g q.2.2.2.1 (-1) 1 0 u.1 σ (f_X2_waterInAll σ) _ _) (gi_wsV ml_X6_212 im_X0_balanceWith sl_X0_balanceWith in_X0 co_X0_balanceWith) ⟨rfl, by decide +kernel, by decide +kernel, by decide +kernel⟩ ⟨Nat.le_of_ble_eq_true rfl, Nat.le_of_ble_eq_true rfl⟩ rfl rfl rfl hl.1 rfl (Nat.le_of_ble_eq_true rfl) dX6_isSound_28 ⟨by show 0 + (eg (folS (-1) (cvs.drop 0) σ0) - eg σ0) + 0 ≤ 61; rw [edr]; omega, by show 0 + (2 * ec (folS (-1) (cvs.drop 0) σ0) - 2 * ec σ0) + 0 ≤ 600000; rw [edr]; omega⟩) (Cut.app E1 hA) E1 (fun r1 u1 H locs hp E2 => ?_)
  obtain ⟨hr1, hu1⟩ := hp
  have hu1 := hu1.symm
  subst hu1
  have hr1 := hr1.trans (so_b hI)
  subst hr1
  have E : Ev g _ s.heap H locs (OX g q u.1 σ ++ ((wsW g q.2.2.2.2.1 (-1) 0 (nI u.2.2.2.2.length) eb σ ++ DN g q u) ++ u.2.2.2.2)) := E2.perm pm_s2.symm
  refine lv_if_eq (tgt := 71) hx hb dX6_isSound_31 (by decide) (fun c_ => absurd c_ (show ¬ (1 : Int32) = 0 by decide)) (fun _ => ?_)
  refine lv_aload_n hx hb dX6_isSound_34 rfl (lv_at hl 0 rfl) ?_
  refine wg_X6_14 (v := .ref (q.2.2.2.1 0)) S hK E 0 rfl rfl dX6_isSound_35 ?_
  refine wg_X6_40 (v := .ref (q.2.2.2.1 1)) S hK E 1 rfl rfl dX6_isSound_38 ?_
  refine lv_aload_n hx hb dX6_isSound_41 rfl (lv_at hl 0 rfl) ?_
  refine wg_X6_18 (v := .ref (q.2.2.2.2.1 0)) S hK E 0 rfl rfl dX6_isSound_42 ?_
  refine wg_X6_40 (v := .ref (q.2.2.2.2.1 1)) S hK E 32 rfl rfl dX6_isSound_45 ?_
  have E1 : Ev g _ s.heap H locs (([(q.1, .inr (6, [.ref (q.2.2.2.1 0), .ref (q.2.2.2.2.1 0), .ref q.2.1, .ref q.2.2.1]))] ++ (DN g q u ++ u.2.2.2.2)) ++ (wsW g q.2.2.2.1 (-1) 1 0 u.1 σ ++ wsW g q.2.2.2.2.1 (-1) 0 (nI u.2.2.2.2.length) eb σ)) := E.perm pm_s3
  refine w_reti (runV_X (As := [.ref (q.2.2.2.2.1 1)]) (rest := []) (q0 := 1) (n := 1) S hml hK (hZ.at E) (Cut.app E1 hA) (c_swG l g q.2.2.2.1 q.2.2.2.2.1 u.1 eb (-1) 0 (nI u.2.2.2.2.length) σ _ _) (gi_wsV ml_X6_216 im_X2_sameWater sl_X2_sameWater in_X2 co_X2_sameWater) ⟨rfl, by decide +kernel, by decide +kernel, by decide +kernel⟩ ⟨Nat.le_of_ble_eq_true rfl, Nat.le_of_ble_eq_true rfl⟩ rfl rfl rfl hl.1 rfl (Nat.le_of_ble_eq_true rfl) dX6_isSound_48 ⟨by show 0 + (eg (folS (-1) (cvs.drop 0) σ0) - eg σ0) + 0 ≤ 61; rw [edr]; omega, by show 0 + (2 * ec (folS (-1) (cvs.drop 0) σ0) - 2 * ec σ0) + 0 ≤ 600000; rw [edr]; omega⟩) (Cut.app E1 hA) E1 (fun r1 u1 H locs hp E2 => ?_)
  subst hp
  have E : Ev g _ s.heap H locs (OX g q u.1 σ ++ ((wsW g q.2.2.2.2.1 (-1) 0 (nI u.2.2.2.2.length) eb σ ++ DN g q u) ++ u.2.2.2.2)) := E2.perm pm_s3.symm
  refine lv_if_eq (tgt := 71) hx hb dX6_isSound_51 (by decide) (fun c_ => absurd c_ (show ¬ (1 : Int32) = 0 by decide)) (fun _ => ?_)
  refine lv_aload_n hx hb dX6_isSound_54 rfl (lv_at hl 0 rfl) ?_
  refine wg_X6_14 (v := .ref (q.2.2.2.1 0)) S hK E 0 rfl rfl dX6_isSound_55 ?_
  refine wg_X6_87 (v := .ref (q.2.2.2.1 3)) S hK E 1 rfl rfl dX6_isSound_58 ?_
  have E1 : Ev g _ s.heap H locs ((([(q.1, .inr (6, [.ref (q.2.2.2.1 0), .ref (q.2.2.2.2.1 0), .ref q.2.1, .ref q.2.2.1]))] ++ ((wsW g q.2.2.2.2.1 (-1) 0 (nI u.2.2.2.2.length) eb σ ++ DN g q u) ++ u.2.2.2.2))) ++ wsW g q.2.2.2.1 (-1) 1 0 u.1 σ) := E.perm pm_s2
  refine w_reti (runV_X (As := []) (rest := []) (q0 := 3) (n := 0) S hml hK (hZ.at E) (Cut.app E1 hA) (c_X4_keptToAmounts l g q.2.2.2.1 (-1) 1 0 u.1 σ hI.wf _ _) (gi_wsV ml_X6_220 im_X4_keptToAmounts sl_X4_keptToAmounts in_X4 co_X4_keptToAmounts) ⟨rfl, by decide +kernel, by decide +kernel, by decide +kernel⟩ ⟨Nat.le_of_ble_eq_true rfl, Nat.le_of_ble_eq_true rfl⟩ rfl rfl rfl hl.1 rfl (Nat.le_of_ble_eq_true rfl) dX6_isSound_61 ⟨by show 0 + (eg (folS (-1) (cvs.drop 0) σ0) - eg σ0) + 0 ≤ 61; rw [edr]; omega, by show 0 + (2 * ec (folS (-1) (cvs.drop 0) σ0) - 2 * ec σ0) + 0 ≤ 600000; rw [edr]; omega⟩) (Cut.app E1 hA) E1 (fun r1 u1 H locs hp E2 => ?_)
  obtain ⟨hr1, hu1⟩ := hp
  have hu1 := hu1.symm
  subst hu1
  have hr1 := hr1.trans (so_k hI (cnt σ) 0 (by omega))
  subst hr1
  have E : Ev g _ s.heap H locs (OX g q u.1 σ ++ ((wsW g q.2.2.2.2.1 (-1) 0 (nI u.2.2.2.2.length) eb σ ++ DN g q u) ++ u.2.2.2.2)) := E2.perm pm_s2.symm
  refine lv_if_eq (tgt := 71) hx hb dX6_isSound_64 (by decide) (fun c_ => absurd c_ (show ¬ (1 : Int32) = 0 by decide)) (fun _ => ?_)
  refine lv_iconst (v := 1) hx hb dX6_isSound_67 (by decide) ?_
  refine lv_goto (tgt := 72) hx hb dX6_isSound_68 (by decide) ?_
  have E : Ev g _ s.heap H locs (wsW g q.2.2.2.2.1 (-1) 0 (nI u.2.2.2.2.length) eb σ ++ SW g q u σ) := E.perm pm_s4
  exact x_zret eb S hr hlk hsz htt hK E dX6_isSound_72 rfl rfl rfl ⟨by show 0 + (eg (folS (-1) (cvs.drop 0) σ0) - eg σ0) ≤ 15; rw [edr]; omega, by show 0 + (2 * ec (folS (-1) (cvs.drop 0) σ0) - 2 * ec σ0) ≤ 91000; rw [edr]; omega⟩ ⟨by show 0 + (eg (folS (-1) (cvs.drop 0) σ0) - eg σ0) ≤ 61; rw [edr]; omega, by show 0 + (2 * ec (folS (-1) (cvs.drop 0) σ0) - 2 * ec σ0) ≤ 600000; rw [edr]; omega⟩
