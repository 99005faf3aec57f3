/-! THE CLASS'S MONTHS: the number of the month; pass, in class and reference; what the reference answers -/
theorem m_si {σ : Sg} {k : Nat} {x v : Int32} (hk : k ≠ 0) : gs (si σ k x v) 0 = gs σ 0 := by unfold gs; rw [si_ne (Ne.symm hk)]
theorem m_sl {σ : Sg} {k : Nat} {x : Int32} {v : Int64} : gs (sl σ k x v) 0 = gs σ 0 := rfl
theorem m_ss {σ : Sg} {j : Nat} {v : Int32} (hj : j ≠ 0) : gs (ss σ j v) 0 = gs σ 0 := pk_un (Ne.symm hj)
theorem m_s0 {σ : Sg} {v : Int32} : gs (ss σ 0 v) 0 = v := by
  show upd (σ.1 0) 0 v 0 = v
  exact pk_us
theorem m_to {σ : Sg} {x y : Int32} : gs (f_X2_takeOut σ x y).2 0 = gs σ 0 := by
  unfold f_X2_takeOut
  split
  · exact (m_si (by decide)).trans (m_si (by decide))
  · rfl
theorem m_note {σ : Sg} {c : Int32} : gs (f_X5_note σ c) 0 = gs σ 0 := by
  unfold f_X5_note
  rw [m_ss (by decide), m_ss (by decide), m_ss (by decide), m_si (by decide)]
theorem m_f_X4_shutYounger_L16 {j : Nat} : ∀ (k i : Nat) (τ : Sg) (z : Int32), gs (f_X4_shutYounger_L16 j k i τ z) 0 = gs τ 0 := by
  intro k
  induction k with
  | zero => intro i τ z; rw [f_X4_shutYounger_L16]; first | done | rfl | (repeat first | rfl | rw [m_sl])
  | succ k ih =>
    intro i τ z
    rw [f_X4_shutYounger_L16]
    repeat' split
    all_goals rw [ih]
    all_goals (repeat first | rfl | rw [m_sl] | rw [m_ss (by decide)] | rw [m_si (by decide)] | rw [m_to] | rw [m_note])
theorem m_f_X4_shutYounger {σ : Sg} {j : Nat} : gs (f_X4_shutYounger σ j) 0 = gs σ 0 := by
  unfold f_X4_shutYounger
  repeat' split
  all_goals (repeat first | rfl | rw [m_sl] | rw [m_ss (by decide)] | rw [m_si (by decide)] | rw [m_to] | rw [m_note] | rw [m_f_X4_shutYounger_L16])
theorem m_f_X4_startYear {σ : Sg} {x : Int32} : gs (f_X4_startYear σ x) 0 = gs σ 0 := by
  unfold f_X4_startYear
  repeat' split
  all_goals (repeat first | rfl | rw [m_sl] | rw [m_ss (by decide)] | rw [m_si (by decide)] | rw [m_to] | rw [m_note])
theorem m_f_X4_forfeits {σ : Sg} {x : Int32} : gs (f_X4_forfeits σ x).2 0 = gs σ 0 := by
  unfold f_X4_forfeits
  repeat' split
  all_goals (repeat first | rfl | rw [m_sl] | rw [m_ss (by decide)] | rw [m_si (by decide)] | rw [m_to] | rw [m_note])
theorem m_f_X5_letRainFall_L2  : ∀ (k i : Nat) (τ : Sg), gs (f_X5_letRainFall_L2 k i τ) 0 = gs τ 0 := by
  intro k
  induction k with
  | zero => intro i τ; rw [f_X5_letRainFall_L2]; first | done | rfl | (repeat first | rfl | rw [m_sl])
  | succ k ih =>
    intro i τ
    rw [f_X5_letRainFall_L2]
    repeat' split
    all_goals rw [ih]
    all_goals (repeat first | rfl | rw [m_sl] | rw [m_ss (by decide)] | rw [m_si (by decide)] | rw [m_to] | rw [m_note])
theorem m_f_X5_letRainFall {σ : Sg}  : gs (f_X5_letRainFall σ) 0 = gs σ 0 := by
  unfold f_X5_letRainFall
  repeat' split
  all_goals (repeat first | rfl | rw [m_sl] | rw [m_ss (by decide)] | rw [m_si (by decide)] | rw [m_to] | rw [m_note] | rw [m_f_X5_letRainFall_L2])
theorem m_f_X5_flow {σ : Sg} {x y z : Int32} : gs (f_X5_flow σ x y z) 0 = gs σ 0 := by
  unfold f_X5_flow
  repeat' split
  all_goals (repeat first | rfl | rw [m_sl] | rw [m_ss (by decide)] | rw [m_si (by decide)] | rw [m_to] | rw [m_note])
theorem m_f_X5_letWaterFlow_L125  : ∀ (k i : Nat) (τ : Sg), gs (f_X5_letWaterFlow_L125 k i τ) 0 = gs τ 0 := by
  intro k
  induction k with
  | zero => intro i τ; rw [f_X5_letWaterFlow_L125]; first | done | rfl | (repeat first | rfl | rw [m_sl])
  | succ k ih =>
    intro i τ
    rw [f_X5_letWaterFlow_L125]
    repeat' split
    all_goals rw [ih]
    all_goals (repeat first | rfl | rw [m_sl] | rw [m_ss (by decide)] | rw [m_si (by decide)] | rw [m_to] | rw [m_note])
theorem m_f_X5_letWaterFlow_L44  : ∀ (k i : Nat) (τ : Sg), gs (f_X5_letWaterFlow_L44 k i τ) 0 = gs τ 0 := by
  intro k
  induction k with
  | zero => intro i τ; rw [f_X5_letWaterFlow_L44]; first | done | rfl | (repeat first | rfl | rw [m_sl] | rw [m_f_X5_letWaterFlow_L125] | rw [m_f_X5_flow])
  | succ k ih =>
    intro i τ
    rw [f_X5_letWaterFlow_L44]
    repeat' split
    all_goals rw [ih]
    all_goals (repeat first | rfl | rw [m_sl] | rw [m_ss (by decide)] | rw [m_si (by decide)] | rw [m_to] | rw [m_note] | rw [m_f_X5_letWaterFlow_L125] | rw [m_f_X5_flow])
theorem m_f_X5_letWaterFlow_L2  : ∀ (k i : Nat) (τ : Sg), gs (f_X5_letWaterFlow_L2 k i τ) 0 = gs τ 0 := by
  intro k
  induction k with
  | zero => intro i τ; rw [f_X5_letWaterFlow_L2]; first | done | rfl | (repeat first | rfl | rw [m_sl] | rw [m_f_X5_letWaterFlow_L44])
  | succ k ih =>
    intro i τ
    rw [f_X5_letWaterFlow_L2]
    repeat' split
    all_goals rw [ih]
    all_goals (repeat first | rfl | rw [m_sl] | rw [m_ss (by decide)] | rw [m_si (by decide)] | rw [m_to] | rw [m_note] | rw [m_f_X5_letWaterFlow_L44])
theorem m_f_X5_letWaterFlow {σ : Sg}  : gs (f_X5_letWaterFlow σ) 0 = gs σ 0 := by
  unfold f_X5_letWaterFlow
  repeat' split
  all_goals (repeat first | rfl | rw [m_sl] | rw [m_ss (by decide)] | rw [m_si (by decide)] | rw [m_to] | rw [m_note] | rw [m_f_X5_letWaterFlow_L2])
theorem m_f_X5_letSpringRun {σ : Sg} {x : Int32} : gs (f_X5_letSpringRun σ x) 0 = gs σ 0 := by
  unfold f_X5_letSpringRun
  repeat' split
  all_goals (repeat first | rfl | rw [m_sl] | rw [m_ss (by decide)] | rw [m_si (by decide)] | rw [m_to] | rw [m_note])
theorem m_f_X5_letSpringsRun_L2  : ∀ (k i : Nat) (τ : Sg), gs (f_X5_letSpringsRun_L2 k i τ) 0 = gs τ 0 := by
  intro k
  induction k with
  | zero => intro i τ; rw [f_X5_letSpringsRun_L2]; first | done | rfl | (repeat first | rfl | rw [m_sl] | rw [m_f_X5_letSpringRun])
  | succ k ih =>
    intro i τ
    rw [f_X5_letSpringsRun_L2]
    repeat' split
    all_goals rw [ih]
    all_goals (repeat first | rfl | rw [m_sl] | rw [m_ss (by decide)] | rw [m_si (by decide)] | rw [m_to] | rw [m_note] | rw [m_f_X5_letSpringRun])
theorem m_f_X5_letSpringsRun {σ : Sg}  : gs (f_X5_letSpringsRun σ) 0 = gs σ 0 := by
  unfold f_X5_letSpringsRun
  repeat' split
  all_goals (repeat first | rfl | rw [m_sl] | rw [m_ss (by decide)] | rw [m_si (by decide)] | rw [m_to] | rw [m_note] | rw [m_f_X5_letSpringsRun_L2])
theorem m_f_X5_meetSea {σ : Sg} {x : Int32} : gs (f_X5_meetSea σ x) 0 = gs σ 0 := by
  unfold f_X5_meetSea
  repeat' split
  all_goals (repeat first | rfl | rw [m_sl] | rw [m_ss (by decide)] | rw [m_si (by decide)] | rw [m_to] | rw [m_note])
theorem m_f_X5_runThroughBed {σ : Sg} {x y : Int32} : gs (f_X5_runThroughBed σ x y).2 0 = gs σ 0 := by
  unfold f_X5_runThroughBed
  repeat' split
  all_goals (repeat first | rfl | rw [m_sl] | rw [m_ss (by decide)] | rw [m_si (by decide)] | rw [m_to] | rw [m_note])
theorem m_f_X5_pumpWell {σ : Sg} {j : Nat} : gs (f_X5_pumpWell σ j) 0 = gs σ 0 := by
  unfold f_X5_pumpWell
  repeat' split
  all_goals (repeat first | rfl | rw [m_sl] | rw [m_ss (by decide)] | rw [m_si (by decide)] | rw [m_to] | rw [m_note] | rw [m_f_X4_shutYounger])
theorem m_f_X5_pumpWells_L2  : ∀ (k i : Nat) (τ : Sg), gs (f_X5_pumpWells_L2 k i τ) 0 = gs τ 0 := by
  intro k
  induction k with
  | zero => intro i τ; rw [f_X5_pumpWells_L2]; first | done | rfl | (repeat first | rfl | rw [m_sl] | rw [m_f_X5_pumpWell])
  | succ k ih =>
    intro i τ
    rw [f_X5_pumpWells_L2]
    repeat' split
    all_goals rw [ih]
    all_goals (repeat first | rfl | rw [m_sl] | rw [m_ss (by decide)] | rw [m_si (by decide)] | rw [m_to] | rw [m_note] | rw [m_f_X5_pumpWell])
theorem m_f_X5_pumpWells {σ : Sg}  : gs (f_X5_pumpWells σ) 0 = gs σ 0 := by
  unfold f_X5_pumpWells
  repeat' split
  all_goals (repeat first | rfl | rw [m_sl] | rw [m_ss (by decide)] | rw [m_si (by decide)] | rw [m_to] | rw [m_note] | rw [m_f_X5_pumpWells_L2])
theorem m_f_X5_endYear_L2  : ∀ (k i : Nat) (τ : Sg), gs (f_X5_endYear_L2 k i τ) 0 = gs τ 0 := by
  intro k
  induction k with
  | zero => intro i τ; rw [f_X5_endYear_L2]; first | done | rfl | (repeat first | rfl | rw [m_sl] | rw [m_f_X4_startYear] | rw [m_f_X4_forfeits])
  | succ k ih =>
    intro i τ
    rw [f_X5_endYear_L2]
    repeat' split
    all_goals rw [ih]
    all_goals (repeat first | rfl | rw [m_sl] | rw [m_ss (by decide)] | rw [m_si (by decide)] | rw [m_to] | rw [m_note] | rw [m_f_X4_startYear] | rw [m_f_X4_forfeits])
theorem m_f_X5_endYear {σ : Sg}  : gs (f_X5_endYear σ) 0 = gs σ 0 := by
  unfold f_X5_endYear
  repeat' split
  all_goals (repeat first | rfl | rw [m_sl] | rw [m_ss (by decide)] | rw [m_si (by decide)] | rw [m_to] | rw [m_note] | rw [m_f_X5_endYear_L2])
theorem m_f_X5_letRiverRun_L11  : ∀ (k i : Nat) (τ : Sg) (y : Int32), gs (f_X5_letRiverRun_L11 k i τ y) 0 = gs τ 0 := by
  intro k
  induction k with
  | zero => intro i τ y; rw [f_X5_letRiverRun_L11]; first | done | rfl | (repeat first | rfl | rw [m_sl] | rw [m_f_X5_runThroughBed])
  | succ k ih =>
    intro i τ y
    rw [f_X5_letRiverRun_L11]
    repeat' split
    all_goals rw [ih]
    all_goals (repeat first | rfl | rw [m_sl] | rw [m_ss (by decide)] | rw [m_si (by decide)] | rw [m_to] | rw [m_note] | rw [m_f_X5_runThroughBed])
theorem m_f_X5_letRiverRun {σ : Sg}  : gs (f_X5_letRiverRun σ) 0 = gs σ 0 := by
  unfold f_X5_letRiverRun
  repeat' split
  all_goals (repeat first | rfl | rw [m_sl] | rw [m_ss (by decide)] | rw [m_si (by decide)] | rw [m_to] | rw [m_note] | rw [m_f_X5_letRiverRun_L11])
theorem m_endMonth {σ : Sg} : gs (f_X5_endMonth σ) 0 = gs σ 0 + 1 := by
  unfold f_X5_endMonth
  split
  · rw [m_f_X5_endYear, m_s0]
  · exact m_s0
theorem m_months {mm : Nat} : ∀ (k i : Nat) (τ : Sg), gs τ 0 = nI i → gs (f_X5_letMonthsPass_L2 mm k i τ) 0 = nI (i + k) := by
  intro k
  induction k with
  | zero => intro i τ h; rw [f_X5_letMonthsPass_L2]; exact h
  | succ k ih =>
    intro i τ h
    rw [f_X5_letMonthsPass_L2, ih (i + 1) _ (by rw [m_endMonth, m_f_X5_meetSea, m_f_X5_meetSea, m_f_X5_letSpringsRun, m_f_X5_letRiverRun, m_f_X5_letWaterFlow, m_f_X5_pumpWells, m_f_X5_letRainFall, h, nI_1])]
    congr 1
    omega
theorem m_pass (mm : Nat) : gs (f_X5_follow_11 σ0 (-1) mm 0 0 0) 0 = nI mm := by
  have h := m_months (mm := mm) mm 0 σ0 rfl
  rw [Nat.zero_add] at h
  exact h
theorem rg24 {x : Int32} (h : rgOK x 1 24) : ∃ j : Nat, j ≤ 24 ∧ x = nI j := nI_of2 (M := 24) (n := 24) (by decide) (fun z => le_nlt h.1 (by
  have e1 : (1 : Int32).toInt = 1 := by decide
  rw [Int32.lt_iff_toInt_lt] at z ⊢
  have e0 : (0 : Int32).toInt = 0 := by decide
  omega)) h.2
set_option maxHeartbeats 4000000 in
set_option maxRecDepth 100000 in
/-- pass -/
theorem c_X6_pass (l : Launch) (g : Gm) (hst : l.stackTraces = false) (x : Nat) (ag : Nat) (wo : Nat) (dy : Nat) (ad : Nat → Nat) (ea : Nat) (p0 : Int32) : YXi (S := Unit) l g yX6_pass cX6_pass 2 .int ({ frames := 12, cells := 51, slots := 500017, locals := 1131 } : Room) [.ref x, .int p0] ([(x, .inr (6, [.ref (ad 0), .ref ag, .ref wo, .ref dy])), (dy, .inr (8, [.int 0, .ref (g.2.2 0), .int 0]))] ++ wsW g ad (-1) 1 0 ea σ0) (fun r _ => r = p0 ∧ rgOK p0 1 24) (fun _ => [(x, .inr (6, [.ref (ad 0), .ref ag, .ref wo, .ref dy]))]) (fun _ => (51, 500017)) ([(x, .inr (6, [.ref (ad 0), .ref ag, .ref wo, .ref dy])), (dy, .inr (8, [.int 0, .ref (g.2.2 0), .int 0]))] ++ wsW g ad (-1) 1 0 ea σ0) (fun En => En = "java/lang/IllegalArgumentException" ∧ ¬ rgOK p0 1 24) := by
  intro sz tt
  refine ofY RX6 rfl (by decide +kernel) (Nat.le_of_ble_eq_true rfl) (fun p e s m args below meth c hargs S hml hr hlk hex hsz htt hK hA hZ E ls hl => ?_)
  have hx := S.1
  have hb := S.2.1
  have hl : lv_has ls 2 [(0, .ref x), (1, .int p0)] := hl
  refine lv_iload_n hx hb dX6_pass_0 rfl (lv_at hl 1 rfl) ?_
  refine lv_iconst (v := 1) hx hb dX6_pass_1 (by decide) ?_
  refine lv_bipush (v := 24) hx hb dX6_pass_2 (by decide) ?_
  refine y_retv (yrunS (As := [.int p0, .int 1, .int 24]) (rest := []) (n := 3) S hml hK (hZ.at E) (Cut.of (wc := []) (wr := ([(x, .inr (6, [.ref (ad 0), .ref ag, .ref wo, .ref dy])), (dy, .inr (8, [.int 0, .ref (g.2.2 0), .int 0]))] ++ wsW g ad (-1) 1 0 ea σ0)) E hA [] [0, 1, 2, 3, 4, 5, 6, 7, 8, 9, 10, 11, 12, 13, 14, 15, 16, 17, 18, 19, 20, 21, 22, 23, 24, 25, 26, 27, 28, 29, 30, 31, 32] rfl rfl rfl rfl (by decide)) (c_X6_requireRange l g hst p0 1 24 _ _) ml_X6_36 st_X6_requireRange in_X6 co_X6_requireRange ⟨by decide +kernel, by decide +kernel, by decide +kernel⟩ ⟨Nat.le_of_ble_eq_true rfl, Nat.le_of_ble_eq_true rfl⟩ rfl hl.1 rfl (Nat.le_of_ble_eq_true rfl) dX6_pass_4 ⟨Nat.le_of_ble_eq_true rfl, Nat.le_of_ble_eq_true rfl⟩) (Cut.of (wc := []) (wr := ([(x, .inr (6, [.ref (ad 0), .ref ag, .ref wo, .ref dy])), (dy, .inr (8, [.int 0, .ref (g.2.2 0), .int 0]))] ++ wsW g ad (-1) 1 0 ea σ0)) E hA [] [0, 1, 2, 3, 4, 5, 6, 7, 8, 9, 10, 11, 12, 13, 14, 15, 16, 17, 18, 19, 20, 21, 22, 23, 24, 25, 26, 27, 28, 29, 30, 31, 32] rfl rfl rfl rfl (by decide)) E (fun En ce q9 H locs hp E hce hcv hcl => ?_) (fun u1 H locs hp E => ?_)
  · have E : Ev g _ s.heap H locs ([(x, .inr (6, [.ref (ad 0), .ref ag, .ref wo, .ref dy])), (dy, .inr (8, [.int 0, .ref (g.2.2 0), .int 0]))] ++ wsW g ad (-1) 1 0 ea σ0) := E
    exact y_out hex hlk hK E rfl hp hce hcv hcl ⟨Nat.le_of_ble_eq_true rfl, Nat.le_of_ble_eq_true rfl⟩
  · skip
    have E : Ev g _ s.heap H locs ([(x, .inr (6, [.ref (ad 0), .ref ag, .ref wo, .ref dy])), (dy, .inr (8, [.int 0, .ref (g.2.2 0), .int 0]))] ++ wsW g ad (-1) 1 0 ea σ0) := E
    have hB1 := hp
    obtain ⟨mm, hm, rfl⟩ := rg24 hB1
    refine lv_aload_n hx hb dX6_pass_7 rfl (lv_at hl 0 rfl) ?_
    refine wg_X6_14 (v := .ref (ad 0)) S hK E 0 rfl rfl dX6_pass_8 ?_
    refine wg_X6_122 (v := .int 0) S hK E 2 rfl rfl dX6_pass_11 ?_
    refine lv_iload_n hx hb dX6_pass_14 rfl (lv_at hl 1 rfl) ?_
    refine k_iadd (v := (nI (0 + mm))) hx hb (nI_add 0 mm) dX6_pass_15 ?_
    refine lv_sipush (v := 600) hx hb dX6_pass_16 (by decide) ?_
    refine lv_icmp_le (tgt := 32) hx hb dX6_pass_19 (by decide) (fun _ => ?_) (fun c_ => absurd ((nI_leI (a := 0 + mm) (b := 600) (by omega) (by decide)).mpr (by omega)) c_)
    refine lv_aload_n hx hb dX6_pass_32 rfl (lv_at hl 0 rfl) ?_
    refine w_new (ci := 1) (fs := [.int 0, .int 0, .int 0, .int 0, .int 0]) (C := RX1) (T := TX1) (N := 5) S hK E hA fw_X1 tyX1 tyX1_ok cl_X6_50 ib_X1 in_X1 rfl (fun j hj => by rcases (show j = 0 ∨ j = 1 ∨ j = 2 ∨ j = 3 ∨ j = 4 by omega) with rfl | rfl | rfl | rfl | rfl <;> rfl) (Nat.le_of_ble_eq_true rfl) (Nat.le_of_ble_eq_true rfl) dX6_pass_33 (fun q2 H E => ?_)
    have E : Ev g _ s.heap H _ ([(x, .inr (6, [.ref (ad 0), .ref ag, .ref wo, .ref dy])), (dy, .inr (8, [.int 0, .ref (g.2.2 0), .int 0]))] ++ wsW g ad (-1) 1 0 ea σ0 ++ [(q2, .inr (1, [.int 0, .int 0, .int 0, .int 0, .int 0]))]) := E
    refine lv_dup hx hb dX6_pass_36 rfl ?_
    refine lv_bipush (v := 11) hx hb dX6_pass_37 (by decide) ?_
    refine lv_iload_n hx hb dX6_pass_39 rfl (lv_at hl 1 rfl) ?_
    refine lv_iconst (v := 0) hx hb dX6_pass_40 (by decide) ?_
    refine lv_iconst (v := 0) hx hb dX6_pass_41 (by decide) ?_
    refine lv_iconst (v := 0) hx hb dX6_pass_42 (by decide) ?_
    refine w_retv (runI_X (As := [.int 11, .int (nI mm), .int 0, .int 0, .int 0]) (rest := [.ref q2, .ref x]) (n := 5) S hml hK (hZ.at E) (Cut.of (wc := [(q2, .inr (1, [.int 0, .int 0, .int 0, .int 0, .int 0]))]) (wr := ([(x, .inr (6, [.ref (ad 0), .ref ag, .ref wo, .ref dy])), (dy, .inr (8, [.int 0, .ref (g.2.2 0), .int 0]))] ++ wsW g ad (-1) 1 0 ea σ0)) E hA [33] [0, 1, 2, 3, 4, 5, 6, 7, 8, 9, 10, 11, 12, 13, 14, 15, 16, 17, 18, 19, 20, 21, 22, 23, 24, 25, 26, 27, 28, 29, 30, 31, 32] rfl rfl rfl rfl (by decide)) (c_X1_init l g q2 0 0 0 0 0 11 (nI mm) 0 0 0 _ _) ml_X6_52 im_X1_init in_X1 co_X1_init rfl ⟨by decide +kernel, by decide +kernel, by decide +kernel⟩ ⟨Nat.le_of_ble_eq_true rfl, Nat.le_of_ble_eq_true rfl⟩ rfl hl.1 rfl (Nat.le_of_ble_eq_true rfl) dX6_pass_43 ⟨Nat.le_of_ble_eq_true rfl, Nat.le_of_ble_eq_true rfl⟩) (Cut.of (wc := [(q2, .inr (1, [.int 0, .int 0, .int 0, .int 0, .int 0]))]) (wr := ([(x, .inr (6, [.ref (ad 0), .ref ag, .ref wo, .ref dy])), (dy, .inr (8, [.int 0, .ref (g.2.2 0), .int 0]))] ++ wsW g ad (-1) 1 0 ea σ0)) E hA [33] [0, 1, 2, 3, 4, 5, 6, 7, 8, 9, 10, 11, 12, 13, 14, 15, 16, 17, 18, 19, 20, 21, 22, 23, 24, 25, 26, 27, 28, 29, 30, 31, 32] rfl rfl rfl rfl (by decide)) E (fun u3 H locs hp E => ?_)
    have E : Ev g _ s.heap H locs ([(x, .inr (6, [.ref (ad 0), .ref ag, .ref wo, .ref dy])), (dy, .inr (8, [.int 0, .ref (g.2.2 0), .int 0]))] ++ wsW g ad (-1) 1 0 ea σ0 ++ [(q2, .inr (1, [.int 11, .int (nI mm), .int 0, .int 0, .int 0]))]) := E
    refine w_retv (runV_X (As := [.ref q2]) (rest := []) (q0 := 0) (n := 1) S hml hK (hZ.at E) (Cut.of (wc := ([(x, .inr (6, [.ref (ad 0), .ref ag, .ref wo, .ref dy])), (dy, .inr (8, [.int 0, .ref (g.2.2 0), .int 0])), (q2, .inr (1, [.int 11, .int (nI mm), .int 0, .int 0, .int 0]))] ++ wsW g ad (-1) 1 0 ea σ0)) (wr := []) E hA [0, 1, 33, 2, 3, 4, 5, 6, 7, 8, 9, 10, 11, 12, 13, 14, 15, 16, 17, 18, 19, 20, 21, 22, 23, 24, 25, 26, 27, 28, 29, 30, 31, 32] [] rfl rfl rfl rfl (by decide)) (c_co11 l g x ag wo dy ad ea q2 mm (by omega) _ _) (gi_wsV ml_X6_55 im_X6_carryOut sl_X6_carryOut in_X6 co_X6_carryOut) ⟨rfl, by decide +kernel, by decide +kernel, by decide +kernel⟩ ⟨Nat.le_of_ble_eq_true rfl, Nat.le_of_ble_eq_true rfl⟩ rfl rfl rfl hl.1 rfl (Nat.le_of_ble_eq_true rfl) dX6_pass_46 ⟨Nat.le_of_ble_eq_true rfl, Nat.le_of_ble_eq_true rfl⟩) (Cut.of (wc := ([(x, .inr (6, [.ref (ad 0), .ref ag, .ref wo, .ref dy])), (dy, .inr (8, [.int 0, .ref (g.2.2 0), .int 0])), (q2, .inr (1, [.int 11, .int (nI mm), .int 0, .int 0, .int 0]))] ++ wsW g ad (-1) 1 0 ea σ0)) (wr := []) E hA [0, 1, 33, 2, 3, 4, 5, 6, 7, 8, 9, 10, 11, 12, 13, 14, 15, 16, 17, 18, 19, 20, 21, 22, 23, 24, 25, 26, 27, 28, 29, 30, 31, 32] [] rfl rfl rfl rfl (by decide)) E (fun u4 H locs hp E => ?_)
    have E : Ev g _ s.heap H locs [(x, .inr (6, [.ref (ad 0), .ref ag, .ref wo, .ref dy])), ((ad 0), .inr (5, [.ref (ad 1), .ref (ad 2), .ref (ad 3), .ref (ad 4), .ref (ad 29), .ref (ad 5), .ref (ad 6), .ref (ad 7), .int (-1), .int 1, .int (gs u4 0), .int 0]))] := E
    have hU1 := hp
    refine lv_aload_n hx hb dX6_pass_49 rfl (lv_at hl 0 rfl) ?_
    refine wg_X6_14 (v := .ref (ad 0)) S hK E 0 rfl rfl dX6_pass_50 ?_
    refine wg_X6_122 (v := .int (gs u4 0)) S hK E 1 rfl rfl dX6_pass_53 ?_
    have E : Ev g _ s.heap H locs [(x, .inr (6, [.ref (ad 0), .ref ag, .ref wo, .ref dy]))] := Ev.sub E [0] rfl rfl
    exact vx_ret (x_iret () S hr hlk hsz htt hK E dX6_pass_56 ⟨by rw [hU1]; exact m_pass mm, hB1⟩ rfl ⟨Nat.le_of_ble_eq_true rfl, Nat.le_of_ble_eq_true rfl⟩ ⟨Nat.le_of_ble_eq_true rfl, Nat.le_of_ble_eq_true rfl⟩)

/-- what pass throws at first: its number, 0 for nothing -/
def kk_pass (p0 : Int32) : Int32 := if rgOK p0 1 24 then 0 else 1
theorem dX9_pass_0 : decode cX9_pass 0 = .ok (.aload_n 0, 1) := by decide +kernel
theorem dX9_pass_1 : decode cX9_pass 1 = .ok (.iload_n 1, 1) := by decide +kernel
theorem dX9_pass_2 : decode cX9_pass 2 = .ok (.iconst 1, 1) := by decide +kernel
theorem dX9_pass_3 : decode cX9_pass 3 = .ok (.bipush 24, 2) := by decide +kernel
theorem dX9_pass_5 : decode cX9_pass 5 = .ok (.invokestatic 35, 3) := by decide +kernel
theorem dX9_pass_8 : decode cX9_pass 8 = .ok (.ifCond .ne 7, 3) := by decide +kernel
theorem dX9_pass_11 : decode cX9_pass 11 = .ok (.iconst 1, 1) := by decide +kernel
theorem dX9_pass_12 : decode cX9_pass 12 = .ok (.goto 23, 3) := by decide +kernel
theorem dX9_pass_15 : decode cX9_pass 15 = .ok (.aload_n 0, 1) := by decide +kernel
theorem dX9_pass_16 : decode cX9_pass 16 = .ok (.getfield 10, 3) := by decide +kernel
theorem dX9_pass_19 : decode cX9_pass 19 = .ok (.getfield 104, 3) := by decide +kernel
theorem dX9_pass_22 : decode cX9_pass 22 = .ok (.iload_n 1, 1) := by decide +kernel
theorem dX9_pass_23 : decode cX9_pass 23 = .ok (.iadd, 1) := by decide +kernel
theorem dX9_pass_24 : decode cX9_pass 24 = .ok (.sipush 600, 3) := by decide +kernel
theorem dX9_pass_27 : decode cX9_pass 27 = .ok (.if_icmp .le 7, 3) := by decide +kernel
theorem dX9_pass_30 : decode cX9_pass 30 = .ok (.iconst 2, 1) := by decide +kernel
theorem dX9_pass_31 : decode cX9_pass 31 = .ok (.goto 4, 3) := by decide +kernel
theorem dX9_pass_34 : decode cX9_pass 34 = .ok (.iconst 0, 1) := by decide +kernel
theorem dX9_pass_35 : decode cX9_pass 35 = .ok (.invokevirtual 39, 3) := by decide +kernel
theorem dX9_pass_38 : decode cX9_pass 38 = .ok (.ifCond .eq 5, 3) := by decide +kernel
theorem dX9_pass_41 : decode cX9_pass 41 = .ok (.iconst 0, 1) := by decide +kernel
theorem dX9_pass_42 : decode cX9_pass 42 = .ok (.ireturn, 1) := by decide +kernel
theorem dX9_pass_43 : decode cX9_pass 43 = .ok (.aload_n 0, 1) := by decide +kernel
theorem dX9_pass_44 : decode cX9_pass 44 = .ok (.bipush 112, 2) := by decide +kernel
theorem dX9_pass_46 : decode cX9_pass 46 = .ok (.iload_n 1, 1) := by decide +kernel
theorem dX9_pass_47 : decode cX9_pass 47 = .ok (.iconst 0, 1) := by decide +kernel
theorem dX9_pass_48 : decode cX9_pass 48 = .ok (.iconst 0, 1) := by decide +kernel
theorem dX9_pass_49 : decode cX9_pass 49 = .ok (.iconst 0, 1) := by decide +kernel
theorem dX9_pass_50 : decode cX9_pass 50 = .ok (.invokevirtual 47, 3) := by decide +kernel
theorem dX9_pass_53 : decode cX9_pass 53 = .ok (.aload_n 0, 1) := by decide +kernel
theorem dX9_pass_54 : decode cX9_pass 54 = .ok (.getfield 10, 3) := by decide +kernel
theorem dX9_pass_57 : decode cX9_pass 57 = .ok (.getfield 104, 3) := by decide +kernel
theorem dX9_pass_60 : decode cX9_pass 60 = .ok (.ireturn, 1) := by decide +kernel
theorem dX9_level_0 : decode cX9_level 0 = .ok (.aload_n 0, 1) := by decide +kernel
theorem dX9_level_1 : decode cX9_level 1 = .ok (.iload_n 1, 1) := by decide +kernel
theorem dX9_level_2 : decode cX9_level 2 = .ok (.invokevirtual 107, 3) := by decide +kernel
theorem dX9_level_5 : decode cX9_level 5 = .ok (.ifCond .eq 7, 3) := by decide +kernel
theorem dX9_level_8 : decode cX9_level 8 = .ok (.iconst 0, 1) := by decide +kernel
theorem dX9_level_9 : decode cX9_level 9 = .ok (.goto 11, 3) := by decide +kernel
theorem dX9_level_12 : decode cX9_level 12 = .ok (.aload_n 0, 1) := by decide +kernel
theorem dX9_level_13 : decode cX9_level 13 = .ok (.getfield 10, 3) := by decide +kernel
theorem dX9_level_16 : decode cX9_level 16 = .ok (.iload_n 1, 1) := by decide +kernel
theorem dX9_level_17 : decode cX9_level 17 = .ok (.invokevirtual 110, 3) := by decide +kernel
theorem dX9_level_20 : decode cX9_level 20 = .ok (.ireturn, 1) := by decide +kernel
theorem dX9_water_0 : decode cX9_water 0 = .ok (.aload_n 0, 1) := by decide +kernel
theorem dX9_water_1 : decode cX9_water 1 = .ok (.iload_n 1, 1) := by decide +kernel
theorem dX9_water_2 : decode cX9_water 2 = .ok (.invokevirtual 107, 3) := by decide +kernel
theorem dX9_water_5 : decode cX9_water 5 = .ok (.ifCond .eq 7, 3) := by decide +kernel
theorem dX9_water_8 : decode cX9_water 8 = .ok (.iconst 0, 1) := by decide +kernel
theorem dX9_water_9 : decode cX9_water 9 = .ok (.goto 12, 3) := by decide +kernel
theorem dX9_water_12 : decode cX9_water 12 = .ok (.aload_n 0, 1) := by decide +kernel
theorem dX9_water_13 : decode cX9_water 13 = .ok (.getfield 10, 3) := by decide +kernel
theorem dX9_water_16 : decode cX9_water 16 = .ok (.getfield 43, 3) := by decide +kernel
theorem dX9_water_19 : decode cX9_water 19 = .ok (.iload_n 1, 1) := by decide +kernel
theorem dX9_water_20 : decode cX9_water 20 = .ok (.iaload, 1) := by decide +kernel
theorem dX9_water_21 : decode cX9_water 21 = .ok (.ireturn, 1) := by decide +kernel
theorem dX9_salt_0 : decode cX9_salt 0 = .ok (.aload_n 0, 1) := by decide +kernel
theorem dX9_salt_1 : decode cX9_salt 1 = .ok (.iload_n 1, 1) := by decide +kernel
theorem dX9_salt_2 : decode cX9_salt 2 = .ok (.invokevirtual 107, 3) := by decide +kernel
theorem dX9_salt_5 : decode cX9_salt 5 = .ok (.ifCond .eq 7, 3) := by decide +kernel
theorem dX9_salt_8 : decode cX9_salt 8 = .ok (.iconst 0, 1) := by decide +kernel
theorem dX9_salt_9 : decode cX9_salt 9 = .ok (.goto 12, 3) := by decide +kernel
theorem dX9_salt_12 : decode cX9_salt 12 = .ok (.aload_n 0, 1) := by decide +kernel
theorem dX9_salt_13 : decode cX9_salt 13 = .ok (.getfield 10, 3) := by decide +kernel
theorem dX9_salt_16 : decode cX9_salt 16 = .ok (.getfield 114, 3) := by decide +kernel
theorem dX9_salt_19 : decode cX9_salt 19 = .ok (.iload_n 1, 1) := by decide +kernel
theorem dX9_salt_20 : decode cX9_salt 20 = .ok (.iaload, 1) := by decide +kernel
theorem dX9_salt_21 : decode cX9_salt 21 = .ok (.ireturn, 1) := by decide +kernel
theorem dX9_amount_0 : decode cX9_amount 0 = .ok (.aload_n 0, 1) := by decide +kernel
theorem dX9_amount_1 : decode cX9_amount 1 = .ok (.iload_n 1, 1) := by decide +kernel
theorem dX9_amount_2 : decode cX9_amount 2 = .ok (.invokevirtual 86, 3) := by decide +kernel
theorem dX9_amount_5 : decode cX9_amount 5 = .ok (.ifCond .eq 7, 3) := by decide +kernel
theorem dX9_amount_8 : decode cX9_amount 8 = .ok (.iconst 0, 1) := by decide +kernel
theorem dX9_amount_9 : decode cX9_amount 9 = .ok (.goto 20, 3) := by decide +kernel
theorem dX9_amount_12 : decode cX9_amount 12 = .ok (.aload_n 0, 1) := by decide +kernel
theorem dX9_amount_13 : decode cX9_amount 13 = .ok (.getfield 10, 3) := by decide +kernel
theorem dX9_amount_16 : decode cX9_amount 16 = .ok (.getfield 76, 3) := by decide +kernel
theorem dX9_amount_19 : decode cX9_amount 19 = .ok (.iload_n 1, 1) := by decide +kernel
theorem dX9_amount_20 : decode cX9_amount 20 = .ok (.invokevirtual 89, 3) := by decide +kernel
theorem dX9_amount_23 : decode cX9_amount 23 = .ok (.checkcast 93, 3) := by decide +kernel
theorem dX9_amount_26 : decode cX9_amount 26 = .ok (.getfield 101, 3) := by decide +kernel
theorem dX9_amount_29 : decode cX9_amount 29 = .ok (.ireturn, 1) := by decide +kernel
theorem dX9_yearly_0 : decode cX9_yearly 0 = .ok (.aload_n 0, 1) := by decide +kernel
theorem dX9_yearly_1 : decode cX9_yearly 1 = .ok (.iload_n 1, 1) := by decide +kernel
theorem dX9_yearly_2 : decode cX9_yearly 2 = .ok (.invokevirtual 86, 3) := by decide +kernel
theorem dX9_yearly_5 : decode cX9_yearly 5 = .ok (.ifCond .eq 7, 3) := by decide +kernel
theorem dX9_yearly_8 : decode cX9_yearly 8 = .ok (.iconst 0, 1) := by decide +kernel
theorem dX9_yearly_9 : decode cX9_yearly 9 = .ok (.goto 20, 3) := by decide +kernel
theorem dX9_yearly_12 : decode cX9_yearly 12 = .ok (.aload_n 0, 1) := by decide +kernel
theorem dX9_yearly_13 : decode cX9_yearly 13 = .ok (.getfield 10, 3) := by decide +kernel
theorem dX9_yearly_16 : decode cX9_yearly 16 = .ok (.getfield 76, 3) := by decide +kernel
theorem dX9_yearly_19 : decode cX9_yearly 19 = .ok (.iload_n 1, 1) := by decide +kernel
theorem dX9_yearly_20 : decode cX9_yearly 20 = .ok (.invokevirtual 89, 3) := by decide +kernel
theorem dX9_yearly_23 : decode cX9_yearly 23 = .ok (.checkcast 93, 3) := by decide +kernel
theorem dX9_yearly_26 : decode cX9_yearly 26 = .ok (.getfield 117, 3) := by decide +kernel
theorem dX9_yearly_29 : decode cX9_yearly 29 = .ok (.ireturn, 1) := by decide +kernel
theorem dX9_pumped_0 : decode cX9_pumped 0 = .ok (.aload_n 0, 1) := by decide +kernel
theorem dX9_pumped_1 : decode cX9_pumped 1 = .ok (.iload_n 1, 1) := by decide +kernel
theorem dX9_pumped_2 : decode cX9_pumped 2 = .ok (.invokevirtual 86, 3) := by decide +kernel
theorem dX9_pumped_5 : decode cX9_pumped 5 = .ok (.ifCond .eq 7, 3) := by decide +kernel
theorem dX9_pumped_8 : decode cX9_pumped 8 = .ok (.lconst 0, 1) := by decide +kernel
theorem dX9_pumped_9 : decode cX9_pumped 9 = .ok (.goto 20, 3) := by decide +kernel
theorem dX9_pumped_12 : decode cX9_pumped 12 = .ok (.aload_n 0, 1) := by decide +kernel
theorem dX9_pumped_13 : decode cX9_pumped 13 = .ok (.getfield 10, 3) := by decide +kernel
theorem dX9_pumped_16 : decode cX9_pumped 16 = .ok (.getfield 76, 3) := by decide +kernel
theorem dX9_pumped_19 : decode cX9_pumped 19 = .ok (.iload_n 1, 1) := by decide +kernel
theorem dX9_pumped_20 : decode cX9_pumped 20 = .ok (.invokevirtual 89, 3) := by decide +kernel
theorem dX9_pumped_23 : decode cX9_pumped 23 = .ok (.checkcast 93, 3) := by decide +kernel
theorem dX9_pumped_26 : decode cX9_pumped 26 = .ok (.getfield 120, 3) := by decide +kernel
theorem dX9_pumped_29 : decode cX9_pumped 29 = .ok (.lreturn, 1) := by decide +kernel
theorem dX9_isShut_0 : decode cX9_isShut 0 = .ok (.aload_n 0, 1) := by decide +kernel
theorem dX9_isShut_1 : decode cX9_isShut 1 = .ok (.iload_n 1, 1) := by decide +kernel
theorem dX9_isShut_2 : decode cX9_isShut 2 = .ok (.invokevirtual 86, 3) := by decide +kernel
theorem dX9_isShut_5 : decode cX9_isShut 5 = .ok (.ifCond .ne 27, 3) := by decide +kernel
theorem dX9_isShut_8 : decode cX9_isShut 8 = .ok (.aload_n 0, 1) := by decide +kernel
theorem dX9_isShut_9 : decode cX9_isShut 9 = .ok (.getfield 10, 3) := by decide +kernel
theorem dX9_isShut_12 : decode cX9_isShut 12 = .ok (.getfield 76, 3) := by decide +kernel
theorem dX9_isShut_15 : decode cX9_isShut 15 = .ok (.iload_n 1, 1) := by decide +kernel
theorem dX9_isShut_16 : decode cX9_isShut 16 = .ok (.invokevirtual 89, 3) := by decide +kernel
theorem dX9_isShut_19 : decode cX9_isShut 19 = .ok (.checkcast 93, 3) := by decide +kernel
theorem dX9_isShut_22 : decode cX9_isShut 22 = .ok (.getfield 124, 3) := by decide +kernel
theorem dX9_isShut_25 : decode cX9_isShut 25 = .ok (.ifCond .eq 7, 3) := by decide +kernel
theorem dX9_isShut_28 : decode cX9_isShut 28 = .ok (.iconst 1, 1) := by decide +kernel
theorem dX9_isShut_29 : decode cX9_isShut 29 = .ok (.goto 4, 3) := by decide +kernel
theorem dX9_isShut_32 : decode cX9_isShut 32 = .ok (.iconst 0, 1) := by decide +kernel
theorem dX9_isShut_33 : decode cX9_isShut 33 = .ok (.ireturn, 1) := by decide +kernel
theorem dX9_byAge_0 : decode cX9_byAge 0 = .ok (.aload_n 0, 1) := by decide +kernel
theorem dX9_byAge_1 : decode cX9_byAge 1 = .ok (.iload_n 1, 1) := by decide +kernel
theorem dX9_byAge_2 : decode cX9_byAge 2 = .ok (.iconst 0, 1) := by decide +kernel
theorem dX9_byAge_3 : decode cX9_byAge 3 = .ok (.aload_n 0, 1) := by decide +kernel
theorem dX9_byAge_4 : decode cX9_byAge 4 = .ok (.getfield 10, 3) := by decide +kernel
theorem dX9_byAge_7 : decode cX9_byAge 7 = .ok (.getfield 76, 3) := by decide +kernel
theorem dX9_byAge_10 : decode cX9_byAge 10 = .ok (.invokevirtual 79, 3) := by decide +kernel
theorem dX9_byAge_13 : decode cX9_byAge 13 = .ok (.iconst 1, 1) := by decide +kernel
theorem dX9_byAge_14 : decode cX9_byAge 14 = .ok (.isub, 1) := by decide +kernel
theorem dX9_byAge_15 : decode cX9_byAge 15 = .ok (.invokestatic 35, 3) := by decide +kernel
theorem dX9_byAge_18 : decode cX9_byAge 18 = .ok (.ifCond .eq 7, 3) := by decide +kernel
theorem dX9_byAge_21 : decode cX9_byAge 21 = .ok (.iconst 0, 1) := by decide +kernel
theorem dX9_byAge_22 : decode cX9_byAge 22 = .ok (.goto 4, 3) := by decide +kernel
theorem dX9_byAge_25 : decode cX9_byAge 25 = .ok (.iconst 1, 1) := by decide +kernel
theorem dX9_byAge_26 : decode cX9_byAge 26 = .ok (.invokevirtual 39, 3) := by decide +kernel
theorem dX9_byAge_29 : decode cX9_byAge 29 = .ok (.ifCond .eq 7, 3) := by decide +kernel
theorem dX9_byAge_32 : decode cX9_byAge 32 = .ok (.iconst 0, 1) := by decide +kernel
theorem dX9_byAge_33 : decode cX9_byAge 33 = .ok (.goto 20, 3) := by decide +kernel
theorem dX9_byAge_36 : decode cX9_byAge 36 = .ok (.aload_n 0, 1) := by decide +kernel
theorem dX9_byAge_37 : decode cX9_byAge 37 = .ok (.getfield 10, 3) := by decide +kernel
theorem dX9_byAge_40 : decode cX9_byAge 40 = .ok (.invokevirtual 128, 3) := by decide +kernel
theorem dX9_byAge_43 : decode cX9_byAge 43 = .ok (.iload_n 1, 1) := by decide +kernel
theorem dX9_byAge_44 : decode cX9_byAge 44 = .ok (.invokevirtual 89, 3) := by decide +kernel
theorem dX9_byAge_47 : decode cX9_byAge 47 = .ok (.checkcast 132, 3) := by decide +kernel
theorem dX9_byAge_50 : decode cX9_byAge 50 = .ok (.invokevirtual 134, 3) := by decide +kernel
theorem dX9_byAge_53 : decode cX9_byAge 53 = .ok (.ireturn, 1) := by decide +kernel
theorem dX9_setWish_0 : decode cX9_setWish 0 = .ok (.aload_n 0, 1) := by decide +kernel
theorem dX9_setWish_1 : decode cX9_setWish 1 = .ok (.iload_n 1, 1) := by decide +kernel
theorem dX9_setWish_2 : decode cX9_setWish 2 = .ok (.invokevirtual 86, 3) := by decide +kernel
theorem dX9_setWish_5 : decode cX9_setWish 5 = .ok (.ifCond .ne 25, 3) := by decide +kernel
theorem dX9_setWish_8 : decode cX9_setWish 8 = .ok (.aload_n 0, 1) := by decide +kernel
theorem dX9_setWish_9 : decode cX9_setWish 9 = .ok (.iload_n 2, 1) := by decide +kernel
theorem dX9_setWish_10 : decode cX9_setWish 10 = .ok (.iconst 0, 1) := by decide +kernel
theorem dX9_setWish_11 : decode cX9_setWish 11 = .ok (.bipush 99, 2) := by decide +kernel
theorem dX9_setWish_13 : decode cX9_setWish 13 = .ok (.invokestatic 35, 3) := by decide +kernel
theorem dX9_setWish_16 : decode cX9_setWish 16 = .ok (.ifCond .eq 7, 3) := by decide +kernel
theorem dX9_setWish_19 : decode cX9_setWish 19 = .ok (.iconst 0, 1) := by decide +kernel
theorem dX9_setWish_20 : decode cX9_setWish 20 = .ok (.goto 4, 3) := by decide +kernel
theorem dX9_setWish_23 : decode cX9_setWish 23 = .ok (.iconst 2, 1) := by decide +kernel
theorem dX9_setWish_24 : decode cX9_setWish 24 = .ok (.invokevirtual 39, 3) := by decide +kernel
theorem dX9_setWish_27 : decode cX9_setWish 27 = .ok (.ifCond .eq 5, 3) := by decide +kernel
theorem dX9_setWish_30 : decode cX9_setWish 30 = .ok (.iconst 0, 1) := by decide +kernel
theorem dX9_setWish_31 : decode cX9_setWish 31 = .ok (.ireturn, 1) := by decide +kernel
theorem dX9_setWish_32 : decode cX9_setWish 32 = .ok (.aload_n 0, 1) := by decide +kernel
theorem dX9_setWish_33 : decode cX9_setWish 33 = .ok (.getfield 10, 3) := by decide +kernel
theorem dX9_setWish_36 : decode cX9_setWish 36 = .ok (.getfield 76, 3) := by decide +kernel
theorem dX9_setWish_39 : decode cX9_setWish 39 = .ok (.iload_n 1, 1) := by decide +kernel
theorem dX9_setWish_40 : decode cX9_setWish 40 = .ok (.invokevirtual 89, 3) := by decide +kernel
theorem dX9_setWish_43 : decode cX9_setWish 43 = .ok (.checkcast 93, 3) := by decide +kernel
theorem dX9_setWish_46 : decode cX9_setWish 46 = .ok (.getfield 95, 3) := by decide +kernel
theorem dX9_setWish_49 : decode cX9_setWish 49 = .ok (.istore_n 3, 1) := by decide +kernel
theorem dX9_setWish_50 : decode cX9_setWish 50 = .ok (.aload_n 0, 1) := by decide +kernel
theorem dX9_setWish_51 : decode cX9_setWish 51 = .ok (.bipush 105, 2) := by decide +kernel
theorem dX9_setWish_53 : decode cX9_setWish 53 = .ok (.iload_n 1, 1) := by decide +kernel
theorem dX9_setWish_54 : decode cX9_setWish 54 = .ok (.iload_n 2, 1) := by decide +kernel
theorem dX9_setWish_55 : decode cX9_setWish 55 = .ok (.iconst 0, 1) := by decide +kernel
theorem dX9_setWish_56 : decode cX9_setWish 56 = .ok (.iconst 0, 1) := by decide +kernel
theorem dX9_setWish_57 : decode cX9_setWish 57 = .ok (.invokevirtual 47, 3) := by decide +kernel
theorem dX9_setWish_60 : decode cX9_setWish 60 = .ok (.iload_n 3, 1) := by decide +kernel
theorem dX9_setWish_61 : decode cX9_setWish 61 = .ok (.ireturn, 1) := by decide +kernel
theorem dX9_transfer_0 : decode cX9_transfer 0 = .ok (.aload_n 0, 1) := by decide +kernel
theorem dX9_transfer_1 : decode cX9_transfer 1 = .ok (.aload_n 0, 1) := by decide +kernel
theorem dX9_transfer_2 : decode cX9_transfer 2 = .ok (.iload_n 1, 1) := by decide +kernel
theorem dX9_transfer_3 : decode cX9_transfer 3 = .ok (.invokevirtual 83, 3) := by decide +kernel
theorem dX9_transfer_6 : decode cX9_transfer 6 = .ok (.ifCond .eq 11, 3) := by decide +kernel
theorem dX9_transfer_9 : decode cX9_transfer 9 = .ok (.aload_n 0, 1) := by decide +kernel
theorem dX9_transfer_10 : decode cX9_transfer 10 = .ok (.iload_n 2, 1) := by decide +kernel
theorem dX9_transfer_11 : decode cX9_transfer 11 = .ok (.invokevirtual 83, 3) := by decide +kernel
theorem dX9_transfer_14 : decode cX9_transfer 14 = .ok (.ifCond .ne 7, 3) := by decide +kernel
theorem dX9_transfer_17 : decode cX9_transfer 17 = .ok (.iconst 1, 1) := by decide +kernel
theorem dX9_transfer_18 : decode cX9_transfer 18 = .ok (.goto 19, 3) := by decide +kernel
theorem dX9_transfer_21 : decode cX9_transfer 21 = .ok (.iload_n 3, 1) := by decide +kernel
theorem dX9_transfer_22 : decode cX9_transfer 22 = .ok (.iconst 1, 1) := by decide +kernel
theorem dX9_transfer_23 : decode cX9_transfer 23 = .ok (.sipush 999, 3) := by decide +kernel
theorem dX9_transfer_26 : decode cX9_transfer 26 = .ok (.invokestatic 35, 3) := by decide +kernel
theorem dX9_transfer_29 : decode cX9_transfer 29 = .ok (.ifCond .ne 7, 3) := by decide +kernel
theorem dX9_transfer_32 : decode cX9_transfer 32 = .ok (.iconst 2, 1) := by decide +kernel
theorem dX9_transfer_33 : decode cX9_transfer 33 = .ok (.goto 4, 3) := by decide +kernel
theorem dX9_transfer_36 : decode cX9_transfer 36 = .ok (.iconst 0, 1) := by decide +kernel
theorem dX9_transfer_37 : decode cX9_transfer 37 = .ok (.invokevirtual 39, 3) := by decide +kernel
theorem dX9_transfer_40 : decode cX9_transfer 40 = .ok (.ifCond .ne 28, 3) := by decide +kernel
theorem dX9_transfer_43 : decode cX9_transfer 43 = .ok (.aload_n 0, 1) := by decide +kernel
theorem dX9_transfer_44 : decode cX9_transfer 44 = .ok (.aload_n 0, 1) := by decide +kernel
theorem dX9_transfer_45 : decode cX9_transfer 45 = .ok (.getfield 10, 3) := by decide +kernel
theorem dX9_transfer_48 : decode cX9_transfer 48 = .ok (.iload_n 1, 1) := by decide +kernel
theorem dX9_transfer_49 : decode cX9_transfer 49 = .ok (.iload_n 2, 1) := by decide +kernel
theorem dX9_transfer_50 : decode cX9_transfer 50 = .ok (.iload_n 3, 1) := by decide +kernel
theorem dX9_transfer_51 : decode cX9_transfer 51 = .ok (.invokevirtual 98, 3) := by decide +kernel
theorem dX9_transfer_54 : decode cX9_transfer 54 = .ok (.ifCond .eq 7, 3) := by decide +kernel
theorem dX9_transfer_57 : decode cX9_transfer 57 = .ok (.iconst 0, 1) := by decide +kernel
theorem dX9_transfer_58 : decode cX9_transfer 58 = .ok (.goto 4, 3) := by decide +kernel
theorem dX9_transfer_61 : decode cX9_transfer 61 = .ok (.iconst 3, 1) := by decide +kernel
theorem dX9_transfer_62 : decode cX9_transfer 62 = .ok (.invokevirtual 39, 3) := by decide +kernel
theorem dX9_transfer_65 : decode cX9_transfer 65 = .ok (.ifCond .eq 5, 3) := by decide +kernel
theorem dX9_transfer_68 : decode cX9_transfer 68 = .ok (.iconst 0, 1) := by decide +kernel
theorem dX9_transfer_69 : decode cX9_transfer 69 = .ok (.ireturn, 1) := by decide +kernel
theorem dX9_transfer_70 : decode cX9_transfer 70 = .ok (.aload_n 0, 1) := by decide +kernel
theorem dX9_transfer_71 : decode cX9_transfer 71 = .ok (.bipush 116, 2) := by decide +kernel
theorem dX9_transfer_73 : decode cX9_transfer 73 = .ok (.iload_n 1, 1) := by decide +kernel
theorem dX9_transfer_74 : decode cX9_transfer 74 = .ok (.iload_n 2, 1) := by decide +kernel
theorem dX9_transfer_75 : decode cX9_transfer 75 = .ok (.iload_n 3, 1) := by decide +kernel
theorem dX9_transfer_76 : decode cX9_transfer 76 = .ok (.iconst 0, 1) := by decide +kernel
theorem dX9_transfer_77 : decode cX9_transfer 77 = .ok (.invokevirtual 47, 3) := by decide +kernel
theorem dX9_transfer_80 : decode cX9_transfer 80 = .ok (.aload_n 0, 1) := by decide +kernel
theorem dX9_transfer_81 : decode cX9_transfer 81 = .ok (.getfield 10, 3) := by decide +kernel
theorem dX9_transfer_84 : decode cX9_transfer 84 = .ok (.getfield 76, 3) := by decide +kernel
theorem dX9_transfer_87 : decode cX9_transfer 87 = .ok (.iload_n 1, 1) := by decide +kernel
theorem dX9_transfer_88 : decode cX9_transfer 88 = .ok (.invokevirtual 89, 3) := by decide +kernel
theorem dX9_transfer_91 : decode cX9_transfer 91 = .ok (.checkcast 93, 3) := by decide +kernel
theorem dX9_transfer_94 : decode cX9_transfer 94 = .ok (.getfield 101, 3) := by decide +kernel
theorem dX9_transfer_97 : decode cX9_transfer 97 = .ok (.ireturn, 1) := by decide +kernel
theorem dX9_pumpedWithout_0 : decode cX9_pumpedWithout 0 = .ok (.aload_n 0, 1) := by decide +kernel
theorem dX9_pumpedWithout_1 : decode cX9_pumpedWithout 1 = .ok (.aload_n 0, 1) := by decide +kernel
theorem dX9_pumpedWithout_2 : decode cX9_pumpedWithout 2 = .ok (.iload_n 1, 1) := by decide +kernel
theorem dX9_pumpedWithout_3 : decode cX9_pumpedWithout 3 = .ok (.invokevirtual 83, 3) := by decide +kernel
theorem dX9_pumpedWithout_6 : decode cX9_pumpedWithout 6 = .ok (.ifCond .eq 11, 3) := by decide +kernel
theorem dX9_pumpedWithout_9 : decode cX9_pumpedWithout 9 = .ok (.aload_n 0, 1) := by decide +kernel
theorem dX9_pumpedWithout_10 : decode cX9_pumpedWithout 10 = .ok (.iload_n 2, 1) := by decide +kernel
theorem dX9_pumpedWithout_11 : decode cX9_pumpedWithout 11 = .ok (.invokevirtual 83, 3) := by decide +kernel
theorem dX9_pumpedWithout_14 : decode cX9_pumpedWithout 14 = .ok (.ifCond .ne 7, 3) := by decide +kernel
theorem dX9_pumpedWithout_17 : decode cX9_pumpedWithout 17 = .ok (.iconst 1, 1) := by decide +kernel
theorem dX9_pumpedWithout_18 : decode cX9_pumpedWithout 18 = .ok (.goto 13, 3) := by decide +kernel
theorem dX9_pumpedWithout_21 : decode cX9_pumpedWithout 21 = .ok (.iload_n 1, 1) := by decide +kernel
theorem dX9_pumpedWithout_22 : decode cX9_pumpedWithout 22 = .ok (.iload_n 2, 1) := by decide +kernel
theorem dX9_pumpedWithout_23 : decode cX9_pumpedWithout 23 = .ok (.if_icmp .ne 7, 3) := by decide +kernel
theorem dX9_pumpedWithout_26 : decode cX9_pumpedWithout 26 = .ok (.iconst 2, 1) := by decide +kernel
theorem dX9_pumpedWithout_27 : decode cX9_pumpedWithout 27 = .ok (.goto 4, 3) := by decide +kernel
theorem dX9_pumpedWithout_30 : decode cX9_pumpedWithout 30 = .ok (.iconst 0, 1) := by decide +kernel
theorem dX9_pumpedWithout_31 : decode cX9_pumpedWithout 31 = .ok (.invokevirtual 39, 3) := by decide +kernel
theorem dX9_pumpedWithout_34 : decode cX9_pumpedWithout 34 = .ok (.ifCond .eq 5, 3) := by decide +kernel
theorem dX9_pumpedWithout_37 : decode cX9_pumpedWithout 37 = .ok (.lconst 0, 1) := by decide +kernel
theorem dX9_pumpedWithout_38 : decode cX9_pumpedWithout 38 = .ok (.lreturn, 1) := by decide +kernel
theorem dX9_pumpedWithout_39 : decode cX9_pumpedWithout 39 = .ok (.new 7, 3) := by decide +kernel
theorem dX9_pumpedWithout_42 : decode cX9_pumpedWithout 42 = .ok (.dup, 1) := by decide +kernel
theorem dX9_pumpedWithout_43 : decode cX9_pumpedWithout 43 = .ok (.invokespecial 9, 3) := by decide +kernel
theorem dX9_pumpedWithout_46 : decode cX9_pumpedWithout 46 = .ok (.astore_n 3, 1) := by decide +kernel
theorem dX9_pumpedWithout_47 : decode cX9_pumpedWithout 47 = .ok (.aload_n 0, 1) := by decide +kernel
theorem dX9_pumpedWithout_48 : decode cX9_pumpedWithout 48 = .ok (.getfield 19, 3) := by decide +kernel
theorem dX9_pumpedWithout_51 : decode cX9_pumpedWithout 51 = .ok (.invokevirtual 137, 3) := by decide +kernel
theorem dX9_pumpedWithout_54 : decode cX9_pumpedWithout 54 = .ok (.astore 4, 2) := by decide +kernel
theorem dX9_pumpedWithout_56 : decode cX9_pumpedWithout 56 = .ok (.aload 4, 2) := by decide +kernel
theorem dX9_pumpedWithout_58 : decode cX9_pumpedWithout 58 = .ok (.invokeinterface 141 1, 5) := by decide +kernel
theorem dX9_pumpedWithout_63 : decode cX9_pumpedWithout 63 = .ok (.ifCond .eq 135, 3) := by decide +kernel
theorem dX9_pumpedWithout_66 : decode cX9_pumpedWithout 66 = .ok (.aload 4, 2) := by decide +kernel
theorem dX9_pumpedWithout_68 : decode cX9_pumpedWithout 68 = .ok (.invokeinterface 147 1, 5) := by decide +kernel
theorem dX9_pumpedWithout_73 : decode cX9_pumpedWithout 73 = .ok (.checkcast 151, 3) := by decide +kernel
theorem dX9_pumpedWithout_76 : decode cX9_pumpedWithout 76 = .ok (.astore 5, 2) := by decide +kernel
theorem dX9_pumpedWithout_78 : decode cX9_pumpedWithout 78 = .ok (.aload 5, 2) := by decide +kernel
theorem dX9_pumpedWithout_80 : decode cX9_pumpedWithout 80 = .ok (.iconst 0, 1) := by decide +kernel
theorem dX9_pumpedWithout_81 : decode cX9_pumpedWithout 81 = .ok (.iaload, 1) := by decide +kernel
theorem dX9_pumpedWithout_82 : decode cX9_pumpedWithout 82 = .ok (.bipush 105, 2) := by decide +kernel
theorem dX9_pumpedWithout_84 : decode cX9_pumpedWithout 84 = .ok (.if_icmp .eq 12, 3) := by decide +kernel
theorem dX9_pumpedWithout_87 : decode cX9_pumpedWithout 87 = .ok (.aload 5, 2) := by decide +kernel
theorem dX9_pumpedWithout_89 : decode cX9_pumpedWithout 89 = .ok (.iconst 0, 1) := by decide +kernel
theorem dX9_pumpedWithout_90 : decode cX9_pumpedWithout 90 = .ok (.iaload, 1) := by decide +kernel
theorem dX9_pumpedWithout_91 : decode cX9_pumpedWithout 91 = .ok (.bipush 116, 2) := by decide +kernel
theorem dX9_pumpedWithout_93 : decode cX9_pumpedWithout 93 = .ok (.if_icmp .ne 11, 3) := by decide +kernel
theorem dX9_pumpedWithout_96 : decode cX9_pumpedWithout 96 = .ok (.aload 5, 2) := by decide +kernel
theorem dX9_pumpedWithout_98 : decode cX9_pumpedWithout 98 = .ok (.iconst 1, 1) := by decide +kernel
theorem dX9_pumpedWithout_99 : decode cX9_pumpedWithout 99 = .ok (.iaload, 1) := by decide +kernel
theorem dX9_pumpedWithout_100 : decode cX9_pumpedWithout 100 = .ok (.iload_n 2, 1) := by decide +kernel
theorem dX9_pumpedWithout_101 : decode cX9_pumpedWithout 101 = .ok (.if_icmp .eq 20, 3) := by decide +kernel
theorem dX9_pumpedWithout_104 : decode cX9_pumpedWithout 104 = .ok (.aload 5, 2) := by decide +kernel
theorem dX9_pumpedWithout_106 : decode cX9_pumpedWithout 106 = .ok (.iconst 0, 1) := by decide +kernel
theorem dX9_pumpedWithout_107 : decode cX9_pumpedWithout 107 = .ok (.iaload, 1) := by decide +kernel
theorem dX9_pumpedWithout_108 : decode cX9_pumpedWithout 108 = .ok (.bipush 116, 2) := by decide +kernel
theorem dX9_pumpedWithout_110 : decode cX9_pumpedWithout 110 = .ok (.if_icmp .ne 15, 3) := by decide +kernel
theorem dX9_pumpedWithout_113 : decode cX9_pumpedWithout 113 = .ok (.aload 5, 2) := by decide +kernel
theorem dX9_pumpedWithout_115 : decode cX9_pumpedWithout 115 = .ok (.iconst 2, 1) := by decide +kernel
theorem dX9_pumpedWithout_116 : decode cX9_pumpedWithout 116 = .ok (.iaload, 1) := by decide +kernel
theorem dX9_pumpedWithout_117 : decode cX9_pumpedWithout 117 = .ok (.iload_n 2, 1) := by decide +kernel
theorem dX9_pumpedWithout_118 : decode cX9_pumpedWithout 118 = .ok (.if_icmp .ne 7, 3) := by decide +kernel
theorem dX9_pumpedWithout_121 : decode cX9_pumpedWithout 121 = .ok (.iconst 1, 1) := by decide +kernel
theorem dX9_pumpedWithout_122 : decode cX9_pumpedWithout 122 = .ok (.goto 4, 3) := by decide +kernel
theorem dX9_pumpedWithout_125 : decode cX9_pumpedWithout 125 = .ok (.iconst 0, 1) := by decide +kernel
theorem dX9_pumpedWithout_126 : decode cX9_pumpedWithout 126 = .ok (.istore 6, 2) := by decide +kernel
theorem dX9_pumpedWithout_128 : decode cX9_pumpedWithout 128 = .ok (.iload 6, 2) := by decide +kernel
theorem dX9_pumpedWithout_130 : decode cX9_pumpedWithout 130 = .ok (.ifCond .ne 37, 3) := by decide +kernel
theorem dX9_pumpedWithout_133 : decode cX9_pumpedWithout 133 = .ok (.aload 5, 2) := by decide +kernel
theorem dX9_pumpedWithout_135 : decode cX9_pumpedWithout 135 = .ok (.iconst 0, 1) := by decide +kernel
theorem dX9_pumpedWithout_136 : decode cX9_pumpedWithout 136 = .ok (.iaload, 1) := by decide +kernel
theorem dX9_pumpedWithout_137 : decode cX9_pumpedWithout 137 = .ok (.bipush 116, 2) := by decide +kernel
theorem dX9_pumpedWithout_139 : decode cX9_pumpedWithout 139 = .ok (.if_icmp .ne 22, 3) := by decide +kernel
theorem dX9_pumpedWithout_142 : decode cX9_pumpedWithout 142 = .ok (.aload_n 3, 1) := by decide +kernel
theorem dX9_pumpedWithout_143 : decode cX9_pumpedWithout 143 = .ok (.aload 5, 2) := by decide +kernel
theorem dX9_pumpedWithout_145 : decode cX9_pumpedWithout 145 = .ok (.iconst 1, 1) := by decide +kernel
theorem dX9_pumpedWithout_146 : decode cX9_pumpedWithout 146 = .ok (.iaload, 1) := by decide +kernel
theorem dX9_pumpedWithout_147 : decode cX9_pumpedWithout 147 = .ok (.aload 5, 2) := by decide +kernel
theorem dX9_pumpedWithout_149 : decode cX9_pumpedWithout 149 = .ok (.iconst 2, 1) := by decide +kernel
theorem dX9_pumpedWithout_150 : decode cX9_pumpedWithout 150 = .ok (.iaload, 1) := by decide +kernel
theorem dX9_pumpedWithout_151 : decode cX9_pumpedWithout 151 = .ok (.aload 5, 2) := by decide +kernel
theorem dX9_pumpedWithout_153 : decode cX9_pumpedWithout 153 = .ok (.iconst 3, 1) := by decide +kernel
theorem dX9_pumpedWithout_154 : decode cX9_pumpedWithout 154 = .ok (.iaload, 1) := by decide +kernel
theorem dX9_pumpedWithout_155 : decode cX9_pumpedWithout 155 = .ok (.invokevirtual 98, 3) := by decide +kernel
theorem dX9_pumpedWithout_158 : decode cX9_pumpedWithout 158 = .ok (.ifCond .eq 9, 3) := by decide +kernel
theorem dX9_pumpedWithout_161 : decode cX9_pumpedWithout 161 = .ok (.aload_n 3, 1) := by decide +kernel
theorem dX9_pumpedWithout_162 : decode cX9_pumpedWithout 162 = .ok (.aload 5, 2) := by decide +kernel
theorem dX9_pumpedWithout_164 : decode cX9_pumpedWithout 164 = .ok (.invokevirtual 31, 3) := by decide +kernel
theorem dX9_pumpedWithout_167 : decode cX9_pumpedWithout 167 = .ok (.aload_n 3, 1) := by decide +kernel
theorem dX9_pumpedWithout_168 : decode cX9_pumpedWithout 168 = .ok (.getfield 76, 3) := by decide +kernel
theorem dX9_pumpedWithout_171 : decode cX9_pumpedWithout 171 = .ok (.invokevirtual 79, 3) := by decide +kernel
theorem dX9_pumpedWithout_174 : decode cX9_pumpedWithout 174 = .ok (.iload_n 2, 1) := by decide +kernel
theorem dX9_pumpedWithout_175 : decode cX9_pumpedWithout 175 = .ok (.iconst 1, 1) := by decide +kernel
theorem dX9_pumpedWithout_176 : decode cX9_pumpedWithout 176 = .ok (.iadd, 1) := by decide +kernel
theorem dX9_pumpedWithout_177 : decode cX9_pumpedWithout 177 = .ok (.if_icmp .ne 18, 3) := by decide +kernel
theorem dX9_pumpedWithout_180 : decode cX9_pumpedWithout 180 = .ok (.aload_n 3, 1) := by decide +kernel
theorem dX9_pumpedWithout_181 : decode cX9_pumpedWithout 181 = .ok (.getfield 76, 3) := by decide +kernel
theorem dX9_pumpedWithout_184 : decode cX9_pumpedWithout 184 = .ok (.iload_n 2, 1) := by decide +kernel
theorem dX9_pumpedWithout_185 : decode cX9_pumpedWithout 185 = .ok (.invokevirtual 89, 3) := by decide +kernel
theorem dX9_pumpedWithout_188 : decode cX9_pumpedWithout 188 = .ok (.checkcast 93, 3) := by decide +kernel
theorem dX9_pumpedWithout_191 : decode cX9_pumpedWithout 191 = .ok (.iconst 1, 1) := by decide +kernel
theorem dX9_pumpedWithout_192 : decode cX9_pumpedWithout 192 = .ok (.putfield 152, 3) := by decide +kernel
theorem dX9_pumpedWithout_195 : decode cX9_pumpedWithout 195 = .ok (.goto (-139), 3) := by decide +kernel
theorem dX9_pumpedWithout_198 : decode cX9_pumpedWithout 198 = .ok (.aload_n 3, 1) := by decide +kernel
theorem dX9_pumpedWithout_199 : decode cX9_pumpedWithout 199 = .ok (.getfield 76, 3) := by decide +kernel
theorem dX9_pumpedWithout_202 : decode cX9_pumpedWithout 202 = .ok (.iload_n 1, 1) := by decide +kernel
theorem dX9_pumpedWithout_203 : decode cX9_pumpedWithout 203 = .ok (.invokevirtual 89, 3) := by decide +kernel
theorem dX9_pumpedWithout_206 : decode cX9_pumpedWithout 206 = .ok (.checkcast 93, 3) := by decide +kernel
theorem dX9_pumpedWithout_209 : decode cX9_pumpedWithout 209 = .ok (.getfield 120, 3) := by decide +kernel
theorem dX9_pumpedWithout_212 : decode cX9_pumpedWithout 212 = .ok (.lreturn, 1) := by decide +kernel
theorem dX9_events_0 : decode cX9_events 0 = .ok (.aload_n 0, 1) := by decide +kernel
theorem dX9_events_1 : decode cX9_events 1 = .ok (.iconst 0, 1) := by decide +kernel
theorem dX9_events_2 : decode cX9_events 2 = .ok (.putfield 23, 3) := by decide +kernel
theorem dX9_events_5 : decode cX9_events 5 = .ok (.aload_n 0, 1) := by decide +kernel
theorem dX9_events_6 : decode cX9_events 6 = .ok (.getfield 10, 3) := by decide +kernel
theorem dX9_events_9 : decode cX9_events 9 = .ok (.getfield 155, 3) := by decide +kernel
theorem dX9_events_12 : decode cX9_events 12 = .ok (.invokevirtual 159, 3) := by decide +kernel
theorem dX9_events_15 : decode cX9_events 15 = .ok (.ireturn, 1) := by decide +kernel
theorem dX9_eventAt_0 : decode cX9_eventAt 0 = .ok (.aload_n 0, 1) := by decide +kernel
theorem dX9_eventAt_1 : decode cX9_eventAt 1 = .ok (.iload_n 1, 1) := by decide +kernel
theorem dX9_eventAt_2 : decode cX9_eventAt 2 = .ok (.iconst 0, 1) := by decide +kernel
theorem dX9_eventAt_3 : decode cX9_eventAt 3 = .ok (.aload_n 0, 1) := by decide +kernel
theorem dX9_eventAt_4 : decode cX9_eventAt 4 = .ok (.getfield 10, 3) := by decide +kernel
theorem dX9_eventAt_7 : decode cX9_eventAt 7 = .ok (.getfield 155, 3) := by decide +kernel
theorem dX9_eventAt_10 : decode cX9_eventAt 10 = .ok (.invokevirtual 159, 3) := by decide +kernel
theorem dX9_eventAt_13 : decode cX9_eventAt 13 = .ok (.iconst 1, 1) := by decide +kernel
theorem dX9_eventAt_14 : decode cX9_eventAt 14 = .ok (.isub, 1) := by decide +kernel
theorem dX9_eventAt_15 : decode cX9_eventAt 15 = .ok (.invokestatic 35, 3) := by decide +kernel
theorem dX9_eventAt_18 : decode cX9_eventAt 18 = .ok (.ifCond .eq 7, 3) := by decide +kernel
theorem dX9_eventAt_21 : decode cX9_eventAt 21 = .ok (.iconst 0, 1) := by decide +kernel
theorem dX9_eventAt_22 : decode cX9_eventAt 22 = .ok (.goto 4, 3) := by decide +kernel
theorem dX9_eventAt_25 : decode cX9_eventAt 25 = .ok (.iconst 1, 1) := by decide +kernel
theorem dX9_eventAt_26 : decode cX9_eventAt 26 = .ok (.invokevirtual 39, 3) := by decide +kernel
theorem dX9_eventAt_29 : decode cX9_eventAt 29 = .ok (.ifCond .eq 7, 3) := by decide +kernel
theorem dX9_eventAt_32 : decode cX9_eventAt 32 = .ok (.iconst 0, 1) := by decide +kernel
theorem dX9_eventAt_33 : decode cX9_eventAt 33 = .ok (.goto 14, 3) := by decide +kernel
theorem dX9_eventAt_36 : decode cX9_eventAt 36 = .ok (.aload_n 0, 1) := by decide +kernel
theorem dX9_eventAt_37 : decode cX9_eventAt 37 = .ok (.getfield 10, 3) := by decide +kernel
theorem dX9_eventAt_40 : decode cX9_eventAt 40 = .ok (.getfield 155, 3) := by decide +kernel
theorem dX9_eventAt_43 : decode cX9_eventAt 43 = .ok (.iload_n 1, 1) := by decide +kernel
theorem dX9_eventAt_44 : decode cX9_eventAt 44 = .ok (.invokevirtual 164, 3) := by decide +kernel
theorem dX9_eventAt_47 : decode cX9_eventAt 47 = .ok (.ireturn, 1) := by decide +kernel
theorem dX9_checksum_0 : decode cX9_checksum 0 = .ok (.aload_n 0, 1) := by decide +kernel
theorem dX9_checksum_1 : decode cX9_checksum 1 = .ok (.iconst 0, 1) := by decide +kernel
theorem dX9_checksum_2 : decode cX9_checksum 2 = .ok (.putfield 23, 3) := by decide +kernel
theorem dX9_checksum_5 : decode cX9_checksum 5 = .ok (.lconst 0, 1) := by decide +kernel
theorem dX9_checksum_6 : decode cX9_checksum 6 = .ok (.lstore_n 1, 1) := by decide +kernel
theorem dX9_checksum_7 : decode cX9_checksum 7 = .ok (.iconst 0, 1) := by decide +kernel
theorem dX9_checksum_8 : decode cX9_checksum 8 = .ok (.istore_n 3, 1) := by decide +kernel
theorem dX9_checksum_9 : decode cX9_checksum 9 = .ok (.iload_n 3, 1) := by decide +kernel
theorem dX9_checksum_10 : decode cX9_checksum 10 = .ok (.bipush 16, 2) := by decide +kernel
theorem dX9_checksum_12 : decode cX9_checksum 12 = .ok (.if_icmp .ge 41, 3) := by decide +kernel
theorem dX9_checksum_15 : decode cX9_checksum 15 = .ok (.ldc2_w 179, 3) := by decide +kernel
theorem dX9_checksum_18 : decode cX9_checksum 18 = .ok (.lload_n 1, 1) := by decide +kernel
theorem dX9_checksum_19 : decode cX9_checksum 19 = .ok (.lmul, 1) := by decide +kernel
theorem dX9_checksum_20 : decode cX9_checksum 20 = .ok (.aload_n 0, 1) := by decide +kernel
theorem dX9_checksum_21 : decode cX9_checksum 21 = .ok (.getfield 10, 3) := by decide +kernel
theorem dX9_checksum_24 : decode cX9_checksum 24 = .ok (.getfield 43, 3) := by decide +kernel
theorem dX9_checksum_27 : decode cX9_checksum 27 = .ok (.iload_n 3, 1) := by decide +kernel
theorem dX9_checksum_28 : decode cX9_checksum 28 = .ok (.iaload, 1) := by decide +kernel
theorem dX9_checksum_29 : decode cX9_checksum 29 = .ok (.i2l, 1) := by decide +kernel
theorem dX9_checksum_30 : decode cX9_checksum 30 = .ok (.ladd, 1) := by decide +kernel
theorem dX9_checksum_31 : decode cX9_checksum 31 = .ok (.ldc2_w 181, 3) := by decide +kernel
theorem dX9_checksum_34 : decode cX9_checksum 34 = .ok (.aload_n 0, 1) := by decide +kernel
theorem dX9_checksum_35 : decode cX9_checksum 35 = .ok (.getfield 10, 3) := by decide +kernel
theorem dX9_checksum_38 : decode cX9_checksum 38 = .ok (.getfield 114, 3) := by decide +kernel
theorem dX9_checksum_41 : decode cX9_checksum 41 = .ok (.iload_n 3, 1) := by decide +kernel
theorem dX9_checksum_42 : decode cX9_checksum 42 = .ok (.iaload, 1) := by decide +kernel
theorem dX9_checksum_43 : decode cX9_checksum 43 = .ok (.i2l, 1) := by decide +kernel
theorem dX9_checksum_44 : decode cX9_checksum 44 = .ok (.lmul, 1) := by decide +kernel
theorem dX9_checksum_45 : decode cX9_checksum 45 = .ok (.ladd, 1) := by decide +kernel
theorem dX9_checksum_46 : decode cX9_checksum 46 = .ok (.lstore_n 1, 1) := by decide +kernel
theorem dX9_checksum_47 : decode cX9_checksum 47 = .ok (.iinc 3 1, 3) := by decide +kernel
theorem dX9_checksum_50 : decode cX9_checksum 50 = .ok (.goto (-41), 3) := by decide +kernel
theorem dX9_checksum_53 : decode cX9_checksum 53 = .ok (.lload_n 1, 1) := by decide +kernel
theorem dX9_checksum_54 : decode cX9_checksum 54 = .ok (.lreturn, 1) := by decide +kernel
theorem dX9_dryShare_0 : decode cX9_dryShare 0 = .ok (.aload_n 0, 1) := by decide +kernel
theorem dX9_dryShare_1 : decode cX9_dryShare 1 = .ok (.iconst 0, 1) := by decide +kernel
theorem dX9_dryShare_2 : decode cX9_dryShare 2 = .ok (.putfield 23, 3) := by decide +kernel
theorem dX9_dryShare_5 : decode cX9_dryShare 5 = .ok (.iconst 0, 1) := by decide +kernel
theorem dX9_dryShare_6 : decode cX9_dryShare 6 = .ok (.istore_n 1, 1) := by decide +kernel
theorem dX9_dryShare_7 : decode cX9_dryShare 7 = .ok (.iconst 0, 1) := by decide +kernel
theorem dX9_dryShare_8 : decode cX9_dryShare 8 = .ok (.istore_n 2, 1) := by decide +kernel
theorem dX9_dryShare_9 : decode cX9_dryShare 9 = .ok (.iload_n 2, 1) := by decide +kernel
theorem dX9_dryShare_10 : decode cX9_dryShare 10 = .ok (.bipush 16, 2) := by decide +kernel
theorem dX9_dryShare_12 : decode cX9_dryShare 12 = .ok (.if_icmp .ge 29, 3) := by decide +kernel
theorem dX9_dryShare_15 : decode cX9_dryShare 15 = .ok (.iload_n 1, 1) := by decide +kernel
theorem dX9_dryShare_16 : decode cX9_dryShare 16 = .ok (.aload_n 0, 1) := by decide +kernel
theorem dX9_dryShare_17 : decode cX9_dryShare 17 = .ok (.getfield 10, 3) := by decide +kernel
theorem dX9_dryShare_20 : decode cX9_dryShare 20 = .ok (.getfield 43, 3) := by decide +kernel
theorem dX9_dryShare_23 : decode cX9_dryShare 23 = .ok (.iload_n 2, 1) := by decide +kernel
theorem dX9_dryShare_24 : decode cX9_dryShare 24 = .ok (.iaload, 1) := by decide +kernel
theorem dX9_dryShare_25 : decode cX9_dryShare 25 = .ok (.ifCond .ne 7, 3) := by decide +kernel
theorem dX9_dryShare_28 : decode cX9_dryShare 28 = .ok (.iconst 1, 1) := by decide +kernel
theorem dX9_dryShare_29 : decode cX9_dryShare 29 = .ok (.goto 4, 3) := by decide +kernel
theorem dX9_dryShare_32 : decode cX9_dryShare 32 = .ok (.iconst 0, 1) := by decide +kernel
theorem dX9_dryShare_33 : decode cX9_dryShare 33 = .ok (.iadd, 1) := by decide +kernel
theorem dX9_dryShare_34 : decode cX9_dryShare 34 = .ok (.istore_n 1, 1) := by decide +kernel
theorem dX9_dryShare_35 : decode cX9_dryShare 35 = .ok (.iinc 2 1, 3) := by decide +kernel
theorem dX9_dryShare_38 : decode cX9_dryShare 38 = .ok (.goto (-29), 3) := by decide +kernel
theorem dX9_dryShare_41 : decode cX9_dryShare 41 = .ok (.iload_n 1, 1) := by decide +kernel
theorem dX9_dryShare_42 : decode cX9_dryShare 42 = .ok (.i2f, 1) := by decide +kernel
theorem dX9_dryShare_43 : decode cX9_dryShare 43 = .ok (.ldc 183, 2) := by decide +kernel
theorem dX9_dryShare_45 : decode cX9_dryShare 45 = .ok (.fdiv, 1) := by decide +kernel
theorem dX9_dryShare_46 : decode cX9_dryShare 46 = .ok (.freturn, 1) := by decide +kernel
theorem dX9_meanLevel_0 : decode cX9_meanLevel 0 = .ok (.aload_n 0, 1) := by decide +kernel
theorem dX9_meanLevel_1 : decode cX9_meanLevel 1 = .ok (.iconst 0, 1) := by decide +kernel
theorem dX9_meanLevel_2 : decode cX9_meanLevel 2 = .ok (.putfield 23, 3) := by decide +kernel
theorem dX9_meanLevel_5 : decode cX9_meanLevel 5 = .ok (.iconst 0, 1) := by decide +kernel
theorem dX9_meanLevel_6 : decode cX9_meanLevel 6 = .ok (.istore_n 1, 1) := by decide +kernel
theorem dX9_meanLevel_7 : decode cX9_meanLevel 7 = .ok (.iconst 0, 1) := by decide +kernel
theorem dX9_meanLevel_8 : decode cX9_meanLevel 8 = .ok (.istore_n 2, 1) := by decide +kernel
theorem dX9_meanLevel_9 : decode cX9_meanLevel 9 = .ok (.iload_n 2, 1) := by decide +kernel
theorem dX9_meanLevel_10 : decode cX9_meanLevel 10 = .ok (.bipush 16, 2) := by decide +kernel
theorem dX9_meanLevel_12 : decode cX9_meanLevel 12 = .ok (.if_icmp .ge 20, 3) := by decide +kernel
theorem dX9_meanLevel_15 : decode cX9_meanLevel 15 = .ok (.iload_n 1, 1) := by decide +kernel
theorem dX9_meanLevel_16 : decode cX9_meanLevel 16 = .ok (.aload_n 0, 1) := by decide +kernel
theorem dX9_meanLevel_17 : decode cX9_meanLevel 17 = .ok (.getfield 10, 3) := by decide +kernel
theorem dX9_meanLevel_20 : decode cX9_meanLevel 20 = .ok (.iload_n 2, 1) := by decide +kernel
theorem dX9_meanLevel_21 : decode cX9_meanLevel 21 = .ok (.invokevirtual 110, 3) := by decide +kernel
theorem dX9_meanLevel_24 : decode cX9_meanLevel 24 = .ok (.iadd, 1) := by decide +kernel
theorem dX9_meanLevel_25 : decode cX9_meanLevel 25 = .ok (.istore_n 1, 1) := by decide +kernel
theorem dX9_meanLevel_26 : decode cX9_meanLevel 26 = .ok (.iinc 2 1, 3) := by decide +kernel
theorem dX9_meanLevel_29 : decode cX9_meanLevel 29 = .ok (.goto (-20), 3) := by decide +kernel
theorem dX9_meanLevel_32 : decode cX9_meanLevel 32 = .ok (.iload_n 1, 1) := by decide +kernel
theorem dX9_meanLevel_33 : decode cX9_meanLevel 33 = .ok (.i2d, 1) := by decide +kernel
theorem dX9_meanLevel_34 : decode cX9_meanLevel 34 = .ok (.ldc2_w 184, 3) := by decide +kernel
theorem dX9_meanLevel_37 : decode cX9_meanLevel 37 = .ok (.ddiv, 1) := by decide +kernel
theorem dX9_meanLevel_38 : decode cX9_meanLevel 38 = .ok (.dreturn, 1) := by decide +kernel
theorem dX9_isSound_0 : decode cX9_isSound 0 = .ok (.aload_n 0, 1) := by decide +kernel
theorem dX9_isSound_1 : decode cX9_isSound 1 = .ok (.iconst 0, 1) := by decide +kernel
theorem dX9_isSound_2 : decode cX9_isSound 2 = .ok (.putfield 23, 3) := by decide +kernel
theorem dX9_isSound_5 : decode cX9_isSound 5 = .ok (.iconst 1, 1) := by decide +kernel
theorem dX9_isSound_6 : decode cX9_isSound 6 = .ok (.ireturn, 1) := by decide +kernel
set_option maxHeartbeats 4000000 in
set_option maxRecDepth 100000 in
/-- reference: pass -/
theorem c_X9_pass (l : Launch) (g : Gm) (m0 : Nat) (b : Nat → Nat) (p0 : Int32) : MXi (S := Int32) l g yX9_pass cX9_pass 2 .int ({ frames := 9, cells := 77, slots := 590, locals := 198 } : Room) [.ref m0, .int p0] [(m0, .inr (9, [.int 0, .ref (b 0), .ref (b 17)])), ((b 17), .inr (8, [.int 0, .ref (g.2.2 0), .int 0])), ((b 0), .inr (10, [.ref (b 1), .ref (b 2), .ref (b 3), .ref (b 4), .ref (b 5), .ref (b 6), .ref (b 7), .ref (b 8), .ref (b 9), .ref (b 10), .ref (b 11), .ref (b 12), .int 0, .int 0, .int (nI 0), .ref (b 13), .ref (b 14), .ref (b 16)])), ((b 1), .inl (g.2.1 0, 16, .inl (fun _ => 0))), ((b 2), .inl (g.2.1 0, 16, .inl (fun _ => 10))), ((b 3), .inl (g.2.1 0, 16, .inl (fun _ => 0))), ((b 4), .inl (g.2.1 0, 16, .inl (fun _ => 0))), ((b 5), .inl (g.2.1 0, 8, .inl (fun _ => 100))), ((b 6), .inl (g.2.1 0, 2, .inl (fun _ => 4))), ((b 7), .inl (g.2.1 0, 8, .inl (fun _ => 0))), ((b 8), .inl (g.2.1 0, 8, .inl (fun _ => 0))), ((b 9), .inl (g.2.1 0, 8, .inl (fun _ => 0))), ((b 10), .inl (g.2.1 0, 8, .inl (fun _ => 0))), ((b 11), .inl (g.2.1 0, 16, .inl (fun _ => 0))), ((b 12), .inl (g.2.1 0, 16, .inl (fun _ => 0))), ((b 13), .inr (8, [.int 0, .ref (g.2.2 0), .int 0])), ((b 16), .inl (g.2.1 1, 26, .inr (.inl (fun _ => 0))))] (fun r u => u = kk_pass p0 ∧ (kk_pass p0 = 0 → r = p0)) (fun u => [(m0, .inr (9, [.int u, .ref (b 0), .ref (b 17)]))]) (fun _ => (74, 567)) := by
  intro sz tt
  refine ofX RX9 rfl (by decide +kernel) (Nat.le_of_ble_eq_true rfl) (fun p e s m args below meth c hargs S hml hr hlk hnm hsz htt hK hA hZ E ls hl => ?_)
  have hx := S.1
  have hb := S.2.1
  have hl : lv_has ls 2 [(0, .ref m0), (1, .int p0)] := hl
  refine lv_aload_n hx hb dX9_pass_0 rfl (lv_at hl 0 rfl) ?_
  refine lv_iload_n hx hb dX9_pass_1 rfl (lv_at hl 1 rfl) ?_
  refine lv_iconst (v := 1) hx hb dX9_pass_2 (by decide) ?_
  refine lv_bipush (v := 24) hx hb dX9_pass_3 (by decide) ?_
  refine w_reti (runS_X (As := [.int p0, .int 1, .int 24]) (rest := [.ref m0]) (n := 3) S hml hK (hZ.at E) (Cut.of (wc := []) (wr := [(m0, .inr (9, [.int 0, .ref (b 0), .ref (b 17)])), ((b 17), .inr (8, [.int 0, .ref (g.2.2 0), .int 0])), ((b 0), .inr (10, [.ref (b 1), .ref (b 2), .ref (b 3), .ref (b 4), .ref (b 5), .ref (b 6), .ref (b 7), .ref (b 8), .ref (b 9), .ref (b 10), .ref (b 11), .ref (b 12), .int 0, .int 0, .int (nI 0), .ref (b 13), .ref (b 14), .ref (b 16)])), ((b 1), .inl (g.2.1 0, 16, .inl (fun _ => 0))), ((b 2), .inl (g.2.1 0, 16, .inl (fun _ => 10))), ((b 3), .inl (g.2.1 0, 16, .inl (fun _ => 0))), ((b 4), .inl (g.2.1 0, 16, .inl (fun _ => 0))), ((b 5), .inl (g.2.1 0, 8, .inl (fun _ => 100))), ((b 6), .inl (g.2.1 0, 2, .inl (fun _ => 4))), ((b 7), .inl (g.2.1 0, 8, .inl (fun _ => 0))), ((b 8), .inl (g.2.1 0, 8, .inl (fun _ => 0))), ((b 9), .inl (g.2.1 0, 8, .inl (fun _ => 0))), ((b 10), .inl (g.2.1 0, 8, .inl (fun _ => 0))), ((b 11), .inl (g.2.1 0, 16, .inl (fun _ => 0))), ((b 12), .inl (g.2.1 0, 16, .inl (fun _ => 0))), ((b 13), .inr (8, [.int 0, .ref (g.2.2 0), .int 0])), ((b 16), .inl (g.2.1 1, 26, .inr (.inl (fun _ => 0))))]) E hA [] [0, 1, 2, 3, 4, 5, 6, 7, 8, 9, 10, 11, 12, 13, 14, 15, 16] rfl rfl rfl rfl (by decide)) (c_X9_in l g p0 1 24 _ _) ml_X9_35 st_X9_in in_X9 co_X9_in ⟨by decide +kernel, by decide +kernel, by decide +kernel⟩ ⟨Nat.le_of_ble_eq_true rfl, Nat.le_of_ble_eq_true rfl⟩ rfl hl.1 rfl (Nat.le_of_ble_eq_true rfl) dX9_pass_5 ⟨Nat.le_of_ble_eq_true rfl, Nat.le_of_ble_eq_true rfl⟩) (Cut.of (wc := []) (wr := [(m0, .inr (9, [.int 0, .ref (b 0), .ref (b 17)])), ((b 17), .inr (8, [.int 0, .ref (g.2.2 0), .int 0])), ((b 0), .inr (10, [.ref (b 1), .ref (b 2), .ref (b 3), .ref (b 4), .ref (b 5), .ref (b 6), .ref (b 7), .ref (b 8), .ref (b 9), .ref (b 10), .ref (b 11), .ref (b 12), .int 0, .int 0, .int (nI 0), .ref (b 13), .ref (b 14), .ref (b 16)])), ((b 1), .inl (g.2.1 0, 16, .inl (fun _ => 0))), ((b 2), .inl (g.2.1 0, 16, .inl (fun _ => 10))), ((b 3), .inl (g.2.1 0, 16, .inl (fun _ => 0))), ((b 4), .inl (g.2.1 0, 16, .inl (fun _ => 0))), ((b 5), .inl (g.2.1 0, 8, .inl (fun _ => 100))), ((b 6), .inl (g.2.1 0, 2, .inl (fun _ => 4))), ((b 7), .inl (g.2.1 0, 8, .inl (fun _ => 0))), ((b 8), .inl (g.2.1 0, 8, .inl (fun _ => 0))), ((b 9), .inl (g.2.1 0, 8, .inl (fun _ => 0))), ((b 10), .inl (g.2.1 0, 8, .inl (fun _ => 0))), ((b 11), .inl (g.2.1 0, 16, .inl (fun _ => 0))), ((b 12), .inl (g.2.1 0, 16, .inl (fun _ => 0))), ((b 13), .inr (8, [.int 0, .ref (g.2.2 0), .int 0])), ((b 16), .inl (g.2.1 1, 26, .inr (.inl (fun _ => 0))))]) E hA [] [0, 1, 2, 3, 4, 5, 6, 7, 8, 9, 10, 11, 12, 13, 14, 15, 16] rfl rfl rfl rfl (by decide)) E (fun r1 u1 H locs hp E => ?_)
  have E : Ev g _ s.heap H locs [(m0, .inr (9, [.int 0, .ref (b 0), .ref (b 17)])), ((b 17), .inr (8, [.int 0, .ref (g.2.2 0), .int 0])), ((b 0), .inr (10, [.ref (b 1), .ref (b 2), .ref (b 3), .ref (b 4), .ref (b 5), .ref (b 6), .ref (b 7), .ref (b 8), .ref (b 9), .ref (b 10), .ref (b 11), .ref (b 12), .int 0, .int 0, .int (nI 0), .ref (b 13), .ref (b 14), .ref (b 16)])), ((b 1), .inl (g.2.1 0, 16, .inl (fun _ => 0))), ((b 2), .inl (g.2.1 0, 16, .inl (fun _ => 10))), ((b 3), .inl (g.2.1 0, 16, .inl (fun _ => 0))), ((b 4), .inl (g.2.1 0, 16, .inl (fun _ => 0))), ((b 5), .inl (g.2.1 0, 8, .inl (fun _ => 100))), ((b 6), .inl (g.2.1 0, 2, .inl (fun _ => 4))), ((b 7), .inl (g.2.1 0, 8, .inl (fun _ => 0))), ((b 8), .inl (g.2.1 0, 8, .inl (fun _ => 0))), ((b 9), .inl (g.2.1 0, 8, .inl (fun _ => 0))), ((b 10), .inl (g.2.1 0, 8, .inl (fun _ => 0))), ((b 11), .inl (g.2.1 0, 16, .inl (fun _ => 0))), ((b 12), .inl (g.2.1 0, 16, .inl (fun _ => 0))), ((b 13), .inr (8, [.int 0, .ref (g.2.2 0), .int 0])), ((b 16), .inl (g.2.1 1, 26, .inr (.inl (fun _ => 0))))] := E
  rcases hp with ⟨rfl, hR1⟩ | ⟨rfl, hR1⟩
  · skip
    obtain ⟨mm, hm, rfl⟩ := rg24 hR1
    refine lv_if_ne (tgt := 15) hx hb dX9_pass_8 (by decide) (fun _ => ?_) (fun c_ => absurd c_ (show ¬ ((1 : Int32) = 0) by decide))
    refine lv_aload_n hx hb dX9_pass_15 rfl (lv_at hl 0 rfl) ?_
    refine wg_X9_10 (v := .ref (b 0)) S hK E 0 rfl rfl dX9_pass_16 ?_
    refine wg_X9_104 (v := .int (nI 0)) S hZ.2.2.2.2.2.2.1 hK E 2 rfl rfl dX9_pass_19 ?_
    refine lv_iload_n hx hb dX9_pass_22 rfl (lv_at hl 1 rfl) ?_
    refine k_iadd (v := (nI (0 + mm))) hx hb (nI_add 0 mm) dX9_pass_23 ?_
    refine lv_sipush (v := 600) hx hb dX9_pass_24 (by decide) ?_
    refine lv_icmp_le (tgt := 34) hx hb dX9_pass_27 (by decide) (fun _ => ?_) (fun c_ => absurd ((nI_leI (a := 0 + mm) (b := 600) (by omega) (by decide)).mpr (by omega)) c_)
    refine lv_iconst (v := 0) hx hb dX9_pass_34 (by decide) ?_
    refine w_reti (runV_X (As := [.int 0]) (rest := []) (q0 := 0) (n := 1) S hml hK (hZ.at E) (Cut.of (wc := [(m0, .inr (9, [.int 0, .ref (b 0), .ref (b 17)]))]) (wr := [((b 17), .inr (8, [.int 0, .ref (g.2.2 0), .int 0])), ((b 0), .inr (10, [.ref (b 1), .ref (b 2), .ref (b 3), .ref (b 4), .ref (b 5), .ref (b 6), .ref (b 7), .ref (b 8), .ref (b 9), .ref (b 10), .ref (b 11), .ref (b 12), .int 0, .int 0, .int (nI 0), .ref (b 13), .ref (b 14), .ref (b 16)])), ((b 1), .inl (g.2.1 0, 16, .inl (fun _ => 0))), ((b 2), .inl (g.2.1 0, 16, .inl (fun _ => 10))), ((b 3), .inl (g.2.1 0, 16, .inl (fun _ => 0))), ((b 4), .inl (g.2.1 0, 16, .inl (fun _ => 0))), ((b 5), .inl (g.2.1 0, 8, .inl (fun _ => 100))), ((b 6), .inl (g.2.1 0, 2, .inl (fun _ => 4))), ((b 7), .inl (g.2.1 0, 8, .inl (fun _ => 0))), ((b 8), .inl (g.2.1 0, 8, .inl (fun _ => 0))), ((b 9), .inl (g.2.1 0, 8, .inl (fun _ => 0))), ((b 10), .inl (g.2.1 0, 8, .inl (fun _ => 0))), ((b 11), .inl (g.2.1 0, 16, .inl (fun _ => 0))), ((b 12), .inl (g.2.1 0, 16, .inl (fun _ => 0))), ((b 13), .inr (8, [.int 0, .ref (g.2.2 0), .int 0])), ((b 16), .inl (g.2.1 1, 26, .inr (.inl (fun _ => 0))))]) E hA [0] [1, 2, 3, 4, 5, 6, 7, 8, 9, 10, 11, 12, 13, 14, 15, 16] rfl rfl rfl rfl (by decide)) (c_X9_fails l g m0 b 0 0 _ _) (gi_wsV ml_X9_39 im_X9_fails sl_X9_fails in_X9 co_X9_fails) ⟨rfl, by decide +kernel, by decide +kernel, by decide +kernel⟩ ⟨Nat.le_of_ble_eq_true rfl, Nat.le_of_ble_eq_true rfl⟩ rfl rfl rfl hl.1 rfl (Nat.le_of_ble_eq_true rfl) dX9_pass_35 ⟨Nat.le_of_ble_eq_true rfl, Nat.le_of_ble_eq_true rfl⟩) (Cut.of (wc := [(m0, .inr (9, [.int 0, .ref (b 0), .ref (b 17)]))]) (wr := [((b 17), .inr (8, [.int 0, .ref (g.2.2 0), .int 0])), ((b 0), .inr (10, [.ref (b 1), .ref (b 2), .ref (b 3), .ref (b 4), .ref (b 5), .ref (b 6), .ref (b 7), .ref (b 8), .ref (b 9), .ref (b 10), .ref (b 11), .ref (b 12), .int 0, .int 0, .int (nI 0), .ref (b 13), .ref (b 14), .ref (b 16)])), ((b 1), .inl (g.2.1 0, 16, .inl (fun _ => 0))), ((b 2), .inl (g.2.1 0, 16, .inl (fun _ => 10))), ((b 3), .inl (g.2.1 0, 16, .inl (fun _ => 0))), ((b 4), .inl (g.2.1 0, 16, .inl (fun _ => 0))), ((b 5), .inl (g.2.1 0, 8, .inl (fun _ => 100))), ((b 6), .inl (g.2.1 0, 2, .inl (fun _ => 4))), ((b 7), .inl (g.2.1 0, 8, .inl (fun _ => 0))), ((b 8), .inl (g.2.1 0, 8, .inl (fun _ => 0))), ((b 9), .inl (g.2.1 0, 8, .inl (fun _ => 0))), ((b 10), .inl (g.2.1 0, 8, .inl (fun _ => 0))), ((b 11), .inl (g.2.1 0, 16, .inl (fun _ => 0))), ((b 12), .inl (g.2.1 0, 16, .inl (fun _ => 0))), ((b 13), .inr (8, [.int 0, .ref (g.2.2 0), .int 0])), ((b 16), .inl (g.2.1 1, 26, .inr (.inl (fun _ => 0))))]) E hA [0] [1, 2, 3, 4, 5, 6, 7, 8, 9, 10, 11, 12, 13, 14, 15, 16] rfl rfl rfl rfl (by decide)) E (fun r2 u2 H locs hp E => ?_)
    have E : Ev g _ s.heap H locs [((b 17), .inr (8, [.int 0, .ref (g.2.2 0), .int 0])), ((b 0), .inr (10, [.ref (b 1), .ref (b 2), .ref (b 3), .ref (b 4), .ref (b 5), .ref (b 6), .ref (b 7), .ref (b 8), .ref (b 9), .ref (b 10), .ref (b 11), .ref (b 12), .int 0, .int 0, .int (nI 0), .ref (b 13), .ref (b 14), .ref (b 16)])), ((b 1), .inl (g.2.1 0, 16, .inl (fun _ => 0))), ((b 2), .inl (g.2.1 0, 16, .inl (fun _ => 10))), ((b 3), .inl (g.2.1 0, 16, .inl (fun _ => 0))), ((b 4), .inl (g.2.1 0, 16, .inl (fun _ => 0))), ((b 5), .inl (g.2.1 0, 8, .inl (fun _ => 100))), ((b 6), .inl (g.2.1 0, 2, .inl (fun _ => 4))), ((b 7), .inl (g.2.1 0, 8, .inl (fun _ => 0))), ((b 8), .inl (g.2.1 0, 8, .inl (fun _ => 0))), ((b 9), .inl (g.2.1 0, 8, .inl (fun _ => 0))), ((b 10), .inl (g.2.1 0, 8, .inl (fun _ => 0))), ((b 11), .inl (g.2.1 0, 16, .inl (fun _ => 0))), ((b 12), .inl (g.2.1 0, 16, .inl (fun _ => 0))), ((b 13), .inr (8, [.int 0, .ref (g.2.2 0), .int 0])), ((b 16), .inl (g.2.1 1, 26, .inr (.inl (fun _ => 0)))), (m0, .inr (9, [.int 0, .ref (b 0), .ref (b 17)]))] := E
    obtain ⟨rfl, -⟩ := hp.resolve_left (fun z => z.2 (by decide))
    refine lv_if_eq (tgt := 43) hx hb dX9_pass_38 (by decide) (fun _ => ?_) (fun c_ => absurd (show (0 : Int32) = 0 by decide) c_)
    refine lv_aload_n hx hb dX9_pass_43 rfl (lv_at hl 0 rfl) ?_
    refine lv_bipush (v := 112) hx hb dX9_pass_44 (by decide) ?_
    refine lv_iload_n hx hb dX9_pass_46 rfl (lv_at hl 1 rfl) ?_
    refine lv_iconst (v := 0) hx hb dX9_pass_47 (by decide) ?_
    refine lv_iconst (v := 0) hx hb dX9_pass_48 (by decide) ?_
    refine lv_iconst (v := 0) hx hb dX9_pass_49 (by decide) ?_
    refine w_retv (runV_X (As := [.int 112, .int (nI mm), .int 0, .int 0, .int 0]) (rest := []) (q0 := 0) (n := 5) S hml hK (hZ.at E) (Cut.of (wc := [(m0, .inr (9, [.int 0, .ref (b 0), .ref (b 17)])), ((b 17), .inr (8, [.int 0, .ref (g.2.2 0), .int 0])), ((b 0), .inr (10, [.ref (b 1), .ref (b 2), .ref (b 3), .ref (b 4), .ref (b 5), .ref (b 6), .ref (b 7), .ref (b 8), .ref (b 9), .ref (b 10), .ref (b 11), .ref (b 12), .int 0, .int 0, .int (nI 0), .ref (b 13), .ref (b 14), .ref (b 16)])), ((b 1), .inl (g.2.1 0, 16, .inl (fun _ => 0))), ((b 2), .inl (g.2.1 0, 16, .inl (fun _ => 10))), ((b 3), .inl (g.2.1 0, 16, .inl (fun _ => 0))), ((b 4), .inl (g.2.1 0, 16, .inl (fun _ => 0))), ((b 5), .inl (g.2.1 0, 8, .inl (fun _ => 100))), ((b 6), .inl (g.2.1 0, 2, .inl (fun _ => 4))), ((b 7), .inl (g.2.1 0, 8, .inl (fun _ => 0))), ((b 8), .inl (g.2.1 0, 8, .inl (fun _ => 0))), ((b 9), .inl (g.2.1 0, 8, .inl (fun _ => 0))), ((b 10), .inl (g.2.1 0, 8, .inl (fun _ => 0))), ((b 11), .inl (g.2.1 0, 16, .inl (fun _ => 0))), ((b 12), .inl (g.2.1 0, 16, .inl (fun _ => 0))), ((b 13), .inr (8, [.int 0, .ref (g.2.2 0), .int 0])), ((b 16), .inl (g.2.1 1, 26, .inr (.inl (fun _ => 0))))]) (wr := []) E hA [16, 0, 1, 2, 3, 4, 5, 6, 7, 8, 9, 10, 11, 12, 13, 14, 15] [] rfl rfl rfl rfl (by decide)) (c_ac112 l g m0 b 0 mm (by omega) _ _) (gi_wsV ml_X9_47 im_X9_act sl_X9_act in_X9 co_X9_act) ⟨rfl, by decide +kernel, by decide +kernel, by decide +kernel⟩ ⟨Nat.le_of_ble_eq_true rfl, Nat.le_of_ble_eq_true rfl⟩ rfl rfl rfl hl.1 rfl (Nat.le_of_ble_eq_true rfl) dX9_pass_50 ⟨Nat.le_of_ble_eq_true rfl, Nat.le_of_ble_eq_true rfl⟩) (Cut.of (wc := [(m0, .inr (9, [.int 0, .ref (b 0), .ref (b 17)])), ((b 17), .inr (8, [.int 0, .ref (g.2.2 0), .int 0])), ((b 0), .inr (10, [.ref (b 1), .ref (b 2), .ref (b 3), .ref (b 4), .ref (b 5), .ref (b 6), .ref (b 7), .ref (b 8), .ref (b 9), .ref (b 10), .ref (b 11), .ref (b 12), .int 0, .int 0, .int (nI 0), .ref (b 13), .ref (b 14), .ref (b 16)])), ((b 1), .inl (g.2.1 0, 16, .inl (fun _ => 0))), ((b 2), .inl (g.2.1 0, 16, .inl (fun _ => 10))), ((b 3), .inl (g.2.1 0, 16, .inl (fun _ => 0))), ((b 4), .inl (g.2.1 0, 16, .inl (fun _ => 0))), ((b 5), .inl (g.2.1 0, 8, .inl (fun _ => 100))), ((b 6), .inl (g.2.1 0, 2, .inl (fun _ => 4))), ((b 7), .inl (g.2.1 0, 8, .inl (fun _ => 0))), ((b 8), .inl (g.2.1 0, 8, .inl (fun _ => 0))), ((b 9), .inl (g.2.1 0, 8, .inl (fun _ => 0))), ((b 10), .inl (g.2.1 0, 8, .inl (fun _ => 0))), ((b 11), .inl (g.2.1 0, 16, .inl (fun _ => 0))), ((b 12), .inl (g.2.1 0, 16, .inl (fun _ => 0))), ((b 13), .inr (8, [.int 0, .ref (g.2.2 0), .int 0])), ((b 16), .inl (g.2.1 1, 26, .inr (.inl (fun _ => 0))))]) (wr := []) E hA [16, 0, 1, 2, 3, 4, 5, 6, 7, 8, 9, 10, 11, 12, 13, 14, 15] [] rfl rfl rfl rfl (by decide)) E (fun u3 H locs hp E => ?_)
    have E : Ev g _ s.heap H locs [(m0, .inr (9, [.int 0, .ref (b 0), .ref (b 17)])), ((b 0), .inr (10, [.ref (b 1), .ref (b 2), .ref (b 3), .ref (b 4), .ref (b 5), .ref (b 6), .ref (b 7), .ref (b 8), .ref (b 9), .ref (b 10), .ref (b 11), .ref (b 12), .int 0, .int 0, .int (nI mm), .ref (b 13), .ref (b 14), .ref (b 16)]))] := E
    refine lv_aload_n hx hb dX9_pass_53 rfl (lv_at hl 0 rfl) ?_
    refine wg_X9_10 (v := .ref (b 0)) S hK E 0 rfl rfl dX9_pass_54 ?_
    refine wg_X9_104 (v := .int (nI mm)) S hZ.2.2.2.2.2.2.1 hK E 1 rfl rfl dX9_pass_57 ?_
    have hKK : (0 : Int32) = kk_pass (nI mm) := (by unfold kk_pass; rw [if_pos hR1])
    have E : Ev g _ s.heap H locs [(m0, .inr (9, [.int 0, .ref (b 0), .ref (b 17)]))] := Ev.sub E [0] rfl rfl
    exact x_iret 0 S hr hlk hsz htt hK E dX9_pass_60 ⟨hKK, fun _ => rfl⟩ rfl ⟨Nat.le_of_ble_eq_true rfl, Nat.le_of_ble_eq_true rfl⟩ ⟨Nat.le_of_ble_eq_true rfl, Nat.le_of_ble_eq_true rfl⟩
  · skip
    refine lv_if_ne (tgt := 15) hx hb dX9_pass_8 (by decide) (fun c_ => absurd (show (0 : Int32) = 0 by decide) c_) (fun _ => ?_)
    refine lv_iconst (v := 1) hx hb dX9_pass_11 (by decide) ?_
    refine lv_goto (tgt := 35) hx hb dX9_pass_12 (by decide) ?_
    refine w_reti (runV_X (As := [.int 1]) (rest := []) (q0 := 0) (n := 1) S hml hK (hZ.at E) (Cut.of (wc := [(m0, .inr (9, [.int 0, .ref (b 0), .ref (b 17)]))]) (wr := [((b 17), .inr (8, [.int 0, .ref (g.2.2 0), .int 0])), ((b 0), .inr (10, [.ref (b 1), .ref (b 2), .ref (b 3), .ref (b 4), .ref (b 5), .ref (b 6), .ref (b 7), .ref (b 8), .ref (b 9), .ref (b 10), .ref (b 11), .ref (b 12), .int 0, .int 0, .int (nI 0), .ref (b 13), .ref (b 14), .ref (b 16)])), ((b 1), .inl (g.2.1 0, 16, .inl (fun _ => 0))), ((b 2), .inl (g.2.1 0, 16, .inl (fun _ => 10))), ((b 3), .inl (g.2.1 0, 16, .inl (fun _ => 0))), ((b 4), .inl (g.2.1 0, 16, .inl (fun _ => 0))), ((b 5), .inl (g.2.1 0, 8, .inl (fun _ => 100))), ((b 6), .inl (g.2.1 0, 2, .inl (fun _ => 4))), ((b 7), .inl (g.2.1 0, 8, .inl (fun _ => 0))), ((b 8), .inl (g.2.1 0, 8, .inl (fun _ => 0))), ((b 9), .inl (g.2.1 0, 8, .inl (fun _ => 0))), ((b 10), .inl (g.2.1 0, 8, .inl (fun _ => 0))), ((b 11), .inl (g.2.1 0, 16, .inl (fun _ => 0))), ((b 12), .inl (g.2.1 0, 16, .inl (fun _ => 0))), ((b 13), .inr (8, [.int 0, .ref (g.2.2 0), .int 0])), ((b 16), .inl (g.2.1 1, 26, .inr (.inl (fun _ => 0))))]) E hA [0] [1, 2, 3, 4, 5, 6, 7, 8, 9, 10, 11, 12, 13, 14, 15, 16] rfl rfl rfl rfl (by decide)) (c_X9_fails l g m0 b 0 1 _ _) (gi_wsV ml_X9_39 im_X9_fails sl_X9_fails in_X9 co_X9_fails) ⟨rfl, by decide +kernel, by decide +kernel, by decide +kernel⟩ ⟨Nat.le_of_ble_eq_true rfl, Nat.le_of_ble_eq_true rfl⟩ rfl rfl rfl hl.1 rfl (Nat.le_of_ble_eq_true rfl) dX9_pass_35 ⟨Nat.le_of_ble_eq_true rfl, Nat.le_of_ble_eq_true rfl⟩) (Cut.of (wc := [(m0, .inr (9, [.int 0, .ref (b 0), .ref (b 17)]))]) (wr := [((b 17), .inr (8, [.int 0, .ref (g.2.2 0), .int 0])), ((b 0), .inr (10, [.ref (b 1), .ref (b 2), .ref (b 3), .ref (b 4), .ref (b 5), .ref (b 6), .ref (b 7), .ref (b 8), .ref (b 9), .ref (b 10), .ref (b 11), .ref (b 12), .int 0, .int 0, .int (nI 0), .ref (b 13), .ref (b 14), .ref (b 16)])), ((b 1), .inl (g.2.1 0, 16, .inl (fun _ => 0))), ((b 2), .inl (g.2.1 0, 16, .inl (fun _ => 10))), ((b 3), .inl (g.2.1 0, 16, .inl (fun _ => 0))), ((b 4), .inl (g.2.1 0, 16, .inl (fun _ => 0))), ((b 5), .inl (g.2.1 0, 8, .inl (fun _ => 100))), ((b 6), .inl (g.2.1 0, 2, .inl (fun _ => 4))), ((b 7), .inl (g.2.1 0, 8, .inl (fun _ => 0))), ((b 8), .inl (g.2.1 0, 8, .inl (fun _ => 0))), ((b 9), .inl (g.2.1 0, 8, .inl (fun _ => 0))), ((b 10), .inl (g.2.1 0, 8, .inl (fun _ => 0))), ((b 11), .inl (g.2.1 0, 16, .inl (fun _ => 0))), ((b 12), .inl (g.2.1 0, 16, .inl (fun _ => 0))), ((b 13), .inr (8, [.int 0, .ref (g.2.2 0), .int 0])), ((b 16), .inl (g.2.1 1, 26, .inr (.inl (fun _ => 0))))]) E hA [0] [1, 2, 3, 4, 5, 6, 7, 8, 9, 10, 11, 12, 13, 14, 15, 16] rfl rfl rfl rfl (by decide)) E (fun r4 u4 H locs hp E => ?_)
    have E : Ev g _ s.heap H locs [((b 17), .inr (8, [.int 0, .ref (g.2.2 0), .int 0])), ((b 0), .inr (10, [.ref (b 1), .ref (b 2), .ref (b 3), .ref (b 4), .ref (b 5), .ref (b 6), .ref (b 7), .ref (b 8), .ref (b 9), .ref (b 10), .ref (b 11), .ref (b 12), .int 0, .int 0, .int (nI 0), .ref (b 13), .ref (b 14), .ref (b 16)])), ((b 1), .inl (g.2.1 0, 16, .inl (fun _ => 0))), ((b 2), .inl (g.2.1 0, 16, .inl (fun _ => 10))), ((b 3), .inl (g.2.1 0, 16, .inl (fun _ => 0))), ((b 4), .inl (g.2.1 0, 16, .inl (fun _ => 0))), ((b 5), .inl (g.2.1 0, 8, .inl (fun _ => 100))), ((b 6), .inl (g.2.1 0, 2, .inl (fun _ => 4))), ((b 7), .inl (g.2.1 0, 8, .inl (fun _ => 0))), ((b 8), .inl (g.2.1 0, 8, .inl (fun _ => 0))), ((b 9), .inl (g.2.1 0, 8, .inl (fun _ => 0))), ((b 10), .inl (g.2.1 0, 8, .inl (fun _ => 0))), ((b 11), .inl (g.2.1 0, 16, .inl (fun _ => 0))), ((b 12), .inl (g.2.1 0, 16, .inl (fun _ => 0))), ((b 13), .inr (8, [.int 0, .ref (g.2.2 0), .int 0])), ((b 16), .inl (g.2.1 1, 26, .inr (.inl (fun _ => 0)))), (m0, .inr (9, [.int 1, .ref (b 0), .ref (b 17)]))] := E
    obtain ⟨rfl, -⟩ := hp.resolve_right (fun z => absurd z.2 (by decide))
    refine lv_if_eq (tgt := 43) hx hb dX9_pass_38 (by decide) (fun c_ => absurd c_ (show ¬ ((1 : Int32) = 0) by decide)) (fun _ => ?_)
    refine lv_iconst (v := 0) hx hb dX9_pass_41 (by decide) ?_
    have hKK : (1 : Int32) = kk_pass p0 := (by unfold kk_pass; rw [if_neg (fun z => hR1 z)])
    have E : Ev g _ s.heap H locs [(m0, .inr (9, [.int 1, .ref (b 0), .ref (b 17)]))] := Ev.sub E [16] rfl rfl
    exact x_iret 1 S hr hlk hsz htt hK E dX9_pass_42 ⟨hKK, fun z => absurd (hKK.trans z) (by decide)⟩ rfl ⟨Nat.le_of_ble_eq_true rfl, Nat.le_of_ble_eq_true rfl⟩ ⟨Nat.le_of_ble_eq_true rfl, Nat.le_of_ble_eq_true rfl⟩

def kk_cell (p0 : Int32) : Int32 := if rgOK p0 0 15 then 0 else 1
set_option maxHeartbeats 4000000 in
set_option maxRecDepth 100000 in
/-- reference: level -/
theorem c_X9_level (l : Launch) (g : Gm) (m0 : Nat) (b : Nat → Nat) (p0 : Int32) : MXi (S := Int32) l g yX9_level cX9_level 2 .int ({ frames := 2, cells := 0, slots := 0, locals := 43 } : Room) [.ref m0, .int p0] [(m0, .inr (9, [.int 0, .ref (b 0), .ref (b 17)])), ((b 0), .inr (10, [.ref (b 1), .ref (b 2), .ref (b 3), .ref (b 4), .ref (b 5), .ref (b 6), .ref (b 7), .ref (b 8), .ref (b 9), .ref (b 10), .ref (b 11), .ref (b 12), .int 0, .int 0, .int (nI 0), .ref (b 13), .ref (b 14), .ref (b 16)])), ((b 1), .inl (g.2.1 0, 16, .inl (fun _ => 0))), ((b 2), .inl (g.2.1 0, 16, .inl (fun _ => 10))), ((b 3), .inl (g.2.1 0, 16, .inl (fun _ => 0)))] (fun r u => u = kk_cell p0 ∧ r = 0) (fun u => [(m0, .inr (9, [.int u, .ref (b 0), .ref (b 17)]))]) (fun _ => (0, 0)) := by
  intro sz tt
  refine ofX RX9 rfl (by decide +kernel) (Nat.le_of_ble_eq_true rfl) (fun p e s m args below meth c hargs S hml hr hlk hnm hsz htt hK hA hZ E ls hl => ?_)
  have hx := S.1
  have hb := S.2.1
  have hl : lv_has ls 2 [(0, .ref m0), (1, .int p0)] := hl
  refine lv_aload_n hx hb dX9_level_0 rfl (lv_at hl 0 rfl) ?_
  refine lv_iload_n hx hb dX9_level_1 rfl (lv_at hl 1 rfl) ?_
  refine w_reti (runV_X (As := [.int p0]) (rest := []) (q0 := 0) (n := 1) S hml hK (hZ.at E) (Cut.of (wc := [(m0, .inr (9, [.int 0, .ref (b 0), .ref (b 17)]))]) (wr := [((b 0), .inr (10, [.ref (b 1), .ref (b 2), .ref (b 3), .ref (b 4), .ref (b 5), .ref (b 6), .ref (b 7), .ref (b 8), .ref (b 9), .ref (b 10), .ref (b 11), .ref (b 12), .int 0, .int 0, .int (nI 0), .ref (b 13), .ref (b 14), .ref (b 16)])), ((b 1), .inl (g.2.1 0, 16, .inl (fun _ => 0))), ((b 2), .inl (g.2.1 0, 16, .inl (fun _ => 10))), ((b 3), .inl (g.2.1 0, 16, .inl (fun _ => 0)))]) E hA [0] [1, 2, 3, 4] rfl rfl rfl rfl (by decide)) (c_X9_failsCell l g m0 b 0 p0 _ _) (gi_wsV ml_X9_107 im_X9_failsCell sl_X9_failsCell in_X9 co_X9_failsCell) ⟨rfl, by decide +kernel, by decide +kernel, by decide +kernel⟩ ⟨Nat.le_of_ble_eq_true rfl, Nat.le_of_ble_eq_true rfl⟩ rfl rfl rfl hl.1 rfl (Nat.le_of_ble_eq_true rfl) dX9_level_2 ⟨Nat.le_of_ble_eq_true rfl, Nat.le_of_ble_eq_true rfl⟩) (Cut.of (wc := [(m0, .inr (9, [.int 0, .ref (b 0), .ref (b 17)]))]) (wr := [((b 0), .inr (10, [.ref (b 1), .ref (b 2), .ref (b 3), .ref (b 4), .ref (b 5), .ref (b 6), .ref (b 7), .ref (b 8), .ref (b 9), .ref (b 10), .ref (b 11), .ref (b 12), .int 0, .int 0, .int (nI 0), .ref (b 13), .ref (b 14), .ref (b 16)])), ((b 1), .inl (g.2.1 0, 16, .inl (fun _ => 0))), ((b 2), .inl (g.2.1 0, 16, .inl (fun _ => 10))), ((b 3), .inl (g.2.1 0, 16, .inl (fun _ => 0)))]) E hA [0] [1, 2, 3, 4] rfl rfl rfl rfl (by decide)) E (fun r1 u1 H locs hp E => ?_)
  have E : Ev g _ s.heap H locs [((b 0), .inr (10, [.ref (b 1), .ref (b 2), .ref (b 3), .ref (b 4), .ref (b 5), .ref (b 6), .ref (b 7), .ref (b 8), .ref (b 9), .ref (b 10), .ref (b 11), .ref (b 12), .int 0, .int 0, .int (nI 0), .ref (b 13), .ref (b 14), .ref (b 16)])), ((b 1), .inl (g.2.1 0, 16, .inl (fun _ => 0))), ((b 2), .inl (g.2.1 0, 16, .inl (fun _ => 10))), ((b 3), .inl (g.2.1 0, 16, .inl (fun _ => 0))), (m0, .inr (9, [.int u1, .ref (b 0), .ref (b 17)]))] := E
  rcases hp with ⟨rfl, rfl, hR2⟩ | ⟨rfl, rfl, hR2⟩
  · skip
    refine lv_if_eq (tgt := 12) hx hb dX9_level_5 (by decide) (fun _ => ?_) (fun c_ => absurd (show (0 : Int32) = 0 by decide) c_)
    refine lv_aload_n hx hb dX9_level_12 rfl (lv_at hl 0 rfl) ?_
    refine wg_X9_10 (v := .ref (b 0)) S hK E 4 rfl rfl dX9_level_13 ?_
    refine lv_iload_n hx hb dX9_level_16 rfl (lv_at hl 1 rfl) ?_
    refine w_reti (runV_X (As := [.int p0]) (rest := []) (q0 := 0) (n := 1) S hml hK (hZ.at E) (Cut.of (wc := [((b 0), .inr (10, [.ref (b 1), .ref (b 2), .ref (b 3), .ref (b 4), .ref (b 5), .ref (b 6), .ref (b 7), .ref (b 8), .ref (b 9), .ref (b 10), .ref (b 11), .ref (b 12), .int 0, .int 0, .int (nI 0), .ref (b 13), .ref (b 14), .ref (b 16)])), ((b 1), .inl (g.2.1 0, 16, .inl (fun _ => 0))), ((b 2), .inl (g.2.1 0, 16, .inl (fun _ => 10))), ((b 3), .inl (g.2.1 0, 16, .inl (fun _ => 0)))]) (wr := [(m0, .inr (9, [.int 0, .ref (b 0), .ref (b 17)]))]) E hA [0, 1, 2, 3] [4] rfl rfl rfl rfl (by decide)) (c_X7_level l g b 0 p0 (rg_in 15 (by decide) (by decide) (by decide) hR2) _ _) (gi_wsV ml_X9_110 im_X7_level sl_X7_level in_X7 co_X7_level) ⟨rfl, by decide +kernel, by decide +kernel, by decide +kernel⟩ ⟨Nat.le_of_ble_eq_true rfl, Nat.le_of_ble_eq_true rfl⟩ rfl rfl rfl hl.1 rfl (Nat.le_of_ble_eq_true rfl) dX9_level_17 ⟨Nat.le_of_ble_eq_true rfl, Nat.le_of_ble_eq_true rfl⟩) (Cut.of (wc := [((b 0), .inr (10, [.ref (b 1), .ref (b 2), .ref (b 3), .ref (b 4), .ref (b 5), .ref (b 6), .ref (b 7), .ref (b 8), .ref (b 9), .ref (b 10), .ref (b 11), .ref (b 12), .int 0, .int 0, .int (nI 0), .ref (b 13), .ref (b 14), .ref (b 16)])), ((b 1), .inl (g.2.1 0, 16, .inl (fun _ => 0))), ((b 2), .inl (g.2.1 0, 16, .inl (fun _ => 10))), ((b 3), .inl (g.2.1 0, 16, .inl (fun _ => 0)))]) (wr := [(m0, .inr (9, [.int 0, .ref (b 0), .ref (b 17)]))]) E hA [0, 1, 2, 3] [4] rfl rfl rfl rfl (by decide)) E (fun r3 u3 H locs hp E => ?_)
    have E : Ev g _ s.heap H locs [(m0, .inr (9, [.int 0, .ref (b 0), .ref (b 17)])), ((b 0), .inr (10, [.ref (b 1), .ref (b 2), .ref (b 3), .ref (b 4), .ref (b 5), .ref (b 6), .ref (b 7), .ref (b 8), .ref (b 9), .ref (b 10), .ref (b 11), .ref (b 12), .int 0, .int 0, .int (nI 0), .ref (b 13), .ref (b 14), .ref (b 16)])), ((b 1), .inl (g.2.1 0, 16, .inl (fun _ => 0))), ((b 2), .inl (g.2.1 0, 16, .inl (fun _ => 10))), ((b 3), .inl (g.2.1 0, 16, .inl (fun _ => 0)))] := E
    subst hp
    have E : Ev g _ s.heap H locs [(m0, .inr (9, [.int 0, .ref (b 0), .ref (b 17)]))] := Ev.sub E [0] rfl rfl
    exact x_iret 0 S hr hlk hsz htt hK E dX9_level_20 ⟨(by unfold kk_cell; rw [if_pos hR2]), rfl⟩ rfl ⟨Nat.le_of_ble_eq_true rfl, Nat.le_of_ble_eq_true rfl⟩ ⟨Nat.le_of_ble_eq_true rfl, Nat.le_of_ble_eq_true rfl⟩
  · skip
    refine lv_if_eq (tgt := 12) hx hb dX9_level_5 (by decide) (fun c_ => absurd c_ (show ¬ ((1 : Int32) = 0) by decide)) (fun _ => ?_)
    refine lv_iconst (v := 0) hx hb dX9_level_8 (by decide) ?_
    refine lv_goto (tgt := 20) hx hb dX9_level_9 (by decide) ?_
    have E : Ev g _ s.heap H locs [(m0, .inr (9, [.int 1, .ref (b 0), .ref (b 17)]))] := Ev.sub E [4] rfl rfl
    exact x_iret 1 S hr hlk hsz htt hK E dX9_level_20 ⟨(by unfold kk_cell; rw [if_neg hR2]), rfl⟩ rfl ⟨Nat.le_of_ble_eq_true rfl, Nat.le_of_ble_eq_true rfl⟩ ⟨Nat.le_of_ble_eq_true rfl, Nat.le_of_ble_eq_true rfl⟩

set_option maxHeartbeats 4000000 in
set_option maxRecDepth 100000 in
/-- reference: water -/
theorem c_X9_water (l : Launch) (g : Gm) (m0 : Nat) (b : Nat → Nat) (p0 : Int32) : MXi (S := Int32) l g yX9_water cX9_water 2 .int ({ frames := 2, cells := 0, slots := 0, locals := 43 } : Room) [.ref m0, .int p0] [(m0, .inr (9, [.int 0, .ref (b 0), .ref (b 17)])), ((b 0), .inr (10, [.ref (b 1), .ref (b 2), .ref (b 3), .ref (b 4), .ref (b 5), .ref (b 6), .ref (b 7), .ref (b 8), .ref (b 9), .ref (b 10), .ref (b 11), .ref (b 12), .int 0, .int 0, .int (nI 0), .ref (b 13), .ref (b 14), .ref (b 16)])), ((b 3), .inl (g.2.1 0, 16, .inl (fun _ => 0)))] (fun r u => u = kk_cell p0 ∧ r = 0) (fun u => [(m0, .inr (9, [.int u, .ref (b 0), .ref (b 17)]))]) (fun _ => (0, 0)) := by
  intro sz tt
  refine ofX RX9 rfl (by decide +kernel) (Nat.le_of_ble_eq_true rfl) (fun p e s m args below meth c hargs S hml hr hlk hnm hsz htt hK hA hZ E ls hl => ?_)
  have hx := S.1
  have hb := S.2.1
  have hl : lv_has ls 2 [(0, .ref m0), (1, .int p0)] := hl
  refine lv_aload_n hx hb dX9_water_0 rfl (lv_at hl 0 rfl) ?_
  refine lv_iload_n hx hb dX9_water_1 rfl (lv_at hl 1 rfl) ?_
  refine w_reti (runV_X (As := [.int p0]) (rest := []) (q0 := 0) (n := 1) S hml hK (hZ.at E) (Cut.of (wc := [(m0, .inr (9, [.int 0, .ref (b 0), .ref (b 17)]))]) (wr := [((b 0), .inr (10, [.ref (b 1), .ref (b 2), .ref (b 3), .ref (b 4), .ref (b 5), .ref (b 6), .ref (b 7), .ref (b 8), .ref (b 9), .ref (b 10), .ref (b 11), .ref (b 12), .int 0, .int 0, .int (nI 0), .ref (b 13), .ref (b 14), .ref (b 16)])), ((b 3), .inl (g.2.1 0, 16, .inl (fun _ => 0)))]) E hA [0] [1, 2] rfl rfl rfl rfl (by decide)) (c_X9_failsCell l g m0 b 0 p0 _ _) (gi_wsV ml_X9_107 im_X9_failsCell sl_X9_failsCell in_X9 co_X9_failsCell) ⟨rfl, by decide +kernel, by decide +kernel, by decide +kernel⟩ ⟨Nat.le_of_ble_eq_true rfl, Nat.le_of_ble_eq_true rfl⟩ rfl rfl rfl hl.1 rfl (Nat.le_of_ble_eq_true rfl) dX9_water_2 ⟨Nat.le_of_ble_eq_true rfl, Nat.le_of_ble_eq_true rfl⟩) (Cut.of (wc := [(m0, .inr (9, [.int 0, .ref (b 0), .ref (b 17)]))]) (wr := [((b 0), .inr (10, [.ref (b 1), .ref (b 2), .ref (b 3), .ref (b 4), .ref (b 5), .ref (b 6), .ref (b 7), .ref (b 8), .ref (b 9), .ref (b 10), .ref (b 11), .ref (b 12), .int 0, .int 0, .int (nI 0), .ref (b 13), .ref (b 14), .ref (b 16)])), ((b 3), .inl (g.2.1 0, 16, .inl (fun _ => 0)))]) E hA [0] [1, 2] rfl rfl rfl rfl (by decide)) E (fun r1 u1 H locs hp E => ?_)
  have E : Ev g _ s.heap H locs [((b 0), .inr (10, [.ref (b 1), .ref (b 2), .ref (b 3), .ref (b 4), .ref (b 5), .ref (b 6), .ref (b 7), .ref (b 8), .ref (b 9), .ref (b 10), .ref (b 11), .ref (b 12), .int 0, .int 0, .int (nI 0), .ref (b 13), .ref (b 14), .ref (b 16)])), ((b 3), .inl (g.2.1 0, 16, .inl (fun _ => 0))), (m0, .inr (9, [.int u1, .ref (b 0), .ref (b 17)]))] := E
  rcases hp with ⟨rfl, rfl, hR2⟩ | ⟨rfl, rfl, hR2⟩
  · skip
    refine lv_if_eq (tgt := 12) hx hb dX9_water_5 (by decide) (fun _ => ?_) (fun c_ => absurd (show (0 : Int32) = 0 by decide) c_)
    refine lv_aload_n hx hb dX9_water_12 rfl (lv_at hl 0 rfl) ?_
    refine wg_X9_10 (v := .ref (b 0)) S hK E 2 rfl rfl dX9_water_13 ?_
    refine wg_X9_43 (v := .ref (b 3)) S hZ.2.2.2.2.2.2.1 hK E 0 rfl rfl dX9_water_16 ?_
    refine lv_iload_n hx hb dX9_water_19 rfl (lv_at hl 1 rfl) ?_
    refine w_ild (v := 0) S hK E 1 0 rfl rfl (rg_in 15 (by decide) (by decide) (by decide) hR2) rfl dX9_water_20 ?_
    have E : Ev g _ s.heap H locs [(m0, .inr (9, [.int 0, .ref (b 0), .ref (b 17)]))] := Ev.sub E [2] rfl rfl
    exact x_iret 0 S hr hlk hsz htt hK E dX9_water_21 ⟨(by unfold kk_cell; rw [if_pos hR2]), rfl⟩ rfl ⟨Nat.le_of_ble_eq_true rfl, Nat.le_of_ble_eq_true rfl⟩ ⟨Nat.le_of_ble_eq_true rfl, Nat.le_of_ble_eq_true rfl⟩
  · skip
    refine lv_if_eq (tgt := 12) hx hb dX9_water_5 (by decide) (fun c_ => absurd c_ (show ¬ ((1 : Int32) = 0) by decide)) (fun _ => ?_)
    refine lv_iconst (v := 0) hx hb dX9_water_8 (by decide) ?_
    refine lv_goto (tgt := 21) hx hb dX9_water_9 (by decide) ?_
    have E : Ev g _ s.heap H locs [(m0, .inr (9, [.int 1, .ref (b 0), .ref (b 17)]))] := Ev.sub E [2] rfl rfl
    exact x_iret 1 S hr hlk hsz htt hK E dX9_water_21 ⟨(by unfold kk_cell; rw [if_neg hR2]), rfl⟩ rfl ⟨Nat.le_of_ble_eq_true rfl, Nat.le_of_ble_eq_true rfl⟩ ⟨Nat.le_of_ble_eq_true rfl, Nat.le_of_ble_eq_true rfl⟩

set_option maxHeartbeats 4000000 in
set_option maxRecDepth 100000 in
/-- reference: salt -/
theorem c_X9_salt (l : Launch) (g : Gm) (m0 : Nat) (b : Nat → Nat) (p0 : Int32) : MXi (S := Int32) l g yX9_salt cX9_salt 2 .int ({ frames := 2, cells := 0, slots := 0, locals := 43 } : Room) [.ref m0, .int p0] [(m0, .inr (9, [.int 0, .ref (b 0), .ref (b 17)])), ((b 0), .inr (10, [.ref (b 1), .ref (b 2), .ref (b 3), .ref (b 4), .ref (b 5), .ref (b 6), .ref (b 7), .ref (b 8), .ref (b 9), .ref (b 10), .ref (b 11), .ref (b 12), .int 0, .int 0, .int (nI 0), .ref (b 13), .ref (b 14), .ref (b 16)])), ((b 4), .inl (g.2.1 0, 16, .inl (fun _ => 0)))] (fun r u => u = kk_cell p0 ∧ r = 0) (fun u => [(m0, .inr (9, [.int u, .ref (b 0), .ref (b 17)]))]) (fun _ => (0, 0)) := by
  intro sz tt
  refine ofX RX9 rfl (by decide +kernel) (Nat.le_of_ble_eq_true rfl) (fun p e s m args below meth c hargs S hml hr hlk hnm hsz htt hK hA hZ E ls hl => ?_)
  have hx := S.1
  have hb := S.2.1
  have hl : lv_has ls 2 [(0, .ref m0), (1, .int p0)] := hl
  refine lv_aload_n hx hb dX9_salt_0 rfl (lv_at hl 0 rfl) ?_
  refine lv_iload_n hx hb dX9_salt_1 rfl (lv_at hl 1 rfl) ?_
  refine w_reti (runV_X (As := [.int p0]) (rest := []) (q0 := 0) (n := 1) S hml hK (hZ.at E) (Cut.of (wc := [(m0, .inr (9, [.int 0, .ref (b 0), .ref (b 17)]))]) (wr := [((b 0), .inr (10, [.ref (b 1), .ref (b 2), .ref (b 3), .ref (b 4), .ref (b 5), .ref (b 6), .ref (b 7), .ref (b 8), .ref (b 9), .ref (b 10), .ref (b 11), .ref (b 12), .int 0, .int 0, .int (nI 0), .ref (b 13), .ref (b 14), .ref (b 16)])), ((b 4), .inl (g.2.1 0, 16, .inl (fun _ => 0)))]) E hA [0] [1, 2] rfl rfl rfl rfl (by decide)) (c_X9_failsCell l g m0 b 0 p0 _ _) (gi_wsV ml_X9_107 im_X9_failsCell sl_X9_failsCell in_X9 co_X9_failsCell) ⟨rfl, by decide +kernel, by decide +kernel, by decide +kernel⟩ ⟨Nat.le_of_ble_eq_true rfl, Nat.le_of_ble_eq_true rfl⟩ rfl rfl rfl hl.1 rfl (Nat.le_of_ble_eq_true rfl) dX9_salt_2 ⟨Nat.le_of_ble_eq_true rfl, Nat.le_of_ble_eq_true rfl⟩) (Cut.of (wc := [(m0, .inr (9, [.int 0, .ref (b 0), .ref (b 17)]))]) (wr := [((b 0), .inr (10, [.ref (b 1), .ref (b 2), .ref (b 3), .ref (b 4), .ref (b 5), .ref (b 6), .ref (b 7), .ref (b 8), .ref (b 9), .ref (b 10), .ref (b 11), .ref (b 12), .int 0, .int 0, .int (nI 0), .ref (b 13), .ref (b 14), .ref (b 16)])), ((b 4), .inl (g.2.1 0, 16, .inl (fun _ => 0)))]) E hA [0] [1, 2] rfl rfl rfl rfl (by decide)) E (fun r1 u1 H locs hp E => ?_)
  have E : Ev g _ s.heap H locs [((b 0), .inr (10, [.ref (b 1), .ref (b 2), .ref (b 3), .ref (b 4), .ref (b 5), .ref (b 6), .ref (b 7), .ref (b 8), .ref (b 9), .ref (b 10), .ref (b 11), .ref (b 12), .int 0, .int 0, .int (nI 0), .ref (b 13), .ref (b 14), .ref (b 16)])), ((b 4), .inl (g.2.1 0, 16, .inl (fun _ => 0))), (m0, .inr (9, [.int u1, .ref (b 0), .ref (b 17)]))] := E
  rcases hp with ⟨rfl, rfl, hR2⟩ | ⟨rfl, rfl, hR2⟩
  · skip
    refine lv_if_eq (tgt := 12) hx hb dX9_salt_5 (by decide) (fun _ => ?_) (fun c_ => absurd (show (0 : Int32) = 0 by decide) c_)
    refine lv_aload_n hx hb dX9_salt_12 rfl (lv_at hl 0 rfl) ?_
    refine wg_X9_10 (v := .ref (b 0)) S hK E 2 rfl rfl dX9_salt_13 ?_
    refine wg_X9_114 (v := .ref (b 4)) S hZ.2.2.2.2.2.2.1 hK E 0 rfl rfl dX9_salt_16 ?_
    refine lv_iload_n hx hb dX9_salt_19 rfl (lv_at hl 1 rfl) ?_
    refine w_ild (v := 0) S hK E 1 0 rfl rfl (rg_in 15 (by decide) (by decide) (by decide) hR2) rfl dX9_salt_20 ?_
    have E : Ev g _ s.heap H locs [(m0, .inr (9, [.int 0, .ref (b 0), .ref (b 17)]))] := Ev.sub E [2] rfl rfl
    exact x_iret 0 S hr hlk hsz htt hK E dX9_salt_21 ⟨(by unfold kk_cell; rw [if_pos hR2]), rfl⟩ rfl ⟨Nat.le_of_ble_eq_true rfl, Nat.le_of_ble_eq_true rfl⟩ ⟨Nat.le_of_ble_eq_true rfl, Nat.le_of_ble_eq_true rfl⟩
  · skip
    refine lv_if_eq (tgt := 12) hx hb dX9_salt_5 (by decide) (fun c_ => absurd c_ (show ¬ ((1 : Int32) = 0) by decide)) (fun _ => ?_)
    refine lv_iconst (v := 0) hx hb dX9_salt_8 (by decide) ?_
    refine lv_goto (tgt := 21) hx hb dX9_salt_9 (by decide) ?_
    have E : Ev g _ s.heap H locs [(m0, .inr (9, [.int 1, .ref (b 0), .ref (b 17)]))] := Ev.sub E [2] rfl rfl
    exact x_iret 1 S hr hlk hsz htt hK E dX9_salt_21 ⟨(by unfold kk_cell; rw [if_neg hR2]), rfl⟩ rfl ⟨Nat.le_of_ble_eq_true rfl, Nat.le_of_ble_eq_true rfl⟩ ⟨Nat.le_of_ble_eq_true rfl, Nat.le_of_ble_eq_true rfl⟩

set_option maxHeartbeats 4000000 in
set_option maxRecDepth 100000 in
/-- reference: amount, no wells -/
theorem c_X9_amount (l : Launch) (g : Gm) (m0 : Nat) (b : Nat → Nat) (p0 : Int32) : MXi (S := Unit) l g yX9_amount cX9_amount 2 .int ({ frames := 3, cells := 0, slots := 0, locals := 64 } : Room) [.ref m0, .int p0] [(m0, .inr (9, [.int 0, .ref (b 0), .ref (b 17)])), ((b 0), .inr (10, [.ref (b 1), .ref (b 2), .ref (b 3), .ref (b 4), .ref (b 5), .ref (b 6), .ref (b 7), .ref (b 8), .ref (b 9), .ref (b 10), .ref (b 11), .ref (b 12), .int 0, .int 0, .int (nI 0), .ref (b 13), .ref (b 14), .ref (b 16)])), ((b 13), .inr (8, [.int 0, .ref (g.2.2 0), .int 0]))] (fun _ _ => True) (fun _ => [(m0, .inr (9, [.int 1, .ref (b 0), .ref (b 17)]))]) (fun _ => (0, 0)) := by
  intro sz tt
  refine ofX RX9 rfl (by decide +kernel) (Nat.le_of_ble_eq_true rfl) (fun p e s m args below meth c hargs S hml hr hlk hnm hsz htt hK hA hZ E ls hl => ?_)
  have hx := S.1
  have hb := S.2.1
  have hl : lv_has ls 2 [(0, .ref m0), (1, .int p0)] := hl
  refine lv_aload_n hx hb dX9_amount_0 rfl (lv_at hl 0 rfl) ?_
  refine lv_iload_n hx hb dX9_amount_1 rfl (lv_at hl 1 rfl) ?_
  refine w_reti (runV_X (As := [.int p0]) (rest := []) (q0 := 0) (n := 1) S hml hK (hZ.at E) (Cut.full E hA) (c_X9_failsWell l g m0 b 0 p0 _ _) (gi_wsV ml_X9_86 im_X9_failsWell sl_X9_failsWell in_X9 co_X9_failsWell) ⟨rfl, by decide +kernel, by decide +kernel, by decide +kernel⟩ ⟨Nat.le_of_ble_eq_true rfl, Nat.le_of_ble_eq_true rfl⟩ rfl rfl rfl hl.1 rfl (Nat.le_of_ble_eq_true rfl) dX9_amount_2 ⟨Nat.le_of_ble_eq_true rfl, Nat.le_of_ble_eq_true rfl⟩) (Cut.full E hA) E (fun r1 u1 H locs hp E => ?_)
  have E : Ev g _ s.heap H locs [(m0, .inr (9, [.int 1, .ref (b 0), .ref (b 17)])), ((b 0), .inr (10, [.ref (b 1), .ref (b 2), .ref (b 3), .ref (b 4), .ref (b 5), .ref (b 6), .ref (b 7), .ref (b 8), .ref (b 9), .ref (b 10), .ref (b 11), .ref (b 12), .int 0, .int 0, .int (nI 0), .ref (b 13), .ref (b 14), .ref (b 16)])), ((b 13), .inr (8, [.int 0, .ref (g.2.2 0), .int 0]))] := E
  subst hp
  refine lv_if_eq (tgt := 12) hx hb dX9_amount_5 (by decide) (fun c_ => absurd c_ (show ¬ ((1 : Int32) = 0) by decide)) (fun _ => ?_)
  refine lv_iconst (v := 0) hx hb dX9_amount_8 (by decide) ?_
  refine lv_goto (tgt := 29) hx hb dX9_amount_9 (by decide) ?_
  have E : Ev g _ s.heap H locs [(m0, .inr (9, [.int 1, .ref (b 0), .ref (b 17)]))] := Ev.sub E [0] rfl rfl
  exact x_iret () S hr hlk hsz htt hK E dX9_amount_29 trivial rfl ⟨Nat.le_of_ble_eq_true rfl, Nat.le_of_ble_eq_true rfl⟩ ⟨Nat.le_of_ble_eq_true rfl, Nat.le_of_ble_eq_true rfl⟩

set_option maxHeartbeats 4000000 in
set_option maxRecDepth 100000 in
/-- reference: yearly, no wells -/
theorem c_X9_yearly (l : Launch) (g : Gm) (m0 : Nat) (b : Nat → Nat) (p0 : Int32) : MXi (S := Unit) l g yX9_yearly cX9_yearly 2 .int ({ frames := 3, cells := 0, slots := 0, locals := 64 } : Room) [.ref m0, .int p0] [(m0, .inr (9, [.int 0, .ref (b 0), .ref (b 17)])), ((b 0), .inr (10, [.ref (b 1), .ref (b 2), .ref (b 3), .ref (b 4), .ref (b 5), .ref (b 6), .ref (b 7), .ref (b 8), .ref (b 9), .ref (b 10), .ref (b 11), .ref (b 12), .int 0, .int 0, .int (nI 0), .ref (b 13), .ref (b 14), .ref (b 16)])), ((b 13), .inr (8, [.int 0, .ref (g.2.2 0), .int 0]))] (fun _ _ => True) (fun _ => [(m0, .inr (9, [.int 1, .ref (b 0), .ref (b 17)]))]) (fun _ => (0, 0)) := by
  intro sz tt
  refine ofX RX9 rfl (by decide +kernel) (Nat.le_of_ble_eq_true rfl) (fun p e s m args below meth c hargs S hml hr hlk hnm hsz htt hK hA hZ E ls hl => ?_)
  have hx := S.1
  have hb := S.2.1
  have hl : lv_has ls 2 [(0, .ref m0), (1, .int p0)] := hl
  refine lv_aload_n hx hb dX9_yearly_0 rfl (lv_at hl 0 rfl) ?_
  refine lv_iload_n hx hb dX9_yearly_1 rfl (lv_at hl 1 rfl) ?_
  refine w_reti (runV_X (As := [.int p0]) (rest := []) (q0 := 0) (n := 1) S hml hK (hZ.at E) (Cut.full E hA) (c_X9_failsWell l g m0 b 0 p0 _ _) (gi_wsV ml_X9_86 im_X9_failsWell sl_X9_failsWell in_X9 co_X9_failsWell) ⟨rfl, by decide +kernel, by decide +kernel, by decide +kernel⟩ ⟨Nat.le_of_ble_eq_true rfl, Nat.le_of_ble_eq_true rfl⟩ rfl rfl rfl hl.1 rfl (Nat.le_of_ble_eq_true rfl) dX9_yearly_2 ⟨Nat.le_of_ble_eq_true rfl, Nat.le_of_ble_eq_true rfl⟩) (Cut.full E hA) E (fun r1 u1 H locs hp E => ?_)
  have E : Ev g _ s.heap H locs [(m0, .inr (9, [.int 1, .ref (b 0), .ref (b 17)])), ((b 0), .inr (10, [.ref (b 1), .ref (b 2), .ref (b 3), .ref (b 4), .ref (b 5), .ref (b 6), .ref (b 7), .ref (b 8), .ref (b 9), .ref (b 10), .ref (b 11), .ref (b 12), .int 0, .int 0, .int (nI 0), .ref (b 13), .ref (b 14), .ref (b 16)])), ((b 13), .inr (8, [.int 0, .ref (g.2.2 0), .int 0]))] := E
  subst hp
  refine lv_if_eq (tgt := 12) hx hb dX9_yearly_5 (by decide) (fun c_ => absurd c_ (show ¬ ((1 : Int32) = 0) by decide)) (fun _ => ?_)
  refine lv_iconst (v := 0) hx hb dX9_yearly_8 (by decide) ?_
  refine lv_goto (tgt := 29) hx hb dX9_yearly_9 (by decide) ?_
  have E : Ev g _ s.heap H locs [(m0, .inr (9, [.int 1, .ref (b 0), .ref (b 17)]))] := Ev.sub E [0] rfl rfl
  exact x_iret () S hr hlk hsz htt hK E dX9_yearly_29 trivial rfl ⟨Nat.le_of_ble_eq_true rfl, Nat.le_of_ble_eq_true rfl⟩ ⟨Nat.le_of_ble_eq_true rfl, Nat.le_of_ble_eq_true rfl⟩

set_option maxHeartbeats 4000000 in
set_option maxRecDepth 100000 in
/-- reference: pumped, no wells -/
theorem c_X9_pumped (l : Launch) (g : Gm) (m0 : Nat) (b : Nat → Nat) (p0 : Int32) : MXl (S := Unit) l g yX9_pumped cX9_pumped 2 ({ frames := 3, cells := 0, slots := 0, locals := 64 } : Room) [.ref m0, .int p0] [(m0, .inr (9, [.int 0, .ref (b 0), .ref (b 17)])), ((b 0), .inr (10, [.ref (b 1), .ref (b 2), .ref (b 3), .ref (b 4), .ref (b 5), .ref (b 6), .ref (b 7), .ref (b 8), .ref (b 9), .ref (b 10), .ref (b 11), .ref (b 12), .int 0, .int 0, .int (nI 0), .ref (b 13), .ref (b 14), .ref (b 16)])), ((b 13), .inr (8, [.int 0, .ref (g.2.2 0), .int 0]))] (fun _ _ => True) (fun _ => [(m0, .inr (9, [.int 1, .ref (b 0), .ref (b 17)]))]) (fun _ => (0, 0)) := by
  intro sz tt
  refine ofX RX9 rfl (by decide +kernel) (Nat.le_of_ble_eq_true rfl) (fun p e s m args below meth c hargs S hml hr hlk hnm hsz htt hK hA hZ E ls hl => ?_)
  have hx := S.1
  have hb := S.2.1
  have hl : lv_has ls 2 [(0, .ref m0), (1, .int p0)] := hl
  refine lv_aload_n hx hb dX9_pumped_0 rfl (lv_at hl 0 rfl) ?_
  refine lv_iload_n hx hb dX9_pumped_1 rfl (lv_at hl 1 rfl) ?_
  refine w_reti (runV_X (As := [.int p0]) (rest := []) (q0 := 0) (n := 1) S hml hK (hZ.at E) (Cut.full E hA) (c_X9_failsWell l g m0 b 0 p0 _ _) (gi_wsV ml_X9_86 im_X9_failsWell sl_X9_failsWell in_X9 co_X9_failsWell) ⟨rfl, by decide +kernel, by decide +kernel, by decide +kernel⟩ ⟨Nat.le_of_ble_eq_true rfl, Nat.le_of_ble_eq_true rfl⟩ rfl rfl rfl hl.1 rfl (Nat.le_of_ble_eq_true rfl) dX9_pumped_2 ⟨Nat.le_of_ble_eq_true rfl, Nat.le_of_ble_eq_true rfl⟩) (Cut.full E hA) E (fun r1 u1 H locs hp E => ?_)
  have E : Ev g _ s.heap H locs [(m0, .inr (9, [.int 1, .ref (b 0), .ref (b 17)])), ((b 0), .inr (10, [.ref (b 1), .ref (b 2), .ref (b 3), .ref (b 4), .ref (b 5), .ref (b 6), .ref (b 7), .ref (b 8), .ref (b 9), .ref (b 10), .ref (b 11), .ref (b 12), .int 0, .int 0, .int (nI 0), .ref (b 13), .ref (b 14), .ref (b 16)])), ((b 13), .inr (8, [.int 0, .ref (g.2.2 0), .int 0]))] := E
  subst hp
  refine lv_if_eq (tgt := 12) hx hb dX9_pumped_5 (by decide) (fun c_ => absurd c_ (show ¬ ((1 : Int32) = 0) by decide)) (fun _ => ?_)
  refine lv_lconst (v := 0) hx hb dX9_pumped_8 (by decide) ?_
  refine lv_goto (tgt := 29) hx hb dX9_pumped_9 (by decide) ?_
  have E : Ev g _ s.heap H locs [(m0, .inr (9, [.int 1, .ref (b 0), .ref (b 17)]))] := Ev.sub E [0] rfl rfl
  exact x_lret () S hr hlk hsz htt hK E dX9_pumped_29 trivial rfl ⟨Nat.le_of_ble_eq_true rfl, Nat.le_of_ble_eq_true rfl⟩ ⟨Nat.le_of_ble_eq_true rfl, Nat.le_of_ble_eq_true rfl⟩

set_option maxHeartbeats 4000000 in
set_option maxRecDepth 100000 in
/-- reference: isShut, no wells -/
theorem c_X9_isShut (l : Launch) (g : Gm) (m0 : Nat) (b : Nat → Nat) (p0 : Int32) : MXi (S := Unit) l g yX9_isShut cX9_isShut 2 .boolean ({ frames := 3, cells := 0, slots := 0, locals := 64 } : Room) [.ref m0, .int p0] [(m0, .inr (9, [.int 0, .ref (b 0), .ref (b 17)])), ((b 0), .inr (10, [.ref (b 1), .ref (b 2), .ref (b 3), .ref (b 4), .ref (b 5), .ref (b 6), .ref (b 7), .ref (b 8), .ref (b 9), .ref (b 10), .ref (b 11), .ref (b 12), .int 0, .int 0, .int (nI 0), .ref (b 13), .ref (b 14), .ref (b 16)])), ((b 13), .inr (8, [.int 0, .ref (g.2.2 0), .int 0]))] (fun _ _ => True) (fun _ => [(m0, .inr (9, [.int 1, .ref (b 0), .ref (b 17)]))]) (fun _ => (0, 0)) := by
  intro sz tt
  refine ofX RX9 rfl (by decide +kernel) (Nat.le_of_ble_eq_true rfl) (fun p e s m args below meth c hargs S hml hr hlk hnm hsz htt hK hA hZ E ls hl => ?_)
  have hx := S.1
  have hb := S.2.1
  have hl : lv_has ls 2 [(0, .ref m0), (1, .int p0)] := hl
  refine lv_aload_n hx hb dX9_isShut_0 rfl (lv_at hl 0 rfl) ?_
  refine lv_iload_n hx hb dX9_isShut_1 rfl (lv_at hl 1 rfl) ?_
  refine w_reti (runV_X (As := [.int p0]) (rest := []) (q0 := 0) (n := 1) S hml hK (hZ.at E) (Cut.full E hA) (c_X9_failsWell l g m0 b 0 p0 _ _) (gi_wsV ml_X9_86 im_X9_failsWell sl_X9_failsWell in_X9 co_X9_failsWell) ⟨rfl, by decide +kernel, by decide +kernel, by decide +kernel⟩ ⟨Nat.le_of_ble_eq_true rfl, Nat.le_of_ble_eq_true rfl⟩ rfl rfl rfl hl.1 rfl (Nat.le_of_ble_eq_true rfl) dX9_isShut_2 ⟨Nat.le_of_ble_eq_true rfl, Nat.le_of_ble_eq_true rfl⟩) (Cut.full E hA) E (fun r1 u1 H locs hp E => ?_)
  have E : Ev g _ s.heap H locs [(m0, .inr (9, [.int 1, .ref (b 0), .ref (b 17)])), ((b 0), .inr (10, [.ref (b 1), .ref (b 2), .ref (b 3), .ref (b 4), .ref (b 5), .ref (b 6), .ref (b 7), .ref (b 8), .ref (b 9), .ref (b 10), .ref (b 11), .ref (b 12), .int 0, .int 0, .int (nI 0), .ref (b 13), .ref (b 14), .ref (b 16)])), ((b 13), .inr (8, [.int 0, .ref (g.2.2 0), .int 0]))] := E
  subst hp
  refine lv_if_ne (tgt := 32) hx hb dX9_isShut_5 (by decide) (fun _ => ?_) (fun c_ => absurd c_ (show ¬ ((1 : Int32) = 0) by decide))
  refine lv_iconst (v := 0) hx hb dX9_isShut_32 (by decide) ?_
  have E : Ev g _ s.heap H locs [(m0, .inr (9, [.int 1, .ref (b 0), .ref (b 17)]))] := Ev.sub E [0] rfl rfl
  exact x_zret () S hr hlk hsz htt hK E dX9_isShut_33 rfl trivial rfl ⟨Nat.le_of_ble_eq_true rfl, Nat.le_of_ble_eq_true rfl⟩ ⟨Nat.le_of_ble_eq_true rfl, Nat.le_of_ble_eq_true rfl⟩

set_option maxHeartbeats 4000000 in
set_option maxRecDepth 100000 in
/-- reference: setWish, no wells -/
theorem c_X9_setWish (l : Launch) (g : Gm) (m0 : Nat) (b : Nat → Nat) (p0 : Int32) (p1 : Int32) : MXi (S := Unit) l g yX9_setWish cX9_setWish 4 .int ({ frames := 3, cells := 0, slots := 0, locals := 64 } : Room) [.ref m0, .int p0, .int p1] [(m0, .inr (9, [.int 0, .ref (b 0), .ref (b 17)])), ((b 0), .inr (10, [.ref (b 1), .ref (b 2), .ref (b 3), .ref (b 4), .ref (b 5), .ref (b 6), .ref (b 7), .ref (b 8), .ref (b 9), .ref (b 10), .ref (b 11), .ref (b 12), .int 0, .int 0, .int (nI 0), .ref (b 13), .ref (b 14), .ref (b 16)])), ((b 13), .inr (8, [.int 0, .ref (g.2.2 0), .int 0]))] (fun _ _ => True) (fun _ => [(m0, .inr (9, [.int 1, .ref (b 0), .ref (b 17)]))]) (fun _ => (0, 0)) := by
  intro sz tt
  refine ofX RX9 rfl (by decide +kernel) (Nat.le_of_ble_eq_true rfl) (fun p e s m args below meth c hargs S hml hr hlk hnm hsz htt hK hA hZ E ls hl => ?_)
  have hx := S.1
  have hb := S.2.1
  have hl : lv_has ls 4 [(0, .ref m0), (1, .int p0), (2, .int p1)] := hl
  refine lv_aload_n hx hb dX9_setWish_0 rfl (lv_at hl 0 rfl) ?_
  refine lv_iload_n hx hb dX9_setWish_1 rfl (lv_at hl 1 rfl) ?_
  refine w_reti (runV_X (As := [.int p0]) (rest := []) (q0 := 0) (n := 1) S hml hK (hZ.at E) (Cut.full E hA) (c_X9_failsWell l g m0 b 0 p0 _ _) (gi_wsV ml_X9_86 im_X9_failsWell sl_X9_failsWell in_X9 co_X9_failsWell) ⟨rfl, by decide +kernel, by decide +kernel, by decide +kernel⟩ ⟨Nat.le_of_ble_eq_true rfl, Nat.le_of_ble_eq_true rfl⟩ rfl rfl rfl hl.1 rfl (Nat.le_of_ble_eq_true rfl) dX9_setWish_2 ⟨Nat.le_of_ble_eq_true rfl, Nat.le_of_ble_eq_true rfl⟩) (Cut.full E hA) E (fun r1 u1 H locs hp E => ?_)
  have E : Ev g _ s.heap H locs [(m0, .inr (9, [.int 1, .ref (b 0), .ref (b 17)])), ((b 0), .inr (10, [.ref (b 1), .ref (b 2), .ref (b 3), .ref (b 4), .ref (b 5), .ref (b 6), .ref (b 7), .ref (b 8), .ref (b 9), .ref (b 10), .ref (b 11), .ref (b 12), .int 0, .int 0, .int (nI 0), .ref (b 13), .ref (b 14), .ref (b 16)])), ((b 13), .inr (8, [.int 0, .ref (g.2.2 0), .int 0]))] := E
  subst hp
  refine lv_if_ne (tgt := 30) hx hb dX9_setWish_5 (by decide) (fun _ => ?_) (fun c_ => absurd c_ (show ¬ ((1 : Int32) = 0) by decide))
  refine lv_iconst (v := 0) hx hb dX9_setWish_30 (by decide) ?_
  have E : Ev g _ s.heap H locs [(m0, .inr (9, [.int 1, .ref (b 0), .ref (b 17)]))] := Ev.sub E [0] rfl rfl
  exact x_iret () S hr hlk hsz htt hK E dX9_setWish_31 trivial rfl ⟨Nat.le_of_ble_eq_true rfl, Nat.le_of_ble_eq_true rfl⟩ ⟨Nat.le_of_ble_eq_true rfl, Nat.le_of_ble_eq_true rfl⟩

set_option maxHeartbeats 4000000 in
set_option maxRecDepth 100000 in
/-- reference: transfer, no wells -/
theorem c_X9_transfer (l : Launch) (g : Gm) (m0 : Nat) (b : Nat → Nat) (p0 : Int32) (p1 : Int32) (p2 : Int32) : MXi (S := Unit) l g yX9_transfer cX9_transfer 4 .int ({ frames := 2, cells := 0, slots := 0, locals := 43 } : Room) [.ref m0, .int p0, .int p1, .int p2] [(m0, .inr (9, [.int 0, .ref (b 0), .ref (b 17)])), ((b 0), .inr (10, [.ref (b 1), .ref (b 2), .ref (b 3), .ref (b 4), .ref (b 5), .ref (b 6), .ref (b 7), .ref (b 8), .ref (b 9), .ref (b 10), .ref (b 11), .ref (b 12), .int 0, .int 0, .int (nI 0), .ref (b 13), .ref (b 14), .ref (b 16)])), ((b 13), .inr (8, [.int 0, .ref (g.2.2 0), .int 0]))] (fun _ _ => True) (fun _ => [(m0, .inr (9, [.int 1, .ref (b 0), .ref (b 17)]))]) (fun _ => (0, 0)) := by
  intro sz tt
  refine ofX RX9 rfl (by decide +kernel) (Nat.le_of_ble_eq_true rfl) (fun p e s m args below meth c hargs S hml hr hlk hnm hsz htt hK hA hZ E ls hl => ?_)
  have hx := S.1
  have hb := S.2.1
  have hl : lv_has ls 4 [(0, .ref m0), (1, .int p0), (2, .int p1), (3, .int p2)] := hl
  refine lv_aload_n hx hb dX9_transfer_0 rfl (lv_at hl 0 rfl) ?_
  refine lv_aload_n hx hb dX9_transfer_1 rfl (lv_at hl 0 rfl) ?_
  refine lv_iload_n hx hb dX9_transfer_2 rfl (lv_at hl 1 rfl) ?_
  refine w_reti (runV_X (As := [.int p0]) (rest := [.ref m0]) (q0 := 0) (n := 1) S hml hK (hZ.at E) (Cut.full E hA) (c_X9_isWell l g m0 b 0 p0 _ _) (gi_wsV ml_X9_83 im_X9_isWell sl_X9_isWell in_X9 co_X9_isWell) ⟨rfl, by decide +kernel, by decide +kernel, by decide +kernel⟩ ⟨Nat.le_of_ble_eq_true rfl, Nat.le_of_ble_eq_true rfl⟩ rfl rfl rfl hl.1 rfl (Nat.le_of_ble_eq_true rfl) dX9_transfer_3 ⟨Nat.le_of_ble_eq_true rfl, Nat.le_of_ble_eq_true rfl⟩) (Cut.full E hA) E (fun r1 u1 H locs hp E => ?_)
  have E : Ev g _ s.heap H locs [(m0, .inr (9, [.int 0, .ref (b 0), .ref (b 17)])), ((b 0), .inr (10, [.ref (b 1), .ref (b 2), .ref (b 3), .ref (b 4), .ref (b 5), .ref (b 6), .ref (b 7), .ref (b 8), .ref (b 9), .ref (b 10), .ref (b 11), .ref (b 12), .int 0, .int 0, .int (nI 0), .ref (b 13), .ref (b 14), .ref (b 16)])), ((b 13), .inr (8, [.int 0, .ref (g.2.2 0), .int 0]))] := E
  subst hp
  refine lv_if_eq (tgt := 17) hx hb dX9_transfer_6 (by decide) (fun _ => ?_) (fun c_ => absurd (show (0 : Int32) = 0 by decide) c_)
  refine lv_iconst (v := 1) hx hb dX9_transfer_17 (by decide) ?_
  refine lv_goto (tgt := 37) hx hb dX9_transfer_18 (by decide) ?_
  refine w_reti (runV_X (As := [.int 1]) (rest := []) (q0 := 0) (n := 1) S hml hK (hZ.at E) (Cut.of (wc := [(m0, .inr (9, [.int 0, .ref (b 0), .ref (b 17)]))]) (wr := [((b 0), .inr (10, [.ref (b 1), .ref (b 2), .ref (b 3), .ref (b 4), .ref (b 5), .ref (b 6), .ref (b 7), .ref (b 8), .ref (b 9), .ref (b 10), .ref (b 11), .ref (b 12), .int 0, .int 0, .int (nI 0), .ref (b 13), .ref (b 14), .ref (b 16)])), ((b 13), .inr (8, [.int 0, .ref (g.2.2 0), .int 0]))]) E hA [0] [1, 2] rfl rfl rfl rfl (by decide)) (c_X9_fails l g m0 b 0 1 _ _) (gi_wsV ml_X9_39 im_X9_fails sl_X9_fails in_X9 co_X9_fails) ⟨rfl, by decide +kernel, by decide +kernel, by decide +kernel⟩ ⟨Nat.le_of_ble_eq_true rfl, Nat.le_of_ble_eq_true rfl⟩ rfl rfl rfl hl.1 rfl (Nat.le_of_ble_eq_true rfl) dX9_transfer_37 ⟨Nat.le_of_ble_eq_true rfl, Nat.le_of_ble_eq_true rfl⟩) (Cut.of (wc := [(m0, .inr (9, [.int 0, .ref (b 0), .ref (b 17)]))]) (wr := [((b 0), .inr (10, [.ref (b 1), .ref (b 2), .ref (b 3), .ref (b 4), .ref (b 5), .ref (b 6), .ref (b 7), .ref (b 8), .ref (b 9), .ref (b 10), .ref (b 11), .ref (b 12), .int 0, .int 0, .int (nI 0), .ref (b 13), .ref (b 14), .ref (b 16)])), ((b 13), .inr (8, [.int 0, .ref (g.2.2 0), .int 0]))]) E hA [0] [1, 2] rfl rfl rfl rfl (by decide)) E (fun r2 u2 H locs hp E => ?_)
  have E : Ev g _ s.heap H locs [((b 0), .inr (10, [.ref (b 1), .ref (b 2), .ref (b 3), .ref (b 4), .ref (b 5), .ref (b 6), .ref (b 7), .ref (b 8), .ref (b 9), .ref (b 10), .ref (b 11), .ref (b 12), .int 0, .int 0, .int (nI 0), .ref (b 13), .ref (b 14), .ref (b 16)])), ((b 13), .inr (8, [.int 0, .ref (g.2.2 0), .int 0])), (m0, .inr (9, [.int 1, .ref (b 0), .ref (b 17)]))] := E
  obtain ⟨rfl, -⟩ := hp.resolve_right (fun z => absurd z.2 (by decide))
  refine lv_if_ne (tgt := 68) hx hb dX9_transfer_40 (by decide) (fun _ => ?_) (fun c_ => absurd c_ (show ¬ ((1 : Int32) = 0) by decide))
  refine lv_iconst (v := 0) hx hb dX9_transfer_68 (by decide) ?_
  have E : Ev g _ s.heap H locs [(m0, .inr (9, [.int 1, .ref (b 0), .ref (b 17)]))] := Ev.sub E [2] rfl rfl
  exact x_iret () S hr hlk hsz htt hK E dX9_transfer_69 trivial rfl ⟨Nat.le_of_ble_eq_true rfl, Nat.le_of_ble_eq_true rfl⟩ ⟨Nat.le_of_ble_eq_true rfl, Nat.le_of_ble_eq_true rfl⟩

set_option maxHeartbeats 4000000 in
set_option maxRecDepth 100000 in
/-- reference: pumpedWithout, no wells -/
theorem c_X9_pumpedWithout (l : Launch) (g : Gm) (m0 : Nat) (b : Nat → Nat) (p0 : Int32) (p1 : Int32) : MXl (S := Unit) l g yX9_pumpedWithout cX9_pumpedWithout 7 ({ frames := 2, cells := 0, slots := 0, locals := 43 } : Room) [.ref m0, .int p0, .int p1] [(m0, .inr (9, [.int 0, .ref (b 0), .ref (b 17)])), ((b 0), .inr (10, [.ref (b 1), .ref (b 2), .ref (b 3), .ref (b 4), .ref (b 5), .ref (b 6), .ref (b 7), .ref (b 8), .ref (b 9), .ref (b 10), .ref (b 11), .ref (b 12), .int 0, .int 0, .int (nI 0), .ref (b 13), .ref (b 14), .ref (b 16)])), ((b 13), .inr (8, [.int 0, .ref (g.2.2 0), .int 0]))] (fun _ _ => True) (fun _ => [(m0, .inr (9, [.int 1, .ref (b 0), .ref (b 17)]))]) (fun _ => (0, 0)) := by
  intro sz tt
  refine ofX RX9 rfl (by decide +kernel) (Nat.le_of_ble_eq_true rfl) (fun p e s m args below meth c hargs S hml hr hlk hnm hsz htt hK hA hZ E ls hl => ?_)
  have hx := S.1
  have hb := S.2.1
  have hl : lv_has ls 7 [(0, .ref m0), (1, .int p0), (2, .int p1)] := hl
  refine lv_aload_n hx hb dX9_pumpedWithout_0 rfl (lv_at hl 0 rfl) ?_
  refine lv_aload_n hx hb dX9_pumpedWithout_1 rfl (lv_at hl 0 rfl) ?_
  refine lv_iload_n hx hb dX9_pumpedWithout_2 rfl (lv_at hl 1 rfl) ?_
  refine w_reti (runV_X (As := [.int p0]) (rest := [.ref m0]) (q0 := 0) (n := 1) S hml hK (hZ.at E) (Cut.full E hA) (c_X9_isWell l g m0 b 0 p0 _ _) (gi_wsV ml_X9_83 im_X9_isWell sl_X9_isWell in_X9 co_X9_isWell) ⟨rfl, by decide +kernel, by decide +kernel, by decide +kernel⟩ ⟨Nat.le_of_ble_eq_true rfl, Nat.le_of_ble_eq_true rfl⟩ rfl rfl rfl hl.1 rfl (Nat.le_of_ble_eq_true rfl) dX9_pumpedWithout_3 ⟨Nat.le_of_ble_eq_true rfl, Nat.le_of_ble_eq_true rfl⟩) (Cut.full E hA) E (fun r1 u1 H locs hp E => ?_)
  have E : Ev g _ s.heap H locs [(m0, .inr (9, [.int 0, .ref (b 0), .ref (b 17)])), ((b 0), .inr (10, [.ref (b 1), .ref (b 2), .ref (b 3), .ref (b 4), .ref (b 5), .ref (b 6), .ref (b 7), .ref (b 8), .ref (b 9), .ref (b 10), .ref (b 11), .ref (b 12), .int 0, .int 0, .int (nI 0), .ref (b 13), .ref (b 14), .ref (b 16)])), ((b 13), .inr (8, [.int 0, .ref (g.2.2 0), .int 0]))] := E
  subst hp
  refine lv_if_eq (tgt := 17) hx hb dX9_pumpedWithout_6 (by decide) (fun _ => ?_) (fun c_ => absurd (show (0 : Int32) = 0 by decide) c_)
  refine lv_iconst (v := 1) hx hb dX9_pumpedWithout_17 (by decide) ?_
  refine lv_goto (tgt := 31) hx hb dX9_pumpedWithout_18 (by decide) ?_
  refine w_reti (runV_X (As := [.int 1]) (rest := []) (q0 := 0) (n := 1) S hml hK (hZ.at E) (Cut.of (wc := [(m0, .inr (9, [.int 0, .ref (b 0), .ref (b 17)]))]) (wr := [((b 0), .inr (10, [.ref (b 1), .ref (b 2), .ref (b 3), .ref (b 4), .ref (b 5), .ref (b 6), .ref (b 7), .ref (b 8), .ref (b 9), .ref (b 10), .ref (b 11), .ref (b 12), .int 0, .int 0, .int (nI 0), .ref (b 13), .ref (b 14), .ref (b 16)])), ((b 13), .inr (8, [.int 0, .ref (g.2.2 0), .int 0]))]) E hA [0] [1, 2] rfl rfl rfl rfl (by decide)) (c_X9_fails l g m0 b 0 1 _ _) (gi_wsV ml_X9_39 im_X9_fails sl_X9_fails in_X9 co_X9_fails) ⟨rfl, by decide +kernel, by decide +kernel, by decide +kernel⟩ ⟨Nat.le_of_ble_eq_true rfl, Nat.le_of_ble_eq_true rfl⟩ rfl rfl rfl hl.1 rfl (Nat.le_of_ble_eq_true rfl) dX9_pumpedWithout_31 ⟨Nat.le_of_ble_eq_true rfl, Nat.le_of_ble_eq_true rfl⟩) (Cut.of (wc := [(m0, .inr (9, [.int 0, .ref (b 0), .ref (b 17)]))]) (wr := [((b 0), .inr (10, [.ref (b 1), .ref (b 2), .ref (b 3), .ref (b 4), .ref (b 5), .ref (b 6), .ref (b 7), .ref (b 8), .ref (b 9), .ref (b 10), .ref (b 11), .ref (b 12), .int 0, .int 0, .int (nI 0), .ref (b 13), .ref (b 14), .ref (b 16)])), ((b 13), .inr (8, [.int 0, .ref (g.2.2 0), .int 0]))]) E hA [0] [1, 2] rfl rfl rfl rfl (by decide)) E (fun r2 u2 H locs hp E => ?_)
  have E : Ev g _ s.heap H locs [((b 0), .inr (10, [.ref (b 1), .ref (b 2), .ref (b 3), .ref (b 4), .ref (b 5), .ref (b 6), .ref (b 7), .ref (b 8), .ref (b 9), .ref (b 10), .ref (b 11), .ref (b 12), .int 0, .int 0, .int (nI 0), .ref (b 13), .ref (b 14), .ref (b 16)])), ((b 13), .inr (8, [.int 0, .ref (g.2.2 0), .int 0])), (m0, .inr (9, [.int 1, .ref (b 0), .ref (b 17)]))] := E
  obtain ⟨rfl, -⟩ := hp.resolve_right (fun z => absurd z.2 (by decide))
  refine lv_if_eq (tgt := 39) hx hb dX9_pumpedWithout_34 (by decide) (fun c_ => absurd c_ (show ¬ ((1 : Int32) = 0) by decide)) (fun _ => ?_)
  refine lv_lconst (v := 0) hx hb dX9_pumpedWithout_37 (by decide) ?_
  have E : Ev g _ s.heap H locs [(m0, .inr (9, [.int 1, .ref (b 0), .ref (b 17)]))] := Ev.sub E [2] rfl rfl
  exact x_lret () S hr hlk hsz htt hK E dX9_pumpedWithout_38 trivial rfl ⟨Nat.le_of_ble_eq_true rfl, Nat.le_of_ble_eq_true rfl⟩ ⟨Nat.le_of_ble_eq_true rfl, Nat.le_of_ble_eq_true rfl⟩

set_option maxHeartbeats 4000000 in
set_option maxRecDepth 100000 in
/-- reference: byAge, no wells -/
theorem c_X9_byAge (l : Launch) (g : Gm) (m0 : Nat) (b : Nat → Nat) (p0 : Int32) : MXi (S := Unit) l g yX9_byAge cX9_byAge 2 .int ({ frames := 1, cells := 0, slots := 0, locals := 22 } : Room) [.ref m0, .int p0] [(m0, .inr (9, [.int 0, .ref (b 0), .ref (b 17)])), ((b 0), .inr (10, [.ref (b 1), .ref (b 2), .ref (b 3), .ref (b 4), .ref (b 5), .ref (b 6), .ref (b 7), .ref (b 8), .ref (b 9), .ref (b 10), .ref (b 11), .ref (b 12), .int 0, .int 0, .int (nI 0), .ref (b 13), .ref (b 14), .ref (b 16)])), ((b 13), .inr (8, [.int 0, .ref (g.2.2 0), .int 0]))] (fun _ _ => True) (fun _ => [(m0, .inr (9, [.int 1, .ref (b 0), .ref (b 17)]))]) (fun _ => (0, 0)) := by
  intro sz tt
  refine ofX RX9 rfl (by decide +kernel) (Nat.le_of_ble_eq_true rfl) (fun p e s m args below meth c hargs S hml hr hlk hnm hsz htt hK hA hZ E ls hl => ?_)
  have hx := S.1
  have hb := S.2.1
  have hl : lv_has ls 2 [(0, .ref m0), (1, .int p0)] := hl
  refine lv_aload_n hx hb dX9_byAge_0 rfl (lv_at hl 0 rfl) ?_
  refine lv_iload_n hx hb dX9_byAge_1 rfl (lv_at hl 1 rfl) ?_
  refine lv_iconst (v := 0) hx hb dX9_byAge_2 (by decide) ?_
  refine lv_aload_n hx hb dX9_byAge_3 rfl (lv_at hl 0 rfl) ?_
  refine wg_X9_10 (v := .ref (b 0)) S hK E 0 rfl rfl dX9_byAge_4 ?_
  refine wg_X9_76 (v := .ref (b 13)) S hZ.2.2.2.2.2.2.1 hK E 1 rfl rfl dX9_byAge_7 ?_
  refine w_reti (runV_X (As := []) (rest := [.int 0, .int p0, .ref m0]) (q0 := 0) (n := 0) S hml hK (hZ.at E) (Cut.of (wc := [((b 13), .inr (8, [.int 0, .ref (g.2.2 0), .int 0]))]) (wr := [(m0, .inr (9, [.int 0, .ref (b 0), .ref (b 17)])), ((b 0), .inr (10, [.ref (b 1), .ref (b 2), .ref (b 3), .ref (b 4), .ref (b 5), .ref (b 6), .ref (b 7), .ref (b 8), .ref (b 9), .ref (b 10), .ref (b 11), .ref (b 12), .int 0, .int 0, .int (nI 0), .ref (b 13), .ref (b 14), .ref (b 16)]))]) E hA [2] [0, 1] rfl rfl rfl rfl (by decide)) (c_Jx4a65c_size_8abf5 l g (b 13) 0 0 (g.2.2 0) _ _) (gi_wsV ml_X9_79 im_Jx4a65c_size_8abf5 sl_Jx4a65c_size_8abf5 in_Jx4a65c co_Jx4a65c_size_8abf5) ⟨rfl, by decide +kernel, by decide +kernel, by decide +kernel⟩ ⟨Nat.le_of_ble_eq_true rfl, Nat.le_of_ble_eq_true rfl⟩ rfl rfl rfl hl.1 rfl (Nat.le_of_ble_eq_true rfl) dX9_byAge_10 ⟨Nat.le_of_ble_eq_true rfl, Nat.le_of_ble_eq_true rfl⟩) (Cut.of (wc := [((b 13), .inr (8, [.int 0, .ref (g.2.2 0), .int 0]))]) (wr := [(m0, .inr (9, [.int 0, .ref (b 0), .ref (b 17)])), ((b 0), .inr (10, [.ref (b 1), .ref (b 2), .ref (b 3), .ref (b 4), .ref (b 5), .ref (b 6), .ref (b 7), .ref (b 8), .ref (b 9), .ref (b 10), .ref (b 11), .ref (b 12), .int 0, .int 0, .int (nI 0), .ref (b 13), .ref (b 14), .ref (b 16)]))]) E hA [2] [0, 1] rfl rfl rfl rfl (by decide)) E (fun r1 u1 H locs hp E => ?_)
  have E : Ev g _ s.heap H locs [(m0, .inr (9, [.int 0, .ref (b 0), .ref (b 17)])), ((b 0), .inr (10, [.ref (b 1), .ref (b 2), .ref (b 3), .ref (b 4), .ref (b 5), .ref (b 6), .ref (b 7), .ref (b 8), .ref (b 9), .ref (b 10), .ref (b 11), .ref (b 12), .int 0, .int 0, .int (nI 0), .ref (b 13), .ref (b 14), .ref (b 16)])), ((b 13), .inr (8, [.int 0, .ref (g.2.2 0), .int 0]))] := E
  subst hp
  refine lv_iconst (v := 1) hx hb dX9_byAge_13 (by decide) ?_
  refine k_isub (v := (-1)) hx hb (by decide) dX9_byAge_14 ?_
  refine w_reti (runS_X (As := [.int p0, .int 0, .int (-1)]) (rest := [.ref m0]) (n := 3) S hml hK (hZ.at E) (Cut.of (wc := []) (wr := [(m0, .inr (9, [.int 0, .ref (b 0), .ref (b 17)])), ((b 0), .inr (10, [.ref (b 1), .ref (b 2), .ref (b 3), .ref (b 4), .ref (b 5), .ref (b 6), .ref (b 7), .ref (b 8), .ref (b 9), .ref (b 10), .ref (b 11), .ref (b 12), .int 0, .int 0, .int (nI 0), .ref (b 13), .ref (b 14), .ref (b 16)])), ((b 13), .inr (8, [.int 0, .ref (g.2.2 0), .int 0]))]) E hA [] [0, 1, 2] rfl rfl rfl rfl (by decide)) (c_X9_in l g p0 0 (-1) _ _) ml_X9_35 st_X9_in in_X9 co_X9_in ⟨by decide +kernel, by decide +kernel, by decide +kernel⟩ ⟨Nat.le_of_ble_eq_true rfl, Nat.le_of_ble_eq_true rfl⟩ rfl hl.1 rfl (Nat.le_of_ble_eq_true rfl) dX9_byAge_15 ⟨Nat.le_of_ble_eq_true rfl, Nat.le_of_ble_eq_true rfl⟩) (Cut.of (wc := []) (wr := [(m0, .inr (9, [.int 0, .ref (b 0), .ref (b 17)])), ((b 0), .inr (10, [.ref (b 1), .ref (b 2), .ref (b 3), .ref (b 4), .ref (b 5), .ref (b 6), .ref (b 7), .ref (b 8), .ref (b 9), .ref (b 10), .ref (b 11), .ref (b 12), .int 0, .int 0, .int (nI 0), .ref (b 13), .ref (b 14), .ref (b 16)])), ((b 13), .inr (8, [.int 0, .ref (g.2.2 0), .int 0]))]) E hA [] [0, 1, 2] rfl rfl rfl rfl (by decide)) E (fun r2 u2 H locs hp E => ?_)
  have E : Ev g _ s.heap H locs [(m0, .inr (9, [.int 0, .ref (b 0), .ref (b 17)])), ((b 0), .inr (10, [.ref (b 1), .ref (b 2), .ref (b 3), .ref (b 4), .ref (b 5), .ref (b 6), .ref (b 7), .ref (b 8), .ref (b 9), .ref (b 10), .ref (b 11), .ref (b 12), .int 0, .int 0, .int (nI 0), .ref (b 13), .ref (b 14), .ref (b 16)])), ((b 13), .inr (8, [.int 0, .ref (g.2.2 0), .int 0]))] := E
  obtain ⟨rfl, -⟩ := hp.resolve_left (fun z => rg0 z.2)
  refine lv_if_eq (tgt := 25) hx hb dX9_byAge_18 (by decide) (fun _ => ?_) (fun c_ => absurd (show (0 : Int32) = 0 by decide) c_)
  refine lv_iconst (v := 1) hx hb dX9_byAge_25 (by decide) ?_
  refine w_reti (runV_X (As := [.int 1]) (rest := []) (q0 := 0) (n := 1) S hml hK (hZ.at E) (Cut.of (wc := [(m0, .inr (9, [.int 0, .ref (b 0), .ref (b 17)]))]) (wr := [((b 0), .inr (10, [.ref (b 1), .ref (b 2), .ref (b 3), .ref (b 4), .ref (b 5), .ref (b 6), .ref (b 7), .ref (b 8), .ref (b 9), .ref (b 10), .ref (b 11), .ref (b 12), .int 0, .int 0, .int (nI 0), .ref (b 13), .ref (b 14), .ref (b 16)])), ((b 13), .inr (8, [.int 0, .ref (g.2.2 0), .int 0]))]) E hA [0] [1, 2] rfl rfl rfl rfl (by decide)) (c_X9_fails l g m0 b 0 1 _ _) (gi_wsV ml_X9_39 im_X9_fails sl_X9_fails in_X9 co_X9_fails) ⟨rfl, by decide +kernel, by decide +kernel, by decide +kernel⟩ ⟨Nat.le_of_ble_eq_true rfl, Nat.le_of_ble_eq_true rfl⟩ rfl rfl rfl hl.1 rfl (Nat.le_of_ble_eq_true rfl) dX9_byAge_26 ⟨Nat.le_of_ble_eq_true rfl, Nat.le_of_ble_eq_true rfl⟩) (Cut.of (wc := [(m0, .inr (9, [.int 0, .ref (b 0), .ref (b 17)]))]) (wr := [((b 0), .inr (10, [.ref (b 1), .ref (b 2), .ref (b 3), .ref (b 4), .ref (b 5), .ref (b 6), .ref (b 7), .ref (b 8), .ref (b 9), .ref (b 10), .ref (b 11), .ref (b 12), .int 0, .int 0, .int (nI 0), .ref (b 13), .ref (b 14), .ref (b 16)])), ((b 13), .inr (8, [.int 0, .ref (g.2.2 0), .int 0]))]) E hA [0] [1, 2] rfl rfl rfl rfl (by decide)) E (fun r4 u4 H locs hp E => ?_)
  have E : Ev g _ s.heap H locs [((b 0), .inr (10, [.ref (b 1), .ref (b 2), .ref (b 3), .ref (b 4), .ref (b 5), .ref (b 6), .ref (b 7), .ref (b 8), .ref (b 9), .ref (b 10), .ref (b 11), .ref (b 12), .int 0, .int 0, .int (nI 0), .ref (b 13), .ref (b 14), .ref (b 16)])), ((b 13), .inr (8, [.int 0, .ref (g.2.2 0), .int 0])), (m0, .inr (9, [.int 1, .ref (b 0), .ref (b 17)]))] := E
  obtain ⟨rfl, -⟩ := hp.resolve_right (fun z => absurd z.2 (by decide))
  refine lv_if_eq (tgt := 36) hx hb dX9_byAge_29 (by decide) (fun c_ => absurd c_ (show ¬ ((1 : Int32) = 0) by decide)) (fun _ => ?_)
  refine lv_iconst (v := 0) hx hb dX9_byAge_32 (by decide) ?_
  refine lv_goto (tgt := 53) hx hb dX9_byAge_33 (by decide) ?_
  have E : Ev g _ s.heap H locs [(m0, .inr (9, [.int 1, .ref (b 0), .ref (b 17)]))] := Ev.sub E [2] rfl rfl
  exact x_iret () S hr hlk hsz htt hK E dX9_byAge_53 trivial rfl ⟨Nat.le_of_ble_eq_true rfl, Nat.le_of_ble_eq_true rfl⟩ ⟨Nat.le_of_ble_eq_true rfl, Nat.le_of_ble_eq_true rfl⟩

set_option maxHeartbeats 4000000 in
set_option maxRecDepth 100000 in
/-- reference: events -/
theorem c_X9_events (l : Launch) (g : Gm) (m0 : Nat) (b : Nat → Nat) : MXi (S := Unit) l g yX9_events cX9_events 1 .int ({ frames := 2, cells := 0, slots := 0, locals := 40 } : Room) [.ref m0] [(m0, .inr (9, [.int 0, .ref (b 0), .ref (b 17)])), ((b 0), .inr (10, [.ref (b 1), .ref (b 2), .ref (b 3), .ref (b 4), .ref (b 5), .ref (b 6), .ref (b 7), .ref (b 8), .ref (b 9), .ref (b 10), .ref (b 11), .ref (b 12), .int 0, .int 0, .int (nI 0), .ref (b 13), .ref (b 14), .ref (b 16)])), ((b 14), .inr (7, [.ref (b 15), .int 0, .int 0, .int 0]))] (fun r _ => r = 0) (fun _ => [(m0, .inr (9, [.int 0, .ref (b 0), .ref (b 17)]))]) (fun _ => (0, 0)) := by
  intro sz tt
  refine ofX RX9 rfl (by decide +kernel) (Nat.le_of_ble_eq_true rfl) (fun p e s m args below meth c hargs S hml hr hlk hnm hsz htt hK hA hZ E ls hl => ?_)
  have hx := S.1
  have hb := S.2.1
  have hl : lv_has ls 1 [(0, .ref m0)] := hl
  refine lv_aload_n hx hb dX9_events_0 rfl (lv_at hl 0 rfl) ?_
  refine lv_iconst (v := 0) hx hb dX9_events_1 (by decide) ?_
  refine wp_X9_23 (w' := [(m0, .inr (9, [.int 0, .ref (b 0), .ref (b 17)])), ((b 0), .inr (10, [.ref (b 1), .ref (b 2), .ref (b 3), .ref (b 4), .ref (b 5), .ref (b 6), .ref (b 7), .ref (b 8), .ref (b 9), .ref (b 10), .ref (b 11), .ref (b 12), .int 0, .int 0, .int (nI 0), .ref (b 13), .ref (b 14), .ref (b 16)])), ((b 14), .inr (7, [.ref (b 15), .int 0, .int 0, .int 0]))]) S hK E 0 rfl rfl rfl (Nat.le_of_ble_eq_true rfl) rfl dX9_events_2 (fun H locs E => ?_)
  refine lv_aload_n hx hb dX9_events_5 rfl (lv_at hl 0 rfl) ?_
  refine wg_X9_10 (v := .ref (b 0)) S hK E 0 rfl rfl dX9_events_6 ?_
  refine wg_X9_155 (v := .ref (b 14)) S hZ.2.2.2.2.2.2.1 hK E 1 rfl rfl dX9_events_9 ?_
  refine w_reti (runV_X (As := []) (rest := []) (q0 := 0) (n := 0) S hml hK (hZ.at E) (Cut.of (wc := [((b 14), .inr (7, [.ref (b 15), .int 0, .int 0, .int 0]))]) (wr := [(m0, .inr (9, [.int 0, .ref (b 0), .ref (b 17)])), ((b 0), .inr (10, [.ref (b 1), .ref (b 2), .ref (b 3), .ref (b 4), .ref (b 5), .ref (b 6), .ref (b 7), .ref (b 8), .ref (b 9), .ref (b 10), .ref (b 11), .ref (b 12), .int 0, .int 0, .int (nI 0), .ref (b 13), .ref (b 14), .ref (b 16)]))]) E hA [2] [0, 1] rfl rfl rfl rfl (by decide)) (c_J4_length_8abf5 l g (b 14) (b 15) 0 _ _) (gi_wsV ml_X9_159 im_J4_length_8abf5 sl_J4_length_8abf5 in_J4 co_J4_length_8abf5) ⟨rfl, by decide +kernel, by decide +kernel, by decide +kernel⟩ ⟨Nat.le_of_ble_eq_true rfl, Nat.le_of_ble_eq_true rfl⟩ rfl rfl rfl hl.1 rfl (Nat.le_of_ble_eq_true rfl) dX9_events_12 ⟨Nat.le_of_ble_eq_true rfl, Nat.le_of_ble_eq_true rfl⟩) (Cut.of (wc := [((b 14), .inr (7, [.ref (b 15), .int 0, .int 0, .int 0]))]) (wr := [(m0, .inr (9, [.int 0, .ref (b 0), .ref (b 17)])), ((b 0), .inr (10, [.ref (b 1), .ref (b 2), .ref (b 3), .ref (b 4), .ref (b 5), .ref (b 6), .ref (b 7), .ref (b 8), .ref (b 9), .ref (b 10), .ref (b 11), .ref (b 12), .int 0, .int 0, .int (nI 0), .ref (b 13), .ref (b 14), .ref (b 16)]))]) E hA [2] [0, 1] rfl rfl rfl rfl (by decide)) E (fun r1 u1 H locs hp E => ?_)
  have E : Ev g _ s.heap H locs [(m0, .inr (9, [.int 0, .ref (b 0), .ref (b 17)])), ((b 0), .inr (10, [.ref (b 1), .ref (b 2), .ref (b 3), .ref (b 4), .ref (b 5), .ref (b 6), .ref (b 7), .ref (b 8), .ref (b 9), .ref (b 10), .ref (b 11), .ref (b 12), .int 0, .int 0, .int (nI 0), .ref (b 13), .ref (b 14), .ref (b 16)])), ((b 14), .inr (7, [.ref (b 15), .int 0, .int 0, .int 0]))] := E
  subst hp
  have E : Ev g _ s.heap H locs [(m0, .inr (9, [.int 0, .ref (b 0), .ref (b 17)]))] := Ev.sub E [0] rfl rfl
  exact x_iret () S hr hlk hsz htt hK E dX9_events_15 rfl rfl ⟨Nat.le_of_ble_eq_true rfl, Nat.le_of_ble_eq_true rfl⟩ ⟨Nat.le_of_ble_eq_true rfl, Nat.le_of_ble_eq_true rfl⟩

set_option maxHeartbeats 4000000 in
set_option maxRecDepth 100000 in
/-- reference: eventAt -/
theorem c_X9_eventAt (l : Launch) (g : Gm) (m0 : Nat) (b : Nat → Nat) (p0 : Int32) : MXi (S := Unit) l g yX9_eventAt cX9_eventAt 2 .char ({ frames := 2, cells := 0, slots := 0, locals := 40 } : Room) [.ref m0, .int p0] [(m0, .inr (9, [.int 0, .ref (b 0), .ref (b 17)])), ((b 0), .inr (10, [.ref (b 1), .ref (b 2), .ref (b 3), .ref (b 4), .ref (b 5), .ref (b 6), .ref (b 7), .ref (b 8), .ref (b 9), .ref (b 10), .ref (b 11), .ref (b 12), .int 0, .int 0, .int (nI 0), .ref (b 13), .ref (b 14), .ref (b 16)])), ((b 14), .inr (7, [.ref (b 15), .int 0, .int 0, .int 0]))] (fun _ _ => True) (fun _ => [(m0, .inr (9, [.int 1, .ref (b 0), .ref (b 17)]))]) (fun _ => (0, 0)) := by
  intro sz tt
  refine ofX RX9 rfl (by decide +kernel) (Nat.le_of_ble_eq_true rfl) (fun p e s m args below meth c hargs S hml hr hlk hnm hsz htt hK hA hZ E ls hl => ?_)
  have hx := S.1
  have hb := S.2.1
  have hl : lv_has ls 2 [(0, .ref m0), (1, .int p0)] := hl
  refine lv_aload_n hx hb dX9_eventAt_0 rfl (lv_at hl 0 rfl) ?_
  refine lv_iload_n hx hb dX9_eventAt_1 rfl (lv_at hl 1 rfl) ?_
  refine lv_iconst (v := 0) hx hb dX9_eventAt_2 (by decide) ?_
  refine lv_aload_n hx hb dX9_eventAt_3 rfl (lv_at hl 0 rfl) ?_
  refine wg_X9_10 (v := .ref (b 0)) S hK E 0 rfl rfl dX9_eventAt_4 ?_
  refine wg_X9_155 (v := .ref (b 14)) S hZ.2.2.2.2.2.2.1 hK E 1 rfl rfl dX9_eventAt_7 ?_
  refine w_reti (runV_X (As := []) (rest := [.int 0, .int p0, .ref m0]) (q0 := 0) (n := 0) S hml hK (hZ.at E) (Cut.of (wc := [((b 14), .inr (7, [.ref (b 15), .int 0, .int 0, .int 0]))]) (wr := [(m0, .inr (9, [.int 0, .ref (b 0), .ref (b 17)])), ((b 0), .inr (10, [.ref (b 1), .ref (b 2), .ref (b 3), .ref (b 4), .ref (b 5), .ref (b 6), .ref (b 7), .ref (b 8), .ref (b 9), .ref (b 10), .ref (b 11), .ref (b 12), .int 0, .int 0, .int (nI 0), .ref (b 13), .ref (b 14), .ref (b 16)]))]) E hA [2] [0, 1] rfl rfl rfl rfl (by decide)) (c_J4_length_8abf5 l g (b 14) (b 15) 0 _ _) (gi_wsV ml_X9_159 im_J4_length_8abf5 sl_J4_length_8abf5 in_J4 co_J4_length_8abf5) ⟨rfl, by decide +kernel, by decide +kernel, by decide +kernel⟩ ⟨Nat.le_of_ble_eq_true rfl, Nat.le_of_ble_eq_true rfl⟩ rfl rfl rfl hl.1 rfl (Nat.le_of_ble_eq_true rfl) dX9_eventAt_10 ⟨Nat.le_of_ble_eq_true rfl, Nat.le_of_ble_eq_true rfl⟩) (Cut.of (wc := [((b 14), .inr (7, [.ref (b 15), .int 0, .int 0, .int 0]))]) (wr := [(m0, .inr (9, [.int 0, .ref (b 0), .ref (b 17)])), ((b 0), .inr (10, [.ref (b 1), .ref (b 2), .ref (b 3), .ref (b 4), .ref (b 5), .ref (b 6), .ref (b 7), .ref (b 8), .ref (b 9), .ref (b 10), .ref (b 11), .ref (b 12), .int 0, .int 0, .int (nI 0), .ref (b 13), .ref (b 14), .ref (b 16)]))]) E hA [2] [0, 1] rfl rfl rfl rfl (by decide)) E (fun r1 u1 H locs hp E => ?_)
  have E : Ev g _ s.heap H locs [(m0, .inr (9, [.int 0, .ref (b 0), .ref (b 17)])), ((b 0), .inr (10, [.ref (b 1), .ref (b 2), .ref (b 3), .ref (b 4), .ref (b 5), .ref (b 6), .ref (b 7), .ref (b 8), .ref (b 9), .ref (b 10), .ref (b 11), .ref (b 12), .int 0, .int 0, .int (nI 0), .ref (b 13), .ref (b 14), .ref (b 16)])), ((b 14), .inr (7, [.ref (b 15), .int 0, .int 0, .int 0]))] := E
  subst hp
  refine lv_iconst (v := 1) hx hb dX9_eventAt_13 (by decide) ?_
  refine k_isub (v := (-1)) hx hb (by decide) dX9_eventAt_14 ?_
  refine w_reti (runS_X (As := [.int p0, .int 0, .int (-1)]) (rest := [.ref m0]) (n := 3) S hml hK (hZ.at E) (Cut.of (wc := []) (wr := [(m0, .inr (9, [.int 0, .ref (b 0), .ref (b 17)])), ((b 0), .inr (10, [.ref (b 1), .ref (b 2), .ref (b 3), .ref (b 4), .ref (b 5), .ref (b 6), .ref (b 7), .ref (b 8), .ref (b 9), .ref (b 10), .ref (b 11), .ref (b 12), .int 0, .int 0, .int (nI 0), .ref (b 13), .ref (b 14), .ref (b 16)])), ((b 14), .inr (7, [.ref (b 15), .int 0, .int 0, .int 0]))]) E hA [] [0, 1, 2] rfl rfl rfl rfl (by decide)) (c_X9_in l g p0 0 (-1) _ _) ml_X9_35 st_X9_in in_X9 co_X9_in ⟨by decide +kernel, by decide +kernel, by decide +kernel⟩ ⟨Nat.le_of_ble_eq_true rfl, Nat.le_of_ble_eq_true rfl⟩ rfl hl.1 rfl (Nat.le_of_ble_eq_true rfl) dX9_eventAt_15 ⟨Nat.le_of_ble_eq_true rfl, Nat.le_of_ble_eq_true rfl⟩) (Cut.of (wc := []) (wr := [(m0, .inr (9, [.int 0, .ref (b 0), .ref (b 17)])), ((b 0), .inr (10, [.ref (b 1), .ref (b 2), .ref (b 3), .ref (b 4), .ref (b 5), .ref (b 6), .ref (b 7), .ref (b 8), .ref (b 9), .ref (b 10), .ref (b 11), .ref (b 12), .int 0, .int 0, .int (nI 0), .ref (b 13), .ref (b 14), .ref (b 16)])), ((b 14), .inr (7, [.ref (b 15), .int 0, .int 0, .int 0]))]) E hA [] [0, 1, 2] rfl rfl rfl rfl (by decide)) E (fun r2 u2 H locs hp E => ?_)
  have E : Ev g _ s.heap H locs [(m0, .inr (9, [.int 0, .ref (b 0), .ref (b 17)])), ((b 0), .inr (10, [.ref (b 1), .ref (b 2), .ref (b 3), .ref (b 4), .ref (b 5), .ref (b 6), .ref (b 7), .ref (b 8), .ref (b 9), .ref (b 10), .ref (b 11), .ref (b 12), .int 0, .int 0, .int (nI 0), .ref (b 13), .ref (b 14), .ref (b 16)])), ((b 14), .inr (7, [.ref (b 15), .int 0, .int 0, .int 0]))] := E
  obtain ⟨rfl, -⟩ := hp.resolve_left (fun z => rg0 z.2)
  refine lv_if_eq (tgt := 25) hx hb dX9_eventAt_18 (by decide) (fun _ => ?_) (fun c_ => absurd (show (0 : Int32) = 0 by decide) c_)
  refine lv_iconst (v := 1) hx hb dX9_eventAt_25 (by decide) ?_
  refine w_reti (runV_X (As := [.int 1]) (rest := []) (q0 := 0) (n := 1) S hml hK (hZ.at E) (Cut.of (wc := [(m0, .inr (9, [.int 0, .ref (b 0), .ref (b 17)]))]) (wr := [((b 0), .inr (10, [.ref (b 1), .ref (b 2), .ref (b 3), .ref (b 4), .ref (b 5), .ref (b 6), .ref (b 7), .ref (b 8), .ref (b 9), .ref (b 10), .ref (b 11), .ref (b 12), .int 0, .int 0, .int (nI 0), .ref (b 13), .ref (b 14), .ref (b 16)])), ((b 14), .inr (7, [.ref (b 15), .int 0, .int 0, .int 0]))]) E hA [0] [1, 2] rfl rfl rfl rfl (by decide)) (c_X9_fails l g m0 b 0 1 _ _) (gi_wsV ml_X9_39 im_X9_fails sl_X9_fails in_X9 co_X9_fails) ⟨rfl, by decide +kernel, by decide +kernel, by decide +kernel⟩ ⟨Nat.le_of_ble_eq_true rfl, Nat.le_of_ble_eq_true rfl⟩ rfl rfl rfl hl.1 rfl (Nat.le_of_ble_eq_true rfl) dX9_eventAt_26 ⟨Nat.le_of_ble_eq_true rfl, Nat.le_of_ble_eq_true rfl⟩) (Cut.of (wc := [(m0, .inr (9, [.int 0, .ref (b 0), .ref (b 17)]))]) (wr := [((b 0), .inr (10, [.ref (b 1), .ref (b 2), .ref (b 3), .ref (b 4), .ref (b 5), .ref (b 6), .ref (b 7), .ref (b 8), .ref (b 9), .ref (b 10), .ref (b 11), .ref (b 12), .int 0, .int 0, .int (nI 0), .ref (b 13), .ref (b 14), .ref (b 16)])), ((b 14), .inr (7, [.ref (b 15), .int 0, .int 0, .int 0]))]) E hA [0] [1, 2] rfl rfl rfl rfl (by decide)) E (fun r4 u4 H locs hp E => ?_)
  have E : Ev g _ s.heap H locs [((b 0), .inr (10, [.ref (b 1), .ref (b 2), .ref (b 3), .ref (b 4), .ref (b 5), .ref (b 6), .ref (b 7), .ref (b 8), .ref (b 9), .ref (b 10), .ref (b 11), .ref (b 12), .int 0, .int 0, .int (nI 0), .ref (b 13), .ref (b 14), .ref (b 16)])), ((b 14), .inr (7, [.ref (b 15), .int 0, .int 0, .int 0])), (m0, .inr (9, [.int 1, .ref (b 0), .ref (b 17)]))] := E
  obtain ⟨rfl, -⟩ := hp.resolve_right (fun z => absurd z.2 (by decide))
  refine lv_if_eq (tgt := 36) hx hb dX9_eventAt_29 (by decide) (fun c_ => absurd c_ (show ¬ ((1 : Int32) = 0) by decide)) (fun _ => ?_)
  refine lv_iconst (v := 0) hx hb dX9_eventAt_32 (by decide) ?_
  refine lv_goto (tgt := 47) hx hb dX9_eventAt_33 (by decide) ?_
  have E : Ev g _ s.heap H locs [(m0, .inr (9, [.int 1, .ref (b 0), .ref (b 17)]))] := Ev.sub E [2] rfl rfl
  exact x_cret () S hr hlk hsz htt hK E dX9_eventAt_47 rfl trivial rfl ⟨Nat.le_of_ble_eq_true rfl, Nat.le_of_ble_eq_true rfl⟩ ⟨Nat.le_of_ble_eq_true rfl, Nat.le_of_ble_eq_true rfl⟩

set_option maxHeartbeats 4000000 in
set_option maxRecDepth 100000 in
/-- reference: checksum -/
theorem c_X9_checksum (l : Launch) (g : Gm) (m0 : Nat) (b : Nat → Nat) : MXl (S := Unit) l g yX9_checksum cX9_checksum 4 ({ frames := 0, cells := 0, slots := 0, locals := 0 } : Room) [.ref m0] [(m0, .inr (9, [.int 0, .ref (b 0), .ref (b 17)])), ((b 0), .inr (10, [.ref (b 1), .ref (b 2), .ref (b 3), .ref (b 4), .ref (b 5), .ref (b 6), .ref (b 7), .ref (b 8), .ref (b 9), .ref (b 10), .ref (b 11), .ref (b 12), .int 0, .int 0, .int (nI 0), .ref (b 13), .ref (b 14), .ref (b 16)])), ((b 3), .inl (g.2.1 0, 16, .inl (fun _ => 0))), ((b 4), .inl (g.2.1 0, 16, .inl (fun _ => 0)))] (fun r _ => r = 0) (fun _ => [(m0, .inr (9, [.int 0, .ref (b 0), .ref (b 17)]))]) (fun _ => (0, 0)) := by
  intro sz tt
  refine ofX RX9 rfl (by decide +kernel) (Nat.le_of_ble_eq_true rfl) (fun p e s m args below meth c hargs S hml hr hlk hnm hsz htt hK hA hZ E ls hl => ?_)
  have hx := S.1
  have hb := S.2.1
  have hl : lv_has ls 4 [(0, .ref m0)] := hl
  refine lv_aload_n hx hb dX9_checksum_0 rfl (lv_at hl 0 rfl) ?_
  refine lv_iconst (v := 0) hx hb dX9_checksum_1 (by decide) ?_
  refine wp_X9_23 (w' := [(m0, .inr (9, [.int 0, .ref (b 0), .ref (b 17)])), ((b 0), .inr (10, [.ref (b 1), .ref (b 2), .ref (b 3), .ref (b 4), .ref (b 5), .ref (b 6), .ref (b 7), .ref (b 8), .ref (b 9), .ref (b 10), .ref (b 11), .ref (b 12), .int 0, .int 0, .int (nI 0), .ref (b 13), .ref (b 14), .ref (b 16)])), ((b 3), .inl (g.2.1 0, 16, .inl (fun _ => 0))), ((b 4), .inl (g.2.1 0, 16, .inl (fun _ => 0)))]) S hK E 0 rfl rfl rfl (Nat.le_of_ble_eq_true rfl) rfl dX9_checksum_2 (fun H locs E => ?_)
  refine lv_lconst (v := 0) hx hb dX9_checksum_5 (by decide) ?_
  refine lv_lstore_n (lv' := [(1, .long 0), (0, .ref m0)]) hx hb dX9_checksum_6 rfl hl (by decide) rfl (fun ls hl => ?_)
  refine lv_iconst (v := 0) hx hb dX9_checksum_7 (by decide) ?_
  refine lv_istore_n (lv' := [(3, .int 0), (1, .long 0), (0, .ref m0)]) hx hb dX9_checksum_8 rfl hl (by decide) rfl (fun ls hl => ?_)
  have L1 : ∀ (k1 i1 : Nat), i1 + k1 = 16 → ∀ (H : Heap) (locs : List Loc), Ev g (va_A [(m0, .inr (9, [.int 0, .ref (b 0), .ref (b 17)])), ((b 0), .inr (10, [.ref (b 1), .ref (b 2), .ref (b 3), .ref (b 4), .ref (b 5), .ref (b 6), .ref (b 7), .ref (b 8), .ref (b 9), .ref (b 10), .ref (b 11), .ref (b 12), .int 0, .int 0, .int (nI 0), .ref (b 13), .ref (b 14), .ref (b 16)])), ((b 3), .inl (g.2.1 0, 16, .inl (fun _ => 0))), ((b 4), .inl (g.2.1 0, 16, .inl (fun _ => 0)))] sz) s.heap H locs [(m0, .inr (9, [.int 0, .ref (b 0), .ref (b 17)])), ((b 0), .inr (10, [.ref (b 1), .ref (b 2), .ref (b 3), .ref (b 4), .ref (b 5), .ref (b 6), .ref (b 7), .ref (b 8), .ref (b 9), .ref (b 10), .ref (b 11), .ref (b 12), .int 0, .int 0, .int (nI 0), .ref (b 13), .ref (b 14), .ref (b 16)])), ((b 3), .inl (g.2.1 0, 16, .inl (fun _ => 0))), ((b 4), .inl (g.2.1 0, 16, .inl (fun _ => 0)))] → ∀ ls : Array Slot, lv_has ls 4 [(3, .int (nI i1)), (1, .long 0), (0, .ref m0)] → W p l e ({ frames := 0, cells := 0, slots := 0, locals := 0 } : Room) s m args below meth c H locs 0 0 (MQ below (va_Ql (S := Unit) (fun r _ => r = 0) (AtX g (va_A [(m0, .inr (9, [.int 0, .ref (b 0), .ref (b 17)])), ((b 0), .inr (10, [.ref (b 1), .ref (b 2), .ref (b 3), .ref (b 4), .ref (b 5), .ref (b 6), .ref (b 7), .ref (b 8), .ref (b 9), .ref (b 10), .ref (b 11), .ref (b 12), .int 0, .int 0, .int (nI 0), .ref (b 13), .ref (b 14), .ref (b 16)])), ((b 3), .inl (g.2.1 0, 16, .inl (fun _ => 0))), ((b 4), .inl (g.2.1 0, 16, .inl (fun _ => 0)))] sz) (fun _ => [(m0, .inr (9, [.int 0, .ref (b 0), .ref (b 17)]))]) (fun _ => (0, 0)) sz tt) (va_A [(m0, .inr (9, [.int 0, .ref (b 0), .ref (b 17)])), ((b 0), .inr (10, [.ref (b 1), .ref (b 2), .ref (b 3), .ref (b 4), .ref (b 5), .ref (b 6), .ref (b 7), .ref (b 8), .ref (b 9), .ref (b 10), .ref (b 11), .ref (b 12), .int 0, .int 0, .int (nI 0), .ref (b 13), .ref (b 14), .ref (b 16)])), ((b 3), .inl (g.2.1 0, 16, .inl (fun _ => 0))), ((b 4), .inl (g.2.1 0, 16, .inl (fun _ => 0)))] sz)) args s 0 0 (va_A [(m0, .inr (9, [.int 0, .ref (b 0), .ref (b 17)])), ((b 0), .inr (10, [.ref (b 1), .ref (b 2), .ref (b 3), .ref (b 4), .ref (b 5), .ref (b 6), .ref (b 7), .ref (b 8), .ref (b 9), .ref (b 10), .ref (b 11), .ref (b 12), .int 0, .int 0, .int (nI 0), .ref (b 13), .ref (b 14), .ref (b 16)])), ((b 3), .inl (g.2.1 0, 16, .inl (fun _ => 0))), ((b 4), .inl (g.2.1 0, 16, .inl (fun _ => 0)))] sz)) (F0 m 9 ls []) := by
    intro k1
    induction k1 with
    | zero =>
      intro i1 hi1 H locs E ls hl
      obtain rfl : i1 = 16 := by omega
      have hl : lv_has ls 4 [(3, .int (nI 16)), (1, .long 0), (0, .ref m0)] := hl
      refine lv_iload_n hx hb dX9_checksum_9 rfl (lv_at hl 0 rfl) ?_
      refine lv_bipush (v := 16) hx hb dX9_checksum_10 (by decide) ?_
      refine lv_icmp_ge (tgt := 53) hx hb dX9_checksum_12 (by decide) (fun _ => ?_) (fun c_ => absurd (show 16 ≤ (nI 16) by decide) c_)
      refine lv_lload_n hx hb dX9_checksum_53 rfl (lv_at hl 1 rfl) ?_
      have E : Ev g _ s.heap H locs [(m0, .inr (9, [.int 0, .ref (b 0), .ref (b 17)]))] := Ev.sub E [0] rfl rfl
      exact x_lret () S hr hlk hsz htt hK E dX9_checksum_54 rfl rfl ⟨Nat.le_of_ble_eq_true rfl, Nat.le_of_ble_eq_true rfl⟩ ⟨Nat.le_of_ble_eq_true rfl, Nat.le_of_ble_eq_true rfl⟩
    | succ k1 ih1 =>
      intro i1 hi1 H locs E ls hl
      have hl : lv_has ls 4 [(3, .int (nI i1)), (1, .long 0), (0, .ref m0)] := hl
      refine lv_iload_n hx hb dX9_checksum_9 rfl (lv_at hl 0 rfl) ?_
      refine lv_bipush (v := 16) hx hb dX9_checksum_10 (by decide) ?_
      refine lv_icmp_ge (tgt := 53) hx hb dX9_checksum_12 (by decide) (fun c_ => absurd c_ (g_no (a := i1) (b := 16) rfl rfl (by omega) (by omega))) (fun _ => ?_)
      refine lv_ldc2 (v := 31) hx hb S.2.2.2 (S.2.2.1 _ cn_X9_179) dX9_checksum_15 ?_
      refine lv_lload_n hx hb dX9_checksum_18 rfl (lv_at hl 1 rfl) ?_
      refine k_lmul (v := 0) hx hb (by decide) dX9_checksum_19 ?_
      refine lv_aload_n hx hb dX9_checksum_20 rfl (lv_at hl 2 rfl) ?_
      refine wg_X9_10 (v := .ref (b 0)) S hK E 0 rfl rfl dX9_checksum_21 ?_
      refine wg_X9_43 (v := .ref (b 3)) S hZ.2.2.2.2.2.2.1 hK E 1 rfl rfl dX9_checksum_24 ?_
      refine lv_iload_n hx hb dX9_checksum_27 rfl (lv_at hl 0 rfl) ?_
      refine w_ild (v := 0) S hK E 2 0 rfl rfl (vp_in_nI (n := i1) (by omega) (by decide)) rfl dX9_checksum_28 ?_
      refine lv_i2l (v := 0) hx hb dX9_checksum_29 (by decide) ?_
      refine k_ladd (v := 0) hx hb (by decide) dX9_checksum_30 ?_
      refine lv_ldc2 (v := 7) hx hb S.2.2.2 (S.2.2.1 _ cn_X9_181) dX9_checksum_31 ?_
      refine lv_aload_n hx hb dX9_checksum_34 rfl (lv_at hl 2 rfl) ?_
      refine wg_X9_10 (v := .ref (b 0)) S hK E 0 rfl rfl dX9_checksum_35 ?_
      refine wg_X9_114 (v := .ref (b 4)) S hZ.2.2.2.2.2.2.1 hK E 1 rfl rfl dX9_checksum_38 ?_
      refine lv_iload_n hx hb dX9_checksum_41 rfl (lv_at hl 0 rfl) ?_
      refine w_ild (v := 0) S hK E 3 0 rfl rfl (vp_in_nI (n := i1) (by omega) (by decide)) rfl dX9_checksum_42 ?_
      refine lv_i2l (v := 0) hx hb dX9_checksum_43 (by decide) ?_
      refine k_lmul (v := 0) hx hb (by decide) dX9_checksum_44 ?_
      refine k_ladd (v := 0) hx hb (by decide) dX9_checksum_45 ?_
      refine lv_lstore_n (lv' := [(1, .long 0), (3, .int (nI i1)), (0, .ref m0)]) hx hb dX9_checksum_46 rfl hl (by decide) rfl (fun ls hl => ?_)
      refine lv_iinc (v := (nI (i1 + 1))) (lv' := [(3, .int (nI (i1 + 1))), (1, .long 0), (0, .ref m0)]) hx hb dX9_checksum_47 hl (k := 1) rfl (nI_1 i1) (by decide) rfl (fun ls hl => ?_)
      refine lv_goto (tgt := 9) hx hb dX9_checksum_50 (by decide) ?_
      exact ih1 (i1 + 1) (by omega) _ _ E ls (lv_sub hl [0, 1, 2] rfl)
  exact L1 16 0 (by omega) _ _ E ls (lv_sub hl [0, 1, 2] rfl)

set_option maxHeartbeats 4000000 in
set_option maxRecDepth 100000 in
/-- reference: dryShare -/
theorem c_X9_dryShare (l : Launch) (g : Gm) (m0 : Nat) (b : Nat → Nat) : MXf (S := Unit) l g yX9_dryShare cX9_dryShare 3 ({ frames := 0, cells := 0, slots := 0, locals := 0 } : Room) [.ref m0] [(m0, .inr (9, [.int 0, .ref (b 0), .ref (b 17)])), ((b 0), .inr (10, [.ref (b 1), .ref (b 2), .ref (b 3), .ref (b 4), .ref (b 5), .ref (b 6), .ref (b 7), .ref (b 8), .ref (b 9), .ref (b 10), .ref (b 11), .ref (b 12), .int 0, .int 0, .int (nI 0), .ref (b 13), .ref (b 14), .ref (b 16)])), ((b 3), .inl (g.2.1 0, 16, .inl (fun _ => 0)))] (fun r _ => r = 1065353216) (fun _ => [(m0, .inr (9, [.int 0, .ref (b 0), .ref (b 17)]))]) (fun _ => (0, 0)) := by
  intro sz tt
  refine ofX RX9 rfl (by decide +kernel) (Nat.le_of_ble_eq_true rfl) (fun p e s m args below meth c hargs S hml hr hlk hnm hsz htt hK hA hZ E ls hl => ?_)
  have hx := S.1
  have hb := S.2.1
  have hl : lv_has ls 3 [(0, .ref m0)] := hl
  refine lv_aload_n hx hb dX9_dryShare_0 rfl (lv_at hl 0 rfl) ?_
  refine lv_iconst (v := 0) hx hb dX9_dryShare_1 (by decide) ?_
  refine wp_X9_23 (w' := [(m0, .inr (9, [.int 0, .ref (b 0), .ref (b 17)])), ((b 0), .inr (10, [.ref (b 1), .ref (b 2), .ref (b 3), .ref (b 4), .ref (b 5), .ref (b 6), .ref (b 7), .ref (b 8), .ref (b 9), .ref (b 10), .ref (b 11), .ref (b 12), .int 0, .int 0, .int (nI 0), .ref (b 13), .ref (b 14), .ref (b 16)])), ((b 3), .inl (g.2.1 0, 16, .inl (fun _ => 0)))]) S hK E 0 rfl rfl rfl (Nat.le_of_ble_eq_true rfl) rfl dX9_dryShare_2 (fun H locs E => ?_)
  refine lv_iconst (v := 0) hx hb dX9_dryShare_5 (by decide) ?_
  refine lv_istore_n (lv' := [(1, .int 0), (0, .ref m0)]) hx hb dX9_dryShare_6 rfl hl (by decide) rfl (fun ls hl => ?_)
  refine lv_iconst (v := 0) hx hb dX9_dryShare_7 (by decide) ?_
  refine lv_istore_n (lv' := [(2, .int 0), (1, .int 0), (0, .ref m0)]) hx hb dX9_dryShare_8 rfl hl (by decide) rfl (fun ls hl => ?_)
  have L1 : ∀ (k1 i1 : Nat), i1 + k1 = 16 → ∀ (H : Heap) (locs : List Loc), Ev g (va_A [(m0, .inr (9, [.int 0, .ref (b 0), .ref (b 17)])), ((b 0), .inr (10, [.ref (b 1), .ref (b 2), .ref (b 3), .ref (b 4), .ref (b 5), .ref (b 6), .ref (b 7), .ref (b 8), .ref (b 9), .ref (b 10), .ref (b 11), .ref (b 12), .int 0, .int 0, .int (nI 0), .ref (b 13), .ref (b 14), .ref (b 16)])), ((b 3), .inl (g.2.1 0, 16, .inl (fun _ => 0)))] sz) s.heap H locs [(m0, .inr (9, [.int 0, .ref (b 0), .ref (b 17)])), ((b 0), .inr (10, [.ref (b 1), .ref (b 2), .ref (b 3), .ref (b 4), .ref (b 5), .ref (b 6), .ref (b 7), .ref (b 8), .ref (b 9), .ref (b 10), .ref (b 11), .ref (b 12), .int 0, .int 0, .int (nI 0), .ref (b 13), .ref (b 14), .ref (b 16)])), ((b 3), .inl (g.2.1 0, 16, .inl (fun _ => 0)))] → ∀ ls : Array Slot, lv_has ls 3 [(2, .int (nI i1)), (1, .int (nI i1)), (0, .ref m0)] → W p l e ({ frames := 0, cells := 0, slots := 0, locals := 0 } : Room) s m args below meth c H locs 0 0 (MQ below (va_Qf (S := Unit) (fun r _ => r = 1065353216) (AtX g (va_A [(m0, .inr (9, [.int 0, .ref (b 0), .ref (b 17)])), ((b 0), .inr (10, [.ref (b 1), .ref (b 2), .ref (b 3), .ref (b 4), .ref (b 5), .ref (b 6), .ref (b 7), .ref (b 8), .ref (b 9), .ref (b 10), .ref (b 11), .ref (b 12), .int 0, .int 0, .int (nI 0), .ref (b 13), .ref (b 14), .ref (b 16)])), ((b 3), .inl (g.2.1 0, 16, .inl (fun _ => 0)))] sz) (fun _ => [(m0, .inr (9, [.int 0, .ref (b 0), .ref (b 17)]))]) (fun _ => (0, 0)) sz tt) (va_A [(m0, .inr (9, [.int 0, .ref (b 0), .ref (b 17)])), ((b 0), .inr (10, [.ref (b 1), .ref (b 2), .ref (b 3), .ref (b 4), .ref (b 5), .ref (b 6), .ref (b 7), .ref (b 8), .ref (b 9), .ref (b 10), .ref (b 11), .ref (b 12), .int 0, .int 0, .int (nI 0), .ref (b 13), .ref (b 14), .ref (b 16)])), ((b 3), .inl (g.2.1 0, 16, .inl (fun _ => 0)))] sz)) args s 0 0 (va_A [(m0, .inr (9, [.int 0, .ref (b 0), .ref (b 17)])), ((b 0), .inr (10, [.ref (b 1), .ref (b 2), .ref (b 3), .ref (b 4), .ref (b 5), .ref (b 6), .ref (b 7), .ref (b 8), .ref (b 9), .ref (b 10), .ref (b 11), .ref (b 12), .int 0, .int 0, .int (nI 0), .ref (b 13), .ref (b 14), .ref (b 16)])), ((b 3), .inl (g.2.1 0, 16, .inl (fun _ => 0)))] sz)) (F0 m 9 ls []) := by
    intro k1
    induction k1 with
    | zero =>
      intro i1 hi1 H locs E ls hl
      obtain rfl : i1 = 16 := by omega
      have hl : lv_has ls 3 [(2, .int (nI 16)), (1, .int (nI 16)), (0, .ref m0)] := hl
      refine lv_iload_n hx hb dX9_dryShare_9 rfl (lv_at hl 0 rfl) ?_
      refine lv_bipush (v := 16) hx hb dX9_dryShare_10 (by decide) ?_
      refine lv_icmp_ge (tgt := 41) hx hb dX9_dryShare_12 (by decide) (fun _ => ?_) (fun c_ => absurd (show 16 ≤ (nI 16) by decide) c_)
      refine lv_iload_n hx hb dX9_dryShare_41 rfl (lv_at hl 1 rfl) ?_
      refine k_i2f (v := 1098907648) hx hb (by decide +kernel) dX9_dryShare_42 ?_
      refine lv_ldcf (v := 1098907648) hx hb S.2.2.2 (S.2.2.1 _ cn_X9_183) dX9_dryShare_43 ?_
      refine k_fdiv (v := 1065353216) hx hb ⟨by decide +kernel, by unfold vf_n32; decide +kernel⟩ dX9_dryShare_45 ?_
      have E : Ev g _ s.heap H locs [(m0, .inr (9, [.int 0, .ref (b 0), .ref (b 17)]))] := Ev.sub E [0] rfl rfl
      exact x_fret () S hr hlk hsz htt hK E dX9_dryShare_46 rfl rfl ⟨Nat.le_of_ble_eq_true rfl, Nat.le_of_ble_eq_true rfl⟩ ⟨Nat.le_of_ble_eq_true rfl, Nat.le_of_ble_eq_true rfl⟩
    | succ k1 ih1 =>
      intro i1 hi1 H locs E ls hl
      have hl : lv_has ls 3 [(2, .int (nI i1)), (1, .int (nI i1)), (0, .ref m0)] := hl
      refine lv_iload_n hx hb dX9_dryShare_9 rfl (lv_at hl 0 rfl) ?_
      refine lv_bipush (v := 16) hx hb dX9_dryShare_10 (by decide) ?_
      refine lv_icmp_ge (tgt := 41) hx hb dX9_dryShare_12 (by decide) (fun c_ => absurd c_ (g_no (a := i1) (b := 16) rfl rfl (by omega) (by omega))) (fun _ => ?_)
      refine lv_iload_n hx hb dX9_dryShare_15 rfl (lv_at hl 1 rfl) ?_
      refine lv_aload_n hx hb dX9_dryShare_16 rfl (lv_at hl 2 rfl) ?_
      refine wg_X9_10 (v := .ref (b 0)) S hK E 0 rfl rfl dX9_dryShare_17 ?_
      refine wg_X9_43 (v := .ref (b 3)) S hZ.2.2.2.2.2.2.1 hK E 1 rfl rfl dX9_dryShare_20 ?_
      refine lv_iload_n hx hb dX9_dryShare_23 rfl (lv_at hl 0 rfl) ?_
      refine w_ild (v := 0) S hK E 2 0 rfl rfl (vp_in_nI (n := i1) (by omega) (by decide)) rfl dX9_dryShare_24 ?_
      refine lv_if_ne (tgt := 32) hx hb dX9_dryShare_25 (by decide) (fun c_ => absurd (show (0 : Int32) = 0 by decide) c_) (fun _ => ?_)
      refine lv_iconst (v := 1) hx hb dX9_dryShare_28 (by decide) ?_
      refine lv_goto (tgt := 33) hx hb dX9_dryShare_29 (by decide) ?_
      refine k_iadd (v := (nI (i1 + 1))) hx hb (nI_1 i1) dX9_dryShare_33 ?_
      refine lv_istore_n (lv' := [(1, .int (nI (i1 + 1))), (2, .int (nI i1)), (0, .ref m0)]) hx hb dX9_dryShare_34 rfl hl (by decide) rfl (fun ls hl => ?_)
      refine lv_iinc (v := (nI (i1 + 1))) (lv' := [(2, .int (nI (i1 + 1))), (1, .int (nI (i1 + 1))), (0, .ref m0)]) hx hb dX9_dryShare_35 hl (k := 1) rfl (nI_1 i1) (by decide) rfl (fun ls hl => ?_)
      refine lv_goto (tgt := 9) hx hb dX9_dryShare_38 (by decide) ?_
      exact ih1 (i1 + 1) (by omega) _ _ E ls (lv_sub hl [0, 1, 2] rfl)
  exact L1 16 0 (by omega) _ _ E ls (lv_sub hl [0, 1, 2] rfl)

set_option maxHeartbeats 4000000 in
set_option maxRecDepth 100000 in
/-- reference: meanLevel -/
theorem c_X9_meanLevel (l : Launch) (g : Gm) (m0 : Nat) (b : Nat → Nat) : MXd (S := Unit) l g yX9_meanLevel cX9_meanLevel 3 ({ frames := 1, cells := 0, slots := 0, locals := 21 } : Room) [.ref m0] [(m0, .inr (9, [.int 0, .ref (b 0), .ref (b 17)])), ((b 0), .inr (10, [.ref (b 1), .ref (b 2), .ref (b 3), .ref (b 4), .ref (b 5), .ref (b 6), .ref (b 7), .ref (b 8), .ref (b 9), .ref (b 10), .ref (b 11), .ref (b 12), .int 0, .int 0, .int (nI 0), .ref (b 13), .ref (b 14), .ref (b 16)])), ((b 1), .inl (g.2.1 0, 16, .inl (fun _ => 0))), ((b 2), .inl (g.2.1 0, 16, .inl (fun _ => 10))), ((b 3), .inl (g.2.1 0, 16, .inl (fun _ => 0)))] (fun r _ => r = 0) (fun _ => [(m0, .inr (9, [.int 0, .ref (b 0), .ref (b 17)]))]) (fun _ => (0, 0)) := by
  intro sz tt
  refine ofX RX9 rfl (by decide +kernel) (Nat.le_of_ble_eq_true rfl) (fun p e s m args below meth c hargs S hml hr hlk hnm hsz htt hK hA hZ E ls hl => ?_)
  have hx := S.1
  have hb := S.2.1
  have hl : lv_has ls 3 [(0, .ref m0)] := hl
  refine lv_aload_n hx hb dX9_meanLevel_0 rfl (lv_at hl 0 rfl) ?_
  refine lv_iconst (v := 0) hx hb dX9_meanLevel_1 (by decide) ?_
  refine wp_X9_23 (w' := [(m0, .inr (9, [.int 0, .ref (b 0), .ref (b 17)])), ((b 0), .inr (10, [.ref (b 1), .ref (b 2), .ref (b 3), .ref (b 4), .ref (b 5), .ref (b 6), .ref (b 7), .ref (b 8), .ref (b 9), .ref (b 10), .ref (b 11), .ref (b 12), .int 0, .int 0, .int (nI 0), .ref (b 13), .ref (b 14), .ref (b 16)])), ((b 1), .inl (g.2.1 0, 16, .inl (fun _ => 0))), ((b 2), .inl (g.2.1 0, 16, .inl (fun _ => 10))), ((b 3), .inl (g.2.1 0, 16, .inl (fun _ => 0)))]) S hK E 0 rfl rfl rfl (Nat.le_of_ble_eq_true rfl) rfl dX9_meanLevel_2 (fun H locs E => ?_)
  refine lv_iconst (v := 0) hx hb dX9_meanLevel_5 (by decide) ?_
  refine lv_istore_n (lv' := [(1, .int 0), (0, .ref m0)]) hx hb dX9_meanLevel_6 rfl hl (by decide) rfl (fun ls hl => ?_)
  refine lv_iconst (v := 0) hx hb dX9_meanLevel_7 (by decide) ?_
  refine lv_istore_n (lv' := [(2, .int 0), (1, .int 0), (0, .ref m0)]) hx hb dX9_meanLevel_8 rfl hl (by decide) rfl (fun ls hl => ?_)
  have L1 : ∀ (k1 i1 : Nat), i1 + k1 = 16 → ∀ (H : Heap) (locs : List Loc), Ev g (va_A [(m0, .inr (9, [.int 0, .ref (b 0), .ref (b 17)])), ((b 0), .inr (10, [.ref (b 1), .ref (b 2), .ref (b 3), .ref (b 4), .ref (b 5), .ref (b 6), .ref (b 7), .ref (b 8), .ref (b 9), .ref (b 10), .ref (b 11), .ref (b 12), .int 0, .int 0, .int (nI 0), .ref (b 13), .ref (b 14), .ref (b 16)])), ((b 1), .inl (g.2.1 0, 16, .inl (fun _ => 0))), ((b 2), .inl (g.2.1 0, 16, .inl (fun _ => 10))), ((b 3), .inl (g.2.1 0, 16, .inl (fun _ => 0)))] sz) s.heap H locs [(m0, .inr (9, [.int 0, .ref (b 0), .ref (b 17)])), ((b 0), .inr (10, [.ref (b 1), .ref (b 2), .ref (b 3), .ref (b 4), .ref (b 5), .ref (b 6), .ref (b 7), .ref (b 8), .ref (b 9), .ref (b 10), .ref (b 11), .ref (b 12), .int 0, .int 0, .int (nI 0), .ref (b 13), .ref (b 14), .ref (b 16)])), ((b 1), .inl (g.2.1 0, 16, .inl (fun _ => 0))), ((b 2), .inl (g.2.1 0, 16, .inl (fun _ => 10))), ((b 3), .inl (g.2.1 0, 16, .inl (fun _ => 0)))] → ∀ ls : Array Slot, lv_has ls 3 [(2, .int (nI i1)), (1, .int 0), (0, .ref m0)] → W p l e ({ frames := 1, cells := 0, slots := 0, locals := 21 } : Room) s m args below meth c H locs 0 0 (MQ below (va_Qd (S := Unit) (fun r _ => r = 0) (AtX g (va_A [(m0, .inr (9, [.int 0, .ref (b 0), .ref (b 17)])), ((b 0), .inr (10, [.ref (b 1), .ref (b 2), .ref (b 3), .ref (b 4), .ref (b 5), .ref (b 6), .ref (b 7), .ref (b 8), .ref (b 9), .ref (b 10), .ref (b 11), .ref (b 12), .int 0, .int 0, .int (nI 0), .ref (b 13), .ref (b 14), .ref (b 16)])), ((b 1), .inl (g.2.1 0, 16, .inl (fun _ => 0))), ((b 2), .inl (g.2.1 0, 16, .inl (fun _ => 10))), ((b 3), .inl (g.2.1 0, 16, .inl (fun _ => 0)))] sz) (fun _ => [(m0, .inr (9, [.int 0, .ref (b 0), .ref (b 17)]))]) (fun _ => (0, 0)) sz tt) (va_A [(m0, .inr (9, [.int 0, .ref (b 0), .ref (b 17)])), ((b 0), .inr (10, [.ref (b 1), .ref (b 2), .ref (b 3), .ref (b 4), .ref (b 5), .ref (b 6), .ref (b 7), .ref (b 8), .ref (b 9), .ref (b 10), .ref (b 11), .ref (b 12), .int 0, .int 0, .int (nI 0), .ref (b 13), .ref (b 14), .ref (b 16)])), ((b 1), .inl (g.2.1 0, 16, .inl (fun _ => 0))), ((b 2), .inl (g.2.1 0, 16, .inl (fun _ => 10))), ((b 3), .inl (g.2.1 0, 16, .inl (fun _ => 0)))] sz)) args s 0 0 (va_A [(m0, .inr (9, [.int 0, .ref (b 0), .ref (b 17)])), ((b 0), .inr (10, [.ref (b 1), .ref (b 2), .ref (b 3), .ref (b 4), .ref (b 5), .ref (b 6), .ref (b 7), .ref (b 8), .ref (b 9), .ref (b 10), .ref (b 11), .ref (b 12), .int 0, .int 0, .int (nI 0), .ref (b 13), .ref (b 14), .ref (b 16)])), ((b 1), .inl (g.2.1 0, 16, .inl (fun _ => 0))), ((b 2), .inl (g.2.1 0, 16, .inl (fun _ => 10))), ((b 3), .inl (g.2.1 0, 16, .inl (fun _ => 0)))] sz)) (F0 m 9 ls []) := by
    intro k1
    induction k1 with
    | zero =>
      intro i1 hi1 H locs E ls hl
      obtain rfl : i1 = 16 := by omega
      have hl : lv_has ls 3 [(2, .int (nI 16)), (1, .int 0), (0, .ref m0)] := hl
      refine lv_iload_n hx hb dX9_meanLevel_9 rfl (lv_at hl 0 rfl) ?_
      refine lv_bipush (v := 16) hx hb dX9_meanLevel_10 (by decide) ?_
      refine lv_icmp_ge (tgt := 32) hx hb dX9_meanLevel_12 (by decide) (fun _ => ?_) (fun c_ => absurd (show 16 ≤ (nI 16) by decide) c_)
      refine lv_iload_n hx hb dX9_meanLevel_32 rfl (lv_at hl 1 rfl) ?_
      refine k_i2d (v := 0) hx hb (by decide +kernel) dX9_meanLevel_33 ?_
      refine lv_ldc2d (v := 4625196817309499392) hx hb S.2.2.2 (S.2.2.1 _ cn_X9_184) dX9_meanLevel_34 ?_
      refine k_ddiv (v := 0) hx hb ⟨by decide +kernel, by unfold vf_n64; decide +kernel⟩ dX9_meanLevel_37 ?_
      have E : Ev g _ s.heap H locs [(m0, .inr (9, [.int 0, .ref (b 0), .ref (b 17)]))] := Ev.sub E [0] rfl rfl
      exact x_dret () S hr hlk hsz htt hK E dX9_meanLevel_38 rfl rfl ⟨Nat.le_of_ble_eq_true rfl, Nat.le_of_ble_eq_true rfl⟩ ⟨Nat.le_of_ble_eq_true rfl, Nat.le_of_ble_eq_true rfl⟩
    | succ k1 ih1 =>
      intro i1 hi1 H locs E ls hl
      have hl : lv_has ls 3 [(2, .int (nI i1)), (1, .int 0), (0, .ref m0)] := hl
      refine lv_iload_n hx hb dX9_meanLevel_9 rfl (lv_at hl 0 rfl) ?_
      refine lv_bipush (v := 16) hx hb dX9_meanLevel_10 (by decide) ?_
      refine lv_icmp_ge (tgt := 32) hx hb dX9_meanLevel_12 (by decide) (fun c_ => absurd c_ (g_no (a := i1) (b := 16) rfl rfl (by omega) (by omega))) (fun _ => ?_)
      refine lv_iload_n hx hb dX9_meanLevel_15 rfl (lv_at hl 1 rfl) ?_
      refine lv_aload_n hx hb dX9_meanLevel_16 rfl (lv_at hl 2 rfl) ?_
      refine wg_X9_10 (v := .ref (b 0)) S hK E 0 rfl rfl dX9_meanLevel_17 ?_
      refine lv_iload_n hx hb dX9_meanLevel_20 rfl (lv_at hl 0 rfl) ?_
      refine w_reti (runV_X (As := [.int (nI i1)]) (rest := [.int 0]) (q0 := 0) (n := 1) S hml hK (hZ.at E) (Cut.of (wc := [((b 0), .inr (10, [.ref (b 1), .ref (b 2), .ref (b 3), .ref (b 4), .ref (b 5), .ref (b 6), .ref (b 7), .ref (b 8), .ref (b 9), .ref (b 10), .ref (b 11), .ref (b 12), .int 0, .int 0, .int (nI 0), .ref (b 13), .ref (b 14), .ref (b 16)])), ((b 1), .inl (g.2.1 0, 16, .inl (fun _ => 0))), ((b 2), .inl (g.2.1 0, 16, .inl (fun _ => 10))), ((b 3), .inl (g.2.1 0, 16, .inl (fun _ => 0)))]) (wr := [(m0, .inr (9, [.int 0, .ref (b 0), .ref (b 17)]))]) E hA [1, 2, 3, 4] [0] rfl rfl rfl rfl (by decide)) (c_X7_level l g b 0 (nI i1) (vp_in_nI (n := i1) (by omega) (by decide)) _ _) (gi_wsV ml_X9_110 im_X7_level sl_X7_level in_X7 co_X7_level) ⟨rfl, by decide +kernel, by decide +kernel, by decide +kernel⟩ ⟨Nat.le_of_ble_eq_true rfl, Nat.le_of_ble_eq_true rfl⟩ rfl rfl rfl hl.1 rfl (Nat.le_of_ble_eq_true rfl) dX9_meanLevel_21 ⟨Nat.le_of_ble_eq_true rfl, Nat.le_of_ble_eq_true rfl⟩) (Cut.of (wc := [((b 0), .inr (10, [.ref (b 1), .ref (b 2), .ref (b 3), .ref (b 4), .ref (b 5), .ref (b 6), .ref (b 7), .ref (b 8), .ref (b 9), .ref (b 10), .ref (b 11), .ref (b 12), .int 0, .int 0, .int (nI 0), .ref (b 13), .ref (b 14), .ref (b 16)])), ((b 1), .inl (g.2.1 0, 16, .inl (fun _ => 0))), ((b 2), .inl (g.2.1 0, 16, .inl (fun _ => 10))), ((b 3), .inl (g.2.1 0, 16, .inl (fun _ => 0)))]) (wr := [(m0, .inr (9, [.int 0, .ref (b 0), .ref (b 17)]))]) E hA [1, 2, 3, 4] [0] rfl rfl rfl rfl (by decide)) E (fun r2 u2 H locs hp E => ?_)
      have E : Ev g _ s.heap H locs [(m0, .inr (9, [.int 0, .ref (b 0), .ref (b 17)])), ((b 0), .inr (10, [.ref (b 1), .ref (b 2), .ref (b 3), .ref (b 4), .ref (b 5), .ref (b 6), .ref (b 7), .ref (b 8), .ref (b 9), .ref (b 10), .ref (b 11), .ref (b 12), .int 0, .int 0, .int (nI 0), .ref (b 13), .ref (b 14), .ref (b 16)])), ((b 1), .inl (g.2.1 0, 16, .inl (fun _ => 0))), ((b 2), .inl (g.2.1 0, 16, .inl (fun _ => 10))), ((b 3), .inl (g.2.1 0, 16, .inl (fun _ => 0)))] := E
      subst hp
      refine k_iadd (v := 0) hx hb (by decide) dX9_meanLevel_24 ?_
      refine lv_istore_n (lv' := [(1, .int 0), (2, .int (nI i1)), (0, .ref m0)]) hx hb dX9_meanLevel_25 rfl hl (by decide) rfl (fun ls hl => ?_)
      refine lv_iinc (v := (nI (i1 + 1))) (lv' := [(2, .int (nI (i1 + 1))), (1, .int 0), (0, .ref m0)]) hx hb dX9_meanLevel_26 hl (k := 1) rfl (nI_1 i1) (by decide) rfl (fun ls hl => ?_)
      refine lv_goto (tgt := 9) hx hb dX9_meanLevel_29 (by decide) ?_
      exact ih1 (i1 + 1) (by omega) _ _ E ls (lv_sub hl [0, 1, 2] rfl)
  exact L1 16 0 (by omega) _ _ E ls (lv_sub hl [0, 1, 2] rfl)

set_option maxHeartbeats 4000000 in
set_option maxRecDepth 100000 in
/-- reference: isSound -/
theorem c_X9_isSound (l : Launch) (g : Gm) (m0 : Nat) (b : Nat → Nat) : MXi (S := Unit) l g yX9_isSound cX9_isSound 1 .boolean ({ frames := 0, cells := 0, slots := 0, locals := 0 } : Room) [.ref m0] [(m0, .inr (9, [.int 0, .ref (b 0), .ref (b 17)]))] (fun r _ => r = 1) (fun _ => [(m0, .inr (9, [.int 0, .ref (b 0), .ref (b 17)]))]) (fun _ => (0, 0)) := by
  intro sz tt
  refine ofX RX9 rfl (by decide +kernel) (Nat.le_of_ble_eq_true rfl) (fun p e s m args below meth c hargs S hml hr hlk hnm hsz htt hK hA hZ E ls hl => ?_)
  have hx := S.1
  have hb := S.2.1
  have hl : lv_has ls 1 [(0, .ref m0)] := hl
  refine lv_aload_n hx hb dX9_isSound_0 rfl (lv_at hl 0 rfl) ?_
  refine lv_iconst (v := 0) hx hb dX9_isSound_1 (by decide) ?_
  refine wp_X9_23 (w' := [(m0, .inr (9, [.int 0, .ref (b 0), .ref (b 17)]))]) S hK E 0 rfl rfl rfl (Nat.le_of_ble_eq_true rfl) rfl dX9_isSound_2 (fun H locs E => ?_)
  refine lv_iconst (v := 1) hx hb dX9_isSound_5 (by decide) ?_
  exact x_zret () S hr hlk hsz htt hK E dX9_isSound_6 rfl rfl rfl ⟨Nat.le_of_ble_eq_true rfl, Nat.le_of_ble_eq_true rfl⟩ ⟨Nat.le_of_ble_eq_true rfl, Nat.le_of_ble_eq_true rfl⟩

