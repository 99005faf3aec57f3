/-! FOLLOW: a call out of the diary, kind by kind -/
theorem add_L {x y z : Int32} {n : Nat} (hn : n < 6) : ∀ (k i : Nat), i + k = n → ∀ (τ : Sg), gs τ 4 = nI n → (∀ w : Nat, w < 6 → vp_in (τ.1 27 w) 6) → (∀ w : Nat, w < 6 → vp_in ((f_X4_add_L46 x y z k i τ).1 27 w) 6) ∧ (f_X4_add_L46 x y z k i τ).1 18 = τ.1 18 ∧ (f_X4_add_L46 x y z k i τ).1 30 = τ.1 30 ∧ gs (f_X4_add_L46 x y z k i τ) 4 = nI (n + 1) ∧ gs (f_X4_add_L46 x y z k i τ) 5 = gs τ 5 ∧ gs (f_X4_add_L46 x y z k i τ) 6 = gs τ 6 ∧ gs (f_X4_add_L46 x y z k i τ) 7 = gs τ 7 := by
  have key : ∀ (k : Nat) (τ : Sg), gs τ 4 = nI n → (∀ w : Nat, w < 6 → vp_in (τ.1 27 w) 6) → (∀ w : Nat, w < 6 → vp_in ((ss (si τ 27 (nI k) (gs τ 4)) 4 (gs τ 4 + 1)).1 27 w) 6) ∧ gs (ss (si τ 27 (nI k) (gs τ 4)) 4 (gs τ 4 + 1)) 4 = nI (n + 1) := by
    intro k τ h4 h27
    refine ⟨up_in27 h27 (by rw [h4]; exact vp_in_nI hn (by decide)), ?_⟩
    show gs τ 4 + 1 = _
    rw [h4, nI_1]
  intro k
  induction k with
  | zero =>
    intro i hi τ h4 h27
    rw [f_X4_add_L46]
    obtain ⟨a, b⟩ := key 0 τ h4 h27
    exact ⟨a, rfl, rfl, b, rfl, rfl, rfl⟩
  | succ k ih =>
    intro i hi τ h4 h27
    rw [f_X4_add_L46]
    split
    · obtain ⟨a, b⟩ := key (k + 1) τ h4 h27
      exact ⟨a, rfl, rfl, b, rfl, rfl, rfl⟩
    · obtain ⟨a, b, b2, c, d, e, f⟩ := ih (i + 1) (by omega) (si τ 27 (nI (k + 1)) (gi τ 27 (nI k))) h4 (up_in27 h27 (gi_in27 h27 (vp_in_nI (by omega) (by decide))))
      exact ⟨a, b, b2, c, d, e, f⟩
theorem add_all {σ : Sg} {x y z : Int32} (hW : WF σ) (hx : vp_in x 16) : WF (f_X4_add σ x y z) ∧ (f_X4_add σ x y z).1 30 = σ.1 30 ∧ gs (f_X4_add σ x y z) 5 = gs σ 5 ∧ gs (f_X4_add σ x y z) 6 = gs σ 6 ∧ gs (f_X4_add σ x y z) 7 = gs σ 7 := by
  unfold f_X4_add
  split
  · rename_i h
    have hn : cnt σ < 6 := cnt_lt h (WF.le hW)
    obtain ⟨a, b, b2, c, d, e, f⟩ := add_L (x := x) (y := y) (z := z) hn (cnt σ) 0 (Nat.zero_add _) (si (si (si σ 18 (nI (cnt σ)) x) 19 (nI (cnt σ)) y) 20 (nI (cnt σ)) z) (WF.n (σ := σ) hW) hW.2.2
    have hc : cnt (f_X4_add_L46 x y z (cnt σ) 0 (si (si (si σ 18 (nI (cnt σ)) x) 19 (nI (cnt σ)) y) 20 (nI (cnt σ)) z)) = cnt σ + 1 := by
      show (gs _ 4).toNatClampNeg = _
      rw [c, nI_clamp (by omega)]
    refine ⟨⟨⟨by rw [hc]; exact c, by rw [hc]; omega⟩, ?_, a⟩, b2, d, e, f⟩
    intro w hw
    rw [b]
    show vp_in (upd (σ.1 18) (nI (cnt σ)).toNatClampNeg x w) 16
    unfold upd
    split
    · exact hx
    · exact hW.2.1 w hw
  · exact ⟨hW, rfl, rfl, rfl, rfl⟩
/-- what a call of the diary leaves true -/
def GK (K : Nat) (τ σ : Sg) : Prop := EvOK τ ∧ en σ ≤ en τ ∧ en τ ≤ en σ + K ∧ eg σ ≤ eg τ ∧ ec σ ≤ ec τ ∧ WF τ
theorem EK.gk {K : Nat} {τ σ : Sg} (h : EK K τ σ) (w : WF σ) : GK K τ σ := ⟨h.1, h.2.1, h.2.2.1, h.2.2.2.1, h.2.2.2.2.1, h.wf w⟩
theorem GE_X4_add {σ : Sg} {x y z : Int32} (hW : WF σ) (hx : vp_in x 16) : eg (f_X4_add σ x y z) = eg σ ∧ ec (f_X4_add σ x y z) = ec σ := by
  obtain ⟨-, -, -, e6, e7⟩ := add_all (y := y) (z := z) hW hx
  exact ⟨congrArg Int32.toNatClampNeg e7, congrArg Int32.toNatClampNeg e6⟩
theorem GK_X4_add {σ : Sg} {x y z : Int32} (hW : WF σ) (hx : vp_in x 16) (v : EvOK σ) : GK 0 (f_X4_add σ x y z) σ := by
  obtain ⟨hw, e30, e5, e6, e7⟩ := add_all (y := y) (z := z) hW hx
  have h5 : en (f_X4_add σ x y z) = en σ := congrArg Int32.toNatClampNeg e5
  have h6 : ec (f_X4_add σ x y z) = ec σ := congrArg Int32.toNatClampNeg e6
  have h7 : eg (f_X4_add σ x y z) = eg σ := congrArg Int32.toNatClampNeg e7
  refine ⟨?_, by omega, by omega, by omega, by omega, hw⟩
  unfold EvOK
  rw [h5, h6, h7, e5, e6, e7, e30]
  exact v
def wsF (g : Gm) (ad : Nat → Nat) (lo ke fo : Int32) (cc : Nat × va_E) (ea : Nat) (σ : Sg) : va_W := wsW g ad lo ke fo ea σ ++ [cc]
theorem wsF_set {g : Gm} {ad : Nat → Nat} {lo ke fo : Int32} {cc : Nat × va_E} {ea k : Nat} {σ σ' : Sg} {v : Nat × va_E} (hk : k < 31) (h : (wsW g ad lo ke fo ea σ).set k v = wsW g ad lo ke fo ea σ') : (wsF g ad lo ke fo cc ea σ).set k v = wsF g ad lo ke fo cc ea σ' := by
  unfold wsF
  rw [List.set_append_left _ _ (show k < (wsW g ad lo ke fo ea σ).length from hk), h]
def f_X5_follow_0 (σ : Sg) (lo : Int32) (a : Int32) (b : Int32) (c0 : Int32) (d0 : Int32) : Sg := (f_X5_fillCell σ a b c0 d0)
set_option maxHeartbeats 4000000 in
set_option maxRecDepth 100000 in
/-- World.follow, kind 0 -/
theorem c_X5_follow_0 (l : Launch) (g : Gm) (cl : Nat) (ad : Nat → Nat) (lo ke fo : Int32) (ea : Nat) (σ : Sg) (a : Int32) (b : Int32) (c0 : Int32) (d0 : Int32) (q_a : vp_in a 16) (hW : WF σ) (hke : ke = 0 ∨ ke = 1) (hE : EvOK σ) (hB : en σ + 0 ≤ 20000) : MXv l g yX5_follow cX5_follow 2 ({ frames := 1, cells := 12, slots := 100000, locals := 24 } : Room) [.ref (ad 0), .ref cl] (wsF g ad lo ke fo (cl, .inr (1, [.int 0, .int a, .int b, .int c0, .int d0])) ea σ) (fun u : Sg × Nat => u.1 = f_X5_follow_0 σ lo a b c0 d0) (fun u => wsF g ad lo ke fo (cl, .inr (1, [.int 0, .int a, .int b, .int c0, .int d0])) u.2 u.1) (kxN σ) := by
  intro sz tt
  refine ofX RX5 rfl (by decide +kernel) (Nat.le_of_ble_eq_true rfl) (fun p e s m args below meth c hargs S hml hr hlk hnm hsz htt hK hA hZ E ls hl => ?_)
  have hx := S.1
  have hb := S.2.1
  have hl : lv_has ls 2 [(0, .ref (ad 0)), (1, .ref cl)] := hl
  refine W.widen (k := eg σ - eg σ) (n := 2 * ec σ - 2 * ec σ) (Nat.zero_le _) (Nat.zero_le _) ?_
  refine lv_aload_n hx hb dX5_follow_0 rfl (lv_at hl 1 rfl) ?_
  refine wg_X5_83 (v := .int 0) S hK E 31 rfl rfl dX5_follow_1 ?_
  refine lv_tableIn (tgt := 64) hx hb dX5_follow_4 (by decide) (by decide) rfl (by decide) ?_
  refine lv_aload_n hx hb dX5_follow_64 rfl (lv_at hl 0 rfl) ?_
  refine lv_aload_n hx hb dX5_follow_65 rfl (lv_at hl 1 rfl) ?_
  refine wg_X5_86 (v := .int a) S hK E 31 rfl rfl dX5_follow_66 ?_
  refine lv_aload_n hx hb dX5_follow_69 rfl (lv_at hl 1 rfl) ?_
  refine wg_X5_89 (v := .int b) S hK E 31 rfl rfl dX5_follow_70 ?_
  refine lv_aload_n hx hb dX5_follow_73 rfl (lv_at hl 1 rfl) ?_
  refine wg_X5_92 (v := .int c0) S hK E 31 rfl rfl dX5_follow_74 ?_
  refine lv_aload_n hx hb dX5_follow_77 rfl (lv_at hl 1 rfl) ?_
  refine wg_X5_95 (v := .int d0) S hK E 31 rfl rfl dX5_follow_78 ?_
  have hq := nt_c (EK.rf hE).1 (by have := (EK.rf hE).2.2.1; omega)
  refine w_retv (runV_X (As := [.int a, .int b, .int c0, .int d0]) (rest := []) (q0 := 0) (n := 4) S hml hK (hZ.at E) (Cut.of (wc := wsW g ad lo ke fo ea σ) (wr := [(cl, .inr (1, [.int 0, .int a, .int b, .int c0, .int d0]))]) E hA (List.range 31) [31] rfl rfl rfl rfl (by decide)) (c_X5_fillCell l g ad lo ke fo ea σ a b c0 d0 q_a _ _) (gi_wsV ml_X5_98 im_X5_fillCell sl_X5_fillCell in_X5 co_X5_fillCell) ⟨rfl, by decide +kernel, by decide +kernel, by decide +kernel⟩ ⟨Nat.le_of_ble_eq_true rfl, Nat.le_of_ble_eq_true rfl⟩ rfl rfl rfl hl.1 rfl (Nat.le_of_ble_eq_true rfl) dX5_follow_81 ⟨by show eg σ - eg σ + 0 ≤ 12; omega, by show 2 * ec σ - 2 * ec σ + 0 ≤ 100000; omega⟩) (Cut.of (wc := wsW g ad lo ke fo ea σ) (wr := [(cl, .inr (1, [.int 0, .int a, .int b, .int c0, .int d0]))]) E hA (List.range 31) [31] rfl rfl rfl rfl (by decide)) E (fun u H locs hp E => ?_)
  subst hp
  have E : Ev g _ s.heap H locs (wsF g ad lo ke fo (cl, .inr (1, [.int 0, .int a, .int b, .int c0, .int d0])) ea (f_X5_fillCell σ a b c0 d0)) := Ev.sub E ((List.range 31).map (· + 1) ++ [0]) rfl rfl
  refine W.widen (k := eg (f_X5_fillCell σ a b c0 d0) - eg σ) (n := 2 * ec (f_X5_fillCell σ a b c0 d0) - 2 * ec σ) (Kp_wd1 (KP_X5_fillCell (σ := σ) (x := a) (y := b) (z := c0) (w := d0))) (Kp_wd2 (KP_X5_fillCell (σ := σ) (x := a) (y := b) (z := c0) (w := d0))) ?_
  refine lv_goto (tgt := 305) hx hb dX5_follow_84 (by decide) ?_
  have hQ : f_X5_follow_0 σ lo a b c0 d0 = (f_X5_fillCell σ a b c0 d0) := by
    rfl
  have hq := nt_c (EK.kp (KP_X5_fillCell (σ := σ) (x := a) (y := b) (z := c0) (w := d0)) (EK.rf hE)).1 (by have := (EK.kp (KP_X5_fillCell (σ := σ) (x := a) (y := b) (z := c0) (w := d0)) (EK.rf hE)).2.2.1; omega)
  exact x_vret ((f_X5_fillCell σ a b c0 d0), ea) S hr hlk hsz htt hK E dX5_follow_305 hQ.symm rfl ⟨Nat.le_refl _, Nat.le_refl _⟩ ⟨by show eg (f_X5_fillCell σ a b c0 d0) - eg σ + 0 ≤ 12; omega, by show 2 * ec (f_X5_fillCell σ a b c0 d0) - 2 * ec σ + 0 ≤ 100000; omega⟩

def f_X5_follow_1 (σ : Sg) (lo : Int32) (a : Int32) (b : Int32) (c0 : Int32) (d0 : Int32) : Sg := (si σ 12 a b)
set_option maxHeartbeats 4000000 in
set_option maxRecDepth 100000 in
/-- World.follow, kind 1 -/
theorem c_X5_follow_1 (l : Launch) (g : Gm) (cl : Nat) (ad : Nat → Nat) (lo ke fo : Int32) (ea : Nat) (σ : Sg) (a : Int32) (b : Int32) (c0 : Int32) (d0 : Int32) (q_a : vp_in a 8) (hW : WF σ) (hke : ke = 0 ∨ ke = 1) (hE : EvOK σ) (hB : en σ + 0 ≤ 20000) : MXv l g yX5_follow cX5_follow 2 ({ frames := 0, cells := 12, slots := 100000, locals := 0 } : Room) [.ref (ad 0), .ref cl] (wsF g ad lo ke fo (cl, .inr (1, [.int 1, .int a, .int b, .int c0, .int d0])) ea σ) (fun u : Sg × Nat => u.1 = f_X5_follow_1 σ lo a b c0 d0) (fun u => wsF g ad lo ke fo (cl, .inr (1, [.int 1, .int a, .int b, .int c0, .int d0])) u.2 u.1) (kxN σ) := by
  intro sz tt
  refine ofX RX5 rfl (by decide +kernel) (Nat.le_of_ble_eq_true rfl) (fun p e s m args below meth c hargs S hml hr hlk hnm hsz htt hK hA hZ E ls hl => ?_)
  have hx := S.1
  have hb := S.2.1
  have hl : lv_has ls 2 [(0, .ref (ad 0)), (1, .ref cl)] := hl
  refine W.widen (k := eg σ - eg σ) (n := 2 * ec σ - 2 * ec σ) (Nat.zero_le _) (Nat.zero_le _) ?_
  refine lv_aload_n hx hb dX5_follow_0 rfl (lv_at hl 1 rfl) ?_
  refine wg_X5_83 (v := .int 1) S hK E 31 rfl rfl dX5_follow_1 ?_
  refine lv_tableIn (tgt := 87) hx hb dX5_follow_4 (by decide) (by decide) rfl (by decide) ?_
  refine lv_aload_n hx hb dX5_follow_87 rfl (lv_at hl 0 rfl) ?_
  refine wg_X5_21 (v := .ref (ad 2)) S hK E 0 rfl rfl dX5_follow_88 ?_
  refine wg_X5_102 (v := .ref (ad 12)) S hK E 2 rfl rfl dX5_follow_91 ?_
  refine lv_aload_n hx hb dX5_follow_94 rfl (lv_at hl 1 rfl) ?_
  refine wg_X5_86 (v := .int a) S hK E 31 rfl rfl dX5_follow_95 ?_
  refine lv_aload_n hx hb dX5_follow_98 rfl (lv_at hl 1 rfl) ?_
  refine wg_X5_89 (v := .int b) S hK E 31 rfl rfl dX5_follow_99 ?_
  refine w_ist (w' := wsF g ad lo ke fo (cl, .inr (1, [.int 1, .int a, .int b, .int c0, .int d0])) ea (si σ 12 a b)) S hK E 12 0 rfl rfl q_a (wsF_set (by decide) wset_12) dX5_follow_102 (fun H locs E => ?_)
  refine lv_goto (tgt := 305) hx hb dX5_follow_103 (by decide) ?_
  have hQ : f_X5_follow_1 σ lo a b c0 d0 = (si σ 12 a b) := by
    rfl
  have hq := nt_c (EK.kp (Kp_si (τ := σ) (k := 12) (x := a) (v := b) Kp.rf (by decide)) (EK.rf hE)).1 (by have := (EK.kp (Kp_si (τ := σ) (k := 12) (x := a) (v := b) Kp.rf (by decide)) (EK.rf hE)).2.2.1; omega)
  exact x_vret ((si σ 12 a b), ea) S hr hlk hsz htt hK E dX5_follow_305 hQ.symm rfl ⟨Nat.le_refl _, Nat.le_refl _⟩ ⟨by show eg (si σ 12 a b) - eg σ + 0 ≤ 12; omega, by show 2 * ec (si σ 12 a b) - 2 * ec σ + 0 ≤ 100000; omega⟩

def f_X5_follow_2 (σ : Sg) (lo : Int32) (a : Int32) (b : Int32) (c0 : Int32) (d0 : Int32) : Sg := (si σ 13 a b)
set_option maxHeartbeats 4000000 in
set_option maxRecDepth 100000 in
/-- World.follow, kind 2 -/
theorem c_X5_follow_2 (l : Launch) (g : Gm) (cl : Nat) (ad : Nat → Nat) (lo ke fo : Int32) (ea : Nat) (σ : Sg) (a : Int32) (b : Int32) (c0 : Int32) (d0 : Int32) (q_a : vp_in a 2) (hW : WF σ) (hke : ke = 0 ∨ ke = 1) (hE : EvOK σ) (hB : en σ + 0 ≤ 20000) : MXv l g yX5_follow cX5_follow 2 ({ frames := 0, cells := 12, slots := 100000, locals := 0 } : Room) [.ref (ad 0), .ref cl] (wsF g ad lo ke fo (cl, .inr (1, [.int 2, .int a, .int b, .int c0, .int d0])) ea σ) (fun u : Sg × Nat => u.1 = f_X5_follow_2 σ lo a b c0 d0) (fun u => wsF g ad lo ke fo (cl, .inr (1, [.int 2, .int a, .int b, .int c0, .int d0])) u.2 u.1) (kxN σ) := by
  intro sz tt
  refine ofX RX5 rfl (by decide +kernel) (Nat.le_of_ble_eq_true rfl) (fun p e s m args below meth c hargs S hml hr hlk hnm hsz htt hK hA hZ E ls hl => ?_)
  have hx := S.1
  have hb := S.2.1
  have hl : lv_has ls 2 [(0, .ref (ad 0)), (1, .ref cl)] := hl
  refine W.widen (k := eg σ - eg σ) (n := 2 * ec σ - 2 * ec σ) (Nat.zero_le _) (Nat.zero_le _) ?_
  refine lv_aload_n hx hb dX5_follow_0 rfl (lv_at hl 1 rfl) ?_
  refine wg_X5_83 (v := .int 2) S hK E 31 rfl rfl dX5_follow_1 ?_
  refine lv_tableIn (tgt := 106) hx hb dX5_follow_4 (by decide) (by decide) rfl (by decide) ?_
  refine lv_aload_n hx hb dX5_follow_106 rfl (lv_at hl 0 rfl) ?_
  refine wg_X5_21 (v := .ref (ad 2)) S hK E 0 rfl rfl dX5_follow_107 ?_
  refine wg_X5_105 (v := .ref (ad 13)) S hK E 2 rfl rfl dX5_follow_110 ?_
  refine lv_aload_n hx hb dX5_follow_113 rfl (lv_at hl 1 rfl) ?_
  refine wg_X5_86 (v := .int a) S hK E 31 rfl rfl dX5_follow_114 ?_
  refine lv_aload_n hx hb dX5_follow_117 rfl (lv_at hl 1 rfl) ?_
  refine wg_X5_89 (v := .int b) S hK E 31 rfl rfl dX5_follow_118 ?_
  refine w_ist (w' := wsF g ad lo ke fo (cl, .inr (1, [.int 2, .int a, .int b, .int c0, .int d0])) ea (si σ 13 a b)) S hK E 13 0 rfl rfl q_a (wsF_set (by decide) wset_13) dX5_follow_121 (fun H locs E => ?_)
  refine lv_goto (tgt := 305) hx hb dX5_follow_122 (by decide) ?_
  have hQ : f_X5_follow_2 σ lo a b c0 d0 = (si σ 13 a b) := by
    rfl
  have hq := nt_c (EK.kp (Kp_si (τ := σ) (k := 13) (x := a) (v := b) Kp.rf (by decide)) (EK.rf hE)).1 (by have := (EK.kp (Kp_si (τ := σ) (k := 13) (x := a) (v := b) Kp.rf (by decide)) (EK.rf hE)).2.2.1; omega)
  exact x_vret ((si σ 13 a b), ea) S hr hlk hsz htt hK E dX5_follow_305 hQ.symm rfl ⟨Nat.le_refl _, Nat.le_refl _⟩ ⟨by show eg (si σ 13 a b) - eg σ + 0 ≤ 12; omega, by show 2 * ec (si σ 13 a b) - 2 * ec σ + 0 ≤ 100000; omega⟩

def f_X5_follow_3 (σ : Sg) (lo : Int32) (a : Int32) (b : Int32) (c0 : Int32) (d0 : Int32) : Sg := (si σ 14 a b)
set_option maxHeartbeats 4000000 in
set_option maxRecDepth 100000 in
/-- World.follow, kind 3 -/
theorem c_X5_follow_3 (l : Launch) (g : Gm) (cl : Nat) (ad : Nat → Nat) (lo ke fo : Int32) (ea : Nat) (σ : Sg) (a : Int32) (b : Int32) (c0 : Int32) (d0 : Int32) (q_a : vp_in a 8) (hW : WF σ) (hke : ke = 0 ∨ ke = 1) (hE : EvOK σ) (hB : en σ + 0 ≤ 20000) : MXv l g yX5_follow cX5_follow 2 ({ frames := 0, cells := 12, slots := 100000, locals := 0 } : Room) [.ref (ad 0), .ref cl] (wsF g ad lo ke fo (cl, .inr (1, [.int 3, .int a, .int b, .int c0, .int d0])) ea σ) (fun u : Sg × Nat => u.1 = f_X5_follow_3 σ lo a b c0 d0) (fun u => wsF g ad lo ke fo (cl, .inr (1, [.int 3, .int a, .int b, .int c0, .int d0])) u.2 u.1) (kxN σ) := by
  intro sz tt
  refine ofX RX5 rfl (by decide +kernel) (Nat.le_of_ble_eq_true rfl) (fun p e s m args below meth c hargs S hml hr hlk hnm hsz htt hK hA hZ E ls hl => ?_)
  have hx := S.1
  have hb := S.2.1
  have hl : lv_has ls 2 [(0, .ref (ad 0)), (1, .ref cl)] := hl
  refine W.widen (k := eg σ - eg σ) (n := 2 * ec σ - 2 * ec σ) (Nat.zero_le _) (Nat.zero_le _) ?_
  refine lv_aload_n hx hb dX5_follow_0 rfl (lv_at hl 1 rfl) ?_
  refine wg_X5_83 (v := .int 3) S hK E 31 rfl rfl dX5_follow_1 ?_
  refine lv_tableIn (tgt := 125) hx hb dX5_follow_4 (by decide) (by decide) rfl (by decide) ?_
  refine lv_aload_n hx hb dX5_follow_125 rfl (lv_at hl 0 rfl) ?_
  refine wg_X5_21 (v := .ref (ad 2)) S hK E 0 rfl rfl dX5_follow_126 ?_
  refine wg_X5_108 (v := .ref (ad 14)) S hK E 2 rfl rfl dX5_follow_129 ?_
  refine lv_aload_n hx hb dX5_follow_132 rfl (lv_at hl 1 rfl) ?_
  refine wg_X5_86 (v := .int a) S hK E 31 rfl rfl dX5_follow_133 ?_
  refine lv_aload_n hx hb dX5_follow_136 rfl (lv_at hl 1 rfl) ?_
  refine wg_X5_89 (v := .int b) S hK E 31 rfl rfl dX5_follow_137 ?_
  refine w_ist (w' := wsF g ad lo ke fo (cl, .inr (1, [.int 3, .int a, .int b, .int c0, .int d0])) ea (si σ 14 a b)) S hK E 14 0 rfl rfl q_a (wsF_set (by decide) wset_14) dX5_follow_140 (fun H locs E => ?_)
  refine lv_goto (tgt := 305) hx hb dX5_follow_141 (by decide) ?_
  have hQ : f_X5_follow_3 σ lo a b c0 d0 = (si σ 14 a b) := by
    rfl
  have hq := nt_c (EK.kp (Kp_si (τ := σ) (k := 14) (x := a) (v := b) Kp.rf (by decide)) (EK.rf hE)).1 (by have := (EK.kp (Kp_si (τ := σ) (k := 14) (x := a) (v := b) Kp.rf (by decide)) (EK.rf hE)).2.2.1; omega)
  exact x_vret ((si σ 14 a b), ea) S hr hlk hsz htt hK E dX5_follow_305 hQ.symm rfl ⟨Nat.le_refl _, Nat.le_refl _⟩ ⟨by show eg (si σ 14 a b) - eg σ + 0 ≤ 12; omega, by show 2 * ec (si σ 14 a b) - 2 * ec σ + 0 ≤ 100000; omega⟩

def f_X5_follow_4 (σ : Sg) (lo : Int32) (a : Int32) (b : Int32) (c0 : Int32) (d0 : Int32) : Sg := (si σ 15 a b)
set_option maxHeartbeats 4000000 in
set_option maxRecDepth 100000 in
/-- World.follow, kind 4 -/
theorem c_X5_follow_4 (l : Launch) (g : Gm) (cl : Nat) (ad : Nat → Nat) (lo ke fo : Int32) (ea : Nat) (σ : Sg) (a : Int32) (b : Int32) (c0 : Int32) (d0 : Int32) (q_a : vp_in a 8) (hW : WF σ) (hke : ke = 0 ∨ ke = 1) (hE : EvOK σ) (hB : en σ + 0 ≤ 20000) : MXv l g yX5_follow cX5_follow 2 ({ frames := 0, cells := 12, slots := 100000, locals := 0 } : Room) [.ref (ad 0), .ref cl] (wsF g ad lo ke fo (cl, .inr (1, [.int 4, .int a, .int b, .int c0, .int d0])) ea σ) (fun u : Sg × Nat => u.1 = f_X5_follow_4 σ lo a b c0 d0) (fun u => wsF g ad lo ke fo (cl, .inr (1, [.int 4, .int a, .int b, .int c0, .int d0])) u.2 u.1) (kxN σ) := by
  intro sz tt
  refine ofX RX5 rfl (by decide +kernel) (Nat.le_of_ble_eq_true rfl) (fun p e s m args below meth c hargs S hml hr hlk hnm hsz htt hK hA hZ E ls hl => ?_)
  have hx := S.1
  have hb := S.2.1
  have hl : lv_has ls 2 [(0, .ref (ad 0)), (1, .ref cl)] := hl
  refine W.widen (k := eg σ - eg σ) (n := 2 * ec σ - 2 * ec σ) (Nat.zero_le _) (Nat.zero_le _) ?_
  refine lv_aload_n hx hb dX5_follow_0 rfl (lv_at hl 1 rfl) ?_
  refine wg_X5_83 (v := .int 4) S hK E 31 rfl rfl dX5_follow_1 ?_
  refine lv_tableIn (tgt := 144) hx hb dX5_follow_4 (by decide) (by decide) rfl (by decide) ?_
  refine lv_aload_n hx hb dX5_follow_144 rfl (lv_at hl 0 rfl) ?_
  refine wg_X5_21 (v := .ref (ad 2)) S hK E 0 rfl rfl dX5_follow_145 ?_
  refine wg_X5_111 (v := .ref (ad 15)) S hK E 2 rfl rfl dX5_follow_148 ?_
  refine lv_aload_n hx hb dX5_follow_151 rfl (lv_at hl 1 rfl) ?_
  refine wg_X5_86 (v := .int a) S hK E 31 rfl rfl dX5_follow_152 ?_
  refine lv_aload_n hx hb dX5_follow_155 rfl (lv_at hl 1 rfl) ?_
  refine wg_X5_89 (v := .int b) S hK E 31 rfl rfl dX5_follow_156 ?_
  refine w_ist (w' := wsF g ad lo ke fo (cl, .inr (1, [.int 4, .int a, .int b, .int c0, .int d0])) ea (si σ 15 a b)) S hK E 15 0 rfl rfl q_a (wsF_set (by decide) wset_15) dX5_follow_159 (fun H locs E => ?_)
  refine lv_goto (tgt := 305) hx hb dX5_follow_160 (by decide) ?_
  have hQ : f_X5_follow_4 σ lo a b c0 d0 = (si σ 15 a b) := by
    rfl
  have hq := nt_c (EK.kp (Kp_si (τ := σ) (k := 15) (x := a) (v := b) Kp.rf (by decide)) (EK.rf hE)).1 (by have := (EK.kp (Kp_si (τ := σ) (k := 15) (x := a) (v := b) Kp.rf (by decide)) (EK.rf hE)).2.2.1; omega)
  exact x_vret ((si σ 15 a b), ea) S hr hlk hsz htt hK E dX5_follow_305 hQ.symm rfl ⟨Nat.le_refl _, Nat.le_refl _⟩ ⟨by show eg (si σ 15 a b) - eg σ + 0 ≤ 12; omega, by show 2 * ec (si σ 15 a b) - 2 * ec σ + 0 ≤ 100000; omega⟩

def f_X5_follow_5 (σ : Sg) (lo : Int32) (a : Int32) (b : Int32) (c0 : Int32) (d0 : Int32) : Sg := (si (si σ 16 a b) 17 a c0)
set_option maxHeartbeats 4000000 in
set_option maxRecDepth 100000 in
/-- World.follow, kind 5 -/
theorem c_X5_follow_5 (l : Launch) (g : Gm) (cl : Nat) (ad : Nat → Nat) (lo ke fo : Int32) (ea : Nat) (σ : Sg) (a : Int32) (b : Int32) (c0 : Int32) (d0 : Int32) (q_a : vp_in a 8) (hW : WF σ) (hke : ke = 0 ∨ ke = 1) (hE : EvOK σ) (hB : en σ + 0 ≤ 20000) : MXv l g yX5_follow cX5_follow 2 ({ frames := 0, cells := 12, slots := 100000, locals := 0 } : Room) [.ref (ad 0), .ref cl] (wsF g ad lo ke fo (cl, .inr (1, [.int 5, .int a, .int b, .int c0, .int d0])) ea σ) (fun u : Sg × Nat => u.1 = f_X5_follow_5 σ lo a b c0 d0) (fun u => wsF g ad lo ke fo (cl, .inr (1, [.int 5, .int a, .int b, .int c0, .int d0])) u.2 u.1) (kxN σ) := by
  intro sz tt
  refine ofX RX5 rfl (by decide +kernel) (Nat.le_of_ble_eq_true rfl) (fun p e s m args below meth c hargs S hml hr hlk hnm hsz htt hK hA hZ E ls hl => ?_)
  have hx := S.1
  have hb := S.2.1
  have hl : lv_has ls 2 [(0, .ref (ad 0)), (1, .ref cl)] := hl
  refine W.widen (k := eg σ - eg σ) (n := 2 * ec σ - 2 * ec σ) (Nat.zero_le _) (Nat.zero_le _) ?_
  refine lv_aload_n hx hb dX5_follow_0 rfl (lv_at hl 1 rfl) ?_
  refine wg_X5_83 (v := .int 5) S hK E 31 rfl rfl dX5_follow_1 ?_
  refine lv_tableIn (tgt := 163) hx hb dX5_follow_4 (by decide) (by decide) rfl (by decide) ?_
  refine lv_aload_n hx hb dX5_follow_163 rfl (lv_at hl 0 rfl) ?_
  refine wg_X5_21 (v := .ref (ad 2)) S hK E 0 rfl rfl dX5_follow_164 ?_
  refine wg_X5_114 (v := .ref (ad 16)) S hK E 2 rfl rfl dX5_follow_167 ?_
  refine lv_aload_n hx hb dX5_follow_170 rfl (lv_at hl 1 rfl) ?_
  refine wg_X5_86 (v := .int a) S hK E 31 rfl rfl dX5_follow_171 ?_
  refine lv_aload_n hx hb dX5_follow_174 rfl (lv_at hl 1 rfl) ?_
  refine wg_X5_89 (v := .int b) S hK E 31 rfl rfl dX5_follow_175 ?_
  refine w_ist (w' := wsF g ad lo ke fo (cl, .inr (1, [.int 5, .int a, .int b, .int c0, .int d0])) ea (si σ 16 a b)) S hK E 16 0 rfl rfl q_a (wsF_set (by decide) wset_16) dX5_follow_178 (fun H locs E => ?_)
  refine lv_aload_n hx hb dX5_follow_179 rfl (lv_at hl 0 rfl) ?_
  refine wg_X5_21 (v := .ref (ad 2)) S hK E 0 rfl rfl dX5_follow_180 ?_
  refine wg_X5_117 (v := .ref (ad 17)) S hK E 2 rfl rfl dX5_follow_183 ?_
  refine lv_aload_n hx hb dX5_follow_186 rfl (lv_at hl 1 rfl) ?_
  refine wg_X5_86 (v := .int a) S hK E 31 rfl rfl dX5_follow_187 ?_
  refine lv_aload_n hx hb dX5_follow_190 rfl (lv_at hl 1 rfl) ?_
  refine wg_X5_92 (v := .int c0) S hK E 31 rfl rfl dX5_follow_191 ?_
  refine w_ist (w' := wsF g ad lo ke fo (cl, .inr (1, [.int 5, .int a, .int b, .int c0, .int d0])) ea (si (si σ 16 a b) 17 a c0)) S hK E 17 0 rfl rfl q_a (wsF_set (by decide) wset_17) dX5_follow_194 (fun H locs E => ?_)
  refine lv_goto (tgt := 305) hx hb dX5_follow_195 (by decide) ?_
  have hQ : f_X5_follow_5 σ lo a b c0 d0 = (si (si σ 16 a b) 17 a c0) := by
    rfl
  have hq := nt_c (EK.kp (Kp_si (τ := (si σ 16 a b)) (k := 17) (x := a) (v := c0) Kp.rf (by decide)) (EK.kp (Kp_si (τ := σ) (k := 16) (x := a) (v := b) Kp.rf (by decide)) (EK.rf hE))).1 (by have := (EK.kp (Kp_si (τ := (si σ 16 a b)) (k := 17) (x := a) (v := c0) Kp.rf (by decide)) (EK.kp (Kp_si (τ := σ) (k := 16) (x := a) (v := b) Kp.rf (by decide)) (EK.rf hE))).2.2.1; omega)
  exact x_vret ((si (si σ 16 a b) 17 a c0), ea) S hr hlk hsz htt hK E dX5_follow_305 hQ.symm rfl ⟨Nat.le_refl _, Nat.le_refl _⟩ ⟨by show eg (si (si σ 16 a b) 17 a c0) - eg σ + 0 ≤ 12; omega, by show 2 * ec (si (si σ 16 a b) 17 a c0) - 2 * ec σ + 0 ≤ 100000; omega⟩

def f_X5_follow_6 (σ : Sg) (lo : Int32) (a : Int32) (b : Int32) (c0 : Int32) (d0 : Int32) : Sg := (ss σ 2 a)
set_option maxHeartbeats 4000000 in
set_option maxRecDepth 100000 in
/-- World.follow, kind 6 -/
theorem c_X5_follow_6 (l : Launch) (g : Gm) (cl : Nat) (ad : Nat → Nat) (lo ke fo : Int32) (ea : Nat) (σ : Sg) (a : Int32) (b : Int32) (c0 : Int32) (d0 : Int32) (hW : WF σ) (hke : ke = 0 ∨ ke = 1) (hE : EvOK σ) (hB : en σ + 0 ≤ 20000) : MXv l g yX5_follow cX5_follow 2 ({ frames := 0, cells := 12, slots := 100000, locals := 0 } : Room) [.ref (ad 0), .ref cl] (wsF g ad lo ke fo (cl, .inr (1, [.int 6, .int a, .int b, .int c0, .int d0])) ea σ) (fun u : Sg × Nat => u.1 = f_X5_follow_6 σ lo a b c0 d0) (fun u => wsF g ad lo ke fo (cl, .inr (1, [.int 6, .int a, .int b, .int c0, .int d0])) u.2 u.1) (kxN σ) := by
  intro sz tt
  refine ofX RX5 rfl (by decide +kernel) (Nat.le_of_ble_eq_true rfl) (fun p e s m args below meth c hargs S hml hr hlk hnm hsz htt hK hA hZ E ls hl => ?_)
  have hx := S.1
  have hb := S.2.1
  have hl : lv_has ls 2 [(0, .ref (ad 0)), (1, .ref cl)] := hl
  refine W.widen (k := eg σ - eg σ) (n := 2 * ec σ - 2 * ec σ) (Nat.zero_le _) (Nat.zero_le _) ?_
  refine lv_aload_n hx hb dX5_follow_0 rfl (lv_at hl 1 rfl) ?_
  refine wg_X5_83 (v := .int 6) S hK E 31 rfl rfl dX5_follow_1 ?_
  refine lv_tableIn (tgt := 198) hx hb dX5_follow_4 (by decide) (by decide) rfl (by decide) ?_
  refine lv_aload_n hx hb dX5_follow_198 rfl (lv_at hl 0 rfl) ?_
  refine wg_X5_21 (v := .ref (ad 2)) S hK E 0 rfl rfl dX5_follow_199 ?_
  refine lv_aload_n hx hb dX5_follow_202 rfl (lv_at hl 1 rfl) ?_
  refine wg_X5_86 (v := .int a) S hK E 31 rfl rfl dX5_follow_203 ?_
  refine wp_X5_120 (w' := wsF g ad lo ke fo (cl, .inr (1, [.int 6, .int a, .int b, .int c0, .int d0])) ea (ss σ 2 a)) S hK E 2 rfl rfl rfl (Nat.le_of_ble_eq_true rfl) (wsF_set (by decide) wset_river) dX5_follow_206 (fun H locs E => ?_)
  refine lv_goto (tgt := 305) hx hb dX5_follow_209 (by decide) ?_
  have hQ : f_X5_follow_6 σ lo a b c0 d0 = (ss σ 2 a) := by
    rfl
  have hq := nt_c (EK.kp (Kp_ss (τ := σ) (j := 2) (v := a) Kp.rf (by decide)) (EK.rf hE)).1 (by have := (EK.kp (Kp_ss (τ := σ) (j := 2) (v := a) Kp.rf (by decide)) (EK.rf hE)).2.2.1; omega)
  exact x_vret ((ss σ 2 a), ea) S hr hlk hsz htt hK E dX5_follow_305 hQ.symm rfl ⟨Nat.le_refl _, Nat.le_refl _⟩ ⟨by show eg (ss σ 2 a) - eg σ + 0 ≤ 12; omega, by show 2 * ec (ss σ 2 a) - 2 * ec σ + 0 ≤ 100000; omega⟩

def f_X5_follow_7 (σ : Sg) (lo : Int32) (a : Int32) (b : Int32) (c0 : Int32) (d0 : Int32) : Sg := (ss σ 3 a)
set_option maxHeartbeats 4000000 in
set_option maxRecDepth 100000 in
/-- World.follow, kind 7 -/
theorem c_X5_follow_7 (l : Launch) (g : Gm) (cl : Nat) (ad : Nat → Nat) (lo ke fo : Int32) (ea : Nat) (σ : Sg) (a : Int32) (b : Int32) (c0 : Int32) (d0 : Int32) (hW : WF σ) (hke : ke = 0 ∨ ke = 1) (hE : EvOK σ) (hB : en σ + 0 ≤ 20000) : MXv l g yX5_follow cX5_follow 2 ({ frames := 0, cells := 12, slots := 100000, locals := 0 } : Room) [.ref (ad 0), .ref cl] (wsF g ad lo ke fo (cl, .inr (1, [.int 7, .int a, .int b, .int c0, .int d0])) ea σ) (fun u : Sg × Nat => u.1 = f_X5_follow_7 σ lo a b c0 d0) (fun u => wsF g ad lo ke fo (cl, .inr (1, [.int 7, .int a, .int b, .int c0, .int d0])) u.2 u.1) (kxN σ) := by
  intro sz tt
  refine ofX RX5 rfl (by decide +kernel) (Nat.le_of_ble_eq_true rfl) (fun p e s m args below meth c hargs S hml hr hlk hnm hsz htt hK hA hZ E ls hl => ?_)
  have hx := S.1
  have hb := S.2.1
  have hl : lv_has ls 2 [(0, .ref (ad 0)), (1, .ref cl)] := hl
  refine W.widen (k := eg σ - eg σ) (n := 2 * ec σ - 2 * ec σ) (Nat.zero_le _) (Nat.zero_le _) ?_
  refine lv_aload_n hx hb dX5_follow_0 rfl (lv_at hl 1 rfl) ?_
  refine wg_X5_83 (v := .int 7) S hK E 31 rfl rfl dX5_follow_1 ?_
  refine lv_tableIn (tgt := 212) hx hb dX5_follow_4 (by decide) (by decide) rfl (by decide) ?_
  refine lv_aload_n hx hb dX5_follow_212 rfl (lv_at hl 0 rfl) ?_
  refine wg_X5_21 (v := .ref (ad 2)) S hK E 0 rfl rfl dX5_follow_213 ?_
  refine lv_aload_n hx hb dX5_follow_216 rfl (lv_at hl 1 rfl) ?_
  refine wg_X5_86 (v := .int a) S hK E 31 rfl rfl dX5_follow_217 ?_
  refine wp_X5_123 (w' := wsF g ad lo ke fo (cl, .inr (1, [.int 7, .int a, .int b, .int c0, .int d0])) ea (ss σ 3 a)) S hK E 2 rfl rfl rfl (Nat.le_of_ble_eq_true rfl) (wsF_set (by decide) wset_sea) dX5_follow_220 (fun H locs E => ?_)
  refine lv_goto (tgt := 305) hx hb dX5_follow_223 (by decide) ?_
  have hQ : f_X5_follow_7 σ lo a b c0 d0 = (ss σ 3 a) := by
    rfl
  have hq := nt_c (EK.kp (Kp_ss (τ := σ) (j := 3) (v := a) Kp.rf (by decide)) (EK.rf hE)).1 (by have := (EK.kp (Kp_ss (τ := σ) (j := 3) (v := a) Kp.rf (by decide)) (EK.rf hE)).2.2.1; omega)
  exact x_vret ((ss σ 3 a), ea) S hr hlk hsz htt hK E dX5_follow_305 hQ.symm rfl ⟨Nat.le_refl _, Nat.le_refl _⟩ ⟨by show eg (ss σ 3 a) - eg σ + 0 ≤ 12; omega, by show 2 * ec (ss σ 3 a) - 2 * ec σ + 0 ≤ 100000; omega⟩

def f_X5_follow_8 (σ : Sg) (lo : Int32) (a : Int32) (b : Int32) (c0 : Int32) (d0 : Int32) : Sg := (f_X4_add σ a b c0)
set_option maxHeartbeats 4000000 in
set_option maxRecDepth 100000 in
/-- World.follow, kind 8 -/
theorem c_X5_follow_8 (l : Launch) (g : Gm) (cl : Nat) (ad : Nat → Nat) (lo ke fo : Int32) (ea : Nat) (σ : Sg) (a : Int32) (b : Int32) (c0 : Int32) (d0 : Int32) (q_a : vp_in a 16) (hW : WF σ) (hke : ke = 0 ∨ ke = 1) (hE : EvOK σ) (hB : en σ + 0 ≤ 20000) : MXv l g yX5_follow cX5_follow 2 ({ frames := 1, cells := 12, slots := 100000, locals := 24 } : Room) [.ref (ad 0), .ref cl] (wsF g ad lo ke fo (cl, .inr (1, [.int 8, .int a, .int b, .int c0, .int d0])) ea σ) (fun u : Sg × Nat => u.1 = f_X5_follow_8 σ lo a b c0 d0) (fun u => wsF g ad lo ke fo (cl, .inr (1, [.int 8, .int a, .int b, .int c0, .int d0])) u.2 u.1) (kxN σ) := by
  intro sz tt
  refine ofX RX5 rfl (by decide +kernel) (Nat.le_of_ble_eq_true rfl) (fun p e s m args below meth c hargs S hml hr hlk hnm hsz htt hK hA hZ E ls hl => ?_)
  have hx := S.1
  have hb := S.2.1
  have hl : lv_has ls 2 [(0, .ref (ad 0)), (1, .ref cl)] := hl
  refine W.widen (k := eg σ - eg σ) (n := 2 * ec σ - 2 * ec σ) (Nat.zero_le _) (Nat.zero_le _) ?_
  refine lv_aload_n hx hb dX5_follow_0 rfl (lv_at hl 1 rfl) ?_
  refine wg_X5_83 (v := .int 8) S hK E 31 rfl rfl dX5_follow_1 ?_
  refine lv_tableIn (tgt := 226) hx hb dX5_follow_4 (by decide) (by decide) rfl (by decide) ?_
  refine lv_aload_n hx hb dX5_follow_226 rfl (lv_at hl 0 rfl) ?_
  refine wg_X5_28 (v := .ref (ad 3)) S hK E 0 rfl rfl dX5_follow_227 ?_
  refine lv_aload_n hx hb dX5_follow_230 rfl (lv_at hl 1 rfl) ?_
  refine wg_X5_86 (v := .int a) S hK E 31 rfl rfl dX5_follow_231 ?_
  refine lv_aload_n hx hb dX5_follow_234 rfl (lv_at hl 1 rfl) ?_
  refine wg_X5_89 (v := .int b) S hK E 31 rfl rfl dX5_follow_235 ?_
  refine lv_aload_n hx hb dX5_follow_238 rfl (lv_at hl 1 rfl) ?_
  refine wg_X5_92 (v := .int c0) S hK E 31 rfl rfl dX5_follow_239 ?_
  have hq := nt_c (EK.rf hE).1 (by have := (EK.rf hE).2.2.1; omega)
  refine w_retv (runV_X (As := [.int a, .int b, .int c0]) (rest := []) (q0 := 3) (n := 3) S hml hK (hZ.at E) (Cut.of (wc := wsW g ad lo ke fo ea σ) (wr := [(cl, .inr (1, [.int 8, .int a, .int b, .int c0, .int d0]))]) E hA (List.range 31) [31] rfl rfl rfl rfl (by decide)) (c_X4_add l g ad lo ke fo ea σ a b c0 q_a (EK.wf (EK.rf hE) hW) _ _) (gi_wsV ml_X5_126 im_X4_add sl_X4_add in_X4 co_X4_add) ⟨rfl, by decide +kernel, by decide +kernel, by decide +kernel⟩ ⟨Nat.le_of_ble_eq_true rfl, Nat.le_of_ble_eq_true rfl⟩ rfl rfl rfl hl.1 rfl (Nat.le_of_ble_eq_true rfl) dX5_follow_242 ⟨by show eg σ - eg σ + 0 ≤ 12; omega, by show 2 * ec σ - 2 * ec σ + 0 ≤ 100000; omega⟩) (Cut.of (wc := wsW g ad lo ke fo ea σ) (wr := [(cl, .inr (1, [.int 8, .int a, .int b, .int c0, .int d0]))]) E hA (List.range 31) [31] rfl rfl rfl rfl (by decide)) E (fun u H locs hp E => ?_)
  subst hp
  have E : Ev g _ s.heap H locs (wsF g ad lo ke fo (cl, .inr (1, [.int 8, .int a, .int b, .int c0, .int d0])) ea (f_X4_add σ a b c0)) := Ev.sub E ((List.range 31).map (· + 1) ++ [0]) rfl rfl
  refine W.widen (k := eg (f_X4_add σ a b c0) - eg σ) (n := 2 * ec (f_X4_add σ a b c0) - 2 * ec σ) (by have h := GE_X4_add (σ := σ) (x := a) (y := b) (z := c0) (EK.wf (EK.rf hE) hW) q_a; show eg σ - eg σ + 0 ≤ _; rw [h.1]; exact Nat.le_refl _) (by have h := GE_X4_add (σ := σ) (x := a) (y := b) (z := c0) (EK.wf (EK.rf hE) hW) q_a; show 2 * ec σ - 2 * ec σ + 0 ≤ _; rw [h.2]; exact Nat.le_refl _) ?_
  refine lv_goto (tgt := 305) hx hb dX5_follow_245 (by decide) ?_
  have hQ : f_X5_follow_8 σ lo a b c0 d0 = (f_X4_add σ a b c0) := by
    rfl
  have hq := nt_c (GK_X4_add (σ := σ) (x := a) (y := b) (z := c0) (EK.wf (EK.rf hE) hW) q_a (EK.rf hE).1).1 (by have := (GK_X4_add (σ := σ) (x := a) (y := b) (z := c0) (EK.wf (EK.rf hE) hW) q_a (EK.rf hE).1).2.2.1; omega)
  exact x_vret ((f_X4_add σ a b c0), ea) S hr hlk hsz htt hK E dX5_follow_305 hQ.symm rfl ⟨Nat.le_refl _, Nat.le_refl _⟩ ⟨by show eg (f_X4_add σ a b c0) - eg σ + 0 ≤ 12; omega, by show 2 * ec (f_X4_add σ a b c0) - 2 * ec σ + 0 ≤ 100000; omega⟩

def f_X5_follow_9 (σ : Sg) (lo : Int32) (a : Int32) (b : Int32) (c0 : Int32) (d0 : Int32) : Sg := if a = lo then σ else (si σ 21 a b)
set_option maxHeartbeats 4000000 in
set_option maxRecDepth 100000 in
/-- World.follow, kind 9 -/
theorem c_X5_follow_9 (l : Launch) (g : Gm) (cl : Nat) (ad : Nat → Nat) (lo ke fo : Int32) (ea : Nat) (σ : Sg) (a : Int32) (b : Int32) (c0 : Int32) (d0 : Int32) (q_a : vp_in a 6) (hW : WF σ) (hke : ke = 0 ∨ ke = 1) (hE : EvOK σ) (hB : en σ + 0 ≤ 20000) : MXv l g yX5_follow cX5_follow 2 ({ frames := 0, cells := 12, slots := 100000, locals := 0 } : Room) [.ref (ad 0), .ref cl] (wsF g ad lo ke fo (cl, .inr (1, [.int 9, .int a, .int b, .int c0, .int d0])) ea σ) (fun u : Sg × Nat => u.1 = f_X5_follow_9 σ lo a b c0 d0) (fun u => wsF g ad lo ke fo (cl, .inr (1, [.int 9, .int a, .int b, .int c0, .int d0])) u.2 u.1) (kxN σ) := by
  intro sz tt
  refine ofX RX5 rfl (by decide +kernel) (Nat.le_of_ble_eq_true rfl) (fun p e s m args below meth c hargs S hml hr hlk hnm hsz htt hK hA hZ E ls hl => ?_)
  have hx := S.1
  have hb := S.2.1
  have hl : lv_has ls 2 [(0, .ref (ad 0)), (1, .ref cl)] := hl
  refine W.widen (k := eg σ - eg σ) (n := 2 * ec σ - 2 * ec σ) (Nat.zero_le _) (Nat.zero_le _) ?_
  refine lv_aload_n hx hb dX5_follow_0 rfl (lv_at hl 1 rfl) ?_
  refine wg_X5_83 (v := .int 9) S hK E 31 rfl rfl dX5_follow_1 ?_
  refine lv_tableIn (tgt := 248) hx hb dX5_follow_4 (by decide) (by decide) rfl (by decide) ?_
  refine lv_aload_n hx hb dX5_follow_248 rfl (lv_at hl 1 rfl) ?_
  refine wg_X5_86 (v := .int a) S hK E 31 rfl rfl dX5_follow_249 ?_
  refine lv_aload_n hx hb dX5_follow_252 rfl (lv_at hl 0 rfl) ?_
  refine wg_X5_56 (v := .int lo) S hK E 0 rfl rfl dX5_follow_253 ?_
  refine lv_icmp_eq (tgt := 305) hx hb dX5_follow_256 (by decide) (fun c1 => ?_) (fun c1 => ?_)
  · have c1 : a = lo := c1
    have hQ : f_X5_follow_9 σ lo a b c0 d0 = σ := by
      unfold f_X5_follow_9; rw [if_pos c1]
    have hq := nt_c (EK.rf hE).1 (by have := (EK.rf hE).2.2.1; omega)
    exact x_vret (σ, ea) S hr hlk hsz htt hK E dX5_follow_305 hQ.symm rfl ⟨Nat.le_refl _, Nat.le_refl _⟩ ⟨by show eg σ - eg σ + 0 ≤ 12; omega, by show 2 * ec σ - 2 * ec σ + 0 ≤ 100000; omega⟩
  · have c1 : ¬ (a = lo) := c1
    refine lv_aload_n hx hb dX5_follow_259 rfl (lv_at hl 0 rfl) ?_
    refine wg_X5_28 (v := .ref (ad 3)) S hK E 0 rfl rfl dX5_follow_260 ?_
    refine wg_X5_130 (v := .ref (ad 21)) S hK E 3 rfl rfl dX5_follow_263 ?_
    refine lv_aload_n hx hb dX5_follow_266 rfl (lv_at hl 1 rfl) ?_
    refine wg_X5_86 (v := .int a) S hK E 31 rfl rfl dX5_follow_267 ?_
    refine lv_aload_n hx hb dX5_follow_270 rfl (lv_at hl 1 rfl) ?_
    refine wg_X5_89 (v := .int b) S hK E 31 rfl rfl dX5_follow_271 ?_
    refine w_ist (w' := wsF g ad lo ke fo (cl, .inr (1, [.int 9, .int a, .int b, .int c0, .int d0])) ea (si σ 21 a b)) S hK E 21 0 rfl rfl q_a (wsF_set (by decide) wset_21) dX5_follow_274 (fun H locs E => ?_)
    refine lv_goto (tgt := 305) hx hb dX5_follow_275 (by decide) ?_
    have hQ : f_X5_follow_9 σ lo a b c0 d0 = (si σ 21 a b) := by
      unfold f_X5_follow_9; rw [if_neg c1]
    have hq := nt_c (EK.kp (Kp_si (τ := σ) (k := 21) (x := a) (v := b) Kp.rf (by decide)) (EK.rf hE)).1 (by have := (EK.kp (Kp_si (τ := σ) (k := 21) (x := a) (v := b) Kp.rf (by decide)) (EK.rf hE)).2.2.1; omega)
    exact x_vret ((si σ 21 a b), ea) S hr hlk hsz htt hK E dX5_follow_305 hQ.symm rfl ⟨Nat.le_refl _, Nat.le_refl _⟩ ⟨by show eg (si σ 21 a b) - eg σ + 0 ≤ 12; omega, by show 2 * ec (si σ 21 a b) - 2 * ec σ + 0 ≤ 100000; omega⟩

def f_X5_follow_10 (σ : Sg) (lo : Int32) (a : Int32) (b : Int32) (c0 : Int32) (d0 : Int32) : Sg := (f_X5_followTransfer σ lo a b c0)
set_option maxHeartbeats 4000000 in
set_option maxRecDepth 100000 in
/-- World.follow, kind 10 -/
theorem c_X5_follow_10 (l : Launch) (g : Gm) (cl : Nat) (ad : Nat → Nat) (lo ke fo : Int32) (ea : Nat) (σ : Sg) (a : Int32) (b : Int32) (c0 : Int32) (d0 : Int32) (q_a : vp_in a 6) (q_b : vp_in b 6) (hW : WF σ) (hke : ke = 0 ∨ ke = 1) (hE : EvOK σ) (hB : en σ + 0 ≤ 20000) : MXv l g yX5_follow cX5_follow 2 ({ frames := 2, cells := 12, slots := 100000, locals := 46 } : Room) [.ref (ad 0), .ref cl] (wsF g ad lo ke fo (cl, .inr (1, [.int 10, .int a, .int b, .int c0, .int d0])) ea σ) (fun u : Sg × Nat => u.1 = f_X5_follow_10 σ lo a b c0 d0) (fun u => wsF g ad lo ke fo (cl, .inr (1, [.int 10, .int a, .int b, .int c0, .int d0])) u.2 u.1) (kxN σ) := by
  intro sz tt
  refine ofX RX5 rfl (by decide +kernel) (Nat.le_of_ble_eq_true rfl) (fun p e s m args below meth c hargs S hml hr hlk hnm hsz htt hK hA hZ E ls hl => ?_)
  have hx := S.1
  have hb := S.2.1
  have hl : lv_has ls 2 [(0, .ref (ad 0)), (1, .ref cl)] := hl
  refine W.widen (k := eg σ - eg σ) (n := 2 * ec σ - 2 * ec σ) (Nat.zero_le _) (Nat.zero_le _) ?_
  refine lv_aload_n hx hb dX5_follow_0 rfl (lv_at hl 1 rfl) ?_
  refine wg_X5_83 (v := .int 10) S hK E 31 rfl rfl dX5_follow_1 ?_
  refine lv_tableIn (tgt := 278) hx hb dX5_follow_4 (by decide) (by decide) rfl (by decide) ?_
  refine lv_aload_n hx hb dX5_follow_278 rfl (lv_at hl 0 rfl) ?_
  refine lv_aload_n hx hb dX5_follow_279 rfl (lv_at hl 1 rfl) ?_
  refine wg_X5_86 (v := .int a) S hK E 31 rfl rfl dX5_follow_280 ?_
  refine lv_aload_n hx hb dX5_follow_283 rfl (lv_at hl 1 rfl) ?_
  refine wg_X5_89 (v := .int b) S hK E 31 rfl rfl dX5_follow_284 ?_
  refine lv_aload_n hx hb dX5_follow_287 rfl (lv_at hl 1 rfl) ?_
  refine wg_X5_92 (v := .int c0) S hK E 31 rfl rfl dX5_follow_288 ?_
  have hq := nt_c (EK.rf hE).1 (by have := (EK.rf hE).2.2.1; omega)
  refine w_retv (runV_X (As := [.int a, .int b, .int c0]) (rest := []) (q0 := 0) (n := 3) S hml hK (hZ.at E) (Cut.of (wc := wsW g ad lo ke fo ea σ) (wr := [(cl, .inr (1, [.int 10, .int a, .int b, .int c0, .int d0]))]) E hA (List.range 31) [31] rfl rfl rfl rfl (by decide)) (c_X5_followTransfer l g ad lo ke fo ea σ a b c0 q_a q_b _ _) (gi_wsV ml_X5_133 im_X5_followTransfer sl_X5_followTransfer in_X5 co_X5_followTransfer) ⟨rfl, by decide +kernel, by decide +kernel, by decide +kernel⟩ ⟨Nat.le_of_ble_eq_true rfl, Nat.le_of_ble_eq_true rfl⟩ rfl rfl rfl hl.1 rfl (Nat.le_of_ble_eq_true rfl) dX5_follow_291 ⟨by show eg σ - eg σ + 0 ≤ 12; omega, by show 2 * ec σ - 2 * ec σ + 0 ≤ 100000; omega⟩) (Cut.of (wc := wsW g ad lo ke fo ea σ) (wr := [(cl, .inr (1, [.int 10, .int a, .int b, .int c0, .int d0]))]) E hA (List.range 31) [31] rfl rfl rfl rfl (by decide)) E (fun u H locs hp E => ?_)
  subst hp
  have E : Ev g _ s.heap H locs (wsF g ad lo ke fo (cl, .inr (1, [.int 10, .int a, .int b, .int c0, .int d0])) ea (f_X5_followTransfer σ lo a b c0)) := Ev.sub E ((List.range 31).map (· + 1) ++ [0]) rfl rfl
  refine W.widen (k := eg (f_X5_followTransfer σ lo a b c0) - eg σ) (n := 2 * ec (f_X5_followTransfer σ lo a b c0) - 2 * ec σ) (Kp_wd1 (KP_X5_followTransfer (σ := σ) (lo := lo) (x := a) (y := b) (z := c0))) (Kp_wd2 (KP_X5_followTransfer (σ := σ) (lo := lo) (x := a) (y := b) (z := c0))) ?_
  refine lv_goto (tgt := 305) hx hb dX5_follow_294 (by decide) ?_
  have hQ : f_X5_follow_10 σ lo a b c0 d0 = (f_X5_followTransfer σ lo a b c0) := by
    rfl
  have hq := nt_c (EK.kp (KP_X5_followTransfer (σ := σ) (lo := lo) (x := a) (y := b) (z := c0)) (EK.rf hE)).1 (by have := (EK.kp (KP_X5_followTransfer (σ := σ) (lo := lo) (x := a) (y := b) (z := c0)) (EK.rf hE)).2.2.1; omega)
  exact x_vret ((f_X5_followTransfer σ lo a b c0), ea) S hr hlk hsz htt hK E dX5_follow_305 hQ.symm rfl ⟨Nat.le_refl _, Nat.le_refl _⟩ ⟨by show eg (f_X5_followTransfer σ lo a b c0) - eg σ + 0 ≤ 12; omega, by show 2 * ec (f_X5_followTransfer σ lo a b c0) - 2 * ec σ + 0 ≤ 100000; omega⟩

def f_X5_follow_11 (σ : Sg) (lo : Int32) (mm : Nat) (b : Int32) (c0 : Int32) (d0 : Int32) : Sg := (f_X5_letMonthsPass σ mm)
set_option maxHeartbeats 4000000 in
set_option maxRecDepth 100000 in
/-- World.follow, kind 11 -/
theorem c_X5_follow_11 (l : Launch) (g : Gm) (cl : Nat) (ad : Nat → Nat) (lo ke fo : Int32) (ea : Nat) (σ : Sg) (mm : Nat) (b : Int32) (c0 : Int32) (d0 : Int32) (hW : WF σ) (hke : ke = 0 ∨ ke = 1) (hE : EvOK σ) (hB : en σ + 20 * mm ≤ 20000) : MXv l g yX5_follow cX5_follow 2 ({ frames := 10, cells := 49, slots := 500002, locals := 1089 } : Room) [.ref (ad 0), .ref cl] (wsF g ad lo ke fo (cl, .inr (1, [.int 11, .int (nI mm), .int b, .int c0, .int d0])) ea σ) (fun u : Sg × Nat => u.1 = f_X5_follow_11 σ lo mm b c0 d0) (fun u => wsF g ad lo ke fo (cl, .inr (1, [.int 11, .int (nI mm), .int b, .int c0, .int d0])) u.2 u.1) (kxN σ) := by
  intro sz tt
  refine ofX RX5 rfl (by decide +kernel) (Nat.le_of_ble_eq_true rfl) (fun p e s m args below meth c hargs S hml hr hlk hnm hsz htt hK hA hZ E ls hl => ?_)
  have hx := S.1
  have hb := S.2.1
  have hl : lv_has ls 2 [(0, .ref (ad 0)), (1, .ref cl)] := hl
  refine W.widen (k := eg σ - eg σ) (n := 2 * ec σ - 2 * ec σ) (Nat.zero_le _) (Nat.zero_le _) ?_
  refine lv_aload_n hx hb dX5_follow_0 rfl (lv_at hl 1 rfl) ?_
  refine wg_X5_83 (v := .int 11) S hK E 31 rfl rfl dX5_follow_1 ?_
  refine lv_tableOut (tgt := 297) hx hb dX5_follow_4 (by decide) (by decide) ?_
  refine lv_aload_n hx hb dX5_follow_297 rfl (lv_at hl 0 rfl) ?_
  refine lv_aload_n hx hb dX5_follow_298 rfl (lv_at hl 1 rfl) ?_
  refine wg_X5_86 (v := .int (nI mm)) S hK E 31 rfl rfl dX5_follow_299 ?_
  have hq := nt_c (EK.rf hE).1 (by have := (EK.rf hE).2.2.1; omega)
  refine w_retv (runV_X (As := [.int (nI mm)]) (rest := []) (q0 := 0) (n := 1) S hml hK (hZ.at E) (Cut.of (wc := wsW g ad lo ke fo ea σ) (wr := [(cl, .inr (1, [.int 11, .int (nI mm), .int b, .int c0, .int d0]))]) E hA (List.range 31) [31] rfl rfl rfl rfl (by decide)) (c_X5_letMonthsPass l g ad lo ke fo ea σ mm (EK.wf (EK.rf hE) hW) hke (EK.rf hE).1 (by have := (EK.rf hE).2.2.1; omega) _ _) (gi_wsV ml_X5_136 im_X5_letMonthsPass sl_X5_letMonthsPass in_X5 co_X5_letMonthsPass) ⟨rfl, by decide +kernel, by decide +kernel, by decide +kernel⟩ ⟨Nat.le_of_ble_eq_true rfl, Nat.le_of_ble_eq_true rfl⟩ rfl rfl rfl hl.1 rfl (Nat.le_of_ble_eq_true rfl) dX5_follow_302 ⟨by show eg σ - eg σ + 37 ≤ 49; omega, by show 2 * ec σ - 2 * ec σ + 400002 ≤ 500002; omega⟩) (Cut.of (wc := wsW g ad lo ke fo ea σ) (wr := [(cl, .inr (1, [.int 11, .int (nI mm), .int b, .int c0, .int d0]))]) E hA (List.range 31) [31] rfl rfl rfl rfl (by decide)) E (fun u H locs hp E => ?_)
  obtain ⟨u1, ea_1⟩ := u
  have hp : u1 = f_X5_letMonthsPass σ mm := hp
  subst hp
  have E : Ev g _ s.heap H locs (wsF g ad lo ke fo (cl, .inr (1, [.int 11, .int (nI mm), .int b, .int c0, .int d0])) ea_1 (f_X5_letMonthsPass σ mm)) := Ev.sub E ((List.range 31).map (· + 1) ++ [0]) rfl rfl
  refine W.widen (k := eg (f_X5_letMonthsPass σ mm) - eg σ) (n := 2 * ec (f_X5_letMonthsPass σ mm) - 2 * ec σ) (by have h1 := (EK.rf hE).2.2.2.1; have h2 := (EK_X5_letMonthsPass (σ := σ) (mm := mm) (EK.rf hE).1 (by have := (EK.rf hE).2.2.1; omega) (EK.wf (EK.rf hE) hW)).2.2.2.1; show eg σ - eg σ + (eg (f_X5_letMonthsPass σ mm) - eg σ) ≤ _; omega) (by have h1 := (EK.rf hE).2.2.2.2.1; have h2 := (EK_X5_letMonthsPass (σ := σ) (mm := mm) (EK.rf hE).1 (by have := (EK.rf hE).2.2.1; omega) (EK.wf (EK.rf hE) hW)).2.2.2.2.1; show 2 * ec σ - 2 * ec σ + (2 * ec (f_X5_letMonthsPass σ mm) - 2 * ec σ) ≤ _; omega) ?_
  have hQ : f_X5_follow_11 σ lo mm b c0 d0 = (f_X5_letMonthsPass σ mm) := by
    rfl
  have hq := nt_c (EK.tr (EK_X5_letMonthsPass (σ := σ) (mm := mm) (EK.rf hE).1 (by have := (EK.rf hE).2.2.1; omega) (EK.wf (EK.rf hE) hW)) (EK.rf hE)).1 (by have := (EK.tr (EK_X5_letMonthsPass (σ := σ) (mm := mm) (EK.rf hE).1 (by have := (EK.rf hE).2.2.1; omega) (EK.wf (EK.rf hE) hW)) (EK.rf hE)).2.2.1; omega)
  exact x_vret ((f_X5_letMonthsPass σ mm), ea_1) S hr hlk hsz htt hK E dX5_follow_305 hQ.symm rfl ⟨Nat.le_refl _, Nat.le_refl _⟩ ⟨by show eg (f_X5_letMonthsPass σ mm) - eg σ + 0 ≤ 49; omega, by show 2 * ec (f_X5_letMonthsPass σ mm) - 2 * ec σ + 0 ≤ 500002; omega⟩

