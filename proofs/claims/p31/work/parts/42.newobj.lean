/-! THE NEW OBJECT'S ONE MONTH -/
theorem nm_rain : ∀ (k i : Nat) (τ : Sg), τ.1 15 = (fun _ => 0) → (f_X5_letRainFall_L2 k i τ).1 10 = τ.1 10 := by
  intro k
  induction k with
  | zero => intro i τ _; rw [f_X5_letRainFall_L2]
  | succ k ih =>
    intro i τ h
    rw [f_X5_letRainFall_L2]
    have e : (sl (si τ 10 (nI i) ((gi τ 10 (nI i)) + (gi τ 15 (nI i)))) 28 1 ((gl τ 28 1) + (((gi τ 15 (nI i))).toInt64))).1 15 = (fun _ => 0) := by
      show (si τ 10 (nI i) ((gi τ 10 (nI i)) + (gi τ 15 (nI i)))).1 15 = _
      rw [si_ne (by decide)]
      exact h
    rw [ih _ _ e]
    show (si τ 10 (nI i) ((gi τ 10 (nI i)) + (gi τ 15 (nI i)))).1 10 = τ.1 10
    rw [r_si]
    funext v
    unfold upd
    by_cases e2 : v = (nI i).toNatClampNeg
    · rw [if_pos e2]
      unfold gi
      rw [h, e2]
      exact Int32.add_zero _
    · rw [if_neg e2]
theorem sh_l : ∀ (j k i : Nat) (τ : Sg) (z : Int32), (f_X4_shutYounger_L16 j k i τ z).2 = τ.2 := by
  intro j k
  induction k with
  | zero => intro i τ z; rw [f_X4_shutYounger_L16]
  | succ k ih =>
    intro i τ z
    rw [f_X4_shutYounger_L16]
    split
    · split
      · exact ih _ _ _
      · exact ih _ _ _
    · exact ih _ _ _
theorem ey_l : ∀ (k i : Nat) (τ : Sg), (f_X5_endYear_L2 k i τ).2 = τ.2 := by
  intro k
  induction k with
  | zero => intro i τ; rw [f_X5_endYear_L2]
  | succ k ih =>
    intro i τ
    rw [f_X5_endYear_L2]
    split
    · exact (ih _ _).trans forf_s.2.1
    · exact (ih _ _).trans forf_s.2.1
theorem em_l {σ : Sg} : (f_X5_endMonth σ).2 = σ.2 := by
  unfold f_X5_endMonth
  split
  · exact ey_l _ _ _
  · rfl
theorem nm_tail {σ : Sg} : (f_month σ).2 23 = (f_X5_pumpWells (f_X5_letRainFall σ)).2 23 := by
  unfold f_month
  rw [em_l]
  refine ((FW_sea).2.2.1 23 (by decide)).trans (((FW_sea).2.2.1 23 (by decide)).trans (((FW_springs 8 0 _).2.2.1 23 (by decide)).trans (((FW_river 8 0 _ _).2.2.1 23 (by decide)).trans ((FW_flowAll 16 0 _).2.2.1 23 (by decide)))))
section NPUMP
variable {σ : Sg} {j : Nat} {w x v Q T : Int32}
/-- what a pump's step is, before any shutting -/
abbrev npR (σ : Sg) (w x T : Int32) : Sg := sl (sl (si (f_X2_takeOut σ x T).2 22 w (gi σ 22 w + T)) 23 w (gl σ 23 w + T.toInt64)) 28 2 (gl σ 28 2 + T.toInt64)
theorem np_eq (hw : gi σ 27 (nI j) = w) (hx : gi σ 18 w = x) (hQ : f_X4_wanted σ w = Q) (hT : mn Q (gi σ 10 x) = T) : f_X5_pumpWell σ j = if Q ≤ T then npR σ w x T else f_X4_shutYounger (f_X5_note (npR σ w x T) 99) j := by
  have r22 : gi (f_X2_takeOut σ x T).2 22 w = gi σ 22 w := by unfold gi; rw [takeOut_r (by decide) (by decide)]
  have r23 : gl (f_X2_takeOut σ x T).2 23 w = gl σ 23 w := by unfold gl; rw [takeOut_l]
  have r28 : gl (f_X2_takeOut σ x T).2 28 2 = gl σ 28 2 := by unfold gl; rw [takeOut_l]
  unfold f_X5_pumpWell
  rw [hw, hx, hQ, hT, r22, r23, r28]
theorem npR_23 : (npR σ w x T).2 23 = vp_updL (σ.2 23) w.toNatClampNeg (gl σ 23 w + T.toInt64) := by
  show (sl (si (f_X2_takeOut σ x T).2 22 w (gi σ 22 w + T)) 23 w (gl σ 23 w + T.toInt64)).2 23 = _
  rw [r_sl]
  show vp_updL ((f_X2_takeOut σ x T).2.2 23) _ _ = _
  rw [takeOut_l]
theorem npR_r {a : Nat} (h1 : a ≠ 10) (h2 : a ≠ 11) (h3 : a ≠ 22) : (npR σ w x T).1 a = σ.1 a := (si_ne h3).trans (takeOut_r h1 h2)
theorem npR_22 : (npR σ w x T).1 22 = upd (σ.1 22) w.toNatClampNeg (gi σ 22 w + T) := by
  show (si (f_X2_takeOut σ x T).2 22 w (gi σ 22 w + T)).1 22 = _
  rw [r_si, takeOut_r (by decide) (by decide)]
theorem npR_10 : (npR σ w x T).1 10 = (f_X2_takeOut σ x T).2.1 10 := by
  show (si (f_X2_takeOut σ x T).2 22 w (gi σ 22 w + T)).1 10 = _
  rw [si_ne (by decide)]
theorem np_23 (hw : gi σ 27 (nI j) = w) (hx : gi σ 18 w = x) (hQ : f_X4_wanted σ w = Q) (hT : mn Q (gi σ 10 x) = T) : (f_X5_pumpWell σ j).2 23 = vp_updL (σ.2 23) w.toNatClampNeg (gl σ 23 w + T.toInt64) := by
  rw [np_eq hw hx hQ hT]
  split
  · exact npR_23
  · unfold f_X4_shutYounger
    rw [sh_l, note_l]
    exact npR_23
theorem np_1 (hw : gi σ 27 (nI j) = w) (hx : gi σ 18 w = x) (hQ : f_X4_wanted σ w = Q) (hT : mn Q (gi σ 10 x) = T) (hc : Q ≤ T) : f_X5_pumpWell σ j = npR σ w x T := by
  rw [np_eq hw hx hQ hT, if_pos hc]
theorem np_d : ¬ (2 : Int32) < ab (x - x) := by
  rw [Int32.sub_self, i_lt]
  unfold ab
  rw [if_pos (by decide)]
  decide
theorem np_s {τ : Sg} (t4 : cnt τ = 2) (hx : gi τ 18 (gi τ 27 (nI 0)) = x) (hv : gi τ 27 (nI 1) = v) (hvx : gi τ 18 v = x) : f_X4_shutYounger τ 0 = si τ 24 v 1 := by
  unfold f_X4_shutYounger
  rw [t4, hx]
  show f_X4_shutYounger_L16 0 (0 + 1) 1 τ x = _
  rw [f_X4_shutYounger_L16, hv, hvx, if_pos rfl, if_neg np_d, f_X4_shutYounger_L16]
theorem np_t1 {a : Nat} (h0 : a ≠ 0) (h30 : a ≠ 30) (h1 : a ≠ 10) (h2 : a ≠ 11) (h3 : a ≠ 22) : (f_X5_note (npR σ w x T) 99).1 a = σ.1 a := (note_r h0 h30).trans (npR_r h1 h2 h3)
theorem np_t5 {ρ : Sg} {c : Int32} : cnt (f_X5_note ρ c) = cnt ρ := by
  have e : gs (f_X5_note ρ c) 4 = gs ρ 4 := note_0 (by decide) (by decide) (by decide)
  unfold cnt
  rw [e]
theorem np_t6 : cnt (npR σ w x T) = cnt σ := by
  have e : (npR σ w x T).1 0 = σ.1 0 := npR_r (by decide) (by decide) (by decide)
  have e2 : gs (npR σ w x T) 4 = gs σ 4 := congrFun e 4
  unfold cnt
  rw [e2]
theorem np_t4 : cnt (f_X5_note (npR σ w x T) 99) = cnt σ := np_t5.trans np_t6
theorem np_z {τ : Sg} : gi (si τ 24 v 1) 24 v = 1 := by
  unfold gi
  rw [r_si]
  exact if_pos rfl
theorem np_y {τ : Sg} {y : Int32} : gi (si τ 24 v 1) 27 y = gi τ 27 y := by
  unfold gi
  rw [si_ne (by decide)]
/-- the younger well on the same cell is shut -/
theorem np_2 (c2 : cnt σ = 2) (hw : gi σ 27 (nI 0) = w) (hx : gi σ 18 w = x) (hQ : f_X4_wanted σ w = Q) (hT : mn Q (gi σ 10 x) = T) (hc : ¬ Q ≤ T) (hv : gi σ 27 (nI 1) = v) (hvx : gi σ 18 v = x) : gi (f_X5_pumpWell σ 0) 27 (nI 1) = v ∧ gi (f_X5_pumpWell σ 0) 24 v = 1 := by
  have e0 : f_X5_pumpWell σ 0 = f_X4_shutYounger (f_X5_note (npR σ w x T) 99) 0 := (np_eq hw hx hQ hT).trans (if_neg hc)
  have r27 : (f_X5_note (npR σ w x T) 99).1 27 = σ.1 27 := np_t1 (by decide) (by decide) (by decide) (by decide) (by decide)
  have r18 : (f_X5_note (npR σ w x T) 99).1 18 = σ.1 18 := np_t1 (by decide) (by decide) (by decide) (by decide) (by decide)
  have g27 : ∀ y, gi (f_X5_note (npR σ w x T) 99) 27 y = gi σ 27 y := fun y => congrFun r27 _
  have g18 : ∀ y, gi (f_X5_note (npR σ w x T) 99) 18 y = gi σ 18 y := fun y => congrFun r18 _
  have e1 := np_s (np_t4.trans c2) (((g18 _).trans (congrArg (gi σ 18) ((g27 _).trans hw))).trans hx) ((g27 _).trans hv) ((g18 _).trans hvx)
  rw [e0, e1]
  exact ⟨np_y.trans ((g27 _).trans hv), np_z⟩
end NPUMP
/-- two wells on one cell, as the new object has them -/
def NF (σ : Sg) (w a b : Int32) : Prop := cnt σ = 2 ∧ gi σ 27 (nI 0) = 0 ∧ gi σ 27 (nI 1) = 1 ∧ gi σ 18 0 = 5 ∧ gi σ 18 1 = 5 ∧ gi σ 20 0 = 500 ∧ gi σ 20 1 = 500 ∧ gi σ 21 0 = a ∧ gi σ 21 1 = b ∧ gi σ 22 0 = 0 ∧ gi σ 22 1 = 0 ∧ gi σ 24 0 = 0 ∧ gi σ 24 1 = 0 ∧ gi σ 10 5 = w ∧ gl σ 23 0 = 0 ∧ gl σ 23 1 = 0
theorem nf_w {a : Int32} (h1 : 0 ≤ a.toInt) (h2 : a.toInt ≤ 99) : mx 0 (mn a (500 - 0)) = a := by
  rw [i_eq, i_mx, i_mn, i_0, show ((500 : Int32) - 0).toInt = 500 by decide]
  split <;> split <;> omega
theorem nf_pump {σ : Sg} {w a b : Int32} (h : NF σ w a b) (hw : 0 ≤ w.toInt) (ha : 0 ≤ a.toInt ∧ a.toInt ≤ 99) (hb : 0 ≤ b.toInt ∧ b.toInt ≤ 99) : gl (f_X5_pumpWells σ) 23 0 = (mn a w).toInt64 ∧ gl (f_X5_pumpWells σ) 23 1 = if w < a then 0 else (mn b (w - a)).toInt64 := by
  obtain ⟨c2, o0, o1, c0, c1, a0, a1, w0, w1, t0, t1, s0, s1, wa, p0, p1⟩ := h
  have q0 : f_X4_wanted σ 0 = a := by
    unfold f_X4_wanted
    rw [w0, a0, t0]
    exact nf_w ha.1 ha.2
  have hT : mn a (gi σ 10 5) = mn a w := by rw [wa]
  have m0 := np_23 (j := 0) o0 c0 q0 hT
  unfold f_X5_pumpWells
  rw [c2, f_X5_pumpWells_L2, if_pos (by rw [o0]; exact s0)]
  rw [f_X5_pumpWells_L2]
  by_cases hwa : w < a
  · have eT : mn a w = w := if_pos hwa
    have hc : ¬ a ≤ mn a w := by
      rw [eT]
      intro z
      rw [i_le] at z
      rw [i_lt] at hwa
      omega
    obtain ⟨y1, y2⟩ := np_2 c2 o0 c0 q0 hT hc o1 c1
    rw [y1, y2, if_neg (by decide), f_X5_pumpWells_L2, if_pos hwa]
    unfold gl
    rw [m0]
    refine ⟨?_, ?_⟩
    · show gl σ 23 0 + (mn a w).toInt64 = (mn a w).toInt64
      rw [p0, Int64.zero_add]
    · exact p1
  · have eT : mn a w = a := if_neg hwa
    have hwa2 := i_nlt hwa
    have hc : a ≤ mn a w := by rw [eT, i_le]; exact Int.le_refl _
    rw [if_neg hwa]
    have e := np_1 o0 c0 q0 hT hc
    rw [eT] at e m0 ⊢
    have g27 : gi (f_X5_pumpWell σ 0) 27 (nI 1) = 1 := by rw [e]; unfold gi; rw [npR_r (by decide) (by decide) (by decide)]; exact o1
    have g24 : gi (f_X5_pumpWell σ 0) 24 1 = 0 := by rw [e]; unfold gi; rw [npR_r (by decide) (by decide) (by decide)]; exact s1
    have g18 : gi (f_X5_pumpWell σ 0) 18 1 = 5 := by rw [e]; unfold gi; rw [npR_r (by decide) (by decide) (by decide)]; exact c1
    have g20 : gi (f_X5_pumpWell σ 0) 20 1 = 500 := by rw [e]; unfold gi; rw [npR_r (by decide) (by decide) (by decide)]; exact a1
    have g21 : gi (f_X5_pumpWell σ 0) 21 1 = b := by rw [e]; unfold gi; rw [npR_r (by decide) (by decide) (by decide)]; exact w1
    have g22 : gi (f_X5_pumpWell σ 0) 22 1 = 0 := by rw [e]; unfold gi; rw [npR_22]; exact (if_neg (by decide : ¬ (1 : Int32).toNatClampNeg = (0 : Int32).toNatClampNeg)).trans t1
    have g10 : gi (f_X5_pumpWell σ 0) 10 5 = w - a := by
      rw [e]
      unfold gi
      rw [npR_10]
      unfold f_X2_takeOut
      split
      · show (si (si σ 10 5 (gi σ 10 5 - a)) 11 5 _).1 10 _ = _
        rw [si_ne (by decide), r_si, wa]
        exact if_pos rfl
      · rename_i hn
        rw [wa] at hn
        have hn := i_nle hn
        rw [show (1 : Int32).toInt = 1 by decide] at hn
        have e0 : a = 0 := by rw [i_eq, i_0]; omega
        rw [e0, Int32.sub_zero]
        exact wa
    have q1 : f_X4_wanted (f_X5_pumpWell σ 0) 1 = b := by
      unfold f_X4_wanted
      rw [g21, g20, g22]
      exact nf_w hb.1 hb.2
    have m1 := np_23 (j := 1) (T := mn b (w - a)) g27 g18 q1 (by rw [g10])
    rw [if_pos (by rw [g27]; exact g24), f_X5_pumpWells_L2]
    unfold gl
    rw [m1]
    refine ⟨?_, ?_⟩
    · show (f_X5_pumpWell σ 0).2 23 0 = _
      rw [m0]
      show gl σ 23 0 + a.toInt64 = a.toInt64
      rw [p0, Int64.zero_add]
    · show gl (f_X5_pumpWell σ 0) 23 1 + (mn b (w - a)).toInt64 = _
      have z : gl (f_X5_pumpWell σ 0) 23 1 = gl σ 23 1 := by unfold gl; rw [m0]; exact if_neg (by decide)
      rw [z, p1, Int64.zero_add]
theorem nf_month {σ : Sg} {w a b : Int32} (h : NF σ w a b) (h15 : σ.1 15 = (fun _ => 0)) (hw : 0 ≤ w.toInt) (ha : 0 ≤ a.toInt ∧ a.toInt ≤ 99) (hb : 0 ≤ b.toInt ∧ b.toInt ≤ 99) : gl (f_month σ) 23 0 = (mn a w).toInt64 ∧ gl (f_month σ) 23 1 = if w < a then 0 else (mn b (w - a)).toInt64 := by
  have f : FW (f_X5_letRainFall σ) σ := FW_rain 8 0 σ
  have r10 : (f_X5_letRainFall σ).1 10 = σ.1 10 := nm_rain 8 0 σ h15
  have hr : ∀ a, a ≠ 0 → a ≠ 5 → a ≠ 6 → a ≠ 7 → a ≠ 10 → a ≠ 11 → a ≠ 30 → ∀ y, gi (f_X5_letRainFall σ) a y = gi σ a y := fun a h1 h2 h3 h4 h5 h6 h7 y => by unfold gi; rw [f.1 a h1 h2 h3 h4 h5 h6 h7]
  have hl : ∀ y, gl (f_X5_letRainFall σ) 23 y = gl σ 23 y := fun y => by unfold gl; rw [f.2.2.1 23 (by decide)]
  have hc : cnt (f_X5_letRainFall σ) = cnt σ := congrArg Int32.toNatClampNeg (f.2.1 4 (by decide) (by decide) (by decide))
  have r27 := hr 27 (by decide) (by decide) (by decide) (by decide) (by decide) (by decide) (by decide)
  have r18 := hr 18 (by decide) (by decide) (by decide) (by decide) (by decide) (by decide) (by decide)
  have r20 := hr 20 (by decide) (by decide) (by decide) (by decide) (by decide) (by decide) (by decide)
  have r21 := hr 21 (by decide) (by decide) (by decide) (by decide) (by decide) (by decide) (by decide)
  have r22 := hr 22 (by decide) (by decide) (by decide) (by decide) (by decide) (by decide) (by decide)
  have r24 := hr 24 (by decide) (by decide) (by decide) (by decide) (by decide) (by decide) (by decide)
  have g10 : ∀ y, gi (f_X5_letRainFall σ) 10 y = gi σ 10 y := fun y => by unfold gi; rw [r10]
  have n : NF (f_X5_letRainFall σ) w a b := by
    unfold NF
    rw [hc, r27, r27, r18, r18, r20, r20, r21, r21, r22, r22, r24, r24, g10, hl, hl]
    exact h
  obtain ⟨k1, k2⟩ := nf_pump n hw ha hb
  unfold gl at k1 k2 ⊢
  rw [nm_tail]
  exact ⟨k1, k2⟩
