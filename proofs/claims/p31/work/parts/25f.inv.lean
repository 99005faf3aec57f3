/-! WHAT HOLDS OF EVERY WORLD: C calls, M months so far -/
def Inv (C M : Nat) (σ : Sg) : Prop := PI (6000 * C + 3000 * M) (600 * M) (1000 * C) σ ∧ gs σ 0 = nI M ∧ en σ ≤ 20 * M ∧ C ≤ 1000 ∧ M ≤ 600
theorem months_L {mm nn : Nat} : ∀ (k i j : Nat) (τ : Sg), f_X5_letMonthsPass_L2 mm k i τ = f_X5_letMonthsPass_L2 nn k j τ := by
  intro k
  induction k with
  | zero => intro i j τ; rw [f_X5_letMonthsPass_L2, f_X5_letMonthsPass_L2]
  | succ k ih => intro i j τ; rw [f_X5_letMonthsPass_L2, f_X5_letMonthsPass_L2]; exact ih _ _ _
/-- n months -/
def f_months : Nat → Sg → Sg
  | 0, σ => σ
  | n + 1, σ => f_months n (f_month σ)
theorem months_e {mm : Nat} : ∀ (k i : Nat) (τ : Sg), f_X5_letMonthsPass_L2 mm k i τ = f_months k τ := by
  intro k
  induction k with
  | zero => intro i τ; rw [f_X5_letMonthsPass_L2]; rfl
  | succ k ih => intro i τ; rw [f_X5_letMonthsPass_L2]; exact ih _ _
theorem fol11 {σ : Sg} {lo : Int32} {mm : Nat} {b0 c0 d0 : Int32} : f_X5_follow_11 σ lo mm b0 c0 d0 = f_months mm σ := months_e mm 0 σ
theorem months_add : ∀ (a b : Nat) (σ : Sg), f_months (a + b) σ = f_months b (f_months a σ) := by
  intro a
  induction a with
  | zero => intro b σ; rw [Nat.zero_add]; rfl
  | succ a ih => intro b σ; rw [Nat.succ_add]; exact ih b (f_month σ)
theorem ek_month {σ : Sg} (hE : EvOK σ) (hB : en σ + 20 ≤ 20000) (hW : WF σ) : EK 20 (f_month σ) σ := by
  have h := EK_X5_letMonthsPass (mm := 1) hE (by omega) hW
  exact h
theorem inv_month {C M : Nat} {σ : Sg} (h : Inv C M σ) (hM : M < 600) : Inv C (M + 1) (f_month σ) ∧ FM (f_month σ) σ ∧ ((M + 1) % 12 = 0 → ∀ w, w < cnt σ → rI 22 (f_month σ) w = 0 ∧ (f_month σ).1 24 w = 0) ∧ en σ ≤ en (f_month σ) := by
  obtain ⟨h1, h2, h3, h4, h5⟩ := h
  obtain ⟨a, b, c0, d⟩ := month_s h1 (by omega) (by omega) (by omega) (by omega) (by omega) h2 hM
  have e := ek_month h1.2.1 (by omega) h1.1
  have hen := e.2.2.1
  exact ⟨⟨by
    have e1 : (6000 * (C : Int) + 3000 * ((M + 1 : Nat) : Int)) = 6000 * C + 3000 * M + 3000 := by omega
    have e2 : (600 * ((M + 1 : Nat) : Int)) = 600 * M + 600 := by omega
    rw [e1, e2]
    exact a, c0, by omega, h4, by omega⟩, b, d, e.2.1⟩
theorem inv_months {C : Nat} : ∀ (n M : Nat) (σ : Sg), Inv C M σ → M + n ≤ 600 → Inv C (M + n) (f_months n σ) ∧ FM (f_months n σ) σ ∧ (0 < n → (M + n) % 12 = 0 → ∀ w, w < cnt σ → rI 22 (f_months n σ) w = 0 ∧ (f_months n σ).1 24 w = 0) ∧ en σ ≤ en (f_months n σ) := by
  intro n
  induction n with
  | zero => intro M σ h _; exact ⟨h, FM.rf, fun z => absurd z (by omega), Nat.le_refl _⟩
  | succ n ih =>
    intro M σ h hM
    obtain ⟨a, b, c0, e0⟩ := inv_month h (by omega)
    obtain ⟨x, y, z, e1⟩ := ih (M + 1) (f_month σ) a (by omega)
    have bc : cnt (f_month σ) = cnt σ := congrArg Int32.toNatClampNeg b.2.2.2.1
    refine ⟨by rw [show M + (n + 1) = M + 1 + n by omega]; exact x, y.tr b, fun _ hz w hw => ?_, Nat.le_trans e0 e1⟩
    show rI 22 (f_months n (f_month σ)) w = 0 ∧ (f_months n (f_month σ)).1 24 w = 0
    by_cases hn : n = 0
    · subst hn
      exact c0 (by rw [show M + (0 + 1) = M + 1 by omega] at hz; exact hz) w hw
    · exact z (by omega) (by rw [show M + 1 + n = M + (n + 1) by omega]; exact hz) w (by omega)
/-! the calls that set -/
/-- only land is touched -/
def FL (τ σ : Sg) : Prop := (∀ a, a = 10 ∨ a = 11 ∨ a = 18 ∨ a = 19 ∨ a = 20 ∨ a = 21 ∨ a = 22 ∨ a = 24 ∨ a = 26 ∨ a = 27 ∨ a = 30 → τ.1 a = σ.1 a) ∧ gs τ 0 = gs σ 0 ∧ gs τ 4 = gs σ 4 ∧ gs τ 5 = gs σ 5 ∧ gs τ 6 = gs σ 6 ∧ gs τ 7 = gs σ 7 ∧ τ.2 = σ.2
theorem PI.land {N K G : Int} {τ σ : Sg} (h : PI N K G σ) (f : FL τ σ) (hL : LR τ) : PI N K G τ := by
  obtain ⟨a1, a2, a3, -, a5, a6, a7, a8, a9, a10⟩ := h
  obtain ⟨f1, -, f4, f5, f6, f7, fl⟩ := f
  have mr : ∀ a, a = 20 ∨ a = 21 ∨ a = 22 ∨ a = 26 → rI a τ = rI a σ := fun a ha => by funext k; unfold rI; rw [f1 a (by omega)]
  have mc : cnt τ = cnt σ := congrArg Int32.toNatClampNeg f4
  have mo : oN τ = oN σ := by funext p; unfold oN; rw [f1 27 (by omega)]
  refine ⟨⟨⟨by rw [f4, mc]; exact a1.1.1, by rw [mc]; exact a1.1.2⟩, fun v hv => by rw [f1 18 (by omega)]; exact a1.2.1 v hv, fun v hv => by rw [f1 27 (by omega)]; exact a1.2.2 v hv⟩, ev_same ⟨f1 30 (by omega), f5, f6, f7⟩ a2, a3.same (f1 30 (by omega)) f5, hL, a5.same (f1 10 (by omega)) (f1 11 (by omega)), a6.same (f1 10 (by omega)) (by rw [fl]), a7.same (f1 27 (by omega)) (f1 19 (by omega)) f4, ?_, ?_, ?_⟩
  · unfold AW
    rw [mr 20 (by omega), mr 21 (by omega), mr 22 (by omega), mr 26 (by omega), f1 24 (by omega), fl]
    exact a8
  · unfold SH
    rw [mc, mo, f1 24 (by omega), mr 22 (by omega), mr 20 (by omega), fl]
    exact a9
  · unfold PS lI
    rw [fl]
    exact a10
theorem AW.upG {K G F : Int} {σ : Sg} (h : AW K G σ) (hg : G ≤ F) : AW K F σ := fun w hw => by
  obtain ⟨a, b, c0, ⟨d1, d2⟩, e⟩ := h w hw
  exact ⟨a, b, c0, ⟨d1, by omega⟩, e⟩
theorem PI.upG {N M K G F : Int} {σ : Sg} (h : PI N K G σ) (hn : N ≤ M) (hg : G ≤ F) : PI M K F σ := ⟨h.1, h.2.1, h.2.2.1, h.2.2.2.1, h.2.2.2.2.1.up hn, h.2.2.2.2.2.1, h.2.2.2.2.2.2.1, h.2.2.2.2.2.2.2.1.upG hg, h.2.2.2.2.2.2.2.2⟩
theorem Inv.upC {C M : Nat} {σ : Sg} (h : Inv C M σ) (hC : C + 1 ≤ 1000) : Inv (C + 1) M σ := ⟨h.1.upG (by omega) (by omega), h.2.1, h.2.2.1, hC, h.2.2.2.2⟩
theorem FL_si {σ : Sg} {k : Nat} {x v : Int32} (hk : k = 8 ∨ k = 9 ∨ k = 12 ∨ k = 13 ∨ k = 14 ∨ k = 15 ∨ k = 16 ∨ k = 17) : FL (si σ k x v) σ := by
  have e0 : (si σ k x v).1 0 = σ.1 0 := si_ne (by omega)
  exact ⟨fun a ha => si_ne (by omega), congrFun e0 0, congrFun e0 4, congrFun e0 5, congrFun e0 6, congrFun e0 7, rfl⟩
theorem FL_ss {σ : Sg} {j : Nat} {v : Int32} (hj : j = 2 ∨ j = 3) : FL (ss σ j v) σ := ⟨fun a ha => if_neg (by omega), gs_ss (by omega), gs_ss (by omega), gs_ss (by omega), gs_ss (by omega), gs_ss (by omega), rfl⟩
theorem FL.tr {ρ τ σ : Sg} (h : FL ρ τ) (k : FL τ σ) : FL ρ σ := ⟨fun a ha => (h.1 a ha).trans (k.1 a ha), h.2.1.trans k.2.1, h.2.2.1.trans k.2.2.1, h.2.2.2.1.trans k.2.2.2.1, h.2.2.2.2.1.trans k.2.2.2.2.1, h.2.2.2.2.2.1.trans k.2.2.2.2.2.1, h.2.2.2.2.2.2.trans k.2.2.2.2.2.2⟩
theorem inv_land {C M : Nat} {τ σ : Sg} (h : Inv C M σ) (hC : C + 1 ≤ 1000) (f : FL τ σ) (hL : LR τ) : Inv (C + 1) M τ := by
  obtain ⟨h1, h2, h3, h4, h5⟩ := h
  refine ⟨(h1.land f hL).upG (by omega) (by omega), f.2.1.trans h2, ?_, hC, h5⟩
  rw [show en τ = en σ from congrArg Int32.toNatClampNeg f.2.2.2.1]
  exact h3
theorem LR_si {σ : Sg} {k : Nat} {x v : Int32} (h : LR σ) (hk : (k = 12 ∨ k = 13 ∨ k = 14) ∨ (k = 15 ∧ 0 ≤ v.toInt ∧ v.toInt ≤ 99) ∨ (k = 16 ∧ -100 ≤ v.toInt ∧ v.toInt ≤ 100) ∨ (k = 17 ∧ 0 ≤ v.toInt ∧ v.toInt ≤ 9) ∨ (k = 8 ∧ -100 ≤ v.toInt ∧ v.toInt ≤ 100) ∨ (k = 9 ∧ 1 ≤ v.toInt ∧ v.toInt ≤ 50)) : LR (si σ k x v) := by
  have e0 : (si σ k x v).1 0 = σ.1 0 := si_ne (by omega)
  have key : ∀ a w, rI a (si σ k x v) w = rI a σ w ∨ (a = k ∧ rI a (si σ k x v) w = v.toInt) := by
    intro a w
    by_cases e : a = k
    · subst e
      rw [rI_si]
      by_cases e2 : w = x.toNatClampNeg
      · exact Or.inr ⟨rfl, if_pos e2⟩
      · exact Or.inl (if_neg e2)
    · exact Or.inl (by rw [rI_ne e])
  obtain ⟨a1, a2, a3, a4⟩ := h
  refine ⟨fun w hw => ?_, fun w hw => ?_, by rw [show gs (si σ k x v) 2 = gs σ 2 from congrFun e0 2]; exact a3, by rw [show gs (si σ k x v) 3 = gs σ 3 from congrFun e0 3]; exact a4⟩
  · obtain ⟨b1, b2, b3, b4⟩ := a1 w hw
    have k8 := key 8 w
    have k9 := key 9 w
    omega
  · obtain ⟨b1, b2, b3, b4, b5, b6⟩ := a2 w hw
    have k15 := key 15 w
    have k16 := key 16 w
    have k17 := key 17 w
    omega
theorem LR_ss {σ : Sg} {j : Nat} {v : Int32} (h : LR σ) (hj : (j = 2 ∧ 0 ≤ v.toInt ∧ v.toInt ≤ 999) ∨ (j = 3 ∧ 0 ≤ v.toInt ∧ v.toInt ≤ 9)) : LR (ss σ j v) := by
  obtain ⟨a1, a2, a3, a4⟩ := h
  have r : ∀ a, a ≠ 0 → rI a (ss σ j v) = rI a σ := fun a ha => rI_ss ha
  refine ⟨by rw [r 8 (by decide), r 9 (by decide)]; exact a1, by rw [r 15 (by decide), r 16 (by decide), r 17 (by decide)]; exact a2, ?_, ?_⟩
  · rcases hj with ⟨rfl, h1, h2⟩ | ⟨rfl, h1, h2⟩
    · rw [show gs (ss σ 2 v) 2 = v from gs_s]; exact ⟨h1, h2⟩
    · rw [show gs (ss σ 3 v) 2 = gs σ 2 from gs_ss (by decide)]; exact a3
  · rcases hj with ⟨rfl, h1, h2⟩ | ⟨rfl, h1, h2⟩
    · rw [show gs (ss σ 2 v) 3 = gs σ 3 from gs_ss (by decide)]; exact a4
    · rw [show gs (ss σ 3 v) 3 = v from gs_s]; exact ⟨h1, h2⟩
/-- setCell -/
theorem inv_fill {C M : Nat} {σ : Sg} {x y z w : Int32} (h : Inv C M σ) (hC : C + 1 ≤ 1000) (hx : vp_in x 16) (hy : -100 ≤ y.toInt ∧ y.toInt ≤ 100) (hz : 1 ≤ z.toInt ∧ z.toInt ≤ 50) (hw : 0 ≤ w.toInt ∧ w.toInt ≤ 5000) : Inv (C + 1) M (f_X5_fillCell σ x y z w) := by
  obtain ⟨h1, h2, h3, h4, h5⟩ := h
  have hj : x.toNatClampNeg < 16 := vp_lt hx
  obtain ⟨a1, a2, a3, a4, a5, a6, a7, a8, a9, a10⟩ := h1
  obtain ⟨w0, w1⟩ := a5.w hj
  obtain ⟨s0, s1⟩ := a5.s hj
  rw [rI_x] at w0 w1 s0 s1
  unfold f_X5_fillCell
  generalize hτ : si (si (si (si (sl σ 28 0 (gl σ 28 0 + (w - gi σ 10 x).toInt64)) 8 x y) 9 x z) 10 x w) 11 x 0 = τ
  have r : ∀ a, a ≠ 8 → a ≠ 9 → a ≠ 10 → a ≠ 11 → τ.1 a = σ.1 a := fun a h8 h9 h10 h11 => by rw [← hτ]; exact (si_ne h11).trans ((si_ne h10).trans ((si_ne h9).trans (si_ne h8)))
  have r0 : ∀ i, gs τ i = gs σ i := fun i => by unfold gs; rw [r 0 (by decide) (by decide) (by decide) (by decide)]
  have q10 : rI 10 τ = fun k => if k = x.toNatClampNeg then w.toInt else rI 10 σ k := by rw [← hτ, rI_ne (by decide), rI_si, rI_ne (by decide), rI_ne (by decide), rI_sl]
  have q11 : rI 11 τ = fun k => if k = x.toNatClampNeg then 0 else rI 11 σ k := by rw [← hτ, rI_si, i_0, rI_ne (by decide), rI_ne (by decide), rI_ne (by decide), rI_sl]
  have s10 : Sm (rI 10 τ) 16 = Sm (rI 10 σ) 16 + w.toInt - (gi σ 10 x).toInt := by rw [q10, Sm_upd hj]; rfl
  have s11 : Sm (rI 11 τ) 16 = Sm (rI 11 σ) 16 - (gi σ 11 x).toInt := by rw [q11, Sm_upd hj, rI_x]; omega
  have el : τ.2 = (sl σ 28 0 (gl σ 28 0 + (w - gi σ 10 x).toInt64)).2 := by rw [← hτ]; rfl
  have e23 : τ.2 23 = σ.2 23 := by rw [el]; rfl
  have e282 : τ.2 28 2 = σ.2 28 2 := by rw [el, r_sl]; rfl
  have ed : (w - gi σ 10 x).toInt = w.toInt - (gi σ 10 x).toInt := i_sub (by omega) (by omega)
  have mc : cnt τ = cnt σ := congrArg Int32.toNatClampNeg (r0 4)
  have mo : oN τ = oN σ := by funext p; unfold oN; rw [r 27 (by decide) (by decide) (by decide) (by decide)]
  have mr : ∀ a, a = 20 ∨ a = 21 ∨ a = 22 ∨ a = 26 → rI a τ = rI a σ := fun a ha => by funext k; unfold rI; rw [r a (by omega) (by omega) (by omega) (by omega)]
  have hL : LR τ := by
    have l1 : LR (si (si (sl σ 28 0 (gl σ 28 0 + (w - gi σ 10 x).toInt64)) 8 x y) 9 x z) := LR_si (LR_si (a4.same (fun _ _ => rfl) rfl rfl) (by omega)) (by omega)
    refine l1.same (fun a ha => ?_) ?_ ?_
    · rw [← hτ]; exact (si_ne (by omega)).trans (si_ne (by omega))
    · rw [r0]; rfl
    · rw [r0]; rfl
  have g10 := a5.2.1
  have g11 := a5.2.2
  refine ⟨⟨⟨⟨by rw [r0, mc]; exact a1.1.1, by rw [mc]; exact a1.1.2⟩, fun v hv => by rw [r 18 (by decide) (by decide) (by decide) (by decide)]; exact a1.2.1 v hv, fun v hv => by rw [r 27 (by decide) (by decide) (by decide) (by decide)]; exact a1.2.2 v hv⟩, ev_same ⟨r 30 (by decide) (by decide) (by decide) (by decide), r0 5, r0 6, r0 7⟩ a2, a3.same (r 30 (by decide) (by decide) (by decide) (by decide)) (r0 5), hL, ⟨fun k hk => ?_, by rw [s10]; omega, by rw [s11]; omega⟩, BK_in (a := 0) (d := w - gi σ 10 x) (by omega) a6 (by rw [s10, ed]; omega) (by rw [el, r_sl]; rfl), a7.same (r 27 (by decide) (by decide) (by decide) (by decide)) (r 19 (by decide) (by decide) (by decide) (by decide)) (r0 4), ?_, ?_, ?_⟩, (r0 0).trans h2, by rw [show en τ = en σ from congrArg Int32.toNatClampNeg (r0 5)]; exact h3, hC, h5⟩
  · rw [q10, q11]
    by_cases e : k = x.toNatClampNeg
    · simp only [if_pos e]
      exact ⟨hw.1, Int.le_refl _, fun _ => trivial⟩
    · simp only [if_neg e]
      exact a5.1 k hk
  · have a8' := a8.upG (F := 1000 * ((C + 1 : Nat) : Int)) (by omega)
    unfold AW
    rw [mr 20 (by omega), mr 21 (by omega), mr 22 (by omega), mr 26 (by omega), r 24 (by decide) (by decide) (by decide) (by decide), e23]
    exact a8'
  · unfold SH
    rw [mc, mo, r 24 (by decide) (by decide) (by decide) (by decide), mr 22 (by omega), mr 20 (by omega), e23]
    exact a9
  · unfold PS lI
    rw [e23, e282]
    exact a10
