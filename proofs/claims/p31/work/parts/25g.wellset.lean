/-! THE CALLS THAT SET, of wells -/
theorem inv_wish {C M : Nat} {σ : Sg} {x y : Int32} (h : Inv C M σ) (hC : C + 1 ≤ 1000) (hx : vp_in x 6) (hy : 0 ≤ y.toInt ∧ y.toInt ≤ 99) : Inv (C + 1) M (si σ 21 x y) := by
  obtain ⟨⟨a1, a2, a3, a4, a5, a6, a7, a8, a9, a10⟩, h2, h3, h4, h5⟩ := h.upC hC
  have hj : x.toNatClampNeg < 6 := vp_lt hx
  have r : ∀ a, a ≠ 21 → (si σ 21 x y).1 a = σ.1 a := fun a ha => si_ne ha
  have r0 : ∀ i, gs (si σ 21 x y) i = gs σ i := fun i => congrFun (r 0 (by decide)) i
  have rr : ∀ a, a ≠ 21 → rI a (si σ 21 x y) = rI a σ := fun a ha => rI_ne ha
  have mc : cnt (si σ 21 x y) = cnt σ := congrArg Int32.toNatClampNeg (r0 4)
  have mo : oN (si σ 21 x y) = oN σ := by funext p; unfold oN; rw [r 27 (by decide)]
  refine ⟨⟨⟨⟨by rw [r0, mc]; exact a1.1.1, by rw [mc]; exact a1.1.2⟩, fun v hv => by rw [r 18 (by decide)]; exact a1.2.1 v hv, fun v hv => by rw [r 27 (by decide)]; exact a1.2.2 v hv⟩, ev_same ⟨r 30 (by decide), r0 5, r0 6, r0 7⟩ a2, a3.same (r 30 (by decide)) (r0 5), a4.same (fun a ha => r a (by omega)) (r0 2) (r0 3), a5.same (r 10 (by decide)) (r 11 (by decide)), a6.same (r 10 (by decide)) rfl, a7.same (r 27 (by decide)) (r 19 (by decide)) (r0 4), ?_, ?_, a10⟩, (r0 0).trans h2, by rw [show en (si σ 21 x y) = en σ from congrArg Int32.toNatClampNeg (r0 5)]; exact h3, h4, h5⟩
  · intro w hw
    obtain ⟨b1, b2, b3⟩ := a8 w hw
    rw [rr 20 (by decide), rr 22 (by decide), rr 26 (by decide), r 24 (by decide), rI_si]
    refine ⟨b1, ?_, b3⟩
    by_cases e : w = x.toNatClampNeg
    · simp only [if_pos e]; exact hy
    · simp only [if_neg e]; exact b2
  · unfold SH
    rw [mc, mo, r 24 (by decide), rr 22 (by decide), rr 20 (by decide)]
    exact a9
set_option maxRecDepth 100000 in
/-- transfer -/
theorem gs_r {σ τ : Sg} (h : τ.1 0 = σ.1 0) (i : Nat) : gs τ i = gs σ i := by unfold gs; rw [h]
theorem inv_give {C M : Nat} {σ : Sg} {x y z : Int32} (h : Inv C M σ) (hC : C + 1 ≤ 1000) (hx : vp_in x 6) (hy : vp_in y 6) (hz : 1 ≤ z.toInt ∧ z.toInt ≤ 999) (hyc : y.toNatClampNeg < cnt σ) (hg : ¬ f_X4_canGive σ x y z = 0) : Inv (C + 1) M (f_X4_give σ x y z) ∧ x.toNatClampNeg ≠ y.toNatClampNeg ∧ (∀ w, rI 20 (f_X4_give σ x y z) w = if w = y.toNatClampNeg then rI 20 σ w + z.toInt else if w = x.toNatClampNeg then rI 20 σ w - z.toInt else rI 20 σ w) ∧ z.toInt ≤ (gi σ 20 x).toInt ∧ (gi σ 20 y).toInt + z.toInt ≤ 999 := by
  obtain ⟨⟨a1, a2, a3, a4, a5, a6, a7, a8, a9, a10⟩, h2, h3, h4, h5⟩ := h
  have hj : x.toNatClampNeg < 6 := vp_lt hx
  have hk : y.toNatClampNeg < 6 := vp_lt hy
  have bx := a8 _ hj
  have by_ := a8 _ hk
  rw [rI_x, rI_x, rI_x, rI_x] at bx by_
  obtain ⟨⟨bx1, bx2⟩, bx3, bx4, ⟨bx5, bx6⟩, bx7, bx8⟩ := bx
  obtain ⟨⟨by1, by2⟩, -⟩ := by_
  unfold f_X4_canGive at hg
  have c1 : ¬ x = y := fun e => hg (by rw [if_pos e])
  rw [if_neg c1] at hg
  have c2 : ¬ gi σ 20 x < z := fun e => hg (by rw [if_pos e])
  rw [if_neg c2] at hg
  have c3 : ¬ 999 < gi σ 20 y + z := fun e => hg (by rw [if_pos e])
  have hne : x.toNatClampNeg ≠ y.toNatClampNeg := fun e => c1 (by rw [vp_nI hx, vp_nI hy, e])
  have d2 : z.toInt ≤ (gi σ 20 x).toInt := by
    have := i_nlt c2
    omega
  have ey : (gi σ 20 y + z).toInt = (gi σ 20 y).toInt + z.toInt := i_add (by omega) (by omega)
  have d3 : (gi σ 20 y).toInt + z.toInt ≤ 999 := by
    have := i_nlt c3
    have e9 : (999 : Int32).toInt = 999 := by decide +kernel
    omega
  have ex : (gi σ 20 x - z).toInt = (gi σ 20 x).toInt - z.toInt := i_sub (by omega) (by omega)
  have eG : (gi σ 26 x + z).toInt = (gi σ 26 x).toInt + z.toInt := i_add (by omega) (by omega)
  unfold f_X4_give
  have gy : gi (si σ 20 x (gi σ 20 x - z)) 20 y = gi σ 20 y := by
    unfold gi
    rw [r_si]
    unfold upd
    exact if_neg (Ne.symm hne)
  rw [gy]
  generalize hτ : si (si (si σ 20 x (gi σ 20 x - z)) 20 y (gi σ 20 y + z)) 26 x (gi σ 26 x + z) = τ
  have r : ∀ a, a ≠ 20 → a ≠ 26 → τ.1 a = σ.1 a := fun a h20 h26 => by rw [← hτ, si_ne h26, si_ne h20, si_ne h20]
  have r0 : ∀ i, gs τ i = gs σ i := fun i => gs_r (r 0 (by decide) (by decide)) i
  have rr : ∀ a, a ≠ 20 → a ≠ 26 → rI a τ = rI a σ := fun a h20 h26 => by funext k; unfold rI; rw [r a h20 h26]
  have el : τ.2 = σ.2 := by rw [← hτ]; rfl
  have mc : cnt τ = cnt σ := congrArg Int32.toNatClampNeg (r0 4)
  have mo : oN τ = oN σ := by funext p; unfold oN; rw [r 27 (by decide) (by decide)]
  have q20 : ∀ w, rI 20 τ w = if w = y.toNatClampNeg then rI 20 σ w + z.toInt else if w = x.toNatClampNeg then rI 20 σ w - z.toInt else rI 20 σ w := by
    intro w
    rw [← hτ, rI_ne (by decide), rI_si, rI_si, ex, ey]
    by_cases e1 : w = y.toNatClampNeg
    · simp only [if_pos e1]; rw [e1, rI_x]
    · simp only [if_neg e1]
      by_cases e2 : w = x.toNatClampNeg
      · simp only [if_pos e2]; rw [e2, rI_x]
      · simp only [if_neg e2]
  have q26 : ∀ w, rI 26 τ w = if w = x.toNatClampNeg then rI 26 σ w + z.toInt else rI 26 σ w := by
    intro w
    rw [← hτ, rI_si, eG, rI_ne (by decide), rI_ne (by decide)]
    by_cases e2 : w = x.toNatClampNeg
    · simp only [if_pos e2]; rw [e2, rI_x]
    · simp only [if_neg e2]
  have hcx : x.toNatClampNeg < cnt σ := by
    rcases Nat.lt_or_ge x.toNatClampNeg (cnt σ) with q | q
    · exact q
    · have := (a9.2 _ q hj).2.2.1
      rw [rI_x] at this
      omega
  refine ⟨⟨⟨⟨⟨by rw [r0, mc]; exact a1.1.1, by rw [mc]; exact a1.1.2⟩, fun v hv => by rw [r 18 (by decide) (by decide)]; exact a1.2.1 v hv, fun v hv => by rw [r 27 (by decide) (by decide)]; exact a1.2.2 v hv⟩, ev_same ⟨r 30 (by decide) (by decide), r0 5, r0 6, r0 7⟩ a2, a3.same (r 30 (by decide) (by decide)) (r0 5), a4.same (fun a ha => r a (by omega) (by omega)) (r0 2) (r0 3), (a5.same (r 10 (by decide) (by decide)) (r 11 (by decide) (by decide))).up (by omega), a6.same (r 10 (by decide) (by decide)) (by rw [el]), a7.same (r 27 (by decide) (by decide)) (r 19 (by decide) (by decide)) (r0 4), ?_, ?_, ?_⟩, (r0 0).trans h2, by rw [show en τ = en σ from congrArg Int32.toNatClampNeg (r0 5)]; exact h3, hC, h5⟩, hne, q20, d2, d3⟩
  · intro w hw
    obtain ⟨⟨b1, b2⟩, b3, b4, ⟨b5, b6⟩, b7, b8⟩ := a8 w hw
    rw [rr 21 (by decide) (by decide), rr 22 (by decide) (by decide), r 24 (by decide) (by decide), q20, q26, el]
    by_cases e1 : w = y.toNatClampNeg
    · have e2 : ¬ w = x.toNatClampNeg := fun e => hne (e.symm.trans e1)
      simp only [if_pos e1, if_neg e2]
      have e3 : rI 20 σ w = (gi σ 20 y).toInt := by rw [e1]; rfl
      exact ⟨⟨by omega, by omega⟩, b3, b4, ⟨b5, by omega⟩, by omega, b8⟩
    · simp only [if_neg e1]
      by_cases e2 : w = x.toNatClampNeg
      · simp only [if_pos e2]
        have e3 : rI 20 σ w = (gi σ 20 x).toInt := by rw [e2]; rfl
        exact ⟨⟨by omega, by omega⟩, b3, b4, ⟨by omega, by omega⟩, by omega, b8⟩
      · simp only [if_neg e2]
        exact ⟨⟨b1, b2⟩, b3, b4, ⟨b5, by omega⟩, b7, b8⟩
  · refine ⟨fun q => ?_, fun w hw hw6 => ?_⟩
    · rw [mo, r 24 (by decide) (by decide)]
      exact a9.1 (by rw [← mc]; exact q)
    · rw [mc] at hw
      obtain ⟨x1, x2, x3, x4⟩ := a9.2 w hw hw6
      rw [r 24 (by decide) (by decide), rr 22 (by decide) (by decide), q20, el]
      have e2 : ¬ w = x.toNatClampNeg := by omega
      refine ⟨x1, x2, ?_, x4⟩
      have e1 : ¬ w = y.toNatClampNeg := by omega
      simp only [if_neg e1, if_neg e2]
      exact x3
  · unfold PS lI
    rw [el]
    exact a10
/-! addWell -/
theorem addL_s {n : Nat} {x y z : Int32} (hn : n < 6) : ∀ (k i : Nat) (τ : Sg), k ≤ n → gs τ 4 = nI n → (∀ a, a ≠ 0 → a ≠ 27 → (f_X4_add_L46 x y z k i τ).1 a = τ.1 a) ∧ (∀ j, j ≠ 4 → gs (f_X4_add_L46 x y z k i τ) j = gs τ j) ∧ gs (f_X4_add_L46 x y z k i τ) 4 = nI (n + 1) ∧ (f_X4_add_L46 x y z k i τ).2 = τ.2 ∧
    ∃ P, P ≤ k ∧ (∀ p, p < P → (f_X4_add_L46 x y z k i τ).1 27 p = τ.1 27 p) ∧ (f_X4_add_L46 x y z k i τ).1 27 P = nI n ∧ (∀ p, P ≤ p → p < k → (f_X4_add_L46 x y z k i τ).1 27 (p + 1) = τ.1 27 p) ∧ (∀ p, k < p → (f_X4_add_L46 x y z k i τ).1 27 p = τ.1 27 p) ∧ (0 < P → (gi τ 19 (τ.1 27 (P - 1))).toInt ≤ y.toInt) ∧ ∀ p, P ≤ p → p < k → y.toInt < (gi τ 19 (τ.1 27 p)).toInt := by
  intro k
  have put : ∀ (τ : Sg) (q : Nat), q ≤ n → gs τ 4 = nI n → (∀ a, a ≠ 0 → a ≠ 27 → (ss (si τ 27 (nI q) (gs τ 4)) 4 (gs τ 4 + 1)).1 a = τ.1 a) ∧ (∀ j, j ≠ 4 → gs (ss (si τ 27 (nI q) (gs τ 4)) 4 (gs τ 4 + 1)) j = gs τ j) ∧ gs (ss (si τ 27 (nI q) (gs τ 4)) 4 (gs τ 4 + 1)) 4 = nI (n + 1) ∧ (ss (si τ 27 (nI q) (gs τ 4)) 4 (gs τ 4 + 1)).2 = τ.2 ∧ ∀ p, (ss (si τ 27 (nI q) (gs τ 4)) 4 (gs τ 4 + 1)).1 27 p = if p = q then nI n else τ.1 27 p := by
    intro τ q hq h4
    refine ⟨fun a h0 h27 => (if_neg h0).trans (si_ne h27), fun j hj => ?_, ?_, rfl, fun p => ?_⟩
    · rw [show gs (ss (si τ 27 (nI q) (gs τ 4)) 4 (gs τ 4 + 1)) j = gs (si τ 27 (nI q) (gs τ 4)) j from pk_un hj]
      exact congrFun (si_ne (by decide)) j
    · rw [show gs (ss (si τ 27 (nI q) (gs τ 4)) 4 (gs τ 4 + 1)) 4 = gs τ 4 + 1 from gs_s, h4, nI_1]
    · rw [show (ss (si τ 27 (nI q) (gs τ 4)) 4 (gs τ 4 + 1)).1 27 = (si τ 27 (nI q) (gs τ 4)).1 27 from r_ss (by decide), r_si, nI_clamp (by omega), h4]
      rfl
  induction k with
  | zero =>
    intro i τ hk h4
    rw [f_X4_add_L46]
    obtain ⟨a, b, c0, d, e⟩ := put τ 0 (by omega) h4
    refine ⟨a, b, c0, d, 0, Nat.le_refl _, fun p hp => by omega, by rw [e]; exact if_pos rfl, fun p _ hp => by omega, fun p hp => by rw [e]; exact if_neg (by omega), fun hp => by omega, fun p _ hp => by omega⟩
  | succ k ih =>
    intro i τ hk h4
    rw [f_X4_add_L46]
    have ek : gi τ 27 (nI k) = τ.1 27 k := by unfold gi; rw [nI_clamp (by omega)]
    rw [ek]
    by_cases hc : gi τ 19 (τ.1 27 k) ≤ y
    · rw [if_pos hc]
      obtain ⟨a, b, c0, d, e⟩ := put τ (k + 1) (by omega) h4
      refine ⟨a, b, c0, d, k + 1, Nat.le_refl _, fun p hp => by rw [e]; exact if_neg (by omega), by rw [e]; exact if_pos rfl, fun p h1 h2 => by omega, fun p hp => by rw [e]; exact if_neg (by omega), fun _ => i_le.mp hc, fun p h1 h2 => by omega⟩
    · rw [if_neg hc]
      have hc' : y.toInt < (gi τ 19 (τ.1 27 k)).toInt := by
        have := i_nle hc
        omega
      have t0 : gs (si τ 27 (nI (k + 1)) (τ.1 27 k)) 4 = nI n := (congrFun (si_ne (by decide)) 4).trans h4
      have t27 : ∀ p, (si τ 27 (nI (k + 1)) (τ.1 27 k)).1 27 p = if p = k + 1 then τ.1 27 k else τ.1 27 p := fun p => by rw [r_si, nI_clamp (by omega)]; rfl
      have t19 : ∀ v, gi (si τ 27 (nI (k + 1)) (τ.1 27 k)) 19 v = gi τ 19 v := fun v => congrFun (si_ne (by decide)) _
      obtain ⟨a, b, c0, d, P, p1, p2, p3, p4, p5, p6, p7⟩ := ih (i + 1) (si τ 27 (nI (k + 1)) (τ.1 27 k)) (by omega) t0
      refine ⟨fun x h0 h27 => (a x h0 h27).trans (si_ne h27), fun j hj => (b j hj).trans (congrFun (si_ne (by decide)) j), c0, d, P, by omega, fun p hp => ?_, p3, fun p h1 h2 => ?_, fun p hp => ?_, fun hp => ?_, fun p h1 h2 => ?_⟩
      · rw [p2 p hp, t27]; exact if_neg (by omega)
      · by_cases e : p = k
        · subst e; rw [p5 (p + 1) (by omega), t27]; exact if_pos rfl
        · rw [p4 p h1 (by omega), t27]; exact if_neg (by omega)
      · rw [p5 p (by omega), t27]; exact if_neg (by omega)
      · have := p6 hp
        rw [t19, t27, if_neg (by omega)] at this
        exact this
      · by_cases e : p = k
        · subst e; exact hc'
        · have := p7 p h1 (by omega)
          rw [t19, t27, if_neg (by omega)] at this
          exact this
set_option maxHeartbeats 1000000 in
theorem inv_add {C M : Nat} {σ : Sg} {x y z : Int32} (h : Inv C M σ) (hC : C + 1 ≤ 1000) (hx : vp_in x 16) (hz : 0 ≤ z.toInt ∧ z.toInt ≤ 999) (hn : cnt σ < 6) : Inv (C + 1) M (f_X4_add σ x y z) ∧ cnt (f_X4_add σ x y z) = cnt σ + 1 ∧ rI 20 (f_X4_add σ x y z) = (fun w => if w = cnt σ then z.toInt else rI 20 σ w) ∧ rI 19 (f_X4_add σ x y z) = fun w => if w = cnt σ then y.toInt else rI 19 σ w := by
  obtain ⟨⟨a1, a2, a3, a4, a5, a6, a7, a8, a9, a10⟩, h2, h3, h4, h5⟩ := h.upC hC
  unfold f_X4_add
  rw [if_pos (show nI (cnt σ) < 6 from (nI_ltI (a := cnt σ) (b := 6) (by omega) (by omega)).mpr hn)]
  generalize hn0 : cnt σ = n at *
  have hcl : (nI n).toNatClampNeg = n := nI_clamp (by omega)
  generalize hτ : si (si (si σ 18 (nI n) x) 19 (nI n) y) 20 (nI n) z = τ
  have t1 : ∀ a, a ≠ 18 → a ≠ 19 → a ≠ 20 → τ.1 a = σ.1 a := fun a h18 h19 h20 => by rw [← hτ]; exact (si_ne h20).trans ((si_ne h19).trans (si_ne h18))
  have t0 : ∀ i, gs τ i = gs σ i := fun i => gs_r (t1 0 (by decide) (by decide) (by decide)) i
  have tl : τ.2 = σ.2 := by rw [← hτ]; rfl
  have t18 : ∀ w, τ.1 18 w = if w = n then x else σ.1 18 w := fun w => by rw [← hτ, si_ne (by decide), si_ne (by decide), r_si, hcl]; rfl
  have t19 : ∀ w, τ.1 19 w = if w = n then y else σ.1 19 w := fun w => by rw [← hτ, si_ne (by decide), r_si, hcl, si_ne (by decide)]; rfl
  have t20 : ∀ w, τ.1 20 w = if w = n then z else σ.1 20 w := fun w => by rw [← hτ, r_si, hcl, si_ne (by decide), si_ne (by decide)]; rfl
  have h4' : gs σ 4 = nI n := by rw [← hn0]; exact a1.1.1
  obtain ⟨b1, b2, b3, b4, P, p1, p2, p3, p4, p5, p6, p7⟩ := addL_s (x := x) (y := y) (z := z) hn n 0 τ (Nat.le_refl _) ((t0 4).trans h4')
  generalize f_X4_add_L46 x y z n 0 τ = ρ at b1 b2 b3 b4 p2 p3 p4 p5
  have e27 : τ.1 27 = σ.1 27 := t1 27 (by decide) (by decide) (by decide)
  rw [e27] at p2 p4 p5 p6 p7
  have r1 : ∀ a, a ≠ 0 → a ≠ 18 → a ≠ 19 → a ≠ 20 → a ≠ 27 → ρ.1 a = σ.1 a := fun a h0 h18 h19 h20 h27 => (b1 a h0 h27).trans (t1 a h18 h19 h20)
  have rr : ∀ a, a ≠ 0 → a ≠ 18 → a ≠ 19 → a ≠ 20 → a ≠ 27 → rI a ρ = rI a σ := fun a h0 h18 h19 h20 h27 => by funext k; unfold rI; rw [r1 a h0 h18 h19 h20 h27]
  have r0 : ∀ j, j ≠ 4 → gs ρ j = gs σ j := fun j hj => (b2 j hj).trans (t0 j)
  have rl : ρ.2 = σ.2 := b4.trans tl
  have mc : cnt ρ = n + 1 := by unfold cnt; rw [b3, nI_clamp (by omega)]
  have q19 : rI 19 ρ = fun w => if w = n then y.toInt else rI 19 σ w := by
    funext w
    unfold rI
    rw [b1 19 (by decide) (by decide), t19]
    split <;> rfl
  have q20 : rI 20 ρ = fun w => if w = n then z.toInt else rI 20 σ w := by
    funext w
    unfold rI
    rw [b1 20 (by decide) (by decide), t20]
    split <;> rfl
  -- the order
  have o1 : ∀ p, p < P → oN ρ p = oN σ p := fun p hp => by unfold oN; rw [p2 p hp]
  have o2 : oN ρ P = n := by unfold oN; rw [p3, hcl]
  have o3 : ∀ p, P ≤ p → p < n → oN ρ (p + 1) = oN σ p := fun p h1 h2 => by unfold oN; rw [p4 p h1 h2]
  have ol : ∀ p, p < n → oN σ p < n := fun p hp => by have := a7.1 p (by omega); omega
  have yr : ∀ p, p < n → (gi τ 19 (σ.1 27 p)).toInt = rI 19 σ (oN σ p) := by
    intro p hp
    show (τ.1 19 (oN σ p)).toInt = _
    rw [t19, if_neg (by have := ol p hp; omega)]
    rfl
  have cases3 : ∀ p, p < n + 1 → (p < P ∧ oN ρ p = oN σ p ∧ p < n) ∨ (p = P ∧ oN ρ p = n) ∨ (P < p ∧ oN ρ p = oN σ (p - 1) ∧ p - 1 < n ∧ P ≤ p - 1) := by
    intro p hp
    rcases Nat.lt_trichotomy p P with e | e | e
    · exact Or.inl ⟨e, o1 p e, by omega⟩
    · subst e; exact Or.inr (Or.inl ⟨rfl, o2⟩)
    · refine Or.inr (Or.inr ⟨e, ?_, by omega, by omega⟩)
      have := o3 (p - 1) (by omega) (by omega)
      rw [show p - 1 + 1 = p by omega] at this
      exact this
  have nO : OW ρ := by
    refine ⟨fun p hp => ?_, fun p q hp hq e => ?_, fun p hp => ?_⟩
    · rw [mc] at hp ⊢
      rcases cases3 p hp with ⟨-, e, hl⟩ | ⟨-, e⟩ | ⟨-, e, hl, -⟩
      · rw [e]; have := ol p hl; omega
      · rw [e]; omega
      · rw [e]; have := ol _ hl; omega
    · rw [mc] at hp hq
      rcases cases3 p hp with ⟨u1, u2, u3⟩ | ⟨u1, u2⟩ | ⟨u1, u2, u3, u4⟩ <;> rcases cases3 q hq with ⟨v1, v2, v3⟩ | ⟨v1, v2⟩ | ⟨v1, v2, v3, v4⟩
      · rw [u2, v2] at e; exact a7.2.1 p q (by omega) (by omega) e
      · rw [u2, v2] at e; have := ol p u3; omega
      · rw [u2, v2] at e; have := a7.2.1 p (q - 1) (by omega) (by omega) e; omega
      · rw [u2, v2] at e; have := ol q v3; omega
      · omega
      · rw [u2, v2] at e; have := ol _ v3; omega
      · rw [u2, v2] at e; have := a7.2.1 (p - 1) q (by omega) (by omega) e; omega
      · rw [u2, v2] at e; have := ol _ u3; omega
      · rw [u2, v2] at e; have := a7.2.1 (p - 1) (q - 1) (by omega) (by omega) e; omega
    · rw [mc] at hp
      rw [q19]
      rcases Nat.lt_trichotomy (p + 1) P with e | e | e
      · rw [o1 p (by omega), o1 (p + 1) e]
        have g1 := ol p (by omega)
        have g2 := ol (p + 1) (by omega)
        simp only [if_neg (show ¬ oN σ p = n by omega), if_neg (show ¬ oN σ (p + 1) = n by omega)]
        exact a7.2.2 p (by omega)
      · have g1 := ol p (by omega)
        have g3 := p6 (by omega)
        rw [show P - 1 = p by omega, yr p (by omega)] at g3
        rw [o1 p (by omega), show p + 1 = P from e, o2]
        simp only [if_neg (show ¬ oN σ p = n by omega), if_true]
        omega
      · by_cases e2 : p = P
        · subst e2
          have g2 := ol p (by omega)
          have g3 := p7 p (Nat.le_refl _) (by omega)
          rw [yr p (by omega)] at g3
          rw [o2, o3 p (Nat.le_refl _) (by omega)]
          simp only [if_neg (show ¬ oN σ p = n by omega), if_true]
          exact Or.inl g3
        · have f1 := o3 (p - 1) (by omega) (by omega)
          rw [show p - 1 + 1 = p by omega] at f1
          have f2 := o3 p (by omega) (by omega)
          rw [f1, f2]
          have g1 := ol (p - 1) (by omega)
          have g2 := ol p (by omega)
          simp only [if_neg (show ¬ oN σ (p - 1) = n by omega), if_neg (show ¬ oN σ p = n by omega)]
          have := a7.2.2 (p - 1) (by omega)
          rw [show p - 1 + 1 = p by omega] at this
          exact this
  refine ⟨⟨⟨⟨⟨by rw [b3, mc], by rw [mc]; omega⟩, fun v hv => ?_, fun v hv => ?_⟩, ev_same ⟨r1 30 (by decide) (by decide) (by decide) (by decide) (by decide), r0 5 (by decide), r0 6 (by decide), r0 7 (by decide)⟩ a2, a3.same (r1 30 (by decide) (by decide) (by decide) (by decide) (by decide)) (r0 5 (by decide)), a4.same (fun a ha => r1 a (by omega) (by omega) (by omega) (by omega) (by omega)) (r0 2 (by decide)) (r0 3 (by decide)), a5.same (r1 10 (by decide) (by decide) (by decide) (by decide) (by decide)) (r1 11 (by decide) (by decide) (by decide) (by decide) (by decide)), a6.same (r1 10 (by decide) (by decide) (by decide) (by decide) (by decide)) (by rw [rl]), nO, ?_, ?_, ?_⟩, (r0 0 (by decide)).trans h2, by rw [show en ρ = en σ from congrArg Int32.toNatClampNeg (r0 5 (by decide))]; exact h3, h4, h5⟩, mc, q20, q19⟩
  · rw [b1 18 (by decide) (by decide), t18]
    split
    · exact hx
    · exact a1.2.1 v hv
  · rcases Nat.lt_trichotomy v P with e | e | e
    · rw [p2 v e]; exact a1.2.2 v hv
    · subst e; rw [p3]; exact vp_in_nI hn (by decide)
    · by_cases e2 : v ≤ n
      · have := p4 (v - 1) (by omega) (by omega)
        rw [show v - 1 + 1 = v by omega] at this
        rw [this]
        exact a1.2.2 _ (by omega)
      · rw [p5 v (by omega)]; exact a1.2.2 v hv
  · intro w hw
    obtain ⟨c1, c2, ⟨c3, c4, c5⟩, ⟨c6, c7⟩, c8, c9⟩ := a8 w hw
    rw [rr 21 (by decide) (by decide) (by decide) (by decide) (by decide), rr 22 (by decide) (by decide) (by decide) (by decide) (by decide), rr 26 (by decide) (by decide) (by decide) (by decide) (by decide), r1 24 (by decide) (by decide) (by decide) (by decide) (by decide), q20, rl]
    by_cases e : w = n
    · simp only [if_pos e]
      have := (a9.2 w (by omega) hw).2.1
      exact ⟨hz, c2, ⟨c3, c4, c5⟩, ⟨c6, c7⟩, by omega, c9⟩
    · simp only [if_neg e]
      exact ⟨c1, c2, ⟨c3, c4, c5⟩, ⟨c6, c7⟩, c8, c9⟩
  · refine ⟨fun _ => ?_, fun w hw hw6 => ?_⟩
    · rw [r1 24 (by decide) (by decide) (by decide) (by decide) (by decide)]
      rcases cases3 0 (by omega) with ⟨u1, u2, u3⟩ | ⟨u1, u2⟩ | ⟨u1, -⟩
      · rw [u2]; exact a9.1 (by omega)
      · rw [u2]; exact (a9.2 n (by omega) (by omega)).1
      · omega
    · rw [mc] at hw
      obtain ⟨x1, x2, x3, x4⟩ := a9.2 w (by omega) hw6
      rw [r1 24 (by decide) (by decide) (by decide) (by decide) (by decide), rr 22 (by decide) (by decide) (by decide) (by decide) (by decide), q20, rl]
      simp only [if_neg (show ¬ w = n by omega)]
      exact ⟨x1, x2, x3, x4⟩
  · unfold PS lI
    rw [rl]
    exact a10
