/-! THE RIVER; what flows from cell to cell -/
theorem bed_s {σ : Sg} {N : Int} {x y : Int32} (hL : LR σ) (h : WB N σ) (hN : N ≤ 20000000) (hB : BK σ) (hx : vp_in x 8) (hy : 0 ≤ y.toInt) (hs : Sm (rI 10 σ) 16 + y.toInt ≤ N) :
    WB N (f_X5_runThroughBed σ x y).2 ∧ BK (f_X5_runThroughBed σ x y).2 ∧ 0 ≤ (y + (f_X5_runThroughBed σ x y).1).toInt ∧ Sm (rI 10 (f_X5_runThroughBed σ x y).2) 16 + (y + (f_X5_runThroughBed σ x y).1).toInt = Sm (rI 10 σ) 16 + y.toInt := by
  have hx16 : vp_in x 16 := vp_mono hx (by decide)
  have hj : x.toNatClampNeg < 8 := vp_lt hx
  have hS0 := Sm_nn (f := rI 10 σ) (n := 16) (fun k hk => (h.1 k hk).1)
  obtain ⟨w0, w1⟩ := h.w (show x.toNatClampNeg < 16 by omega)
  have hge := Sm_ge (f := rI 10 σ) (fun j hj => (h.1 j hj).1) (show x.toNatClampNeg < 16 by omega)
  rw [rI_x] at w0 w1 hge
  obtain ⟨-, -, b1, b2, b3, b4⟩ := hL.2.1 _ hj
  rw [rI_x] at b1 b2 b3 b4
  obtain ⟨hh1, hh2⟩ := height_b hL h hN hx16
  have e0 : (gi σ 16 x - f_X2_height σ x).toInt = (gi σ 16 x).toInt - (f_X2_height σ x).toInt := i_sub (by omega) (by omega)
  obtain ⟨m1, m2⟩ := mul9 (a := (gi σ 16 x - f_X2_height σ x).toInt) (b := (gi σ 17 x).toInt) (L := 200 + N) (U := 200) b3 b4 (by omega) (by omega) (by omega) (by omega)
  have em : ((gi σ 16 x - f_X2_height σ x) * gi σ 17 x).toInt = (gi σ 16 x - f_X2_height σ x).toInt * (gi σ 17 x).toInt := i_mul (by omega) (by omega)
  unfold f_X5_runThroughBed
  generalize hP : (gi σ 16 x - f_X2_height σ x) * gi σ 17 x = P at em ⊢
  obtain ⟨d1, d2⟩ := i_div4 P
  generalize hV : P / 4 = V at d1 d2 ⊢
  have hv : -(9 * (200 + N)) ≤ V.toInt ∧ V.toInt ≤ 450 := by
    rcases Int.lt_or_le P.toInt 0 with z | z
    · have := d2 z; omega
    · have := d1 z; omega
  by_cases h0 : 0 ≤ V
  · rw [if_pos h0]
    have h0' : 0 ≤ V.toInt := by have := i_le.mp h0; rw [i_0] at this; exact this
    generalize hI : mn V y = I
    have i0 : 0 ≤ I.toInt ∧ I.toInt ≤ y.toInt := by
      rw [← hI, i_mn]
      split <;> omega
    obtain ⟨a1, a2⟩ := addW (M := N) (d := I) h (by omega) hN hx16 i0.1 (by omega)
    have k1 : WB N (sl (si σ 10 x (gi σ 10 x + I)) 28 3 (gl σ 28 3 + I.toInt64)) := a1.same rfl rfl
    have k2 : BK (sl (si σ 10 x (gi σ 10 x + I)) 28 3 (gl σ 28 3 + I.toInt64)) := BK_in (a := 3) (d := I) (by omega) hB a2 r_sl
    have ey : (y + -I).toInt = y.toInt - I.toInt := by
      have en : (-I).toInt = -I.toInt := i_neg (by omega)
      rw [i_add (by rw [en]; omega) (by rw [en]; omega), en]
      omega
    have k4 : Sm (rI 10 (sl (si σ 10 x (gi σ 10 x + I)) 28 3 (gl σ 28 3 + I.toInt64))) 16 = Sm (rI 10 σ) 16 + I.toInt := a2
    split
    · exact ⟨k1, k2, by show 0 ≤ (y + -I).toInt; omega, by show _ + (y + -I).toInt = _; rw [k4]; omega⟩
    · split
      · refine ⟨k1.same (note_r (by decide) (by decide)) (note_r (by decide) (by decide)), k2.same (note_r (by decide) (by decide)) rfl, by show 0 ≤ (y + -I).toInt; omega, ?_⟩
        show Sm (rI 10 (f_X5_note (sl (si σ 10 x (gi σ 10 x + I)) 28 3 (gl σ 28 3 + I.toInt64)) 100)) 16 + (y + -I).toInt = _
        have e : rI 10 (f_X5_note (sl (si σ 10 x (gi σ 10 x + I)) 28 3 (gl σ 28 3 + I.toInt64)) 100) = rI 10 (sl (si σ 10 x (gi σ 10 x + I)) 28 3 (gl σ 28 3 + I.toInt64)) := by
          funext k
          unfold rI
          rw [note_r (by decide) (by decide)]
        rw [e, k4]
        omega
      · exact ⟨k1, k2, by show 0 ≤ (y + -I).toInt; omega, by show _ + (y + -I).toInt = _; rw [k4]; omega⟩
  · rw [if_neg h0]
    have h0' : V.toInt < 0 := by
      have := i_nle h0
      rw [i_0] at this
      omega
    have en : (-V).toInt = -V.toInt := i_neg (by omega)
    generalize hO : mn (-V) (gi σ 10 x) = O
    have o0 : 0 ≤ O.toInt ∧ O.toInt ≤ (gi σ 10 x).toInt := by
      rw [← hO, i_mn, en]
      split <;> omega
    obtain ⟨t1, t2, -⟩ := takeOut_s h hN hx16 o0.1 o0.2
    have ey : (y + O).toInt = y.toInt + O.toInt := i_add (by omega) (by omega)
    refine ⟨t1.same rfl rfl, BK_out (a := 4) (d := O) (by omega) hB t2 ?_, by show 0 ≤ (y + O).toInt; omega, ?_⟩
    · rw [r_sl]
      show vp_updL ((f_X2_takeOut σ x O).2.2 28) 4 ((f_X2_takeOut σ x O).2.2 28 4 + O.toInt64) = _
      rw [takeOut_l]
    · show Sm (rI 10 (f_X2_takeOut σ x O).2) 16 + (y + O).toInt = _
      rw [t2, ey]
      omega
theorem FW_bed {σ : Sg} {x y : Int32} : FW (f_X5_runThroughBed σ x y).2 σ := by
  unfold f_X5_runThroughBed
  split
  · split
    · exact (FW_sl (by decide)).tr (FW_si (by omega))
    · split
      · exact FW_note.tr ((FW_sl (by decide)).tr (FW_si (by omega)))
      · exact (FW_sl (by decide)).tr (FW_si (by omega))
  · exact (FW_sl (by decide)).tr FW_take
theorem river_s {N : Int} (hN : N ≤ 20000000) : ∀ (k i : Nat) (τ : Sg) (y : Int32), k ≤ 8 → LR τ → WB N τ → BK τ → 0 ≤ y.toInt → Sm (rI 10 τ) 16 + y.toInt ≤ N → WB N (f_X5_letRiverRun_L11 k i τ y) ∧ BK (f_X5_letRiverRun_L11 k i τ y) := by
  intro k
  induction k with
  | zero => intro i τ y _ _ h hB _ _; rw [f_X5_letRiverRun_L11]; exact ⟨h.same rfl rfl, BK_8 hB rfl r_sl⟩
  | succ k ih =>
    intro i τ y hk hL h hB hy hs
    rw [f_X5_letRiverRun_L11]
    obtain ⟨a, b, c0, d⟩ := bed_s hL h hN hB (x := nI k) (vp_in_nI (by omega) (by decide)) hy hs
    exact ih _ _ _ (by omega) (hL.fw FW_bed) a b c0 (by omega)
theorem FW_river : ∀ (k i : Nat) (τ : Sg) (y : Int32), FW (f_X5_letRiverRun_L11 k i τ y) τ := by
  intro k
  induction k with
  | zero => intro i τ y; rw [f_X5_letRiverRun_L11]; exact FW_sl (by decide)
  | succ k ih => intro i τ y; rw [f_X5_letRiverRun_L11]; exact (ih _ _ _).tr FW_bed
/-! what flows from cell to cell: what comes in waits beside -/
def WB2 (N : Int) (σ : Sg) : Prop := (∀ k, k < 16 → (0 ≤ rI 10 σ k ∧ 0 ≤ rI 11 σ k ∧ (rI 10 σ k = 0 → rI 11 σ k = 0)) ∧ 0 ≤ rI 6 σ k ∧ 0 ≤ rI 7 σ k ∧ (rI 6 σ k = 0 → rI 7 σ k = 0)) ∧ Sm (rI 10 σ) 16 + Sm (rI 6 σ) 16 ≤ N ∧ Sm (rI 11 σ) 16 + Sm (rI 7 σ) 16 ≤ 35 * N
theorem WB2.n6 {N : Int} {σ : Sg} (h : WB2 N σ) : 0 ≤ Sm (rI 6 σ) 16 ∧ 0 ≤ Sm (rI 7 σ) 16 ∧ 0 ≤ Sm (rI 10 σ) 16 ∧ 0 ≤ Sm (rI 11 σ) 16 := ⟨Sm_nn (fun k hk => (h.1 k hk).2.1), Sm_nn (fun k hk => (h.1 k hk).2.2.1), Sm_nn (fun k hk => (h.1 k hk).1.1), Sm_nn (fun k hk => (h.1 k hk).1.2.1)⟩
theorem WB2.wb {N : Int} {σ : Sg} (h : WB2 N σ) : WB N σ := by
  obtain ⟨a, b, -⟩ := h.n6
  exact ⟨fun k hk => (h.1 k hk).1, by have := h.2.1; omega, by have := h.2.2; omega⟩
theorem flow_s {σ : Sg} {N : Int} {x y z : Int32} (h : WB2 N σ) (hN : N ≤ 20000000) (hx : vp_in x 16) (hy : vp_in y 16) : WB2 N (f_X5_flow σ x y z) ∧ Sm (rI 10 (f_X5_flow σ x y z)) 16 + Sm (rI 6 (f_X5_flow σ x y z)) 16 = Sm (rI 10 σ) 16 + Sm (rI 6 σ) 16 := by
  have hj : y.toNatClampNeg < 16 := vp_lt hy
  unfold f_X5_flow
  generalize hV : mn ((gi σ 5 x - gi σ 5 y) * z / 4) (gi σ 10 x) = V
  by_cases h0 : V ≤ 0
  · rw [if_pos h0]; exact ⟨h, rfl⟩
  · rw [if_neg h0]
    have v0 : 0 < V.toInt := by
      have := i_nle h0
      rw [i_0] at this
      omega
    have v1 : V.toInt ≤ (gi σ 10 x).toInt := by
      rw [← hV, i_mn]
      split <;> omega
    obtain ⟨t1, t2, t3, g0, g1⟩ := takeOut_s h.wb hN hx (by omega) v1
    obtain ⟨n6, n7, n10, n11⟩ := h.n6
    have r6 : rI 6 (f_X2_takeOut σ x V).2 = rI 6 σ := by funext k; unfold rI; rw [takeOut_r (by decide) (by decide)]
    have r7 : rI 7 (f_X2_takeOut σ x V).2 = rI 7 σ := by funext k; unfold rI; rw [takeOut_r (by decide) (by decide)]
    have g6 : gi (f_X2_takeOut σ x V).2 6 y = gi σ 6 y := by unfold gi; rw [takeOut_r (by decide) (by decide)]
    have g7 : gi (f_X2_takeOut σ x V).2 7 y = gi σ 7 y := by unfold gi; rw [takeOut_r (by decide) (by decide)]
    generalize hτ : (f_X2_takeOut σ x V).2 = τ at *
    generalize hG : (f_X2_takeOut σ x V).1 = G at *
    have u0 := (h.1 _ hj).2.1
    have u1 := (h.1 _ hj).2.2.1
    have u2 := Sm_ge (f := rI 6 σ) (fun k hk => (h.1 k hk).2.1) hj
    have u3 := Sm_ge (f := rI 7 σ) (fun k hk => (h.1 k hk).2.2.1) hj
    rw [rI_x] at u0 u1 u2 u3
    have hsum := h.2.1
    have hsal := h.2.2
    have p10 := Sm_nn (f := rI 10 τ) (n := 16) (fun k hk => (t1.1 k hk).1)
    have p11 := Sm_nn (f := rI 11 τ) (n := 16) (fun k hk => (t1.1 k hk).2.1)
    have e7 : (gi σ 7 y + G).toInt = (gi σ 7 y).toInt + G.toInt := i_add (by omega) (by omega)
    have e6 : (gi τ 6 y + V).toInt = (gi σ 6 y).toInt + V.toInt := by rw [g6]; exact i_add (by omega) (by omega)
    have q10 : rI 10 (si (si τ 7 y (gi σ 7 y + G)) 6 y (gi τ 6 y + V)) = rI 10 τ := by rw [rI_ne (by decide), rI_ne (by decide)]
    have q11 : rI 11 (si (si τ 7 y (gi σ 7 y + G)) 6 y (gi τ 6 y + V)) = rI 11 τ := by rw [rI_ne (by decide), rI_ne (by decide)]
    have q6 : rI 6 (si (si τ 7 y (gi σ 7 y + G)) 6 y (gi τ 6 y + V)) = fun k => if k = y.toNatClampNeg then (gi σ 6 y).toInt + V.toInt else rI 6 σ k := by rw [rI_si, e6, rI_ne (by decide), r6]
    have q7 : rI 7 (si (si τ 7 y (gi σ 7 y + G)) 6 y (gi τ 6 y + V)) = fun k => if k = y.toNatClampNeg then (gi σ 7 y).toInt + G.toInt else rI 7 σ k := by rw [rI_ne (by decide), rI_si, e7, r7]
    have s6 : Sm (rI 6 (si (si τ 7 y (gi σ 7 y + G)) 6 y (gi τ 6 y + V))) 16 = Sm (rI 6 σ) 16 + V.toInt := by rw [q6, Sm_upd hj, rI_x]; omega
    have s7 : Sm (rI 7 (si (si τ 7 y (gi σ 7 y + G)) 6 y (gi τ 6 y + V))) 16 = Sm (rI 7 σ) 16 + G.toInt := by rw [q7, Sm_upd hj, rI_x]; omega
    refine ⟨⟨fun k hk => ?_, by rw [q10, s6]; omega, by rw [q11, s7]; omega⟩, by rw [q10, s6]; omega⟩
    rw [q10, q11]
    refine ⟨t1.1 k hk, ?_⟩
    rw [q6, q7]
    by_cases hkj : k = y.toNatClampNeg
    · simp only [if_pos hkj]
      exact ⟨by omega, by omega, fun z => by omega⟩
    · simp only [if_neg hkj]
      exact (h.1 k hk).2
theorem FW_flow {σ : Sg} {x y z : Int32} : FW (f_X5_flow σ x y z) σ := by
  unfold f_X5_flow
  split
  · exact FW.rf
  · exact (FW_si (by omega)).tr ((FW_si (by omega)).tr FW_take)
/-- what waited comes in -/
theorem merge_s {N T : Int} (hN : N ≤ 20000000) (hT : T ≤ N) : ∀ (k i : Nat) (τ : Sg), i + k = 16 → (∀ j, j < 16 → (0 ≤ rI 10 τ j ∧ 0 ≤ rI 11 τ j ∧ (rI 10 τ j = 0 → rI 11 τ j = 0)) ∧ 0 ≤ rI 6 τ j ∧ 0 ≤ rI 7 τ j ∧ (rI 6 τ j = 0 → rI 7 τ j = 0)) → Sm (rI 10 τ) 16 + (Sm (rI 6 τ) 16 - Sm (rI 6 τ) i) = T → Sm (rI 11 τ) 16 + (Sm (rI 7 τ) 16 - Sm (rI 7 τ) i) ≤ 35 * N → WB N (f_X5_letWaterFlow_L125 k i τ) ∧ Sm (rI 10 (f_X5_letWaterFlow_L125 k i τ)) 16 = T := by
  intro k
  induction k with
  | zero =>
    intro i τ hi h h1 h2
    rw [f_X5_letWaterFlow_L125]
    have : i = 16 := by omega
    subst this
    exact ⟨⟨fun j hj => (h j hj).1, by omega, by omega⟩, by omega⟩
  | succ k ih =>
    intro i τ hi h h1 h2
    rw [f_X5_letWaterFlow_L125]
    have hc : (nI i).toNatClampNeg = i := nI_clamp (by omega)
    have hi16 : i < 16 := by omega
    have a10 := Sm_ge (f := rI 10 τ) (fun j hj => (h j hj).1.1) hi16
    have a11 := Sm_ge (f := rI 11 τ) (fun j hj => (h j hj).1.2.1) hi16
    have b6 : rI 6 τ i ≤ Sm (rI 6 τ) 16 - Sm (rI 6 τ) i := by
      have key : ∀ n, i < n → n ≤ 16 → rI 6 τ i ≤ Sm (rI 6 τ) n - Sm (rI 6 τ) i := by
        intro n
        induction n with
        | zero => intro z; omega
        | succ n ihn =>
          intro z1 z2
          show rI 6 τ i ≤ Sm (rI 6 τ) n + rI 6 τ n - Sm (rI 6 τ) i
          by_cases e : i = n
          · subst e; omega
          · have := ihn (by omega) (by omega)
            have := (h n (by omega)).2.1
            omega
      exact key 16 hi16 (Nat.le_refl _)
    have b7 : rI 7 τ i ≤ Sm (rI 7 τ) 16 - Sm (rI 7 τ) i := by
      have key : ∀ n, i < n → n ≤ 16 → rI 7 τ i ≤ Sm (rI 7 τ) n - Sm (rI 7 τ) i := by
        intro n
        induction n with
        | zero => intro z; omega
        | succ n ihn =>
          intro z1 z2
          show rI 7 τ i ≤ Sm (rI 7 τ) n + rI 7 τ n - Sm (rI 7 τ) i
          by_cases e : i = n
          · subst e; omega
          · have := ihn (by omega) (by omega)
            have := (h n (by omega)).2.2.1
            omega
      exact key 16 hi16 (Nat.le_refl _)
    obtain ⟨⟨c10, c11, c0⟩, c6, c7, c67⟩ := h i hi16
    have g10 : (gi τ 10 (nI i)).toInt = rI 10 τ i := by unfold gi rI; rw [hc]
    have g11 : (gi τ 11 (nI i)).toInt = rI 11 τ i := by unfold gi rI; rw [hc]
    have g6 : (gi τ 6 (nI i)).toInt = rI 6 τ i := by unfold gi rI; rw [hc]
    have g7 : (gi τ 7 (nI i)).toInt = rI 7 τ i := by unfold gi rI; rw [hc]
    have n10 := Sm_nn (f := rI 10 τ) (n := 16) (fun j hj => (h j hj).1.1)
    have n11 := Sm_nn (f := rI 11 τ) (n := 16) (fun j hj => (h j hj).1.2.1)
    have e10 : (gi τ 10 (nI i) + gi τ 6 (nI i)).toInt = rI 10 τ i + rI 6 τ i := by rw [i_add (by omega) (by omega), g10, g6]
    have e11 : (gi τ 11 (nI i) + gi τ 7 (nI i)).toInt = rI 11 τ i + rI 7 τ i := by rw [i_add (by omega) (by omega), g11, g7]
    generalize hρ : si (si τ 10 (nI i) (gi τ 10 (nI i) + gi τ 6 (nI i))) 11 (nI i) (gi τ 11 (nI i) + gi τ 7 (nI i)) = ρ
    have q10 : rI 10 ρ = fun j => if j = i then rI 10 τ i + rI 6 τ i else rI 10 τ j := by rw [← hρ, rI_ne (by decide), rI_si, e10, hc]
    have q11 : rI 11 ρ = fun j => if j = i then rI 11 τ i + rI 7 τ i else rI 11 τ j := by rw [← hρ, rI_si, e11, hc, rI_ne (by decide)]
    have q6 : rI 6 ρ = rI 6 τ := by rw [← hρ, rI_ne (by decide), rI_ne (by decide)]
    have q7 : rI 7 ρ = rI 7 τ := by rw [← hρ, rI_ne (by decide), rI_ne (by decide)]
    refine ih (i + 1) ρ (by omega) (fun j hj => ?_) ?_ ?_
    · rw [q6, q7]
      refine ⟨?_, (h j hj).2⟩
      rw [q10, q11]
      by_cases e : j = i
      · simp only [if_pos e]
        exact ⟨by omega, by omega, fun z => by have := c0 (by omega); have := c67 (by omega); omega⟩
      · simp only [if_neg e]
        exact (h j hj).1
    · rw [q6, q10, Sm_upd hi16]
      show _ + (Sm (rI 6 τ) 16 - (Sm (rI 6 τ) i + rI 6 τ i)) = T
      omega
    · rw [q7, q11, Sm_upd hi16]
      show _ + (Sm (rI 7 τ) 16 - (Sm (rI 7 τ) i + rI 7 τ i)) ≤ 35 * N
      omega
theorem flows_s {N T : Int} (hN : N ≤ 20000000) (hT : T ≤ N) : ∀ (k i : Nat) (τ : Sg), i + k = 16 → WB2 N τ → Sm (rI 10 τ) 16 + Sm (rI 6 τ) 16 = T → WB N (f_X5_letWaterFlow_L44 k i τ) ∧ Sm (rI 10 (f_X5_letWaterFlow_L44 k i τ)) 16 = T := by
  intro k
  induction k with
  | zero =>
    intro i τ _ h h1
    rw [f_X5_letWaterFlow_L44]
    refine merge_s hN hT 16 0 τ rfl h.1 ?_ ?_
    · show _ + (Sm (rI 6 τ) 16 - 0) = T
      omega
    · show _ + (Sm (rI 7 τ) 16 - 0) ≤ 35 * N
      have := h.2.2
      omega
  | succ k ih =>
    intro i τ hi h h1
    rw [f_X5_letWaterFlow_L44]
    have hi16 : i < 16 := by omega
    have vi : vp_in (nI i) 16 := vp_in_nI hi16 (by decide)
    have v8 : vp_in (nI ((i + 8) % 16)) 16 := vp_in_nI (Nat.mod_lt _ (by decide)) (by decide)
    have go : ∀ ρ : Sg, WB2 N ρ ∧ Sm (rI 10 ρ) 16 + Sm (rI 6 ρ) 16 = T → WB N (f_X5_letWaterFlow_L44 k (i + 1) ρ) ∧ Sm (rI 10 (f_X5_letWaterFlow_L44 k (i + 1) ρ)) 16 = T := fun ρ z => ih (i + 1) ρ (by omega) z.1 z.2
    have fl : ∀ (ρ : Sg) (y z : Int32), vp_in y 16 → WB2 N ρ ∧ Sm (rI 10 ρ) 16 + Sm (rI 6 ρ) 16 = T → WB2 N (f_X5_flow ρ (nI i) y z) ∧ Sm (rI 10 (f_X5_flow ρ (nI i) y z)) 16 + Sm (rI 6 (f_X5_flow ρ (nI i) y z)) 16 = T := by
      intro ρ y z hy hz
      obtain ⟨a, b⟩ := flow_s (z := z) hz.1 hN vi hy
      exact ⟨a, b.trans hz.2⟩
    by_cases c1 : nI (i % 8) ≤ 0
    · rw [if_pos c1]
      by_cases c2 : 7 ≤ nI (i % 8)
      · rw [if_pos c2]
        exact go _ (fl _ _ _ v8 ⟨h, h1⟩)
      · rw [if_neg c2]
        have hm : i % 8 < 7 := by
          rcases Nat.lt_or_ge (i % 8) 7 with z | z
          · exact z
          · exact absurd (nI_le z (by omega)) c2
        exact go _ (fl _ _ _ v8 (fl _ _ _ (vp_in_nI (by omega) (by decide)) ⟨h, h1⟩))
    · rw [if_neg c1]
      have hm1 : 1 ≤ i % 8 := by
        rcases Nat.eq_zero_or_pos (i % 8) with z | z
        · exact absurd (by rw [z]; decide) c1
        · exact z
      have vm : vp_in (nI i - 1) 16 := by
        have e : nI i - 1 = nI (i - 1) := by
          have : nI i - nI 1 = nI (i - 1) := pk_sub (by omega)
          exact this
        rw [e]
        exact vp_in_nI (by omega) (by decide)
      by_cases c2 : 7 ≤ nI (i % 8)
      · rw [if_pos c2]
        exact go _ (fl _ _ _ v8 (fl _ _ _ vm ⟨h, h1⟩))
      · rw [if_neg c2]
        have hm : i % 8 < 7 := by
          rcases Nat.lt_or_ge (i % 8) 7 with z | z
          · exact z
          · exact absurd (nI_le z (by omega)) c2
        exact go _ (fl _ _ _ v8 (fl _ _ _ (vp_in_nI (by omega) (by decide)) (fl _ _ _ vm ⟨h, h1⟩)))
theorem flowAll_s {N T : Int} (hN : N ≤ 20000000) (hT : T ≤ N) : ∀ (k i : Nat) (τ : Sg), i + k = 16 → WB N τ → Sm (rI 10 τ) 16 = T → (∀ j, j < i → rI 6 τ j = 0 ∧ rI 7 τ j = 0) → WB N (f_X5_letWaterFlow_L2 k i τ) ∧ Sm (rI 10 (f_X5_letWaterFlow_L2 k i τ)) 16 = T := by
  intro k
  induction k with
  | zero =>
    intro i τ hi h h1 h0
    rw [f_X5_letWaterFlow_L2]
    have z6 : Sm (rI 6 τ) 16 = 0 := (Sm_congr (g := fun _ => 0) (fun j hj => (h0 j (by omega)).1)).trans (by decide)
    have z7 : Sm (rI 7 τ) 16 = 0 := (Sm_congr (g := fun _ => 0) (fun j hj => (h0 j (by omega)).2)).trans (by decide)
    refine flows_s hN hT 16 0 τ rfl ⟨fun j hj => ⟨h.1 j hj, ?_⟩, by rw [z6]; have := h.2.1; omega, by rw [z7]; have := h.2.2; omega⟩ (by rw [z6]; omega)
    have := h0 j (by omega)
    exact ⟨by omega, by omega, fun _ => this.2⟩
  | succ k ih =>
    intro i τ hi h h1 h0
    rw [f_X5_letWaterFlow_L2]
    have hc : (nI i).toNatClampNeg = i := nI_clamp (by omega)
    generalize hρ : si (si (si τ 5 (nI i) (f_X2_height τ (nI i))) 6 (nI i) 0) 7 (nI i) 0 = ρ
    have q10 : ρ.1 10 = τ.1 10 := by rw [← hρ, si_ne (by decide), si_ne (by decide), si_ne (by decide)]
    have q11 : ρ.1 11 = τ.1 11 := by rw [← hρ, si_ne (by decide), si_ne (by decide), si_ne (by decide)]
    have q6 : rI 6 ρ = fun j => if j = i then 0 else rI 6 τ j := by rw [← hρ, rI_ne (by decide), rI_si, hc, i_0, rI_ne (by decide)]
    have q7 : rI 7 ρ = fun j => if j = i then 0 else rI 7 τ j := by rw [← hρ, rI_si, hc, i_0, rI_ne (by decide), rI_ne (by decide)]
    refine ih (i + 1) ρ (by omega) (h.same q10 q11) ?_ (fun j hj => ?_)
    · rw [← h1]
      exact Sm_congr (fun j _ => by unfold rI; rw [q10])
    · rw [q6, q7]
      by_cases e : j = i
      · simp only [if_pos e]
        exact ⟨trivial, trivial⟩
      · simp only [if_neg e]
        exact h0 j (by omega)
theorem FW_merge : ∀ (k i : Nat) (τ : Sg), FW (f_X5_letWaterFlow_L125 k i τ) τ := by
  intro k
  induction k with
  | zero => intro i τ; rw [f_X5_letWaterFlow_L125]; exact FW.rf
  | succ k ih => intro i τ; rw [f_X5_letWaterFlow_L125]; exact (ih _ _).tr ((FW_si (by omega)).tr (FW_si (by omega)))
theorem FW_flows : ∀ (k i : Nat) (τ : Sg), FW (f_X5_letWaterFlow_L44 k i τ) τ := by
  intro k
  induction k with
  | zero => intro i τ; rw [f_X5_letWaterFlow_L44]; exact FW_merge _ _ _
  | succ k ih =>
    intro i τ
    rw [f_X5_letWaterFlow_L44]
    split
    · split
      · exact (ih _ _).tr FW_flow
      · exact (ih _ _).tr (FW_flow.tr FW_flow)
    · split
      · exact (ih _ _).tr (FW_flow.tr FW_flow)
      · exact (ih _ _).tr (FW_flow.tr (FW_flow.tr FW_flow))
theorem FW_flowAll : ∀ (k i : Nat) (τ : Sg), FW (f_X5_letWaterFlow_L2 k i τ) τ := by
  intro k
  induction k with
  | zero => intro i τ; rw [f_X5_letWaterFlow_L2]; exact FW_flows _ _ _
  | succ k ih => intro i τ; rw [f_X5_letWaterFlow_L2]; exact (ih _ _).tr ((FW_si (by omega)).tr ((FW_si (by omega)).tr (FW_si (by omega))))
theorem merge_l : ∀ (k i : Nat) (τ : Sg), (f_X5_letWaterFlow_L125 k i τ).2 = τ.2 := by
  intro k
  induction k with
  | zero => intro i τ; rw [f_X5_letWaterFlow_L125]
  | succ k ih => intro i τ; rw [f_X5_letWaterFlow_L125, ih]; rfl
theorem flow_l {σ : Sg} {x y z : Int32} : (f_X5_flow σ x y z).2 = σ.2 := by
  unfold f_X5_flow
  split
  · rfl
  · exact takeOut_l
theorem flows_l : ∀ (k i : Nat) (τ : Sg), (f_X5_letWaterFlow_L44 k i τ).2 = τ.2 := by
  intro k
  induction k with
  | zero => intro i τ; rw [f_X5_letWaterFlow_L44]; exact merge_l _ _ _
  | succ k ih =>
    intro i τ
    rw [f_X5_letWaterFlow_L44]
    split
    · split
      · rw [ih, flow_l]
      · rw [ih, flow_l, flow_l]
    · split
      · rw [ih, flow_l, flow_l]
      · rw [ih, flow_l, flow_l, flow_l]
theorem flowAll_l : ∀ (k i : Nat) (τ : Sg), (f_X5_letWaterFlow_L2 k i τ).2 = τ.2 := by
  intro k
  induction k with
  | zero => intro i τ; rw [f_X5_letWaterFlow_L2]; exact flows_l _ _ _
  | succ k ih => intro i τ; rw [f_X5_letWaterFlow_L2, ih]; rfl
theorem waterFlow_s {σ : Sg} {N : Int} (h : WB N σ) (hN : N ≤ 20000000) (hB : BK σ) : WB N (f_X5_letWaterFlow σ) ∧ BK (f_X5_letWaterFlow σ) := by
  unfold f_X5_letWaterFlow
  obtain ⟨a, b⟩ := flowAll_s hN h.2.1 16 0 σ rfl h rfl (fun j hj => by omega)
  refine ⟨a, ?_⟩
  obtain ⟨q, hq⟩ := hB
  refine ⟨q, ?_⟩
  rw [b, ← hq]
  unfold Acc
  rw [flowAll_l]
