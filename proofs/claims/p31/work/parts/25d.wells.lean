/-! WELLS: their order, their rights, their years -/
def oN (σ : Sg) (p : Nat) : Nat := (σ.1 27 p).toNatClampNeg
theorem vp_nI {x : Int32} {n : Nat} (h : vp_in x n) : x = nI x.toNatClampNeg := by
  have h0 : ¬ x < 0 := fun z => h (Or.inl z)
  apply Int32.toInt_inj.mp
  have e : 0 ≤ x.toInt := by
    have := i_nlt h0
    rw [i_0] at this
    omega
  have e2 : x.toNatClampNeg = x.toInt.toNat := rfl
  have hx := i_hi x
  rw [nI_toInt (by omega), e2]
  omega
/-- the oldest first: each number once, by year, then by number -/
def OW (σ : Sg) : Prop := (∀ p, p < cnt σ → oN σ p < cnt σ) ∧ (∀ p q, p < cnt σ → q < cnt σ → oN σ p = oN σ q → p = q) ∧ ∀ p, p + 1 < cnt σ → rI 19 σ (oN σ p) < rI 19 σ (oN σ (p + 1)) ∨ (rI 19 σ (oN σ p) = rI 19 σ (oN σ (p + 1)) ∧ oN σ p < oN σ (p + 1))
theorem OW.same {τ σ : Sg} (h : OW σ) (h27 : τ.1 27 = σ.1 27) (h19 : τ.1 19 = σ.1 19) (h4 : gs τ 4 = gs σ 4) : OW τ := by
  have e1 : oN τ = oN σ := by funext p; unfold oN; rw [h27]
  have e2 : rI 19 τ = rI 19 σ := by funext p; unfold rI; rw [h19]
  have e3 : cnt τ = cnt σ := by unfold cnt; rw [h4]
  unfold OW
  rw [e1, e2, e3]
  exact h
/-- rights, years, what was pumped -/
def AW (K G : Int) (σ : Sg) : Prop := ∀ w, w < 6 → (0 ≤ rI 20 σ w ∧ rI 20 σ w ≤ 999) ∧ (0 ≤ rI 21 σ w ∧ rI 21 σ w ≤ 99) ∧ (0 ≤ rI 22 σ w ∧ rI 22 σ w ≤ (σ.2 23 w).toInt ∧ (σ.2 23 w).toInt ≤ K) ∧ (0 ≤ rI 26 σ w ∧ rI 26 σ w ≤ G) ∧ rI 22 σ w ≤ rI 20 σ w + rI 26 σ w ∧ (σ.1 24 w = 0 ∨ σ.1 24 w = 1)
/-- numbers that no well has; the oldest is not shut -/
def SH (σ : Sg) : Prop := (0 < cnt σ → σ.1 24 (oN σ 0) = 0) ∧ ∀ w, cnt σ ≤ w → w < 6 → σ.1 24 w = 0 ∧ rI 22 σ w = 0 ∧ rI 20 σ w = 0 ∧ (σ.2 23 w).toInt = 0
def lI (σ : Sg) (w : Nat) : Int := (σ.2 23 w).toInt
def PS (σ : Sg) : Prop := ∃ q : Int, Sm (lI σ) 6 = (σ.2 28 2).toInt + q * 18446744073709551616
/-- what was noted -/
def EC (σ : Sg) : Prop := ∀ j, j < en σ → σ.1 30 j = 99 ∨ σ.1 30 j = 100 ∨ σ.1 30 j = 102
theorem EC.same {τ σ : Sg} (h : EC σ) (h30 : τ.1 30 = σ.1 30) (h5 : gs τ 5 = gs σ 5) : EC τ := by
  have e : en τ = en σ := congrArg Int32.toNatClampNeg h5
  unfold EC
  rw [e, h30]
  exact h
theorem EC_note {σ : Sg} {k : Nat} (h : EC σ) (v : EvOK σ) (hb : en σ + 1 ≤ 20000) (hk : nI k = 99 ∨ nI k = 100 ∨ nI k = 102) : EC (f_X5_note σ (nI k)) := by
  obtain ⟨e5, -, -, e30⟩ := note_f (k := k) v hb
  intro j hj
  rw [e5] at hj
  rw [e30]
  unfold upd
  by_cases e : j = en σ
  · rw [if_pos e]; exact hk
  · rw [if_neg e]; exact h j (by omega)
theorem vp_updL_Sm {f : Nat → Int64} {j n : Nat} {v : Int64} (h : j < n) : Sm (fun w => (vp_updL f j v w).toInt) n = Sm (fun w => (f w).toInt) n + v.toInt - (f j).toInt := by
  have e : (fun w => (vp_updL f j v w).toInt) = fun w => if w = j then v.toInt else (f w).toInt := by
    funext w
    unfold vp_updL
    by_cases h : w = j
    · rw [if_pos h, if_pos h]
    · rw [if_neg h, if_neg h]
  rw [e, Sm_upd h]
/-! who is shut -/
theorem shut_s {σ : Sg} {j : Nat} (hW : WF σ) (hO : OW σ) : ∀ (k i : Nat) (τ : Sg) (z : Int32), 1 ≤ i → i + k = cnt σ → τ.1 27 = σ.1 27 → (∀ a, a ≠ 24 → (f_X4_shutYounger_L16 j k i τ z).1 a = τ.1 a) ∧ (f_X4_shutYounger_L16 j k i τ z).2 = τ.2 ∧ (∀ w, (τ.1 24 w = 0 ∨ τ.1 24 w = 1) → ((f_X4_shutYounger_L16 j k i τ z).1 24 w = 0 ∨ (f_X4_shutYounger_L16 j k i τ z).1 24 w = 1)) ∧ ∀ w, (w = oN σ 0 ∨ cnt σ ≤ w) → (f_X4_shutYounger_L16 j k i τ z).1 24 w = τ.1 24 w := by
  intro k
  induction k with
  | zero => intro i τ z _ _ _; rw [f_X4_shutYounger_L16]; exact ⟨fun _ _ => rfl, rfl, fun _ h => h, fun _ _ => rfl⟩
  | succ k ih =>
    intro i τ z hi1 hi h27
    rw [f_X4_shutYounger_L16]
    split
    · split
      · exact ih _ _ _ (by omega) (by omega) h27
      · have hin : vp_in (σ.1 27 i) 6 := hW.2.2 i (by have := hW.le; omega)
        have e : gi τ 27 (nI i) = σ.1 27 i := by unfold gi; rw [h27, nI_clamp (by have := hW.le; omega)]
        rw [e]
        obtain ⟨a, b, c0, d⟩ := ih (i + 1) (si τ 24 (σ.1 27 i) 1) z (by omega) (by omega) ((si_ne (by decide)).trans h27)
        refine ⟨fun x hx => (a x hx).trans (si_ne hx), b, fun w hw => c0 w ?_, fun w hw => (d w hw).trans ?_⟩
        · rw [r_si]
          unfold upd
          by_cases e2 : w = (σ.1 27 i).toNatClampNeg
          · rw [if_pos e2]; exact Or.inr rfl
          · rw [if_neg e2]; exact hw
        · rw [r_si]
          unfold upd
          rw [if_neg]
          intro e2
          have h1 : oN σ i < cnt σ := hO.1 i (by omega)
          have e3 : w = oN σ i := e2
          rcases hw with hw | hw
          · have := hO.2.1 i 0 (by omega) (by omega) (e3.symm.trans hw)
            omega
          · omega
    · exact ih _ _ _ (by omega) (by omega) h27
/-- what pumping leaves as it is -/
def FP (τ σ : Sg) : Prop := (∀ a, a ≠ 0 → a ≠ 10 → a ≠ 11 → a ≠ 22 → a ≠ 24 → a ≠ 30 → τ.1 a = σ.1 a) ∧ (∀ j, j ≠ 5 → j ≠ 6 → j ≠ 7 → τ.1 0 j = σ.1 0 j)
theorem FP.rf {σ : Sg} : FP σ σ := ⟨fun _ _ _ _ _ _ _ => rfl, fun _ _ _ _ => rfl⟩
theorem FP.tr {ρ τ σ : Sg} (h : FP ρ τ) (k : FP τ σ) : FP ρ σ := ⟨fun a h0 h1 h2 h3 h4 h5 => (h.1 a h0 h1 h2 h3 h4 h5).trans (k.1 a h0 h1 h2 h3 h4 h5), fun j h5 h6 h7 => (h.2 j h5 h6 h7).trans (k.2 j h5 h6 h7)⟩
/-- all that holds while months pass -/
def PI (N K G : Int) (σ : Sg) : Prop := WF σ ∧ EvOK σ ∧ EC σ ∧ LR σ ∧ WB N σ ∧ BK σ ∧ OW σ ∧ AW K G σ ∧ SH σ ∧ PS σ
theorem wanted_s {σ : Sg} {w : Int32} {K G : Int} (hA : AW K G σ) (hK : K ≤ 1000000) (hw : vp_in w 6) : 0 ≤ (f_X4_wanted σ w).toInt ∧ (f_X4_wanted σ w).toInt ≤ 99 ∧ (0 < (f_X4_wanted σ w).toInt → (f_X4_wanted σ w).toInt + (gi σ 22 w).toInt ≤ (gi σ 20 w).toInt) := by
  have hj : w.toNatClampNeg < 6 := vp_lt hw
  obtain ⟨⟨a1, a2⟩, ⟨b1, b2⟩, ⟨c1, c2, c3⟩, -⟩ := hA _ hj
  rw [rI_x] at a1 a2 b1 b2 c1 c2
  have es : (gi σ 20 w - gi σ 22 w).toInt = (gi σ 20 w).toInt - (gi σ 22 w).toInt := i_sub (by omega) (by omega)
  unfold f_X4_wanted
  have em : (mn (gi σ 21 w) (gi σ 20 w - gi σ 22 w)).toInt ≤ 99 ∧ (mn (gi σ 21 w) (gi σ 20 w - gi σ 22 w)).toInt ≤ (gi σ 20 w).toInt - (gi σ 22 w).toInt := by
    rw [i_mn, es]
    split <;> omega
  generalize mn (gi σ 21 w) (gi σ 20 w - gi σ 22 w) = Y at em
  rw [i_mx, i_0]
  split <;> omega
set_option maxHeartbeats 1000000 in
theorem pumpWell_s {σ : Sg} {N K G : Int} {j : Nat} (h : PI N K G σ) (hN : N ≤ 20000000) (hK : K ≤ 1000000) (hG : G ≤ 2000000) (hb : en σ + 1 ≤ 20000) (hj : j < cnt σ) : PI N (K + 99) G (f_X5_pumpWell σ j) ∧ FP (f_X5_pumpWell σ j) σ := by
  obtain ⟨hW, hE, hC, hL, hWB, hB, hO, hA, hS, hP⟩ := h
  have hle := hW.le
  have hin : vp_in (gi σ 27 (nI j)) 6 := hW.o (vp_in_nI (by omega) (by decide))
  have ew : (gi σ 27 (nI j)).toNatClampNeg = oN σ j := by unfold gi oN; rw [nI_clamp (by omega)]
  have hlt : oN σ j < cnt σ := hO.1 j hj
  unfold f_X5_pumpWell
  generalize hw : gi σ 27 (nI j) = w at hin ew ⊢
  have hcx : vp_in (gi σ 18 w) 16 := hW.c hin
  generalize hx : gi σ 18 w = x at hcx ⊢
  obtain ⟨q0, q1, q2⟩ := wanted_s hA hK hin
  generalize hQ : f_X4_wanted σ w = Q at q0 q1 q2 ⊢
  have hxj : x.toNatClampNeg < 16 := vp_lt hcx
  have w0 := (hWB.w hxj).1
  rw [rI_x] at w0
  generalize hGt : mn Q (gi σ 10 x) = T
  have t0 : 0 ≤ T.toInt ∧ T.toInt ≤ Q.toInt ∧ T.toInt ≤ (gi σ 10 x).toInt := by
    rw [← hGt, i_mn]
    split <;> omega
  obtain ⟨k1, k2, -⟩ := takeOut_s hWB hN hcx t0.1 t0.2.2
  have hwj : w.toNatClampNeg < 6 := vp_lt hin
  obtain ⟨⟨a1, a2⟩, ⟨b1, b2⟩, ⟨c1, c2, c3⟩, ⟨d1, d2⟩, e1, f1⟩ := hA _ hwj
  rw [rI_x] at a1 a2 b1 b2 c1 c2 d1 d2
  have e1 : (gi σ 22 w).toInt ≤ (gi σ 20 w).toInt + (gi σ 26 w).toInt := e1
  have r22 : gi (f_X2_takeOut σ x T).2 22 w = gi σ 22 w := by unfold gi; rw [takeOut_r (by decide) (by decide)]
  have r23 : gl (f_X2_takeOut σ x T).2 23 w = gl σ 23 w := by unfold gl; rw [takeOut_l]
  have r28 : gl (f_X2_takeOut σ x T).2 28 2 = gl σ 28 2 := by unfold gl; rw [takeOut_l]
  rw [r22, r23, r28]
  have eg23 : (gl σ 23 w).toInt = (σ.2 23 w.toNatClampNeg).toInt := rfl
  have e22 : (gi σ 22 w + T).toInt = (gi σ 22 w).toInt + T.toInt := i_add (by omega) (by omega)
  have e23 : (gl σ 23 w + T.toInt64).toInt = (gl σ 23 w).toInt + T.toInt := by rw [Int64.toInt_add, l_of, bm64 (by omega) (by omega)]
  generalize hρ : sl (sl (si (f_X2_takeOut σ x T).2 22 w (gi σ 22 w + T)) 23 w (gl σ 23 w + T.toInt64)) 28 2 (gl σ 28 2 + T.toInt64) = ρ
  have m1 : ∀ a, a ≠ 10 → a ≠ 11 → a ≠ 22 → ρ.1 a = σ.1 a := fun a h1 h2 h3 => by rw [← hρ]; exact (si_ne h3).trans (takeOut_r h1 h2)
  have m22 : rI 22 ρ = fun k => if k = w.toNatClampNeg then (gi σ 22 w).toInt + T.toInt else rI 22 σ k := by
    rw [← hρ]
    show rI 22 (si (f_X2_takeOut σ x T).2 22 w (gi σ 22 w + T)) = _
    rw [rI_si, e22]
    funext k
    by_cases e : k = w.toNatClampNeg
    · rw [if_pos e, if_pos e]
    · rw [if_neg e, if_neg e]
      unfold rI
      rw [takeOut_r (by decide) (by decide)]
  have m23 : ρ.2 23 = vp_updL (σ.2 23) w.toNatClampNeg (gl σ 23 w + T.toInt64) := by
    rw [← hρ]
    show (sl (si (f_X2_takeOut σ x T).2 22 w (gi σ 22 w + T)) 23 w (gl σ 23 w + T.toInt64)).2 23 = _
    rw [r_sl]
    show vp_updL ((f_X2_takeOut σ x T).2.2 23) _ _ = _
    rw [takeOut_l]
  have m28 : ρ.2 28 = vp_updL (σ.2 28) 2 (gl σ 28 2 + T.toInt64) := by
    rw [← hρ, r_sl]
    show vp_updL ((f_X2_takeOut σ x T).2.2 28) _ _ = _
    rw [takeOut_l]
    rfl
  have m10 : ρ.1 10 = (f_X2_takeOut σ x T).2.1 10 := by rw [← hρ]; show (si (f_X2_takeOut σ x T).2 22 w (gi σ 22 w + T)).1 10 = _; exact si_ne (by decide)
  have m11 : ρ.1 11 = (f_X2_takeOut σ x T).2.1 11 := by rw [← hρ]; show (si (f_X2_takeOut σ x T).2 22 w (gi σ 22 w + T)).1 11 = _; exact si_ne (by decide)
  have m0 : ∀ i, gs ρ i = gs σ i := fun i => by unfold gs; rw [m1 0 (by decide) (by decide) (by decide)]
  have mr : ∀ a, a ≠ 10 → a ≠ 11 → a ≠ 22 → rI a ρ = rI a σ := fun a h1 h2 h3 => by funext k; unfold rI; rw [m1 a h1 h2 h3]
  have mo : oN ρ = oN σ := by funext p; unfold oN; rw [m1 27 (by decide) (by decide) (by decide)]
  have mc : cnt ρ = cnt σ := by unfold cnt; rw [m0]
  have nW : WF ρ := by
    refine ⟨⟨by rw [m0, mc]; exact hW.1.1, by rw [mc]; exact hle⟩, fun v hv => ?_, fun v hv => ?_⟩
    · rw [m1 18 (by decide) (by decide) (by decide)]; exact hW.2.1 v hv
    · rw [m1 27 (by decide) (by decide) (by decide)]; exact hW.2.2 v hv
  have nE : EvOK ρ := ev_same ⟨m1 30 (by decide) (by decide) (by decide), m0 5, m0 6, m0 7⟩ hE
  have nen : en ρ = en σ := congrArg Int32.toNatClampNeg (m0 5)
  have nC : EC ρ := hC.same (m1 30 (by decide) (by decide) (by decide)) (m0 5)
  have nL : LR ρ := hL.same (fun a ha => m1 a (by omega) (by omega) (by omega)) (m0 2) (m0 3)
  have nWB : WB N ρ := k1.same m10 m11
  have nB : BK ρ := BK_out (a := 2) (d := T) (by omega) hB (by
    rw [← k2]
    exact Sm_congr (fun k _ => by unfold rI; rw [m10])) m28
  have nO : OW ρ := hO.same (m1 27 (by decide) (by decide) (by decide)) (m1 19 (by decide) (by decide) (by decide)) (m0 4)
  have nA : AW (K + 99) G ρ := by
    intro v hv
    obtain ⟨⟨a1', a2'⟩, b', ⟨c1', c2', c3'⟩, d', e1', f1'⟩ := hA v hv
    rw [mr 20 (by decide) (by decide) (by decide), mr 21 (by decide) (by decide) (by decide), mr 26 (by decide) (by decide) (by decide), m1 24 (by decide) (by decide) (by decide), m22, m23]
    unfold vp_updL
    by_cases e : v = w.toNatClampNeg
    · simp only [if_pos e]
      subst e
      refine ⟨⟨a1', a2'⟩, b', ⟨by omega, by rw [e23]; omega, by rw [e23]; omega⟩, d', ?_, f1'⟩
      show (gi σ 22 w).toInt + T.toInt ≤ (gi σ 20 w).toInt + (gi σ 26 w).toInt
      rcases Int.lt_or_le 0 T.toInt with z | z
      · have := q2 (by omega); omega
      · omega
    · simp only [if_neg e]
      exact ⟨⟨a1', a2'⟩, b', ⟨c1', c2', by omega⟩, d', e1', f1'⟩
  have hwc : w.toNatClampNeg < cnt σ := by rw [ew]; exact hlt
  have nS : SH ρ := by
    refine ⟨fun z => ?_, fun v hv hv6 => ?_⟩
    · rw [mo, m1 24 (by decide) (by decide) (by decide)]
      exact hS.1 (by rw [← mc]; exact z)
    · rw [mc] at hv
      have hne : v ≠ w.toNatClampNeg := by omega
      obtain ⟨x1, x2, x3, x4⟩ := hS.2 v hv hv6
      rw [m1 24 (by decide) (by decide) (by decide), mr 20 (by decide) (by decide) (by decide), m22, m23]
      unfold vp_updL
      simp only [if_neg hne]
      exact ⟨x1, x2, x3, x4⟩
  have nP : PS ρ := by
    obtain ⟨q, hq⟩ := hP
    obtain ⟨z1, hz1⟩ := l_add (gl σ 28 2) T.toInt64
    rw [l_of] at hz1
    refine ⟨q - z1, ?_⟩
    have e1 : Sm (lI ρ) 6 = Sm (lI σ) 6 + T.toInt := by
      unfold lI
      rw [m23, vp_updL_Sm hwj, e23]
      show _ + ((gl σ 23 w).toInt + T.toInt) - (gl σ 23 w).toInt = _
      omega
    have e2 : (ρ.2 28 2) = gl σ 28 2 + T.toInt64 := by rw [m28]; rfl
    have e3 : (gl σ 28 2).toInt = (σ.2 28 2).toInt := rfl
    rw [e1, e2, hz1]
    omega
  have nPI : PI N (K + 99) G ρ := ⟨nW, nE, nC, nL, nWB, nB, nO, nA, nS, nP⟩
  have nF : FP ρ σ := ⟨fun a _ h10 h11 h22 _ _ => m1 a h10 h11 h22, fun i _ _ _ => m0 i⟩
  by_cases hc : Q ≤ T
  · rw [if_pos hc]; exact ⟨nPI, nF⟩
  · rw [if_neg hc]
    -- the note, and who is shut
    have v2 := EK_note (σ := ρ) (k := 99) nE (by omega) (by decide)
    generalize hτ : f_X5_note ρ (nI 99) = τ
    have hτ' : f_X5_note ρ 99 = τ := hτ
    rw [hτ']
    have t1 : ∀ a, a ≠ 0 → a ≠ 30 → τ.1 a = ρ.1 a := fun a h0 h30 => by rw [← hτ]; exact note_r h0 h30
    have t2 : ∀ i, i ≠ 5 → i ≠ 6 → i ≠ 7 → gs τ i = gs ρ i := fun i h5 h6 h7 => by rw [← hτ]; exact note_0 h5 h6 h7
    have t3 : τ.2 = ρ.2 := by rw [← hτ]; rfl
    have tE : EvOK τ := by rw [← hτ]; exact v2.1
    have tC : EC τ := by rw [← hτ]; exact EC_note nC nE (by omega) (Or.inl rfl)
    have tc : cnt τ = cnt ρ := by unfold cnt; rw [t2 4 (by decide) (by decide) (by decide)]
    have tW : WF τ := by
      refine ⟨⟨by rw [t2 4 (by decide) (by decide) (by decide), tc]; exact nW.1.1, by rw [tc]; exact nW.1.2⟩, fun v hv => ?_, fun v hv => ?_⟩
      · rw [t1 18 (by decide) (by decide)]; exact nW.2.1 v hv
      · rw [t1 27 (by decide) (by decide)]; exact nW.2.2 v hv
    have tO : OW τ := nO.same (t1 27 (by decide) (by decide)) (t1 19 (by decide) (by decide)) (t2 4 (by decide) (by decide) (by decide))
    have to : oN τ = oN ρ := by funext p; unfold oN; rw [t1 27 (by decide) (by decide)]
    have tr : ∀ a, a ≠ 0 → a ≠ 30 → rI a τ = rI a ρ := fun a h0 h30 => by funext k; unfold rI; rw [t1 a h0 h30]
    unfold f_X4_shutYounger
    obtain ⟨s1, s2, s3, s4⟩ := shut_s (j := j) tW tO (cnt τ - (j + 1)) (j + 1) τ (gi τ 18 (gi τ 27 (nI j))) (by omega) (by rw [tc, mc]; omega) rfl
    generalize hφ : f_X4_shutYounger_L16 j (cnt τ - (j + 1)) (j + 1) τ (gi τ 18 (gi τ 27 (nI j))) = φ at s1 s2 s3 s4 ⊢
    have p0 : ∀ i, gs φ i = gs τ i := fun i => by unfold gs; rw [s1 0 (by decide)]
    have pc : cnt φ = cnt τ := by unfold cnt; rw [p0]
    have po : oN φ = oN τ := by funext p; unfold oN; rw [s1 27 (by decide)]
    have pr : ∀ a, a ≠ 24 → rI a φ = rI a τ := fun a ha => by funext k; unfold rI; rw [s1 a ha]
    refine ⟨⟨?_, ?_, ?_, ?_, ?_, ?_, ?_, ?_, ?_, ?_⟩, ?_⟩
    · refine ⟨⟨by rw [p0, pc]; exact tW.1.1, by rw [pc]; exact tW.1.2⟩, fun v hv => ?_, fun v hv => ?_⟩
      · rw [s1 18 (by decide)]; exact tW.2.1 v hv
      · rw [s1 27 (by decide)]; exact tW.2.2 v hv
    · exact ev_same ⟨s1 30 (by decide), p0 5, p0 6, p0 7⟩ tE
    · exact tC.same (s1 30 (by decide)) (p0 5)
    · exact nL.same (fun a ha => (s1 a (by omega)).trans (t1 a (by omega) (by omega))) ((p0 2).trans (t2 2 (by decide) (by decide) (by decide))) ((p0 3).trans (t2 3 (by decide) (by decide) (by decide)))
    · exact nWB.same ((s1 10 (by decide)).trans (t1 10 (by decide) (by decide))) ((s1 11 (by decide)).trans (t1 11 (by decide) (by decide)))
    · exact nB.same ((s1 10 (by decide)).trans (t1 10 (by decide) (by decide))) (by rw [s2, t3])
    · exact tO.same (s1 27 (by decide)) (s1 19 (by decide)) (p0 4)
    · intro v hv
      obtain ⟨a', b', c', d', e', f'⟩ := nA v hv
      rw [pr 20 (by decide), pr 21 (by decide), pr 22 (by decide), pr 26 (by decide), s2, t3, tr 20 (by decide) (by decide), tr 21 (by decide) (by decide), tr 22 (by decide) (by decide), tr 26 (by decide) (by decide)]
      exact ⟨a', b', c', d', e', s3 v (by rw [t1 24 (by decide) (by decide)]; exact f')⟩
    · refine ⟨fun z => ?_, fun v hv hv6 => ?_⟩
      · rw [po, s4 _ (Or.inl rfl), to, t1 24 (by decide) (by decide)]
        exact nS.1 (by rw [pc, tc] at z; exact z)
      · rw [pc] at hv
        rw [s4 v (Or.inr hv), t1 24 (by decide) (by decide), pr 22 (by decide), pr 20 (by decide), s2, t3, tr 22 (by decide) (by decide), tr 20 (by decide) (by decide)]
        exact nS.2 v (by rw [← tc]; exact hv) hv6
    · obtain ⟨q, hq⟩ := nP
      refine ⟨q, ?_⟩
      unfold lI
      rw [s2, t3]
      exact hq
    · exact FP.tr (τ := τ) ⟨fun a _ _ _ _ h24 _ => s1 a h24, fun i _ _ _ => p0 i⟩ (FP.tr (τ := ρ) ⟨fun a h0 _ _ _ _ h30 => t1 a h0 h30, fun i h5 h6 h7 => t2 i h5 h6 h7⟩ nF)
theorem AW.up {K L G : Int} {σ : Sg} (h : AW K G σ) (hk : K ≤ L) : AW L G σ := fun w hw => by
  obtain ⟨a, b, ⟨c1, c2, c3⟩, d⟩ := h w hw
  exact ⟨a, b, ⟨c1, c2, by omega⟩, d⟩
theorem PI.up {N M K L G : Int} {σ : Sg} (h : PI N K G σ) (hn : N ≤ M) (hk : K ≤ L) : PI M L G σ := ⟨h.1, h.2.1, h.2.2.1, h.2.2.2.1, h.2.2.2.2.1.up hn, h.2.2.2.2.2.1, h.2.2.2.2.2.2.1, h.2.2.2.2.2.2.2.1.up hk, h.2.2.2.2.2.2.2.2⟩
theorem FP_cnt {τ σ : Sg} (h : FP τ σ) : cnt τ = cnt σ := by
  unfold cnt
  exact congrArg Int32.toNatClampNeg (h.2 4 (by decide) (by decide) (by decide))
theorem pumps_s {N G : Int} (hN : N ≤ 20000000) (hG : G ≤ 2000000) {n : Nat} : ∀ (k i : Nat) (τ : Sg) (K : Int), i + k = n → n = cnt τ → K + 99 * k ≤ 1000000 → en τ + k ≤ 20000 → PI N K G τ → PI N (K + 99 * k) G (f_X5_pumpWells_L2 k i τ) ∧ FP (f_X5_pumpWells_L2 k i τ) τ := by
  intro k
  induction k with
  | zero => intro i τ K _ _ _ _ h; rw [f_X5_pumpWells_L2]; exact ⟨h.up (Int.le_refl _) (by omega), FP.rf⟩
  | succ k ih =>
    intro i τ K hi hn hK hb h
    rw [f_X5_pumpWells_L2]
    split
    · obtain ⟨a, b⟩ := pumpWell_s (j := i) h hN (by omega) hG (by omega) (by omega)
      have he := (EK_X5_pumpWell (j := i) h.2.1 (by omega)).2.2.1
      obtain ⟨c1, c2⟩ := ih (i + 1) _ (K + 99) (by omega) (by rw [(FP_cnt b)]; exact hn) (by omega) (by omega) a
      exact ⟨c1.up (Int.le_refl _) (by omega), c2.tr b⟩
    · obtain ⟨c1, c2⟩ := ih (i + 1) τ K (by omega) hn (by omega) (by omega) h
      exact ⟨c1.up (Int.le_refl _) (by omega), c2⟩
