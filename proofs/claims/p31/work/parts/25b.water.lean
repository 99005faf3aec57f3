/-! WATER: what flows keeps to its bounds, and the books balance -/
def rI (a : Nat) (σ : Sg) (k : Nat) : Int := (σ.1 a k).toInt
theorem r_si {σ : Sg} {k : Nat} {x v : Int32} : (si σ k x v).1 k = upd (σ.1 k) x.toNatClampNeg v := if_pos rfl
theorem rI_si {σ : Sg} {a : Nat} {x v : Int32} : rI a (si σ a x v) = fun k => if k = x.toNatClampNeg then v.toInt else rI a σ k := by
  funext k
  unfold rI
  rw [r_si]
  unfold upd
  by_cases h : k = x.toNatClampNeg
  · rw [if_pos h, if_pos h]
  · rw [if_neg h, if_neg h]
theorem rI_ne {σ : Sg} {a b : Nat} {x v : Int32} (h : a ≠ b) : rI a (si σ b x v) = rI a σ := by
  funext k
  unfold rI
  rw [si_ne h]
theorem rI_sl {σ : Sg} {a b : Nat} {x : Int32} {v : Int64} : rI a (sl σ b x v) = rI a σ := rfl
theorem rI_ss {σ : Sg} {a j : Nat} {v : Int32} (h : a ≠ 0) : rI a (ss σ j v) = rI a σ := by
  funext k
  unfold rI
  rw [show (ss σ j v).1 a = σ.1 a from if_neg h]
theorem rI_x {σ : Sg} {a : Nat} {x : Int32} : rI a σ x.toNatClampNeg = (gi σ a x).toInt := rfl
theorem Sm_si {σ : Sg} {a n : Nat} {x v : Int32} (h : x.toNatClampNeg < n) : Sm (rI a (si σ a x v)) n = Sm (rI a σ) n + v.toInt - (gi σ a x).toInt := by
  rw [rI_si, Sm_upd h]
  rfl
theorem r_sl {σ : Sg} {k : Nat} {x : Int32} {v : Int64} : (sl σ k x v).2 k = vp_updL (σ.2 k) x.toNatClampNeg v := if_pos rfl
/-- no water below nothing, no salt where there is no water; water in all, salt in all -/
def WB (N : Int) (σ : Sg) : Prop := (∀ k, k < 16 → 0 ≤ rI 10 σ k ∧ 0 ≤ rI 11 σ k ∧ (rI 10 σ k = 0 → rI 11 σ k = 0)) ∧ Sm (rI 10 σ) 16 ≤ N ∧ Sm (rI 11 σ) 16 ≤ 35 * N
theorem WB.up {N M : Int} {σ : Sg} (h : WB N σ) (hm : N ≤ M) : WB M σ := ⟨h.1, Int.le_trans h.2.1 hm, by have := h.2.2; omega⟩
theorem WB.w {N : Int} {σ : Sg} (h : WB N σ) {k : Nat} (hk : k < 16) : 0 ≤ rI 10 σ k ∧ rI 10 σ k ≤ N := ⟨(h.1 k hk).1, Int.le_trans (Sm_ge (f := rI 10 σ) (fun j hj => (h.1 j hj).1) hk) h.2.1⟩
theorem WB.s {N : Int} {σ : Sg} (h : WB N σ) {k : Nat} (hk : k < 16) : 0 ≤ rI 11 σ k ∧ rI 11 σ k ≤ 35 * N := ⟨(h.1 k hk).2.1, Int.le_trans (Sm_ge (f := rI 11 σ) (fun j hj => (h.1 j hj).2.1) hk) h.2.2⟩
theorem WB.same {N : Int} {τ σ : Sg} (h : WB N σ) (h10 : τ.1 10 = σ.1 10) (h11 : τ.1 11 = σ.1 11) : WB N τ := by
  have e10 : rI 10 τ = rI 10 σ := by funext k; unfold rI; rw [h10]
  have e11 : rI 11 τ = rI 11 σ := by funext k; unfold rI; rw [h11]
  unfold WB
  rw [e10, e11]
  exact h
/-- takeOut -/
theorem takeOut_s {σ : Sg} {N : Int} {x y : Int32} (h : WB N σ) (hN : N ≤ 20000000) (hx : vp_in x 16) (hy0 : 0 ≤ y.toInt) (hyw : y.toInt ≤ (gi σ 10 x).toInt) :
    WB N (f_X2_takeOut σ x y).2 ∧ Sm (rI 10 (f_X2_takeOut σ x y).2) 16 = Sm (rI 10 σ) 16 - y.toInt ∧ Sm (rI 11 (f_X2_takeOut σ x y).2) 16 = Sm (rI 11 σ) 16 - (f_X2_takeOut σ x y).1.toInt ∧ 0 ≤ (f_X2_takeOut σ x y).1.toInt ∧ (f_X2_takeOut σ x y).1.toInt ≤ (gi σ 11 x).toInt := by
  have hj : x.toNatClampNeg < 16 := vp_lt hx
  obtain ⟨w0, w1⟩ := h.w hj
  obtain ⟨s0, s1⟩ := h.s hj
  rw [rI_x] at w0 w1 s0 s1
  unfold f_X2_takeOut
  by_cases h1 : 1 ≤ gi σ 10 x
  · rw [if_pos h1]
    have h1' : 1 ≤ (gi σ 10 x).toInt := by
      have := i_le.mp h1
      have e1 : (1 : Int32).toInt = 1 := by decide
      omega
    obtain ⟨g0, g1, g2⟩ := tk s0 hy0 hyw h1'
    generalize hG : ((gi σ 11 x).toInt64 * y.toInt64 / (gi σ 10 x).toInt64).toInt32 = G at g0 g1 g2 ⊢
    have ew : (gi σ 10 x - y).toInt = (gi σ 10 x).toInt - y.toInt := i_sub (by omega) (by omega)
    have es : (gi σ 11 x - G).toInt = (gi σ 11 x).toInt - G.toInt := i_sub (by omega) (by omega)
    have e10 : rI 10 (si (si σ 10 x (gi σ 10 x - y)) 11 x (gi σ 11 x - G)) = fun k => if k = x.toNatClampNeg then (gi σ 10 x).toInt - y.toInt else rI 10 σ k := by rw [rI_ne (by decide), rI_si, ew]
    have e11 : rI 11 (si (si σ 10 x (gi σ 10 x - y)) 11 x (gi σ 11 x - G)) = fun k => if k = x.toNatClampNeg then (gi σ 11 x).toInt - G.toInt else rI 11 σ k := by rw [rI_si, es, rI_ne (by decide)]
    have q10 : Sm (rI 10 (si (si σ 10 x (gi σ 10 x - y)) 11 x (gi σ 11 x - G))) 16 = Sm (rI 10 σ) 16 - y.toInt := by rw [e10, Sm_upd hj, rI_x]; omega
    have q11 : Sm (rI 11 (si (si σ 10 x (gi σ 10 x - y)) 11 x (gi σ 11 x - G))) 16 = Sm (rI 11 σ) 16 - G.toInt := by rw [e11, Sm_upd hj, rI_x]; omega
    refine ⟨⟨fun k hk => ?_, by rw [q10]; have := h.2.1; omega, by rw [q11]; have := h.2.2; omega⟩, q10, q11, g0, g1⟩
    rw [e10, e11]
    by_cases hkj : k = x.toNatClampNeg
    · simp only [if_pos hkj]
      exact ⟨by omega, by omega, fun z => by have := g2 (by omega); omega⟩
    · simp only [if_neg hkj]
      exact h.1 k hk
  · rw [if_neg h1]
    have h1' : (gi σ 10 x).toInt < 1 := by
      have := i_nle h1
      have e1 : (1 : Int32).toInt = 1 := by decide
      omega
    exact ⟨h, by show Sm (rI 10 σ) 16 = _; omega, by show Sm (rI 11 σ) 16 = Sm (rI 11 σ) 16 - (0 : Int32).toInt; rw [i_0]; omega, by show 0 ≤ (0 : Int32).toInt; rw [i_0]; omega, by show (0 : Int32).toInt ≤ _; rw [i_0]; omega⟩
theorem takeOut_r {σ : Sg} {x y : Int32} {a : Nat} (h1 : a ≠ 10) (h2 : a ≠ 11) : (f_X2_takeOut σ x y).2.1 a = σ.1 a := by
  unfold f_X2_takeOut
  split
  · exact (si_ne h2).trans (si_ne h1)
  · rfl
theorem takeOut_l {σ : Sg} {x y : Int32} : (f_X2_takeOut σ x y).2.2 = σ.2 := by
  unfold f_X2_takeOut
  split <;> rfl
/-- water comes in -/
theorem addW {σ : Sg} {N M : Int} {x d : Int32} (h : WB N σ) (hNM : N ≤ M) (hM : M ≤ 20000000) (hx : vp_in x 16) (hd : 0 ≤ d.toInt) (hs : Sm (rI 10 σ) 16 + d.toInt ≤ M) :
    WB M (si σ 10 x (gi σ 10 x + d)) ∧ Sm (rI 10 (si σ 10 x (gi σ 10 x + d))) 16 = Sm (rI 10 σ) 16 + d.toInt := by
  have hj : x.toNatClampNeg < 16 := vp_lt hx
  obtain ⟨w0, w1⟩ := h.w hj
  rw [rI_x] at w0 w1
  have hge := Sm_ge (f := rI 10 σ) (fun j hj => (h.1 j hj).1) hj
  rw [rI_x] at hge
  have ew : (gi σ 10 x + d).toInt = (gi σ 10 x).toInt + d.toInt := i_add (by omega) (by omega)
  have q10 : Sm (rI 10 (si σ 10 x (gi σ 10 x + d))) 16 = Sm (rI 10 σ) 16 + d.toInt := by rw [Sm_si hj, ew]; omega
  refine ⟨⟨fun k hk => ?_, by rw [q10]; exact hs, by rw [rI_ne (by decide)]; have := h.2.2; omega⟩, q10⟩
  rw [rI_ne (a := 11) (by decide), rI_si, ew]
  by_cases hkj : k = x.toNatClampNeg
  · simp only [if_pos hkj]
    have := h.1 k hk
    rw [hkj, rI_x, rI_x] at this
    rw [hkj, rI_x]
    exact ⟨by omega, this.2.1, fun z => this.2.2 (by omega)⟩
  · simp only [if_neg hkj]
    exact h.1 k hk
/-- the books -/
def Acc (σ : Sg) : Int := (σ.2 28 0).toInt + (σ.2 28 1).toInt - (σ.2 28 2).toInt + (σ.2 28 3).toInt - (σ.2 28 4).toInt - (σ.2 28 5).toInt + (σ.2 28 6).toInt - (σ.2 28 7).toInt
def BK (σ : Sg) : Prop := ∃ q : Int, Acc σ = Sm (rI 10 σ) 16 + q * 18446744073709551616
theorem BK_in {σ τ : Sg} {a : Nat} {d : Int32} (ha : a = 0 ∨ a = 1 ∨ a = 3 ∨ a = 6) (h : BK σ) (hW : Sm (rI 10 τ) 16 = Sm (rI 10 σ) 16 + d.toInt) (h28 : τ.2 28 = vp_updL (σ.2 28) a (σ.2 28 a + d.toInt64)) : BK τ := by
  obtain ⟨q, hq⟩ := h
  obtain ⟨q1, h1⟩ := l_add (σ.2 28 a) d.toInt64
  rw [l_of] at h1
  unfold Acc at hq
  rcases ha with rfl | rfl | rfl | rfl
  all_goals
    refine ⟨q + q1, ?_⟩
    unfold Acc
    rw [h28, hW]
    simp only [vp_updL]
    simp (config := { decide := true }) only [if_true, if_false]
    omega
theorem BK_out {σ τ : Sg} {a : Nat} {d : Int32} (ha : a = 2 ∨ a = 4 ∨ a = 5 ∨ a = 7) (h : BK σ) (hW : Sm (rI 10 τ) 16 = Sm (rI 10 σ) 16 - d.toInt) (h28 : τ.2 28 = vp_updL (σ.2 28) a (σ.2 28 a + d.toInt64)) : BK τ := by
  obtain ⟨q, hq⟩ := h
  obtain ⟨q1, h1⟩ := l_add (σ.2 28 a) d.toInt64
  rw [l_of] at h1
  unfold Acc at hq
  rcases ha with rfl | rfl | rfl | rfl
  all_goals
    refine ⟨q - q1, ?_⟩
    unfold Acc
    rw [h28, hW]
    simp only [vp_updL]
    simp (config := { decide := true }) only [if_true, if_false]
    omega
theorem BK_8 {σ τ : Sg} {v : Int64} (h : BK σ) (hW : Sm (rI 10 τ) 16 = Sm (rI 10 σ) 16) (h28 : τ.2 28 = vp_updL (σ.2 28) 8 v) : BK τ := by
  obtain ⟨q, hq⟩ := h
  unfold Acc at hq
  refine ⟨q, ?_⟩
  unfold Acc
  rw [h28, hW]
  simp only [vp_updL]
  simp (config := { decide := true }) only [if_true, if_false]
  omega
theorem BK.same {σ τ : Sg} (h : BK σ) (h10 : τ.1 10 = σ.1 10) (h28 : τ.2 28 = σ.2 28) : BK τ := by
  have e10 : rI 10 τ = rI 10 σ := by funext k; unfold rI; rw [h10]
  unfold BK Acc
  rw [e10, h28]
  exact h
/-- what the water's ways leave as it is -/
def FW (τ σ : Sg) : Prop := (∀ a, a ≠ 0 → a ≠ 5 → a ≠ 6 → a ≠ 7 → a ≠ 10 → a ≠ 11 → a ≠ 30 → τ.1 a = σ.1 a) ∧ (∀ j, j ≠ 5 → j ≠ 6 → j ≠ 7 → τ.1 0 j = σ.1 0 j) ∧ (∀ b, b ≠ 28 → τ.2 b = σ.2 b) ∧ τ.2 28 2 = σ.2 28 2
theorem FW.rf {σ : Sg} : FW σ σ := ⟨fun _ _ _ _ _ _ _ _ => rfl, fun _ _ _ _ => rfl, fun _ _ => rfl, rfl⟩
theorem FW.tr {ρ τ σ : Sg} (h : FW ρ τ) (k : FW τ σ) : FW ρ σ := ⟨fun a h0 h5 h6 h7 h10 h11 h30 => (h.1 a h0 h5 h6 h7 h10 h11 h30).trans (k.1 a h0 h5 h6 h7 h10 h11 h30), fun j h5 h6 h7 => (h.2.1 j h5 h6 h7).trans (k.2.1 j h5 h6 h7), fun b hb => (h.2.2.1 b hb).trans (k.2.2.1 b hb), h.2.2.2.trans k.2.2.2⟩
theorem FW_si {σ : Sg} {k : Nat} {x v : Int32} (hk : k = 5 ∨ k = 6 ∨ k = 7 ∨ k = 10 ∨ k = 11) : FW (si σ k x v) σ := by
  refine ⟨fun a h0 h5 h6 h7 h10 h11 h30 => si_ne (by omega), fun j _ _ _ => ?_, fun _ _ => rfl, rfl⟩
  rw [si_ne (by omega)]
theorem FW_sl {σ : Sg} {x : Int32} {v : Int64} (hx : 2 ≠ x.toNatClampNeg) : FW (sl σ 28 x v) σ := ⟨fun _ _ _ _ _ _ _ _ => rfl, fun _ _ _ _ => rfl, fun b hb => if_neg hb, by rw [r_sl]; exact if_neg hx⟩
theorem FW_take {σ : Sg} {x y : Int32} : FW (f_X2_takeOut σ x y).2 σ := ⟨fun a _ _ _ _ h10 h11 _ => takeOut_r h10 h11, fun j _ _ _ => by rw [takeOut_r (by decide) (by decide)], fun b _ => by rw [takeOut_l], by rw [takeOut_l]⟩
theorem note_r {σ : Sg} {c : Int32} {a : Nat} (h0 : a ≠ 0) (h30 : a ≠ 30) : (f_X5_note σ c).1 a = σ.1 a := by
  unfold f_X5_note
  rw [show (ss (ss (ss (si σ 30 (gs σ 5) c) 5 (gs σ 5 + 1)) 6 (nI (capf (en σ + 1) (ec σ)))) 7 (if en σ + 1 ≤ ec σ then gs σ 7 else gs σ 7 + 1)).1 a = (si σ 30 (gs σ 5) c).1 a from (if_neg h0).trans ((if_neg h0).trans (if_neg h0))]
  exact si_ne h30
theorem note_0 {σ : Sg} {c : Int32} {j : Nat} (h5 : j ≠ 5) (h6 : j ≠ 6) (h7 : j ≠ 7) : (f_X5_note σ c).1 0 j = σ.1 0 j := by
  unfold f_X5_note
  show gs (ss (ss (ss (si σ 30 (gs σ 5) c) 5 (gs σ 5 + 1)) 6 (nI (capf (en σ + 1) (ec σ)))) 7 (if en σ + 1 ≤ ec σ then gs σ 7 else gs σ 7 + 1)) j = _
  have e : ∀ (ρ : Sg) (i : Nat) (v : Int32), j ≠ i → gs (ss ρ i v) j = gs ρ j := fun ρ i v h => pk_un h
  rw [e _ 7 _ h7, e _ 6 _ h6, e _ 5 _ h5]
  exact congrFun (si_ne (by decide)) j
theorem note_l {σ : Sg} {c : Int32} : (f_X5_note σ c).2 = σ.2 := rfl
theorem FW_note {σ : Sg} {c : Int32} : FW (f_X5_note σ c) σ := ⟨fun a h0 _ _ _ _ _ h30 => note_r h0 h30, fun j h5 h6 h7 => note_0 h5 h6 h7, fun _ _ => rfl, rfl⟩
/-- the land in its ranges -/
def LR (σ : Sg) : Prop := (∀ k, k < 16 → -100 ≤ rI 8 σ k ∧ rI 8 σ k ≤ 100 ∧ 1 ≤ rI 9 σ k ∧ rI 9 σ k ≤ 50) ∧ (∀ k, k < 8 → 0 ≤ rI 15 σ k ∧ rI 15 σ k ≤ 99 ∧ -100 ≤ rI 16 σ k ∧ rI 16 σ k ≤ 100 ∧ 0 ≤ rI 17 σ k ∧ rI 17 σ k ≤ 9) ∧ (0 ≤ (gs σ 2).toInt ∧ (gs σ 2).toInt ≤ 999) ∧ 0 ≤ (gs σ 3).toInt ∧ (gs σ 3).toInt ≤ 9
theorem LR.same {τ σ : Sg} (h : LR σ) (hr : ∀ a, a = 8 ∨ a = 9 ∨ a = 15 ∨ a = 16 ∨ a = 17 → τ.1 a = σ.1 a) (h2 : gs τ 2 = gs σ 2) (h3 : gs τ 3 = gs σ 3) : LR τ := by
  have e : ∀ a, a = 8 ∨ a = 9 ∨ a = 15 ∨ a = 16 ∨ a = 17 → rI a τ = rI a σ := fun a ha => by funext k; unfold rI; rw [hr a ha]
  unfold LR
  rw [e 8 (by omega), e 9 (by omega), e 15 (by omega), e 16 (by omega), e 17 (by omega), h2, h3]
  exact h
theorem LR.fw {τ σ : Sg} (h : LR σ) (f : FW τ σ) : LR τ := h.same (fun a ha => f.1 a (by omega) (by omega) (by omega) (by omega) (by omega) (by omega) (by omega)) (f.2.1 2 (by decide) (by decide) (by decide)) (f.2.1 3 (by decide) (by decide) (by decide))
theorem height_b {σ : Sg} {N : Int} {x : Int32} (hL : LR σ) (h : WB N σ) (hN : N ≤ 20000000) (hx : vp_in x 16) : -100 ≤ (f_X2_height σ x).toInt ∧ (f_X2_height σ x).toInt ≤ 100 + N := by
  have hj : x.toNatClampNeg < 16 := vp_lt hx
  obtain ⟨b1, b2, b3, b4⟩ := hL.1 _ hj
  obtain ⟨w0, w1⟩ := h.w hj
  rw [rI_x] at b1 b2 b3 b4 w0 w1
  unfold f_X2_height
  split
  · obtain ⟨d1, d2, d3⟩ := i_div w0 (by omega : 0 < (gi σ 9 x).toInt)
    rw [i_add (by omega) (by omega), d1]
    omega
  · omega
theorem mul9 {a b U L : Int} (hb0 : 0 ≤ b) (hb9 : b ≤ 9) (hL : 0 ≤ L) (hU : 0 ≤ U) (h1 : -L ≤ a) (h2 : a ≤ U) : -(9 * L) ≤ a * b ∧ a * b ≤ 9 * U := by
  have hb : b = 0 ∨ b = 1 ∨ b = 2 ∨ b = 3 ∨ b = 4 ∨ b = 5 ∨ b = 6 ∨ b = 7 ∨ b = 8 ∨ b = 9 := by omega
  rcases hb with rfl | rfl | rfl | rfl | rfl | rfl | rfl | rfl | rfl | rfl <;> constructor <;> omega
/-! the rain -/
theorem rain_s {N : Int} (hN : N + 792 ≤ 20000000) : ∀ (k i : Nat) (τ : Sg), i + k = 8 → LR τ → WB (N + 99 * i) τ → BK τ → WB (N + 792) (f_X5_letRainFall_L2 k i τ) ∧ BK (f_X5_letRainFall_L2 k i τ) := by
  intro k
  induction k with
  | zero => intro i τ hi hL h hB; rw [f_X5_letRainFall_L2]; exact ⟨h.up (by omega), hB⟩
  | succ k ih =>
    intro i τ hi hL h hB
    rw [f_X5_letRainFall_L2]
    have hx : vp_in (nI i) 16 := vp_in_nI (by omega) (by decide)
    have hr := hL.2.1 i (by omega)
    have er : (gi τ 15 (nI i)).toInt = rI 15 τ i := by unfold gi rI; rw [nI_clamp (by omega)]
    obtain ⟨h1, h2⟩ := addW (M := N + 99 * ((i + 1 : Nat) : Int)) (d := gi τ 15 (nI i)) h (by omega) (by omega) hx (by omega) (by have := h.2.1; omega)
    refine ih (i + 1) _ (by omega) (hL.fw ((FW_sl (by decide)).tr (FW_si (by omega)))) (h1.same rfl rfl) (BK_in (a := 1) (d := gi τ 15 (nI i)) (by omega) hB ?_ ?_)
    · exact h2
    · exact r_sl
theorem FW_rain : ∀ (k i : Nat) (τ : Sg), FW (f_X5_letRainFall_L2 k i τ) τ := by
  intro k
  induction k with
  | zero => intro i τ; rw [f_X5_letRainFall_L2]; exact FW.rf
  | succ k ih => intro i τ; rw [f_X5_letRainFall_L2]; exact (ih _ _).tr ((FW_sl (by decide)).tr (FW_si (by omega)))
/-! springs -/
theorem spring_s {σ : Sg} {N : Int} {x : Int32} (h : WB N σ) (hN : N ≤ 20000000) (hB : BK σ) (hx : vp_in x 16) : WB N (f_X5_letSpringRun σ x) ∧ BK (f_X5_letSpringRun σ x) := by
  have hj : x.toNatClampNeg < 16 := vp_lt hx
  obtain ⟨w0, w1⟩ := h.w hj
  rw [rI_x] at w0 w1
  unfold f_X5_letSpringRun
  generalize hK : mx 0 ((gi σ 12 x - gi σ 8 x) * gi σ 9 x) = K
  have k0 : 0 ≤ K.toInt := by
    rw [← hK, i_mx, i_0]
    split <;> omega
  have k1 := i_hi K
  have ek : (gi σ 10 x - K).toInt = (gi σ 10 x).toInt - K.toInt := i_sub (by omega) (by omega)
  generalize hO : mx 0 (gi σ 10 x - K) = O
  have o0 : 0 ≤ O.toInt ∧ O.toInt ≤ (gi σ 10 x).toInt := by
    rw [← hO, i_mx, i_0, ek]
    split <;> omega
  obtain ⟨t1, t2, -⟩ := takeOut_s h hN hx o0.1 o0.2
  refine ⟨t1.same rfl rfl, BK_out (a := 5) (d := O) (by omega) hB t2 ?_⟩
  rw [r_sl]
  show vp_updL ((f_X2_takeOut σ x O).2.2 28) 5 ((f_X2_takeOut σ x O).2.2 28 5 + O.toInt64) = _
  rw [takeOut_l]
theorem FW_spring {σ : Sg} {x : Int32} : FW (f_X5_letSpringRun σ x) σ := by
  unfold f_X5_letSpringRun
  exact (FW_sl (by decide)).tr FW_take
theorem springs_s {N : Int} (hN : N ≤ 20000000) : ∀ (k i : Nat) (τ : Sg), i + k = 8 → WB N τ → BK τ → WB N (f_X5_letSpringsRun_L2 k i τ) ∧ BK (f_X5_letSpringsRun_L2 k i τ) := by
  intro k
  induction k with
  | zero => intro i τ _ h hB; rw [f_X5_letSpringsRun_L2]; exact ⟨h, hB⟩
  | succ k ih =>
    intro i τ hi h hB
    rw [f_X5_letSpringsRun_L2]
    split
    · exact ih _ _ (by omega) h hB
    · obtain ⟨a, b⟩ := spring_s h hN hB (x := nI i) (vp_in_nI (by omega) (by decide))
      exact ih _ _ (by omega) a b
theorem FW_springs : ∀ (k i : Nat) (τ : Sg), FW (f_X5_letSpringsRun_L2 k i τ) τ := by
  intro k
  induction k with
  | zero => intro i τ; rw [f_X5_letSpringsRun_L2]; exact FW.rf
  | succ k ih =>
    intro i τ
    rw [f_X5_letSpringsRun_L2]
    split
    · exact ih _ _
    · exact (ih _ _).tr FW_spring
/-! the sea -/
theorem FW_sea {σ : Sg} {x : Int32} : FW (f_X5_meetSea σ x) σ := by
  unfold f_X5_meetSea
  split
  · exact (FW_sl (by decide)).tr FW_take
  · exact (FW_sl (by decide)).tr ((FW_si (by omega)).tr (FW_si (by omega)))
theorem sea_s {σ : Sg} {N : Int} {x : Int32} (hL : LR σ) (h : WB N σ) (hN : N + 225 ≤ 20000000) (hB : BK σ) (hx : vp_in x 16) : WB (N + 225) (f_X5_meetSea σ x) ∧ BK (f_X5_meetSea σ x) := by
  have hj : x.toNatClampNeg < 16 := vp_lt hx
  obtain ⟨w0, w1⟩ := h.w hj
  obtain ⟨s0, s1⟩ := h.s hj
  rw [rI_x] at w0 w1 s0 s1
  obtain ⟨hh1, hh2⟩ := height_b hL h (by omega) hx
  have hN0 : 0 ≤ N := by have := h.2.1; have := Sm_nn (f := rI 10 σ) (n := 16) (fun k hk => (h.1 k hk).1); omega
  have e0 : (0 - f_X2_height σ x).toInt = -(f_X2_height σ x).toInt := by
    rw [i_sub (by rw [i_0]; omega) (by rw [i_0]; omega), i_0]
    omega
  obtain ⟨m1, m2⟩ := mul9 (a := (0 - f_X2_height σ x).toInt) (b := (gs σ 3).toInt) (L := 100 + N) (U := 100) hL.2.2.2.1 hL.2.2.2.2 (by omega) (by omega) (by omega) (by omega)
  have em : ((0 - f_X2_height σ x) * gs σ 3).toInt = (0 - f_X2_height σ x).toInt * (gs σ 3).toInt := i_mul (by omega) (by omega)
  unfold f_X5_meetSea
  generalize hP : (0 - f_X2_height σ x) * gs σ 3 = P at em ⊢
  obtain ⟨d1, d2⟩ := i_div4 P
  generalize hV : P / 4 = V at d1 d2 ⊢
  have hv : -(9 * (100 + N)) ≤ V.toInt ∧ V.toInt ≤ 225 := by
    rcases Int.lt_or_le P.toInt 0 with z | z
    · have := d2 z; omega
    · have := d1 z; omega
  by_cases h0 : V ≤ 0
  · rw [if_pos h0]
    have h0' : V.toInt ≤ 0 := by have := i_le.mp h0; rw [i_0] at this; exact this
    have en : (-V).toInt = -V.toInt := i_neg (by omega)
    generalize hO : mn (-V) (gi σ 10 x) = O
    have o0 : 0 ≤ O.toInt ∧ O.toInt ≤ (gi σ 10 x).toInt := by
      rw [← hO, i_mn, en]
      split <;> omega
    obtain ⟨t1, t2, -⟩ := takeOut_s h (by omega) hx o0.1 o0.2
    refine ⟨(t1.same rfl rfl).up (by omega), BK_out (a := 7) (d := O) (by omega) hB t2 ?_⟩
    rw [r_sl]
    show vp_updL ((f_X2_takeOut σ x O).2.2 28) 7 ((f_X2_takeOut σ x O).2.2 28 7 + O.toInt64) = _
    rw [takeOut_l]
  · rw [if_neg h0]
    have h0' : 0 < V.toInt := by
      have := i_nle h0
      rw [i_0] at this
      omega
    obtain ⟨a1, a2⟩ := addW (M := N + 225) (d := V) h (by omega) (by omega) hx (by omega) (by have := h.2.1; omega)
    have e35 : (35 * V).toInt = 35 * V.toInt := by
      have e : (35 : Int32).toInt = 35 := by decide
      rw [i_mul (by rw [e]; omega) (by rw [e]; omega), e]
    have es : (gi σ 11 x + 35 * V).toInt = (gi σ 11 x).toInt + 35 * V.toInt := by rw [i_add (by rw [e35]; omega) (by rw [e35]; omega), e35]
    have eg11 : gi (si σ 10 x (gi σ 10 x + V)) 11 x = gi σ 11 x := congrFun (si_ne (by decide)) _
    have q10 : rI 10 (si (si σ 10 x (gi σ 10 x + V)) 11 x (gi σ 11 x + 35 * V)) = rI 10 (si σ 10 x (gi σ 10 x + V)) := rI_ne (by decide)
    have q11 : Sm (rI 11 (si (si σ 10 x (gi σ 10 x + V)) 11 x (gi σ 11 x + 35 * V))) 16 = Sm (rI 11 σ) 16 + 35 * V.toInt := by
      rw [Sm_si hj, eg11, es, rI_ne (by decide)]
      omega
    refine ⟨?_, BK_in (a := 6) (d := V) (by omega) hB ?_ r_sl⟩
    · have hb : WB (N + 225) (si (si σ 10 x (gi σ 10 x + V)) 11 x (gi σ 11 x + 35 * V)) := by
        have q11f : rI 11 (si (si σ 10 x (gi σ 10 x + V)) 11 x (gi σ 11 x + 35 * V)) = fun k => if k = x.toNatClampNeg then (gi σ 11 x).toInt + 35 * V.toInt else rI 11 σ k := by
          rw [rI_si, es, rI_ne (by decide)]
        refine ⟨fun k hk => ?_, by rw [q10]; exact a1.2.1, by rw [q11]; have := h.2.2; omega⟩
        rw [q10, q11f]
        by_cases hkj : k = x.toNatClampNeg
        · simp only [if_pos hkj]
          refine ⟨(a1.1 k hk).1, by omega, fun z => ?_⟩
          exfalso
          rw [rI_si] at z
          simp only [if_pos hkj] at z
          rw [i_add (by omega) (by omega)] at z
          omega
        · simp only [if_neg hkj]
          have := a1.1 k hk
          rw [rI_ne (a := 11) (by decide)] at this
          exact this
      exact hb.same rfl rfl
    · show Sm (rI 10 (si (si σ 10 x (gi σ 10 x + V)) 11 x (gi σ 11 x + 35 * V))) 16 = _
      rw [q10]
      exact a2
