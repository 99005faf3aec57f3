/-! NUMBERS: what Int32 and Int64 are, as integers; sums -/
theorem i_lo (x : Int32) : -2147483648 ≤ x.toInt := by have := x.le_toInt; omega
theorem i_hi (x : Int32) : x.toInt < 2147483648 := by have := x.toInt_lt; omega
theorem l_lo (x : Int64) : -9223372036854775808 ≤ x.toInt := by have := x.le_toInt; omega
theorem l_hi (x : Int64) : x.toInt < 9223372036854775808 := by have := x.toInt_lt; omega
theorem bm32 {n : Int} (h1 : -2147483648 ≤ n) (h2 : n < 2147483648) : n.bmod (2 ^ 32) = n := Int.bmod_eq_of_le (by show -((4294967296 : Nat) / 2 : Int) ≤ n; omega) (by show n < ((4294967296 : Nat) + 1 : Int) / 2; omega)
theorem bm64 {n : Int} (h1 : -9223372036854775808 ≤ n) (h2 : n < 9223372036854775808) : n.bmod (2 ^ 64) = n := Int.bmod_eq_of_le (by show -((18446744073709551616 : Nat) / 2 : Int) ≤ n; omega) (by show n < ((18446744073709551616 : Nat) + 1 : Int) / 2; omega)
theorem i_add {a b : Int32} (h1 : -2147483648 ≤ a.toInt + b.toInt) (h2 : a.toInt + b.toInt < 2147483648) : (a + b).toInt = a.toInt + b.toInt := by rw [Int32.toInt_add, bm32 h1 h2]
theorem i_sub {a b : Int32} (h1 : -2147483648 ≤ a.toInt - b.toInt) (h2 : a.toInt - b.toInt < 2147483648) : (a - b).toInt = a.toInt - b.toInt := by rw [Int32.toInt_sub, bm32 h1 h2]
theorem i_mul {a b : Int32} (h1 : -2147483648 ≤ a.toInt * b.toInt) (h2 : a.toInt * b.toInt < 2147483648) : (a * b).toInt = a.toInt * b.toInt := by rw [Int32.toInt_mul, bm32 h1 h2]
theorem i_neg {a : Int32} (h : -2147483648 < a.toInt) : (-a).toInt = -a.toInt := by
  have := i_hi a
  rw [Int32.toInt_neg, bm32 (by omega) (by omega)]
theorem i_0 : (0 : Int32).toInt = 0 := by decide
theorem i_4 : (4 : Int32).toInt = 4 := by decide
theorem i_le {a b : Int32} : a ≤ b ↔ a.toInt ≤ b.toInt := Int32.le_iff_toInt_le
theorem i_lt {a b : Int32} : a < b ↔ a.toInt < b.toInt := Int32.lt_iff_toInt_lt
theorem i_nle {a b : Int32} (h : ¬ a ≤ b) : b.toInt < a.toInt := by
  have : ¬ a.toInt ≤ b.toInt := fun z => h (i_le.mpr z)
  omega
theorem i_nlt {a b : Int32} (h : ¬ a < b) : b.toInt ≤ a.toInt := by
  have : ¬ a.toInt < b.toInt := fun z => h (i_lt.mpr z)
  omega
theorem i_eq {a b : Int32} : a = b ↔ a.toInt = b.toInt := ⟨fun h => by rw [h], fun h => Int32.toInt_inj.mp h⟩
theorem i_mn {a b : Int32} : (mn a b).toInt = if b.toInt < a.toInt then b.toInt else a.toInt := by
  unfold mn
  by_cases h : b < a
  · rw [if_pos h, if_pos (i_lt.mp h)]
  · rw [if_neg h, if_neg (fun z => h (i_lt.mpr z))]
theorem i_mx {a b : Int32} : (mx a b).toInt = if a.toInt < b.toInt then b.toInt else a.toInt := by
  unfold mx
  by_cases h : a < b
  · rw [if_pos h, if_pos (i_lt.mp h)]
  · rw [if_neg h, if_neg (fun z => h (i_lt.mpr z))]
/-- a fourth: toward zero -/
theorem i_div4 (a : Int32) : (0 ≤ a.toInt → (a / 4).toInt = a.toInt / 4) ∧ (a.toInt < 0 → (a / 4).toInt = -((-a.toInt) / 4)) := by
  have h1 := i_lo a
  have h2 := i_hi a
  rw [Int32.toInt_div, i_4]
  constructor
  · intro h
    rw [Int.tdiv_eq_ediv_of_nonneg h, bm32 (by omega) (by omega)]
  · intro h
    have e : a.toInt.tdiv 4 = -((-a.toInt) / 4) := by
      rw [← Int.tdiv_eq_ediv_of_nonneg (by omega), Int.neg_tdiv, Int.neg_neg]
    rw [e, bm32 (by omega) (by omega)]
theorem i_div {a b : Int32} (h1 : 0 ≤ a.toInt) (h2 : 0 < b.toInt) : (a / b).toInt = a.toInt / b.toInt ∧ 0 ≤ a.toInt / b.toInt ∧ a.toInt / b.toInt ≤ a.toInt := by
  have h3 : 0 ≤ a.toInt / b.toInt := Int.ediv_nonneg h1 (by omega)
  have h4 : a.toInt / b.toInt ≤ a.toInt := Int.ediv_le_self _ h1
  have h5 := i_hi a
  refine ⟨?_, h3, h4⟩
  rw [Int32.toInt_div, Int.tdiv_eq_ediv_of_nonneg h1, bm32 (by omega) (by omega)]
theorem l_of (x : Int32) : x.toInt64.toInt = x.toInt := Int32.toInt_toInt64 x
theorem bm_q (n : Int) : ∃ q : Int, n.bmod (2 ^ 64) = n + q * 18446744073709551616 := by
  have h := Int.bmod_add_bdiv n (2 ^ 64)
  have e : (((2 : Nat) ^ 64 : Nat) : Int) = 18446744073709551616 := by decide
  rw [e] at h
  exact ⟨-(Int.bdiv n (2 ^ 64)), by omega⟩
/-- sums of longs, but for whole turns -/
theorem l_add (a b : Int64) : ∃ q : Int, (a + b).toInt = a.toInt + b.toInt + q * 18446744073709551616 := by
  rw [Int64.toInt_add]
  exact bm_q _
theorem l_sub (a b : Int64) : ∃ q : Int, (a - b).toInt = a.toInt - b.toInt + q * 18446744073709551616 := by
  rw [Int64.toInt_sub]
  exact bm_q _
theorem l_cong {a b : Int64} (h : ∃ q : Int, a.toInt = b.toInt + q * 18446744073709551616) : a = b := by
  obtain ⟨q, h⟩ := h
  have h1 := l_lo a
  have h2 := l_hi a
  have h3 := l_lo b
  have h4 := l_hi b
  exact Int64.toInt_inj.mp (by omega)
/-- the salt that goes with what is taken out -/
theorem tk {s y w : Int32} (hs : 0 ≤ s.toInt) (hy : 0 ≤ y.toInt) (hyw : y.toInt ≤ w.toInt) (hw : 1 ≤ w.toInt) : 0 ≤ ((s.toInt64 * y.toInt64) / w.toInt64).toInt32.toInt ∧ ((s.toInt64 * y.toInt64) / w.toInt64).toInt32.toInt ≤ s.toInt ∧ (y.toInt = w.toInt → ((s.toInt64 * y.toInt64) / w.toInt64).toInt32.toInt = s.toInt) := by
  have hs1 := i_hi s
  have hy1 := i_hi y
  have hw1 := i_hi w
  have p0 : 0 ≤ s.toInt * y.toInt := Int.mul_nonneg hs hy
  have p1 : s.toInt * y.toInt ≤ s.toInt * w.toInt := Int.mul_le_mul_of_nonneg_left hyw hs
  have p2 : s.toInt * w.toInt ≤ 2147483648 * 2147483648 := Int.mul_le_mul (by omega) (by omega) (by omega) (by omega)
  have e1 : (s.toInt64 * y.toInt64).toInt = s.toInt * y.toInt := by
    rw [Int64.toInt_mul, l_of, l_of, bm64 (by omega) (by omega)]
  have d0 : 0 ≤ s.toInt * y.toInt / w.toInt := Int.ediv_nonneg p0 (by omega)
  have d1 : s.toInt * y.toInt / w.toInt ≤ s.toInt := by
    have h := Int.ediv_le_ediv (a := s.toInt * y.toInt) (b := s.toInt * w.toInt) (c := w.toInt) (by omega) p1
    rw [Int.mul_ediv_cancel _ (by omega)] at h
    exact h
  have e2 : ((s.toInt64 * y.toInt64) / w.toInt64).toInt = s.toInt * y.toInt / w.toInt := by
    rw [Int64.toInt_div, e1, l_of, Int.tdiv_eq_ediv_of_nonneg p0, bm64 (by omega) (by omega)]
  have e3 : ((s.toInt64 * y.toInt64) / w.toInt64).toInt32.toInt = s.toInt * y.toInt / w.toInt := by
    rw [Int64.toInt_toInt32, e2, bm32 (by omega) (by omega)]
  rw [e3]
  refine ⟨d0, d1, fun h => ?_⟩
  rw [h, Int.mul_ediv_cancel _ (by omega)]
/-- the sum of the first n -/
def Sm (f : Nat → Int) : Nat → Int
  | 0 => 0
  | n + 1 => Sm f n + f n
theorem Sm_congr {f g : Nat → Int} : ∀ {n : Nat}, (∀ k, k < n → f k = g k) → Sm f n = Sm g n := by
  intro n
  induction n with
  | zero => intro _; rfl
  | succ n ih => intro h; show Sm f n + f n = Sm g n + g n; rw [ih (fun k hk => h k (by omega)), h n (by omega)]
theorem Sm_out {f : Nat → Int} {j : Nat} {v : Int} : ∀ {n : Nat}, n ≤ j → Sm (fun k => if k = j then v else f k) n = Sm f n := fun {n} h => Sm_congr (fun k hk => if_neg (by omega))
theorem Sm_upd {f : Nat → Int} {j : Nat} {v : Int} : ∀ {n : Nat}, j < n → Sm (fun k => if k = j then v else f k) n = Sm f n + v - f j := by
  intro n
  induction n with
  | zero => intro h; omega
  | succ n ih =>
    intro h
    show Sm (fun k => if k = j then v else f k) n + (if n = j then v else f n) = Sm f n + f n + v - f j
    by_cases hn : n = j
    · subst hn
      rw [Sm_out (Nat.le_refl _), if_pos rfl]
      omega
    · rw [ih (by omega), if_neg hn]
      omega
theorem Sm_nn {f : Nat → Int} : ∀ {n : Nat}, (∀ k, k < n → 0 ≤ f k) → 0 ≤ Sm f n := by
  intro n
  induction n with
  | zero => intro _; exact Int.le_refl 0
  | succ n ih =>
    intro h
    show 0 ≤ Sm f n + f n
    have := ih (fun k hk => h k (by omega))
    have := h n (by omega)
    omega
theorem Sm_ge {f : Nat → Int} {j : Nat} : ∀ {n : Nat}, (∀ k, k < n → 0 ≤ f k) → j < n → f j ≤ Sm f n := by
  intro n
  induction n with
  | zero => intro _ h; omega
  | succ n ih =>
    intro h hj
    show f j ≤ Sm f n + f n
    have h0 := Sm_nn (f := f) (n := n) (fun k hk => h k (by omega))
    have hn := h n (by omega)
    by_cases e : j = n
    · subst e; omega
    · have := ih (fun k hk => h k (by omega)) (by omega)
      omega
theorem Sm_le {f g : Nat → Int} : ∀ {n : Nat}, (∀ k, k < n → f k ≤ g k) → Sm f n ≤ Sm g n := by
  intro n
  induction n with
  | zero => intro _; exact Int.le_refl 0
  | succ n ih =>
    intro h
    show Sm f n + f n ≤ Sm g n + g n
    have := ih (fun k hk => h k (by omega))
    have := h n (by omega)
    omega
theorem ev_same {τ σ : Sg} (h : τ.1 30 = σ.1 30 ∧ gs τ 5 = gs σ 5 ∧ gs τ 6 = gs σ 6 ∧ gs τ 7 = gs σ 7) (v : EvOK σ) : EvOK τ := by
  obtain ⟨h30, h5, h6, h7⟩ := h
  have e5 : en τ = en σ := congrArg Int32.toNatClampNeg h5
  have e6 : ec τ = ec σ := congrArg Int32.toNatClampNeg h6
  have e7 : eg τ = eg σ := congrArg Int32.toNatClampNeg h7
  unfold EvOK
  rw [e5, e6, e7, h5, h6, h7, h30]
  exact v
theorem Kp.evs {τ σ : Sg} (h : Kp τ σ) : τ.1 30 = σ.1 30 ∧ gs τ 5 = gs σ 5 ∧ gs τ 6 = gs σ 6 ∧ gs τ 7 = gs σ 7 := ⟨h.2.2.2.1, h.2.2.2.2.2.1, h.2.2.2.2.2.2.1, h.2.2.2.2.2.2.2⟩
theorem gs_ss {σ : Sg} {i j : Nat} {v : Int32} (h : i ≠ j) : gs (ss σ j v) i = gs σ i := by
  show upd (σ.1 0) j v i = σ.1 0 i
  exact pk_un h
theorem gs_s {σ : Sg} {j : Nat} {v : Int32} : gs (ss σ j v) j = v := by
  show upd (σ.1 0) j v j = v
  exact pk_us
theorem r_ss {σ : Sg} {a j : Nat} {v : Int32} (h : a ≠ 0) : (ss σ j v).1 a = σ.1 a := if_neg h
