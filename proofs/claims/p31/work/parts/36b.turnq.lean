/-! WHAT THE CALLS OF A TURN ANSWER, as facts of the state -/
section TURNQ
variable {C M : Nat} {σ : Sg}
theorem gi_s {a : Nat} {x v : Int32} : gi (si σ a x v) a x = v := by
  unfold gi
  rw [r_si]
  exact pk_us
theorem gi_o {a b : Nat} {x y v : Int32} (h : a ≠ b) : gi (si σ b y v) a x = gi σ a x := by
  unfold gi
  rw [si_ne h]
theorem fc_w {x y z w : Int32} : gi (fo1 (-1) (0, x, y, z, w) σ) 10 x = w := by
  show gi (f_X5_fillCell σ x y z w) 10 x = w
  unfold f_X5_fillCell
  rw [gi_o (by decide)]
  exact gi_s
theorem fc_s {x y z w : Int32} : gi (fo1 (-1) (0, x, y, z, w) σ) 11 x = 0 := by
  show gi (f_X5_fillCell σ x y z w) 11 x = 0
  unfold f_X5_fillCell
  exact gi_s
theorem fc_l {x y z w : Int32} (hz : 1 ≤ z) : f_X2_height (fo1 (-1) (0, x, y, z, w) σ) x = y + w / z := by
  show f_X2_height (f_X5_fillCell σ x y z w) x = y + w / z
  have e8 : gi (f_X5_fillCell σ x y z w) 8 x = y := by
    unfold f_X5_fillCell
    rw [gi_o (by decide), gi_o (by decide), gi_o (by decide)]
    exact gi_s
  have e9 : gi (f_X5_fillCell σ x y z w) 9 x = z := by
    unfold f_X5_fillCell
    rw [gi_o (by decide), gi_o (by decide)]
    exact gi_s
  have e10 : gi (f_X5_fillCell σ x y z w) 10 x = w := fc_w (σ := σ) (x := x) (y := y) (z := z) (w := w)
  unfold f_X2_height
  rw [e8, e9, e10, if_pos hz]
theorem sg_g {x y : Int32} : gi (fo1 (-1) (1, x, y, 0, 0) σ) 12 x = y := gi_s
theorem upd_2 {f : Nat → Int32} {k : Nat} {v : Int32} : upd (upd f k v) k v = upd f k v := by
  funext j
  unfold upd
  by_cases e : j = k
  · rw [if_pos e, if_pos e]
  · rw [if_neg e]
theorem si_2 {a : Nat} {x v : Int32} : si (si σ a x v) a x v = si σ a x v := by
  unfold si
  refine Prod.ext ?_ rfl
  funext b
  show (if b = a then upd ((if b = a then upd (σ.1 b) x.toNatClampNeg v else σ.1 b)) x.toNatClampNeg v else (if b = a then upd (σ.1 b) x.toNatClampNeg v else σ.1 b)) = if b = a then upd (σ.1 b) x.toNatClampNeg v else σ.1 b
  by_cases e : b = a
  · rw [if_pos e, if_pos e]
    exact upd_2
  · rw [if_neg e]
theorem sg_2 {x y : Int32} : fo1 (-1) (1, x, y, 0, 0) (fo1 (-1) (1, x, y, 0, 0) σ) = fo1 (-1) (1, x, y, 0, 0) σ := si_2
theorem nI_m1 {j : Nat} (h : j < 1000) : ¬ nI j = -1 := fun z => by
  have h1 := congrArg Int32.toInt z
  rw [nI_toInt (by omega)] at h1
  have h2 : (-1 : Int32).toInt = -1 := by decide
  omega
theorem wi_e {j : Nat} {y : Int32} (h : j < 1000) : fo1 (-1) (9, nI j, y, 0, 0) σ = si σ 21 (nI j) y := if_neg (nI_m1 h)
theorem wi_g {j : Nat} {y : Int32} (h : j < 1000) : gi (fo1 (-1) (9, nI j, y, 0, 0) σ) 21 (nI j) = y := by rw [wi_e h]; exact gi_s
theorem wi_2 {j : Nat} {y : Int32} (h : j < 1000) : fo1 (-1) (9, nI j, y, 0, 0) (fo1 (-1) (9, nI j, y, 0, 0) σ) = fo1 (-1) (9, nI j, y, 0, 0) σ := by rw [wi_e (σ := σ) h, wi_e h]; exact si_2
theorem rg_m {k : Nat} (h : k < 200) : rgOK (nI k - 100) (-100) 100 := by
  have e1 : (nI k - 100).toInt = (k : Int) - 100 := pk_sub_toInt (a := k) (b := 100) (by omega) (by omega)
  have e2 : (-100 : Int32).toInt = -100 := by decide
  have e3 : (100 : Int32).toInt = 100 := by decide
  constructor <;> rw [i_le] <;> omega
theorem rg_1 {k m : Nat} (h : k < m) (hm : m < 1000) : rgOK (nI (1 + k)) 1 (nI m) := ⟨nI_le (a := 1) (by omega) (by omega), nI_le (by omega) (by omega)⟩
theorem rg_h {k m : Nat} (h : k ≤ m) (hm : m < 2 ^ 31) : rgOK (nI k) (-100) (nI m) := by
  have e2 : (-100 : Int32).toInt = -100 := by decide
  refine ⟨?_, nI_le h hm⟩
  rw [i_le, nI_toInt (by omega)]
  omega
/-- a transfer that is made -/
theorem tr_e {f t : Nat} {z : Int32} (hf : f < 1000) (ht : t < 1000) (hg : ¬ f_X4_canGive σ (nI f) (nI t) z = 0) : fo1 (-1) (10, nI f, nI t, z, 0) σ = f_X4_give σ (nI f) (nI t) z := by
  show f_X5_followTransfer σ (-1) (nI f) (nI t) z = _
  unfold f_X5_followTransfer
  rw [if_neg (nI_m1 hf), if_neg (nI_m1 ht), if_neg hg]
theorem tr_ab {f t kc : Nat} (h : Inv C M σ) (hC : C + 1 ≤ 1000) (hf : f < cnt σ) (ht : t < cnt σ) (hk : kc < 50) (hg : ¬ f_X4_canGive σ (nI f) (nI t) (nI (1 + kc)) = 0) : gi (fo1 (-1) (10, nI f, nI t, nI (1 + kc), 0) σ) 20 (nI f) = gi σ 20 (nI f) - 1 - nI kc ∧ gi (fo1 (-1) (10, nI f, nI t, nI (1 + kc), 0) σ) 20 (nI t) = gi σ 20 (nI t) + 1 + nI kc ∧ ¬ gi (fo1 (-1) (10, nI f, nI t, nI (1 + kc), 0) σ) 20 (nI f) = -1500000 := by
  have h6 := h.wf.le
  have zi : (nI (1 + kc)).toInt = ((1 + kc : Nat) : Int) := nI_toInt (by omega)
  have ki : (nI kc).toInt = (kc : Int) := nI_toInt (by omega)
  have oi : (1 : Int32).toInt = 1 := by decide
  obtain ⟨-, g2, g3, g4, g5⟩ := inv_give h hC (vp_in_nI (n := f) (by omega) (by decide)) (vp_in_nI (n := t) (by omega) (by decide)) (z := nI (1 + kc)) ⟨by omega, by omega⟩ (by rw [nI_clamp (by omega)]; exact ht) hg
  rw [nI_clamp (by omega), nI_clamp (by omega)] at g2
  have a1 := (h.aw f (by omega)).1
  have a2 := (h.aw t (by omega)).1
  have ef : gi σ 20 (nI f) = σ.1 20 f := gi_n (by omega)
  have et : gi σ 20 (nI t) = σ.1 20 t := gi_n (by omega)
  rw [ef] at g4
  rw [et] at g5
  have r1 : (σ.1 20 f).toInt = rI 20 σ f := rfl
  have r2 : (σ.1 20 t).toInt = rI 20 σ t := rfl
  have b1 := g3 f
  have b2 := g3 t
  rw [nI_clamp (by omega), nI_clamp (by omega), if_neg g2, if_pos rfl] at b1
  rw [nI_clamp (by omega), if_pos rfl] at b2
  rw [tr_e (by omega) (by omega) hg, ef, et]
  have e1 : gi (f_X4_give σ (nI f) (nI t) (nI (1 + kc))) 20 (nI f) = (f_X4_give σ (nI f) (nI t) (nI (1 + kc))).1 20 f := gi_n (by omega)
  have e2 : gi (f_X4_give σ (nI f) (nI t) (nI (1 + kc))) 20 (nI t) = (f_X4_give σ (nI f) (nI t) (nI (1 + kc))).1 20 t := gi_n (by omega)
  have c1 : ((f_X4_give σ (nI f) (nI t) (nI (1 + kc))).1 20 f).toInt = rI 20 (f_X4_give σ (nI f) (nI t) (nI (1 + kc))) f := rfl
  have c2 : ((f_X4_give σ (nI f) (nI t) (nI (1 + kc))).1 20 t).toInt = rI 20 (f_X4_give σ (nI f) (nI t) (nI (1 + kc))) t := rfl
  rw [e1, e2]
  have s1 : (σ.1 20 f - 1).toInt = (σ.1 20 f).toInt - 1 := by rw [i_sub (by omega) (by omega), oi]
  have s2 : (σ.1 20 f - 1 - nI kc).toInt = (σ.1 20 f).toInt - 1 - kc := by rw [i_sub (by omega) (by omega), s1, ki]
  have s3 : (σ.1 20 t + 1).toInt = (σ.1 20 t).toInt + 1 := by rw [i_add (by omega) (by omega), oi]
  have s4 : (σ.1 20 t + 1 + nI kc).toInt = (σ.1 20 t).toInt + 1 + kc := by rw [i_add (by omega) (by omega), s3, ki]
  refine ⟨i_eq.mpr (by omega), i_eq.mpr (by omega), fun z => ?_⟩
  rw [i_eq] at z
  have e5 : (-1500000 : Int32).toInt = -1500000 := by decide
  omega
theorem tr_n {f t kc : Nat} (h : Inv C M σ) (hf : f < cnt σ) (ht : t < cnt σ) (hk : kc < 50) (hg : f_X4_canGive σ (nI f) (nI t) (nI (1 + kc)) = 0) (h1 : ¬ nI f = nI t) (h2 : ¬ gi σ 20 (nI f) ≤ nI kc) : 999 < gi σ 20 (nI t) + 1 + nI kc := by
  have h6 := h.wf.le
  have zi : (nI (1 + kc)).toInt = ((1 + kc : Nat) : Int) := nI_toInt (by omega)
  have ki : (nI kc).toInt = (kc : Int) := nI_toInt (by omega)
  have e : gi σ 20 (nI t) + 1 + nI kc = gi σ 20 (nI t) + nI (1 + kc) := by rw [Int32.add_assoc, ← nI_add 1 kc]; rfl
  rw [e]
  unfold f_X4_canGive at hg
  rw [if_neg h1] at hg
  have h3 : ¬ gi σ 20 (nI f) < nI (1 + kc) := fun z => h2 (by rw [i_le, ki]; rw [i_lt, zi] at z; omega)
  rw [if_neg h3] at hg
  by_cases h4 : 999 < gi σ 20 (nI t) + nI (1 + kc)
  · exact h4
  · rw [if_neg h4] at hg
    exact absurd hg (by decide)
/-- months that pass -/
theorem ps_0 {n : Nat} (h : Inv C M σ) (hn : M + n ≤ 600) : gs (f_months n σ) 0 = nI (M + n) := (inv_months n M σ h hn).1.2.1
theorem ps_c {n : Nat} (h : Inv C M σ) (hn : M + n ≤ 600) : cnt (f_months n σ) = cnt σ := congrArg Int32.toNatClampNeg (inv_months n M σ h hn).2.1.2.2.2.1
theorem ps_1 {n : Nat} : f_months 1 (f_months n σ) = f_months (n + 1) σ := (months_add n 1 σ).symm
theorem ps_y {n : Nat} (h : Inv C M σ) (hn : M + n ≤ 600) (h0 : 0 < n) (hz : (M + n) % 12 = 0) {w : Nat} (hw : w < cnt σ) : gi (f_months n σ) 22 (nI w) = 0 ∧ gi (f_months n σ) 24 (nI w) = 0 := by
  have h6 := h.wf.le
  obtain ⟨y1, y2⟩ := (inv_months n M σ h hn).2.2.1 h0 hz w hw
  rw [gi_n (by omega), gi_n (by omega)]
  exact ⟨i_eq.mpr (by rw [i_0]; exact y1), y2⟩
/-- rights in all, as the law counts them -/
def sA (σ : Sg) : Nat → Int32
  | 0 => 0
  | k + 1 => sA σ k + gi σ 20 (nI k)
theorem sA_e (h : Inv C M σ) : ∀ n : Nat, n ≤ 6 → (sA σ n).toInt = Sm (rI 20 σ) n ∧ 0 ≤ Sm (rI 20 σ) n ∧ Sm (rI 20 σ) n ≤ 999 * n := by
  intro n
  induction n with
  | zero => intro _; exact ⟨(by decide : (0 : Int32).toInt = 0), Int.le_refl _, Int.le_refl _⟩
  | succ n ih =>
    intro hn
    obtain ⟨i1, i2, i3⟩ := ih (by omega)
    have a := (h.aw n (by omega)).1
    have eg : gi σ 20 (nI n) = σ.1 20 n := gi_n (by omega)
    have er : (σ.1 20 n).toInt = rI 20 σ n := rfl
    have es : Sm (rI 20 σ) (n + 1) = Sm (rI 20 σ) n + rI 20 σ n := rfl
    have ea : (sA σ (n + 1)).toInt = (sA σ n).toInt + (σ.1 20 n).toInt := by
      show (sA σ n + gi σ 20 (nI n)).toInt = _
      rw [eg, i_add (by omega) (by omega)]
    refine ⟨by omega, by omega, ?_⟩
    rw [es]
    have : ((n + 1 : Nat) : Int) = (n : Int) + 1 := by omega
    omega
theorem Sm_mono {f : Nat → Int} {n : Nat} : ∀ m : Nat, (∀ w, n ≤ w → w < n + m → 0 ≤ f w) → Sm f n ≤ Sm f (n + m) := by
  intro m
  induction m with
  | zero => intro _; exact Int.le_refl _
  | succ m ih =>
    intro h
    show _ ≤ Sm f (n + m) + f (n + m)
    have h1 := ih (fun w h1 h2 => h w h1 (by omega))
    have h2 := h (n + m) (by omega) (by omega)
    omega
theorem ps_s {n A : Nat} (h : Inv C M σ) (hn : M + n ≤ 600) (hA : Sm (rI 20 σ) 6 ≤ (A : Int)) (hA2 : A < 2 ^ 31) : ¬ sA σ (cnt σ) < sA (f_months n σ) (cnt σ) ∧ sA (f_months n σ) (cnt σ) ≤ nI A := by
  have h6 := h.wf.le
  obtain ⟨i1, i2, -, -⟩ := inv_months n M σ h hn
  obtain ⟨s1, s2, s3⟩ := sA_e h (cnt σ) h6
  obtain ⟨t1, t2, t3⟩ := sA_e i1 (cnt σ) h6
  have le : Sm (rI 20 (f_months n σ)) (cnt σ) ≤ Sm (rI 20 σ) (cnt σ) := Sm_le (fun w hw => by
    rcases i2.2.2.2.2 w with e | e
    · rw [e]; exact Int.le_refl _
    · rw [e]; exact (h.aw w (by omega)).1.1)
  have le2 : Sm (rI 20 σ) (cnt σ) ≤ Sm (rI 20 σ) 6 := by
    have := Sm_mono (f := rI 20 σ) (n := cnt σ) (6 - cnt σ) (fun w h1 h2 => (h.aw w (by omega)).1.1)
    rwa [show cnt σ + (6 - cnt σ) = 6 by omega] at this
  refine ⟨fun z => ?_, ?_⟩
  · rw [i_lt] at z; omega
  · rw [i_le, nI_toInt hA2]; omega
/-- the letters of the events -/
theorem ps_ch {n k : Nat} (h : Inv C M σ) (hn : M + n ≤ 600) (hk : k < en (f_months n σ)) : chr (evt 1 (f_months n σ) k) = 99 ∨ chr (evt 1 (f_months n σ) k) = 100 ∨ chr (evt 1 (f_months n σ) k) = 102 := by
  have e := (inv_months n M σ h hn).1.ect k hk
  rw [evt_1]
  rcases e with e | e | e
  · exact Or.inl (by rw [e]; decide)
  · exact Or.inr (Or.inl (by rw [e]; decide))
  · exact Or.inr (Or.inr (by rw [e]; decide))
theorem ps_n (h : Inv C M σ) : evn 1 σ = nI (en σ) := by rw [evn_1]; exact h.ev.1
end TURNQ
