/-! WHAT THE LAW ASKS OF THE BOOKS, as facts of the state -/
theorem Inv.ect {C M : Nat} {σ : Sg} (h : Inv C M σ) : EC σ := h.1.2.2.1
theorem Inv.wb {C M : Nat} {σ : Sg} (h : Inv C M σ) : WB (6000 * C + 3000 * M) σ := h.1.2.2.2.2.1
theorem Inv.bk {C M : Nat} {σ : Sg} (h : Inv C M σ) : BK σ := h.1.2.2.2.2.2.1
theorem Inv.ow {C M : Nat} {σ : Sg} (h : Inv C M σ) : OW σ := h.1.2.2.2.2.2.2.1
theorem Inv.aw {C M : Nat} {σ : Sg} (h : Inv C M σ) : AW (600 * M) (1000 * C) σ := h.1.2.2.2.2.2.2.2.1
theorem Inv.sh {C M : Nat} {σ : Sg} (h : Inv C M σ) : SH σ := h.1.2.2.2.2.2.2.2.2.1
theorem Inv.ps {C M : Nat} {σ : Sg} (h : Inv C M σ) : PS σ := h.1.2.2.2.2.2.2.2.2.2
theorem lg_self (x : Int64) : lg_cmp x x = 0 := by
  unfold lg_cmp
  first | (rw [if_neg (by simp), if_pos rfl]; done) | (simp; done)
theorem gi_n {σ : Sg} {a i : Nat} (h : i < 2 ^ 31) : gi σ a (nI i) = σ.1 a i := by unfold gi; rw [nI_clamp h]
theorem gl_n {σ : Sg} {a i : Nat} (h : i < 2 ^ 31) : gl σ a (nI i) = σ.2 a i := by unfold gl; rw [nI_clamp h]
theorem i_n0 {x : Int32} (h : 0 ≤ x.toInt) : ¬ x < 0 := fun z => by rw [i_lt, i_0] at z; omega
theorem rgN {k m : Nat} (h : k ≤ m) (hm : m < 2 ^ 31) : rgOK (nI k) 0 (nI m) := ⟨nI_ge0 (by omega), nI_le h hm⟩
theorem ixN {σ : Sg} {k : Nat} (hW : WF σ) (h : k < cnt σ) : ixOK (nI k) (gs σ 4) := by
  have := hW.le
  rw [hW.n]
  exact ⟨nI_ge0 (by omega), nI_lt h (by omega)⟩
section CLOSED
variable {C M : Nat} {σ : Sg} {i : Nat}
theorem cl_w (h : Inv C M σ) (hi : i < 16) : ¬ gi σ 10 (nI i) < 0 := by rw [gi_n (by omega)]; exact i_n0 (h.wb.1 i hi).1
theorem cl_s (h : Inv C M σ) (hi : i < 16) : ¬ gi σ 11 (nI i) < 0 := by rw [gi_n (by omega)]; exact i_n0 (h.wb.1 i hi).2.1
theorem cl_z (h : Inv C M σ) (hi : i < 16) (e : gi σ 10 (nI i) = 0) : gi σ 11 (nI i) = 0 := by
  rw [gi_n (by omega)] at e ⊢
  have h1 := (h.wb.1 i hi).2.2 (by show (σ.1 10 i).toInt = 0; rw [e]; exact i_0)
  exact i_eq.mpr (by rw [i_0]; exact h1)
theorem gi_oN (hi : i < 2 ^ 31) : (gi σ 27 (nI i)).toNatClampNeg = oN σ i := by rw [gi_n hi]; rfl
theorem cl_o6 (h : Inv C M σ) (hi : i < cnt σ) : vp_in (gi σ 27 (nI i)) 6 := by
  have := h.wf.le
  exact h.wf.o (vp_in_nI (by omega) (by decide))
theorem cl_oe (h : Inv C M σ) (hi : i < cnt σ) : gi σ 27 (nI i) = nI (oN σ i) ∧ oN σ i < cnt σ := by
  have h6 := h.wf.le
  have e := vp_nI (cl_o6 h hi)
  rw [gi_oN (by omega)] at e
  exact ⟨e, h.ow.1 i hi⟩
theorem cl_o0 (h : Inv C M σ) (hi : i < cnt σ) : ¬ gi σ 27 (nI i) < 0 := by
  have h6 := h.wf.le
  obtain ⟨e, h1⟩ := cl_oe h hi
  rw [e]; exact nI_pos (by omega)
theorem cl_on (h : Inv C M σ) (hi : i < cnt σ) : ¬ nI (cnt σ) ≤ gi σ 27 (nI i) := by
  have h6 := h.wf.le
  obtain ⟨e, h1⟩ := cl_oe h hi
  rw [e]; exact nI_ge h1 (by omega)
theorem cl_ox (h : Inv C M σ) (hi : i < cnt σ) : ixOK (gi σ 27 (nI i)) (gs σ 4) := by
  obtain ⟨e, h1⟩ := cl_oe h hi
  rw [e]; exact ixN h.wf h1
theorem cl_y0 (h : Inv C M σ) (hi : i < cnt σ) : ¬ gi σ 22 (nI i) < 0 := by
  have h6 := h.wf.le
  rw [gi_n (by omega)]; exact i_n0 (h.aw i (by omega)).2.2.1.1
theorem cl_yp (h : Inv C M σ) (hi : i < cnt σ) : ¬ 0 < lg_cmp (gi σ 22 (nI i)).toInt64 (gl σ 23 (nI i)) := by
  have h6 := h.wf.le
  have h1 := (h.aw i (by omega)).2.2.1.2.1
  have h2 : (gi σ 22 (nI i)).toInt64 ≤ gl σ 23 (nI i) := by
    rw [gi_n (by omega), gl_n (by omega), Int64.le_iff_toInt_le, l_of]
    exact h1
  exact le_nlt ((lg_cmp_le _ _).mpr h2)
theorem cl_a0 (h : Inv C M σ) (hi : i < cnt σ) : ¬ gi σ 20 (nI i) < 0 := by
  have h6 := h.wf.le
  rw [gi_n (by omega)]; exact i_n0 (h.aw i (by omega)).1.1
theorem cl_a9 (h : Inv C M σ) (hi : i < cnt σ) : ¬ 999 < gi σ 20 (nI i) := by
  have h6 := h.wf.le
  have h1 := (h.aw i (by omega)).1.2
  rw [gi_n (by omega)]
  intro z
  rw [i_lt] at z
  have e : (999 : Int32).toInt = 999 := by decide
  have h2 : (σ.1 20 i).toInt ≤ 999 := h1
  omega
theorem cl_sh (h : Inv C M σ) (hi : 0 < cnt σ) : gi σ 24 (gi σ 27 0) = 0 := by
  have h1 := h.sh.1 hi
  have e : (gi σ 27 0).toNatClampNeg = oN σ 0 := gi_oN (i := 0) (by decide)
  unfold gi at e ⊢
  rw [e]
  exact h1
theorem cl_seen (h : Inv C M σ) {p : Nat} {fs : Nat → Int32} {v : Int32} (hi : i < cnt σ) (hfs : ∀ p, i ≤ p → p < cnt σ → fs (oN σ p) = 0) (h1 : i + 1 ≤ p) (h2 : p < cnt σ) : upd fs (gi σ 27 (nI i)).toNatClampNeg v (oN σ p) = 0 := by
  have h6 := h.wf.le
  rw [gi_oN (by omega), pk_un (fun z => by have := h.ow.2.1 p i h2 hi z; omega)]
  exact hfs p (by omega) h2
end CLOSED
/-- the water in all, as the law counts it -/
def th (σ : Sg) : Nat → Int64
  | 0 => 0
  | k + 1 => th σ k + (gi σ 10 (nI k)).toInt64
/-- what was pumped in all, as the law counts it -/
def pl (σ : Sg) : Nat → Int64
  | 0 => 0
  | k + 1 => pl σ k + gl σ 23 (nI k)
theorem th_e {σ : Sg} : ∀ n : Nat, n ≤ 16 → ∃ q : Int, (th σ n).toInt = Sm (rI 10 σ) n + q * 18446744073709551616 := by
  intro n
  induction n with
  | zero => intro _; exact ⟨0, by show (0 : Int64).toInt = 0 + 0 * 18446744073709551616; decide⟩
  | succ n ih =>
    intro hn
    obtain ⟨q, hq⟩ := ih (by omega)
    obtain ⟨q2, hq2⟩ := l_add (th σ n) (gi σ 10 (nI n)).toInt64
    refine ⟨q + q2, ?_⟩
    show (th σ n + (gi σ 10 (nI n)).toInt64).toInt = Sm (rI 10 σ) n + rI 10 σ n + _
    rw [hq2, hq, l_of, gi_n (by omega)]
    show _ + (σ.1 10 n).toInt + _ = _ + (σ.1 10 n).toInt + _
    omega
theorem pl_e {σ : Sg} : ∀ n : Nat, n ≤ 6 → ∃ q : Int, (pl σ n).toInt = Sm (lI σ) n + q * 18446744073709551616 := by
  intro n
  induction n with
  | zero => intro _; exact ⟨0, by show (0 : Int64).toInt = 0 + 0 * 18446744073709551616; decide⟩
  | succ n ih =>
    intro hn
    obtain ⟨q, hq⟩ := ih (by omega)
    obtain ⟨q2, hq2⟩ := l_add (pl σ n) (gl σ 23 (nI n))
    refine ⟨q + q2, ?_⟩
    show (pl σ n + gl σ 23 (nI n)).toInt = Sm (lI σ) n + lI σ n + _
    rw [hq2, hq, gl_n (by omega)]
    show _ + (σ.2 23 n).toInt + _ = _ + (σ.2 23 n).toInt + _
    omega
theorem Sm_tail {f : Nat → Int} {n : Nat} : ∀ m : Nat, (∀ w, n ≤ w → w < n + m → f w = 0) → Sm f (n + m) = Sm f n := by
  intro m
  induction m with
  | zero => intro _; rfl
  | succ m ih =>
    intro h
    show Sm f (n + m) + f (n + m) = _
    rw [ih (fun w h1 h2 => h w h1 (by omega)), h (n + m) (by omega) (by omega)]
    omega
theorem cl_bal {C M : Nat} {σ : Sg} (h : Inv C M σ) : lg_cmp (th σ 16) (((((((gl σ 28 0 + gl σ 28 1) - gl σ 28 2) + gl σ 28 3) - gl σ 28 4) - gl σ 28 5) + gl σ 28 6) - gl σ 28 7) = 0 := by
  obtain ⟨q, hq⟩ := th_e (σ := σ) 16 (Nat.le_refl _)
  obtain ⟨q0, h0⟩ := h.bk
  have e : th σ 16 = (((((((gl σ 28 0 + gl σ 28 1) - gl σ 28 2) + gl σ 28 3) - gl σ 28 4) - gl σ 28 5) + gl σ 28 6) - gl σ 28 7) := by
    obtain ⟨q1, h1⟩ := l_add (gl σ 28 0) (gl σ 28 1)
    obtain ⟨q2, h2⟩ := l_sub (gl σ 28 0 + gl σ 28 1) (gl σ 28 2)
    obtain ⟨q3, h3⟩ := l_add (gl σ 28 0 + gl σ 28 1 - gl σ 28 2) (gl σ 28 3)
    obtain ⟨q4, h4⟩ := l_sub (gl σ 28 0 + gl σ 28 1 - gl σ 28 2 + gl σ 28 3) (gl σ 28 4)
    obtain ⟨q5, h5⟩ := l_sub (gl σ 28 0 + gl σ 28 1 - gl σ 28 2 + gl σ 28 3 - gl σ 28 4) (gl σ 28 5)
    obtain ⟨q6, h6⟩ := l_add (gl σ 28 0 + gl σ 28 1 - gl σ 28 2 + gl σ 28 3 - gl σ 28 4 - gl σ 28 5) (gl σ 28 6)
    obtain ⟨q7, h7⟩ := l_sub (gl σ 28 0 + gl σ 28 1 - gl σ 28 2 + gl σ 28 3 - gl σ 28 4 - gl σ 28 5 + gl σ 28 6) (gl σ 28 7)
    refine l_cong ⟨q - q0 - q1 - q2 - q3 - q4 - q5 - q6 - q7, ?_⟩
    have h0' : (gl σ 28 0).toInt + (gl σ 28 1).toInt - (gl σ 28 2).toInt + (gl σ 28 3).toInt - (gl σ 28 4).toInt - (gl σ 28 5).toInt + (gl σ 28 6).toInt - (gl σ 28 7).toInt = Sm (rI 10 σ) 16 + q0 * 18446744073709551616 := h0
    omega
  rw [e]
  exact lg_self _
theorem cl_all {C M : Nat} {σ : Sg} (h : Inv C M σ) : lg_cmp (pl σ (cnt σ)) (gl σ 28 2) = 0 := by
  have h6 := h.wf.le
  obtain ⟨q, hq⟩ := pl_e (σ := σ) (cnt σ) h6
  obtain ⟨q0, h0⟩ := h.ps
  have ht := Sm_tail (f := lI σ) (n := cnt σ) (6 - cnt σ) (fun w h1 h2 => (h.sh.2 w h1 (by omega)).2.2.2)
  rw [show cnt σ + (6 - cnt σ) = 6 by omega] at ht
  have e : pl σ (cnt σ) = gl σ 28 2 := by
    refine l_cong ⟨q + q0, ?_⟩
    show _ = (σ.2 28 2).toInt + _
    omega
  rw [e]
  exact lg_self _
theorem acc_w {σ : Sg} : acc σ 119 = gl σ 28 0 := if_pos rfl
theorem acc_r {σ : Sg} : acc σ 114 = gl σ 28 1 := (if_neg (by decide)).trans (if_pos rfl)
theorem acc_p {σ : Sg} : acc σ 112 = gl σ 28 2 := (if_neg (by decide)).trans ((if_neg (by decide)).trans (if_pos rfl))
theorem acc_i {σ : Sg} : acc σ 105 = gl σ 28 3 := (if_neg (by decide)).trans ((if_neg (by decide)).trans ((if_neg (by decide)).trans (if_pos rfl)))
theorem acc_o {σ : Sg} : acc σ 111 = gl σ 28 4 := (if_neg (by decide)).trans ((if_neg (by decide)).trans ((if_neg (by decide)).trans ((if_neg (by decide)).trans (if_pos rfl))))
theorem acc_s {σ : Sg} : acc σ 115 = gl σ 28 5 := (if_neg (by decide)).trans ((if_neg (by decide)).trans ((if_neg (by decide)).trans ((if_neg (by decide)).trans ((if_neg (by decide)).trans (if_pos rfl)))))
theorem acc_n {σ : Sg} : acc σ 110 = gl σ 28 6 := (if_neg (by decide)).trans ((if_neg (by decide)).trans ((if_neg (by decide)).trans ((if_neg (by decide)).trans ((if_neg (by decide)).trans ((if_neg (by decide)).trans (if_pos rfl))))))
theorem acc_m {σ : Sg} : acc σ 109 = gl σ 28 7 := (if_neg (by decide)).trans ((if_neg (by decide)).trans ((if_neg (by decide)).trans ((if_neg (by decide)).trans ((if_neg (by decide)).trans ((if_neg (by decide)).trans ((if_neg (by decide)).trans (if_pos rfl)))))))
theorem Ev.drp {g : Gm} {A : Nat → Prop} {H0 H : Heap} {locs : List Loc} {a t : va_W} (E : Ev g A H0 H locs (a ++ t)) : Ev g A H0 H locs t :=
  Ev.pre (t := a) (E.perm List.perm_append_comm)
