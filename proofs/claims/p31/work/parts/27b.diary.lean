/-! THE DIARY'S CALLS: what they do, one after the other -/
abbrev CV : Type := Nat × Int32 × Int32 × Int32 × Int32
def cE (v : CV) : va_E := .inr (1, [.int (nI v.1), .int v.2.1, .int v.2.2.1, .int v.2.2.2.1, .int v.2.2.2.2])
def fo1 (lo : Int32) (v : CV) (σ : Sg) : Sg :=
  match v.1 with
  | 0 => f_X5_follow_0 σ lo v.2.1 v.2.2.1 v.2.2.2.1 v.2.2.2.2
  | 1 => f_X5_follow_1 σ lo v.2.1 v.2.2.1 v.2.2.2.1 v.2.2.2.2
  | 2 => f_X5_follow_2 σ lo v.2.1 v.2.2.1 v.2.2.2.1 v.2.2.2.2
  | 3 => f_X5_follow_3 σ lo v.2.1 v.2.2.1 v.2.2.2.1 v.2.2.2.2
  | 4 => f_X5_follow_4 σ lo v.2.1 v.2.2.1 v.2.2.2.1 v.2.2.2.2
  | 5 => f_X5_follow_5 σ lo v.2.1 v.2.2.1 v.2.2.2.1 v.2.2.2.2
  | 6 => f_X5_follow_6 σ lo v.2.1 v.2.2.1 v.2.2.2.1 v.2.2.2.2
  | 7 => f_X5_follow_7 σ lo v.2.1 v.2.2.1 v.2.2.2.1 v.2.2.2.2
  | 8 => f_X5_follow_8 σ lo v.2.1 v.2.2.1 v.2.2.2.1 v.2.2.2.2
  | 9 => f_X5_follow_9 σ lo v.2.1 v.2.2.1 v.2.2.2.1 v.2.2.2.2
  | 10 => f_X5_follow_10 σ lo v.2.1 v.2.2.1 v.2.2.2.1 v.2.2.2.2
  | _ => f_X5_follow_11 σ lo v.2.1.toNatClampNeg v.2.2.1 v.2.2.2.1 v.2.2.2.2
/-- the calls that are legal where n wells stand and M months have passed -/
def okN (v : CV) (n M : Nat) : Prop :=
  match v.1 with
  | 0 => rgOK v.2.1 0 15 ∧ rgOK v.2.2.1 (-100) 100 ∧ rgOK v.2.2.2.1 1 50 ∧ rgOK v.2.2.2.2 0 5000
  | 1 => rgOK v.2.1 0 7
  | 2 => rgOK v.2.1 0 1
  | 3 => rgOK v.2.1 0 7
  | 4 => rgOK v.2.1 0 7 ∧ rgOK v.2.2.1 0 99
  | 5 => rgOK v.2.1 0 7 ∧ rgOK v.2.2.1 (-100) 100 ∧ rgOK v.2.2.2.1 0 9
  | 6 => rgOK v.2.1 0 999
  | 7 => rgOK v.2.1 0 9
  | 8 => rgOK v.2.1 0 15 ∧ rgOK v.2.2.2.1 0 999 ∧ n < 6
  | 9 => ixOK v.2.1 (nI n) ∧ rgOK v.2.2.1 0 99
  | 10 => ixOK v.2.1 (nI n) ∧ ixOK v.2.2.1 (nI n) ∧ rgOK v.2.2.2.1 1 999
  | 11 => (∃ mm : Nat, v.2.1 = nI mm ∧ 1 ≤ mm ∧ mm ≤ 24 ∧ M + mm ≤ 600)
  | _ => False
def isA (v : CV) : Nat := if v.1 = 8 then 1 else 0
def isM (v : CV) : Nat := if v.1 = 11 then v.2.1.toNatClampNeg else 0
theorem rgI {v : Int32} (lo hi : Int32) (l h : Int) (e1 : lo.toInt = l) (e2 : hi.toInt = h) (q : rgOK v lo hi) : l ≤ v.toInt ∧ v.toInt ≤ h := by
  obtain ⟨q1, q2⟩ := q
  rw [i_le] at q1 q2
  rw [e1] at q1
  rw [e2] at q2
  exact ⟨q1, q2⟩
/-- how the events' text stands: never less -/
def EvM (τ σ : Sg) : Prop := en σ ≤ en τ ∧ eg σ ≤ eg τ ∧ ec σ ≤ ec τ
theorem EvM.rf {σ : Sg} : EvM σ σ := ⟨Nat.le_refl _, Nat.le_refl _, Nat.le_refl _⟩
theorem EvM.tr {ρ τ σ : Sg} (h : EvM ρ τ) (k : EvM τ σ) : EvM ρ σ := ⟨Nat.le_trans k.1 h.1, Nat.le_trans k.2.1 h.2.1, Nat.le_trans k.2.2 h.2.2⟩
theorem EvM.evs {τ σ : Sg} (h : τ.1 30 = σ.1 30 ∧ gs τ 5 = gs σ 5 ∧ gs τ 6 = gs σ 6 ∧ gs τ 7 = gs σ 7) : EvM τ σ := by
  have h5 : en τ = en σ := congrArg Int32.toNatClampNeg h.2.1
  have h6 : ec τ = ec σ := congrArg Int32.toNatClampNeg h.2.2.1
  have h7 : eg τ = eg σ := congrArg Int32.toNatClampNeg h.2.2.2
  exact ⟨Nat.le_of_eq h5.symm, Nat.le_of_eq h7.symm, Nat.le_of_eq h6.symm⟩
theorem EK.m {K : Nat} {τ σ : Sg} (h : EK K τ σ) : EvM τ σ := ⟨h.2.1, h.2.2.2.1, h.2.2.2.2.1⟩
theorem FL.cnt {τ σ : Sg} (h : FL τ σ) : cnt τ = cnt σ := congrArg Int32.toNatClampNeg h.2.2.1
theorem FL.evm {τ σ : Sg} (h : FL τ σ) : EvM τ σ := EvM.evs ⟨h.1 30 (by omega), h.2.2.2.1, h.2.2.2.2.1, h.2.2.2.2.2.1⟩
theorem Inv.wf {C M : Nat} {σ : Sg} (h : Inv C M σ) : WF σ := h.1.1
theorem Inv.ev {C M : Nat} {σ : Sg} (h : Inv C M σ) : EvOK σ := h.1.2.1
theorem Inv.lr {C M : Nat} {σ : Sg} (h : Inv C M σ) : LR σ := h.1.2.2.2.1
theorem Inv.en {C M : Nat} {σ : Sg} (h : Inv C M σ) : en σ ≤ 12000 := by
  have h1 := h.2.2.1
  have h2 := h.2.2.2.2
  omega
theorem ix_n {n : Nat} {i : Int32} (hn : n ≤ 6) (h : ixOK i (nI n)) : vp_in i 6 ∧ i.toNatClampNeg < n := by
  obtain ⟨h1, h2⟩ := h
  obtain ⟨j, hj, rfl⟩ := nI_of2 (M := 5) (n := 5) (by decide) (le_nlt h1) (by
    rw [Int32.le_iff_toInt_le]
    rw [Int32.lt_iff_toInt_lt, nI_toInt (by omega)] at h2
    have e5 : (5 : Int32).toInt = 5 := by decide
    omega)
  refine ⟨vp_in_nI (by omega) (by decide), ?_⟩
  rw [Int32.lt_iff_toInt_lt, nI_toInt (by omega), nI_toInt (by omega)] at h2
  rw [nI_clamp (by omega)]
  omega
/-- a step of the diary, in whatever world -/
theorem inv_fo1 {C M : Nat} {σ : Sg} {lo : Int32} {v : CV} (h : Inv C M σ) (hC : C + 1 ≤ 1000) (hv : okN v (cnt σ) M) : Inv (C + 1) (M + isM v) (fo1 lo v σ) ∧ cnt (fo1 lo v σ) = cnt σ + isA v ∧ EvM (fo1 lo v σ) σ := by
  obtain ⟨k, a, b, c, d⟩ := v
  have land : ∀ τ : Sg, FL τ σ → LR τ → Inv (C + 1) (M + 0) τ ∧ cnt τ = cnt σ + 0 ∧ EvM τ σ := fun τ hf hL => ⟨inv_land h hC hf hL, hf.cnt, hf.evm⟩
  match k, hv with
  | 0, hv =>
    obtain ⟨h1, h2, h3, h4⟩ := hv
    have hk : Kp (f_X5_fillCell σ a b c d) σ := KP_X5_fillCell
    exact ⟨inv_fill h hC (rg_in 15 (by decide) (by decide) (by decide) h1) (rgI (-100) 100 (-100) 100 (by decide) (by decide) h2) (rgI 1 50 1 50 (by decide) (by decide) h3) (rgI 0 5000 0 5000 (by decide) (by decide) h4), congrArg Int32.toNatClampNeg hk.2.2.2.2.1, EvM.evs hk.evs⟩
  | 1, hv => exact land (si σ 12 a b) (FL_si (by omega)) (LR_si h.lr (by omega))
  | 2, hv => exact land (si σ 13 a b) (FL_si (by omega)) (LR_si h.lr (by omega))
  | 3, hv => exact land (si σ 14 a b) (FL_si (by omega)) (LR_si h.lr (by omega))
  | 4, hv =>
    have q := rgI 0 99 0 99 (by decide) (by decide) hv.2
    exact land (si σ 15 a b) (FL_si (by omega)) (LR_si h.lr (Or.inr (Or.inl ⟨rfl, q⟩)))
  | 5, hv =>
    have q := rgI (-100) 100 (-100) 100 (by decide) (by decide) hv.2.1
    have q2 := rgI 0 9 0 9 (by decide) (by decide) hv.2.2
    exact land (si (si σ 16 a b) 17 a c) ((FL_si (by omega)).tr (FL_si (by omega))) (LR_si (LR_si h.lr (Or.inr (Or.inr (Or.inl ⟨rfl, q⟩)))) (Or.inr (Or.inr (Or.inr (Or.inl ⟨rfl, q2⟩)))))
  | 6, hv =>
    have q := rgI 0 999 0 999 (by decide) (by decide) hv
    exact land (ss σ 2 a) (FL_ss (by omega)) (LR_ss h.lr (Or.inl ⟨rfl, q⟩))
  | 7, hv =>
    have q := rgI 0 9 0 9 (by decide) (by decide) hv
    exact land (ss σ 3 a) (FL_ss (by omega)) (LR_ss h.lr (Or.inr ⟨rfl, q⟩))
  | 8, hv =>
    obtain ⟨h1, h2, h3⟩ := hv
    obtain ⟨i1, i2, -, -⟩ := inv_add (y := b) h hC (rg_in 15 (by decide) (by decide) (by decide) h1) (rgI 0 999 0 999 (by decide) (by decide) h2) h3
    exact ⟨i1, i2, EvM.evs (fev_8_ (lo := lo) (a0 := a) (b0 := b) (c0 := c) (d0 := d))⟩
  | 9, hv =>
    obtain ⟨h1, h2⟩ := hv
    have e : EvM (f_X5_follow_9 σ lo a b c d) σ := EvM.evs fev_9_
    refine ⟨?_, ?_, e⟩
    · show Inv (C + 1) (M + 0) (f_X5_follow_9 σ lo a b c d)
      unfold f_X5_follow_9
      split
      · exact h.upC hC
      · exact inv_wish h hC (ix_n h.wf.le h1).1 (rgI 0 99 0 99 (by decide) (by decide) h2)
    · show cnt (f_X5_follow_9 σ lo a b c d) = cnt σ + 0
      unfold f_X5_follow_9
      split
      · rfl
      · exact congrArg Int32.toNatClampNeg (congrFun (si_ne (by decide)) 4)
  | 10, hv =>
    obtain ⟨h1, h2, h3⟩ := hv
    have hk : Kp (f_X5_followTransfer σ lo a b c) σ := KP_X5_followTransfer
    refine ⟨?_, congrArg Int32.toNatClampNeg hk.2.2.2.2.1, EvM.evs hk.evs⟩
    show Inv (C + 1) (M + 0) (f_X5_followTransfer σ lo a b c)
    unfold f_X5_followTransfer
    split
    · exact h.upC hC
    · split
      · exact h.upC hC
      · split
        · exact h.upC hC
        · rename_i hg
          obtain ⟨x2, x3⟩ := ix_n h.wf.le h2
          exact (inv_give h hC (ix_n h.wf.le h1).1 x2 (rgI 1 999 1 999 (by decide) (by decide) h3) x3 hg).1
  | 11, hv =>
    obtain ⟨mm, e, h1, h2, h3⟩ := hv
    have e : a = nI mm := e
    subst e
    have ec : (nI mm).toNatClampNeg = mm := nI_clamp (by omega)
    have e1 : fo1 lo (11, nI mm, b, c, d) σ = f_months mm σ := by
      show f_X5_follow_11 σ lo (nI mm).toNatClampNeg b c d = _
      rw [ec]; exact fol11
    have e2 : isM (11, nI mm, b, c, d) = mm := ec
    obtain ⟨i1, i2, -, -⟩ := inv_months mm M σ h h3
    have hb := h.2.2.1
    have k := EK_X5_letMonthsPass (mm := mm) h.ev (by omega) h.wf
    have e3 : f_X5_letMonthsPass σ mm = f_months mm σ := fol11 (lo := lo) (b0 := b) (c0 := c) (d0 := d)
    rw [e3] at k
    rw [e1, e2]
    exact ⟨i1.upC hC, k.cnt, k.m⟩
  | k + 12, hv => exact hv.elim
/-- the diary's calls, one after the other -/
def folS (lo : Int32) : List CV → Sg → Sg
  | [], σ => σ
  | v :: t, σ => folS lo t (fo1 lo v σ)
def leg : List CV → Nat → Nat → Prop
  | [], _, _ => True
  | v :: t, n, M => okN v n M ∧ leg t (n + isA v) (M + isM v)
def nA : List CV → Nat
  | [] => 0
  | v :: t => isA v + nA t
def nM : List CV → Nat
  | [] => 0
  | v :: t => isM v + nM t
theorem folS_app {lo : Int32} : ∀ (s t : List CV) (σ : Sg), folS lo (s ++ t) σ = folS lo t (folS lo s σ) := by
  intro s
  induction s with
  | nil => intro t σ; rfl
  | cons v s ih => intro t σ; exact ih t _
theorem leg_app : ∀ (s t : List CV) (n M : Nat), leg (s ++ t) n M ↔ leg s n M ∧ leg t (n + nA s) (M + nM s) := by
  intro s
  induction s with
  | nil => intro t n M; exact ⟨fun h => ⟨trivial, h⟩, fun h => h.2⟩
  | cons v s ih =>
    intro t n M
    show okN v n M ∧ leg (s ++ t) (n + isA v) (M + isM v) ↔ (okN v n M ∧ leg s (n + isA v) (M + isM v)) ∧ leg t (n + (isA v + nA s)) (M + (isM v + nM s))
    rw [ih, ← Nat.add_assoc, ← Nat.add_assoc, and_assoc]
theorem nA_app : ∀ (s t : List CV), nA (s ++ t) = nA s + nA t := by
  intro s
  induction s with
  | nil => intro t; exact (Nat.zero_add _).symm
  | cons v s ih => intro t; show isA v + nA (s ++ t) = isA v + nA s + nA t; rw [ih, Nat.add_assoc]
theorem nM_app : ∀ (s t : List CV), nM (s ++ t) = nM s + nM t := by
  intro s
  induction s with
  | nil => intro t; exact (Nat.zero_add _).symm
  | cons v s ih => intro t; show isM v + nM (s ++ t) = isM v + nM s + nM t; rw [ih, Nat.add_assoc]
theorem inv_folS {lo : Int32} : ∀ (cvs : List CV) (σ : Sg) (C M : Nat), Inv C M σ → C + cvs.length ≤ 1000 → leg cvs (cnt σ) M → Inv (C + cvs.length) (M + nM cvs) (folS lo cvs σ) ∧ cnt (folS lo cvs σ) = cnt σ + nA cvs ∧ EvM (folS lo cvs σ) σ := by
  intro cvs
  induction cvs with
  | nil => intro σ C M h _ _; exact ⟨h, rfl, EvM.rf⟩
  | cons v t ih =>
    intro σ C M h hC hl
    have hlen : (v :: t).length = t.length + 1 := rfl
    obtain ⟨a1, a2, a3⟩ := inv_fo1 (lo := lo) h (by omega) hl.1
    obtain ⟨b1, b2, b3⟩ := ih (fo1 lo v σ) (C + 1) (M + isM v) a1 (by omega) (by rw [a2]; exact hl.2)
    refine ⟨?_, ?_, b3.tr a3⟩
    · show Inv (C + (t.length + 1)) (M + (isM v + nM t)) (folS lo t (fo1 lo v σ))
      rw [show C + (t.length + 1) = C + 1 + t.length by omega, ← Nat.add_assoc M]
      exact b1
    · show cnt (folS lo t (fo1 lo v σ)) = cnt σ + (isA v + nA t)
      rw [b2, a2, Nat.add_assoc]
