/-! AN OBJECT OF THE CLASS, in general -/
/-- its diary behind a call -/
def ObN (n : Nat) (dcs : va_W) (cv : va_E) (u : Nat × Int32 × Nat × Nat × va_W) : Prop := ((n < 512 ∧ ∃ q : Nat, u.2.2.2.2 = dcs ++ [(q, cv)]) ∨ (512 ≤ n ∧ u.2.2.2.2 = dcs)) ∧ u.2.2.2.2.length ≤ u.2.2.2.1 ∧ 10 ≤ u.2.2.2.1 ∧ u.2.2.2.1 ≤ 800
abbrev kxO (σ τ : Sg) : Nat × Int32 × Nat × Nat × va_W → Nat × Nat := fun _ => (eg τ - eg σ + 2, 2 * ec τ - 2 * ec σ + 810)
theorem Ev.tout {g : Gm} {A : Nat → Prop} {H0 H : Heap} {locs : List Loc} {a t c : va_W} (E : Ev g A H0 H locs (a ++ (t ++ c))) : Ev g A H0 H locs (a ++ c ++ t) := Ev.tl (Ev.asc E)
theorem Ev.tin {g : Gm} {A : Nat → Prop} {H0 H : Heap} {locs : List Loc} {a t c : va_W} (E : Ev g A H0 H locs (a ++ c ++ t)) : Ev g A H0 H locs (a ++ (t ++ c)) := Ev.asc' (Ev.tl E)
/-- at the most twelve growths of the events' text in a call -/
theorem ek_room {τ σ : Sg} (v : EvOK τ) (hn : en τ ≤ 20000) : eg τ - eg σ ≤ 12 ∧ 2 * ec τ - 2 * ec σ ≤ 90000 := by
  obtain ⟨h1, h2⟩ := nt_c v hn
  constructor <;> omega
theorem evs_si {σ : Sg} {k : Nat} {x v : Int32} (h30 : k ≠ 30) (h0 : k ≠ 0) : (si σ k x v).1 30 = σ.1 30 ∧ gs (si σ k x v) 5 = gs σ 5 ∧ gs (si σ k x v) 6 = gs σ 6 ∧ gs (si σ k x v) 7 = gs σ 7 := by
  have e : ∀ a : Nat, a ≠ k → (si σ k x v).1 a = σ.1 a := fun a ha => si_ne ha
  exact ⟨e 30 (Ne.symm h30), congrFun (e 0 (Ne.symm h0)) 5, congrFun (e 0 (Ne.symm h0)) 6, congrFun (e 0 (Ne.symm h0)) 7⟩
theorem evs_tr {ρ τ σ : Sg} (h : ρ.1 30 = τ.1 30 ∧ gs ρ 5 = gs τ 5 ∧ gs ρ 6 = gs τ 6 ∧ gs ρ 7 = gs τ 7) (k : τ.1 30 = σ.1 30 ∧ gs τ 5 = gs σ 5 ∧ gs τ 6 = gs σ 6 ∧ gs τ 7 = gs σ 7) : ρ.1 30 = σ.1 30 ∧ gs ρ 5 = gs σ 5 ∧ gs ρ 6 = gs σ 6 ∧ gs ρ 7 = gs σ 7 := ⟨h.1.trans k.1, h.2.1.trans k.2.1, h.2.2.1.trans k.2.2.1, h.2.2.2.trans k.2.2.2⟩
theorem evs_ss {σ : Sg} {j : Nat} {v : Int32} (h5 : j ≠ 5) (h6 : j ≠ 6) (h7 : j ≠ 7) : (ss σ j v).1 30 = σ.1 30 ∧ gs (ss σ j v) 5 = gs σ 5 ∧ gs (ss σ j v) 6 = gs σ 6 ∧ gs (ss σ j v) 7 = gs σ 7 := ⟨rfl, pk_un (Ne.symm h5), pk_un (Ne.symm h6), pk_un (Ne.symm h7)⟩
theorem evs_rf {σ : Sg} : σ.1 30 = σ.1 30 ∧ gs σ 5 = gs σ 5 ∧ gs σ 6 = gs σ 6 ∧ gs σ 7 = gs σ 7 := ⟨rfl, rfl, rfl, rfl⟩
theorem evs_add_L {x y z : Int32} : ∀ (k i : Nat) (τ : Sg), (f_X4_add_L46 x y z k i τ).1 30 = τ.1 30 ∧ gs (f_X4_add_L46 x y z k i τ) 5 = gs τ 5 ∧ gs (f_X4_add_L46 x y z k i τ) 6 = gs τ 6 ∧ gs (f_X4_add_L46 x y z k i τ) 7 = gs τ 7 := by
  intro k
  induction k with
  | zero => intro i τ; rw [f_X4_add_L46]; exact evs_tr (evs_ss (by decide) (by decide) (by decide)) (evs_si (by decide) (by decide))
  | succ k ih =>
    intro i τ
    rw [f_X4_add_L46]
    split
    · exact evs_tr (evs_ss (by decide) (by decide) (by decide)) (evs_si (by decide) (by decide))
    · exact evs_tr (ih _ _) (evs_si (by decide) (by decide))
theorem fev_0_ {σ : Sg} {lo a0 b0 c0 d0 : Int32} : (f_X5_follow_0 σ lo a0 b0 c0 d0).1 30 = σ.1 30 ∧ gs (f_X5_follow_0 σ lo a0 b0 c0 d0) 5 = gs σ 5 ∧ gs (f_X5_follow_0 σ lo a0 b0 c0 d0) 6 = gs σ 6 ∧ gs (f_X5_follow_0 σ lo a0 b0 c0 d0) 7 = gs σ 7 := KP_X5_fillCell.evs
theorem fev_1_ {σ : Sg} {lo a0 b0 c0 d0 : Int32} : (f_X5_follow_1 σ lo a0 b0 c0 d0).1 30 = σ.1 30 ∧ gs (f_X5_follow_1 σ lo a0 b0 c0 d0) 5 = gs σ 5 ∧ gs (f_X5_follow_1 σ lo a0 b0 c0 d0) 6 = gs σ 6 ∧ gs (f_X5_follow_1 σ lo a0 b0 c0 d0) 7 = gs σ 7 := evs_si (by decide) (by decide)
theorem fev_2_ {σ : Sg} {lo a0 b0 c0 d0 : Int32} : (f_X5_follow_2 σ lo a0 b0 c0 d0).1 30 = σ.1 30 ∧ gs (f_X5_follow_2 σ lo a0 b0 c0 d0) 5 = gs σ 5 ∧ gs (f_X5_follow_2 σ lo a0 b0 c0 d0) 6 = gs σ 6 ∧ gs (f_X5_follow_2 σ lo a0 b0 c0 d0) 7 = gs σ 7 := evs_si (by decide) (by decide)
theorem fev_3_ {σ : Sg} {lo a0 b0 c0 d0 : Int32} : (f_X5_follow_3 σ lo a0 b0 c0 d0).1 30 = σ.1 30 ∧ gs (f_X5_follow_3 σ lo a0 b0 c0 d0) 5 = gs σ 5 ∧ gs (f_X5_follow_3 σ lo a0 b0 c0 d0) 6 = gs σ 6 ∧ gs (f_X5_follow_3 σ lo a0 b0 c0 d0) 7 = gs σ 7 := evs_si (by decide) (by decide)
theorem fev_4_ {σ : Sg} {lo a0 b0 c0 d0 : Int32} : (f_X5_follow_4 σ lo a0 b0 c0 d0).1 30 = σ.1 30 ∧ gs (f_X5_follow_4 σ lo a0 b0 c0 d0) 5 = gs σ 5 ∧ gs (f_X5_follow_4 σ lo a0 b0 c0 d0) 6 = gs σ 6 ∧ gs (f_X5_follow_4 σ lo a0 b0 c0 d0) 7 = gs σ 7 := evs_si (by decide) (by decide)
theorem fev_5_ {σ : Sg} {lo a0 b0 c0 d0 : Int32} : (f_X5_follow_5 σ lo a0 b0 c0 d0).1 30 = σ.1 30 ∧ gs (f_X5_follow_5 σ lo a0 b0 c0 d0) 5 = gs σ 5 ∧ gs (f_X5_follow_5 σ lo a0 b0 c0 d0) 6 = gs σ 6 ∧ gs (f_X5_follow_5 σ lo a0 b0 c0 d0) 7 = gs σ 7 := evs_tr (evs_si (by decide) (by decide)) (evs_si (by decide) (by decide))
theorem fev_6_ {σ : Sg} {lo a0 b0 c0 d0 : Int32} : (f_X5_follow_6 σ lo a0 b0 c0 d0).1 30 = σ.1 30 ∧ gs (f_X5_follow_6 σ lo a0 b0 c0 d0) 5 = gs σ 5 ∧ gs (f_X5_follow_6 σ lo a0 b0 c0 d0) 6 = gs σ 6 ∧ gs (f_X5_follow_6 σ lo a0 b0 c0 d0) 7 = gs σ 7 := evs_ss (by decide) (by decide) (by decide)
theorem fev_7_ {σ : Sg} {lo a0 b0 c0 d0 : Int32} : (f_X5_follow_7 σ lo a0 b0 c0 d0).1 30 = σ.1 30 ∧ gs (f_X5_follow_7 σ lo a0 b0 c0 d0) 5 = gs σ 5 ∧ gs (f_X5_follow_7 σ lo a0 b0 c0 d0) 6 = gs σ 6 ∧ gs (f_X5_follow_7 σ lo a0 b0 c0 d0) 7 = gs σ 7 := evs_ss (by decide) (by decide) (by decide)
theorem fev_10_ {σ : Sg} {lo a0 b0 c0 d0 : Int32} : (f_X5_follow_10 σ lo a0 b0 c0 d0).1 30 = σ.1 30 ∧ gs (f_X5_follow_10 σ lo a0 b0 c0 d0) 5 = gs σ 5 ∧ gs (f_X5_follow_10 σ lo a0 b0 c0 d0) 6 = gs σ 6 ∧ gs (f_X5_follow_10 σ lo a0 b0 c0 d0) 7 = gs σ 7 := KP_X5_followTransfer.evs
theorem fev_8_ {σ : Sg} {lo a0 b0 c0 d0 : Int32} : (f_X5_follow_8 σ lo a0 b0 c0 d0).1 30 = σ.1 30 ∧ gs (f_X5_follow_8 σ lo a0 b0 c0 d0) 5 = gs σ 5 ∧ gs (f_X5_follow_8 σ lo a0 b0 c0 d0) 6 = gs σ 6 ∧ gs (f_X5_follow_8 σ lo a0 b0 c0 d0) 7 = gs σ 7 := by
  show (f_X4_add σ a0 b0 c0).1 30 = _ ∧ _
  unfold f_X5_follow_8 f_X4_add
  split
  · exact evs_tr (evs_add_L _ _ _) (evs_tr (evs_si (by decide) (by decide)) (evs_tr (evs_si (by decide) (by decide)) (evs_si (by decide) (by decide))))
  · exact evs_rf
theorem fev_9_ {σ : Sg} {lo a0 b0 c0 d0 : Int32} : (f_X5_follow_9 σ lo a0 b0 c0 d0).1 30 = σ.1 30 ∧ gs (f_X5_follow_9 σ lo a0 b0 c0 d0) 5 = gs σ 5 ∧ gs (f_X5_follow_9 σ lo a0 b0 c0 d0) 6 = gs σ 6 ∧ gs (f_X5_follow_9 σ lo a0 b0 c0 d0) 7 = gs σ 7 := by
  unfold f_X5_follow_9
  split
  · exact evs_rf
  · exact evs_si (by decide) (by decide)
theorem fevs_0 {σ : Sg} {lo a0 b0 c0 d0 : Int32} : (f_X5_follow_0 σ lo a0 b0 c0 d0).1 30 = σ.1 30 ∧ gs (f_X5_follow_0 σ lo a0 b0 c0 d0) 5 = gs σ 5 ∧ gs (f_X5_follow_0 σ lo a0 b0 c0 d0) 6 = gs σ 6 ∧ gs (f_X5_follow_0 σ lo a0 b0 c0 d0) 7 = gs σ 7 := fev_0_
theorem fev_0 {σ : Sg} {lo a0 b0 c0 d0 : Int32} (hE : EvOK σ) (hB : en σ + 0 ≤ 20000) : EvOK (f_X5_follow_0 σ lo a0 b0 c0 d0) := ev_same fevs_0 hE
theorem fen_0 {σ : Sg} {lo a0 b0 c0 d0 : Int32} (hE : EvOK σ) (hB : en σ + 0 ≤ 20000) : en (f_X5_follow_0 σ lo a0 b0 c0 d0) ≤ 20000 := by
  rw [show en (f_X5_follow_0 σ lo a0 b0 c0 d0) = en σ from congrArg Int32.toNatClampNeg fevs_0.2.1]
  omega
theorem fevs_1 {σ : Sg} {lo a0 b0 c0 d0 : Int32} : (f_X5_follow_1 σ lo a0 b0 c0 d0).1 30 = σ.1 30 ∧ gs (f_X5_follow_1 σ lo a0 b0 c0 d0) 5 = gs σ 5 ∧ gs (f_X5_follow_1 σ lo a0 b0 c0 d0) 6 = gs σ 6 ∧ gs (f_X5_follow_1 σ lo a0 b0 c0 d0) 7 = gs σ 7 := fev_1_
theorem fev_1 {σ : Sg} {lo a0 b0 c0 d0 : Int32} (hE : EvOK σ) (hB : en σ + 0 ≤ 20000) : EvOK (f_X5_follow_1 σ lo a0 b0 c0 d0) := ev_same fevs_1 hE
theorem fen_1 {σ : Sg} {lo a0 b0 c0 d0 : Int32} (hE : EvOK σ) (hB : en σ + 0 ≤ 20000) : en (f_X5_follow_1 σ lo a0 b0 c0 d0) ≤ 20000 := by
  rw [show en (f_X5_follow_1 σ lo a0 b0 c0 d0) = en σ from congrArg Int32.toNatClampNeg fevs_1.2.1]
  omega
theorem fevs_2 {σ : Sg} {lo a0 b0 c0 d0 : Int32} : (f_X5_follow_2 σ lo a0 b0 c0 d0).1 30 = σ.1 30 ∧ gs (f_X5_follow_2 σ lo a0 b0 c0 d0) 5 = gs σ 5 ∧ gs (f_X5_follow_2 σ lo a0 b0 c0 d0) 6 = gs σ 6 ∧ gs (f_X5_follow_2 σ lo a0 b0 c0 d0) 7 = gs σ 7 := fev_2_
theorem fev_2 {σ : Sg} {lo a0 b0 c0 d0 : Int32} (hE : EvOK σ) (hB : en σ + 0 ≤ 20000) : EvOK (f_X5_follow_2 σ lo a0 b0 c0 d0) := ev_same fevs_2 hE
theorem fen_2 {σ : Sg} {lo a0 b0 c0 d0 : Int32} (hE : EvOK σ) (hB : en σ + 0 ≤ 20000) : en (f_X5_follow_2 σ lo a0 b0 c0 d0) ≤ 20000 := by
  rw [show en (f_X5_follow_2 σ lo a0 b0 c0 d0) = en σ from congrArg Int32.toNatClampNeg fevs_2.2.1]
  omega
theorem fevs_3 {σ : Sg} {lo a0 b0 c0 d0 : Int32} : (f_X5_follow_3 σ lo a0 b0 c0 d0).1 30 = σ.1 30 ∧ gs (f_X5_follow_3 σ lo a0 b0 c0 d0) 5 = gs σ 5 ∧ gs (f_X5_follow_3 σ lo a0 b0 c0 d0) 6 = gs σ 6 ∧ gs (f_X5_follow_3 σ lo a0 b0 c0 d0) 7 = gs σ 7 := fev_3_
theorem fev_3 {σ : Sg} {lo a0 b0 c0 d0 : Int32} (hE : EvOK σ) (hB : en σ + 0 ≤ 20000) : EvOK (f_X5_follow_3 σ lo a0 b0 c0 d0) := ev_same fevs_3 hE
theorem fen_3 {σ : Sg} {lo a0 b0 c0 d0 : Int32} (hE : EvOK σ) (hB : en σ + 0 ≤ 20000) : en (f_X5_follow_3 σ lo a0 b0 c0 d0) ≤ 20000 := by
  rw [show en (f_X5_follow_3 σ lo a0 b0 c0 d0) = en σ from congrArg Int32.toNatClampNeg fevs_3.2.1]
  omega
theorem fevs_4 {σ : Sg} {lo a0 b0 c0 d0 : Int32} : (f_X5_follow_4 σ lo a0 b0 c0 d0).1 30 = σ.1 30 ∧ gs (f_X5_follow_4 σ lo a0 b0 c0 d0) 5 = gs σ 5 ∧ gs (f_X5_follow_4 σ lo a0 b0 c0 d0) 6 = gs σ 6 ∧ gs (f_X5_follow_4 σ lo a0 b0 c0 d0) 7 = gs σ 7 := fev_4_
theorem fev_4 {σ : Sg} {lo a0 b0 c0 d0 : Int32} (hE : EvOK σ) (hB : en σ + 0 ≤ 20000) : EvOK (f_X5_follow_4 σ lo a0 b0 c0 d0) := ev_same fevs_4 hE
theorem fen_4 {σ : Sg} {lo a0 b0 c0 d0 : Int32} (hE : EvOK σ) (hB : en σ + 0 ≤ 20000) : en (f_X5_follow_4 σ lo a0 b0 c0 d0) ≤ 20000 := by
  rw [show en (f_X5_follow_4 σ lo a0 b0 c0 d0) = en σ from congrArg Int32.toNatClampNeg fevs_4.2.1]
  omega
theorem fevs_5 {σ : Sg} {lo a0 b0 c0 d0 : Int32} : (f_X5_follow_5 σ lo a0 b0 c0 d0).1 30 = σ.1 30 ∧ gs (f_X5_follow_5 σ lo a0 b0 c0 d0) 5 = gs σ 5 ∧ gs (f_X5_follow_5 σ lo a0 b0 c0 d0) 6 = gs σ 6 ∧ gs (f_X5_follow_5 σ lo a0 b0 c0 d0) 7 = gs σ 7 := fev_5_
theorem fev_5 {σ : Sg} {lo a0 b0 c0 d0 : Int32} (hE : EvOK σ) (hB : en σ + 0 ≤ 20000) : EvOK (f_X5_follow_5 σ lo a0 b0 c0 d0) := ev_same fevs_5 hE
theorem fen_5 {σ : Sg} {lo a0 b0 c0 d0 : Int32} (hE : EvOK σ) (hB : en σ + 0 ≤ 20000) : en (f_X5_follow_5 σ lo a0 b0 c0 d0) ≤ 20000 := by
  rw [show en (f_X5_follow_5 σ lo a0 b0 c0 d0) = en σ from congrArg Int32.toNatClampNeg fevs_5.2.1]
  omega
theorem fevs_6 {σ : Sg} {lo a0 b0 c0 d0 : Int32} : (f_X5_follow_6 σ lo a0 b0 c0 d0).1 30 = σ.1 30 ∧ gs (f_X5_follow_6 σ lo a0 b0 c0 d0) 5 = gs σ 5 ∧ gs (f_X5_follow_6 σ lo a0 b0 c0 d0) 6 = gs σ 6 ∧ gs (f_X5_follow_6 σ lo a0 b0 c0 d0) 7 = gs σ 7 := fev_6_
theorem fev_6 {σ : Sg} {lo a0 b0 c0 d0 : Int32} (hE : EvOK σ) (hB : en σ + 0 ≤ 20000) : EvOK (f_X5_follow_6 σ lo a0 b0 c0 d0) := ev_same fevs_6 hE
theorem fen_6 {σ : Sg} {lo a0 b0 c0 d0 : Int32} (hE : EvOK σ) (hB : en σ + 0 ≤ 20000) : en (f_X5_follow_6 σ lo a0 b0 c0 d0) ≤ 20000 := by
  rw [show en (f_X5_follow_6 σ lo a0 b0 c0 d0) = en σ from congrArg Int32.toNatClampNeg fevs_6.2.1]
  omega
theorem fevs_7 {σ : Sg} {lo a0 b0 c0 d0 : Int32} : (f_X5_follow_7 σ lo a0 b0 c0 d0).1 30 = σ.1 30 ∧ gs (f_X5_follow_7 σ lo a0 b0 c0 d0) 5 = gs σ 5 ∧ gs (f_X5_follow_7 σ lo a0 b0 c0 d0) 6 = gs σ 6 ∧ gs (f_X5_follow_7 σ lo a0 b0 c0 d0) 7 = gs σ 7 := fev_7_
theorem fev_7 {σ : Sg} {lo a0 b0 c0 d0 : Int32} (hE : EvOK σ) (hB : en σ + 0 ≤ 20000) : EvOK (f_X5_follow_7 σ lo a0 b0 c0 d0) := ev_same fevs_7 hE
theorem fen_7 {σ : Sg} {lo a0 b0 c0 d0 : Int32} (hE : EvOK σ) (hB : en σ + 0 ≤ 20000) : en (f_X5_follow_7 σ lo a0 b0 c0 d0) ≤ 20000 := by
  rw [show en (f_X5_follow_7 σ lo a0 b0 c0 d0) = en σ from congrArg Int32.toNatClampNeg fevs_7.2.1]
  omega
theorem fevs_8 {σ : Sg} {lo a0 b0 c0 d0 : Int32} : (f_X5_follow_8 σ lo a0 b0 c0 d0).1 30 = σ.1 30 ∧ gs (f_X5_follow_8 σ lo a0 b0 c0 d0) 5 = gs σ 5 ∧ gs (f_X5_follow_8 σ lo a0 b0 c0 d0) 6 = gs σ 6 ∧ gs (f_X5_follow_8 σ lo a0 b0 c0 d0) 7 = gs σ 7 := fev_8_
theorem fev_8 {σ : Sg} {lo a0 b0 c0 d0 : Int32} (hE : EvOK σ) (hB : en σ + 0 ≤ 20000) : EvOK (f_X5_follow_8 σ lo a0 b0 c0 d0) := ev_same fevs_8 hE
theorem fen_8 {σ : Sg} {lo a0 b0 c0 d0 : Int32} (hE : EvOK σ) (hB : en σ + 0 ≤ 20000) : en (f_X5_follow_8 σ lo a0 b0 c0 d0) ≤ 20000 := by
  rw [show en (f_X5_follow_8 σ lo a0 b0 c0 d0) = en σ from congrArg Int32.toNatClampNeg fevs_8.2.1]
  omega
theorem fevs_9 {σ : Sg} {lo a0 b0 c0 d0 : Int32} : (f_X5_follow_9 σ lo a0 b0 c0 d0).1 30 = σ.1 30 ∧ gs (f_X5_follow_9 σ lo a0 b0 c0 d0) 5 = gs σ 5 ∧ gs (f_X5_follow_9 σ lo a0 b0 c0 d0) 6 = gs σ 6 ∧ gs (f_X5_follow_9 σ lo a0 b0 c0 d0) 7 = gs σ 7 := fev_9_
theorem fev_9 {σ : Sg} {lo a0 b0 c0 d0 : Int32} (hE : EvOK σ) (hB : en σ + 0 ≤ 20000) : EvOK (f_X5_follow_9 σ lo a0 b0 c0 d0) := ev_same fevs_9 hE
theorem fen_9 {σ : Sg} {lo a0 b0 c0 d0 : Int32} (hE : EvOK σ) (hB : en σ + 0 ≤ 20000) : en (f_X5_follow_9 σ lo a0 b0 c0 d0) ≤ 20000 := by
  rw [show en (f_X5_follow_9 σ lo a0 b0 c0 d0) = en σ from congrArg Int32.toNatClampNeg fevs_9.2.1]
  omega
theorem fevs_10 {σ : Sg} {lo a0 b0 c0 d0 : Int32} : (f_X5_follow_10 σ lo a0 b0 c0 d0).1 30 = σ.1 30 ∧ gs (f_X5_follow_10 σ lo a0 b0 c0 d0) 5 = gs σ 5 ∧ gs (f_X5_follow_10 σ lo a0 b0 c0 d0) 6 = gs σ 6 ∧ gs (f_X5_follow_10 σ lo a0 b0 c0 d0) 7 = gs σ 7 := fev_10_
theorem fev_10 {σ : Sg} {lo a0 b0 c0 d0 : Int32} (hE : EvOK σ) (hB : en σ + 0 ≤ 20000) : EvOK (f_X5_follow_10 σ lo a0 b0 c0 d0) := ev_same fevs_10 hE
theorem fen_10 {σ : Sg} {lo a0 b0 c0 d0 : Int32} (hE : EvOK σ) (hB : en σ + 0 ≤ 20000) : en (f_X5_follow_10 σ lo a0 b0 c0 d0) ≤ 20000 := by
  rw [show en (f_X5_follow_10 σ lo a0 b0 c0 d0) = en σ from congrArg Int32.toNatClampNeg fevs_10.2.1]
  omega
theorem fev_11 {σ : Sg} {lo : Int32} {mm : Nat} {b0 c0 d0 : Int32} (hE : EvOK σ) (hB : en σ + 20 * mm ≤ 20000) (hW : WF σ) : EvOK (f_X5_follow_11 σ lo mm b0 c0 d0) := (EK_X5_letMonthsPass hE hB hW).1
theorem fen_11 {σ : Sg} {lo : Int32} {mm : Nat} {b0 c0 d0 : Int32} (hE : EvOK σ) (hB : en σ + 20 * mm ≤ 20000) (hW : WF σ) : en (f_X5_follow_11 σ lo mm b0 c0 d0) ≤ 20000 := by
  have h := (EK_X5_letMonthsPass hE hB hW).2.2.1
  show en (f_X5_letMonthsPass σ mm) ≤ 20000
  omega
