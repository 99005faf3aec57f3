/-! THE LAW'S TURNS, as facts of the state -/
theorem Sm_z {f : Nat → Int} : ∀ {n : Nat}, (∀ k, k < n → f k = 0) → Sm f n = 0 := by
  intro n
  induction n with
  | zero => intro _; rfl
  | succ n ih =>
    intro h
    show Sm f n + f n = 0
    rw [ih (fun k hk => h k (by omega)), h n (by omega)]
    rfl
theorem cnt0 : cnt σ0 = 0 := by decide
theorem inv0 : Inv 0 0 σ0 := by
  have z10 : Sm (rI 10 σ0) 16 = 0 := Sm_z (fun k _ => (by decide : (0 : Int32).toInt = 0))
  have zl : Sm (lI σ0) 6 = 0 := Sm_z (fun k _ => (by decide : (0 : Int64).toInt = 0))
  have z11 : Sm (rI 11 σ0) 16 = 0 := Sm_z (fun k _ => (by decide : (0 : Int32).toInt = 0))
  refine ⟨⟨σ0_wf, σ0_ev, fun j hj => absurd hj (by show ¬ j < 0; omega), ⟨fun k _ => by show -100 ≤ (0 : Int32).toInt ∧ (0 : Int32).toInt ≤ 100 ∧ 1 ≤ (10 : Int32).toInt ∧ (10 : Int32).toInt ≤ 50; decide, fun k _ => by show 0 ≤ (0 : Int32).toInt ∧ (0 : Int32).toInt ≤ 99 ∧ -100 ≤ (0 : Int32).toInt ∧ (0 : Int32).toInt ≤ 100 ∧ 0 ≤ (0 : Int32).toInt ∧ (0 : Int32).toInt ≤ 9; decide, by show 0 ≤ (0 : Int32).toInt ∧ (0 : Int32).toInt ≤ 999; decide, by show 0 ≤ (0 : Int32).toInt ∧ (0 : Int32).toInt ≤ 9; decide⟩, ⟨fun k _ => by show 0 ≤ (0 : Int32).toInt ∧ 0 ≤ (0 : Int32).toInt ∧ ((0 : Int32).toInt = 0 → (0 : Int32).toInt = 0); decide, by rw [z10]; decide, by rw [z11]; decide⟩, ⟨0, by rw [z10]; decide⟩, ⟨fun p hp => absurd hp (by rw [cnt0]; omega), fun p q hp => absurd hp (by rw [cnt0]; omega), fun p hp => absurd hp (by rw [cnt0]; omega)⟩, fun w _ => ?_, ⟨fun h => absurd h (by rw [cnt0]; omega), fun w _ _ => ⟨rfl, (by decide : (0 : Int32).toInt = 0), (by decide : (0 : Int32).toInt = 0), (by decide : (0 : Int64).toInt = 0)⟩⟩, ⟨0, by rw [zl]; decide⟩⟩, by decide, by decide, by decide, by decide⟩
  refine ⟨by show 0 ≤ (0 : Int32).toInt ∧ (0 : Int32).toInt ≤ 999; decide, by show 0 ≤ (0 : Int32).toInt ∧ (0 : Int32).toInt ≤ 99; decide, by show 0 ≤ (0 : Int32).toInt ∧ (0 : Int32).toInt ≤ (0 : Int64).toInt ∧ (0 : Int64).toInt ≤ _; decide, by show 0 ≤ (0 : Int32).toInt ∧ (0 : Int32).toInt ≤ _; decide, by show (0 : Int32).toInt ≤ (0 : Int32).toInt + (0 : Int32).toInt; decide, Or.inl rfl⟩
/-- the state is what the diary's calls make -/
def DI (C M : Nat) (u : SOB) (σ : Sg) (cvs : List CV) : Prop := Inv C M σ ∧ OkU u ∧ Dg u cvs ∧ folS (-1) cvs σ0 = σ ∧ leg cvs 0 0 ∧ cvs.length = C ∧ nM cvs = M
theorem DI.cn {C M : Nat} {u : SOB} {σ : Sg} {cvs : List CV} (h : DI C M u σ cvs) : cnt σ = nA cvs := by
  obtain ⟨hI, hu, hg, hf, hl, hn, hm⟩ := h
  have h2 := hI.2.2.2.1
  have hc := (inv_folS (lo := -1) cvs σ0 0 0 inv0 (by omega) (by rw [cnt0]; exact hl)).2.1
  rw [hf, cnt0] at hc
  omega
theorem DI.add {C M : Nat} {u u' : SOB} {σ : Sg} {cvs : List CV} {v : CV} (h : DI C M u σ cvs) (hC : C ≤ 500) (hv : okN v (cnt σ) M) (hx : Nx u v u') : DI (C + 1) (M + isM v) u' (fo1 (-1) v σ) (cvs ++ [v]) := by
  have hcn := h.cn
  obtain ⟨hI, hu, hg, hf, hl, hn, hm⟩ := h
  refine ⟨(inv_fo1 hI (by omega) hv).1, hx.1, hg.add (by omega) hx, by rw [folS_app, hf]; rfl, (leg_app cvs [v] 0 0).mpr ⟨hl, ?_, trivial⟩, by rw [List.length_append, hn]; rfl, by rw [nM_app, hm]; rfl⟩
  rw [Nat.zero_add, Nat.zero_add, ← hcn, hm]
  exact hv
/-- what a call that is no addWell keeps of the wells -/
def KW (τ σ : Sg) : Prop := cnt τ = cnt σ ∧ rI 19 τ = rI 19 σ ∧ Sm (rI 20 τ) 6 ≤ Sm (rI 20 σ) 6
theorem KW.r {τ σ : Sg} (h4 : gs τ 4 = gs σ 4) (h19 : τ.1 19 = σ.1 19) (h20 : τ.1 20 = σ.1 20) : KW τ σ := ⟨congrArg Int32.toNatClampNeg h4, by unfold rI; rw [h19], by unfold rI; rw [h20]; exact Int.le_refl _⟩
theorem KW.rf {σ : Sg} : KW σ σ := ⟨rfl, rfl, Int.le_refl _⟩
theorem KW.fl {τ σ : Sg} (h : FL τ σ) : KW τ σ := KW.r h.2.2.1 (h.1 19 (by omega)) (h.1 20 (by omega))
theorem fill_r {σ : Sg} {x y z w : Int32} {a : Nat} (h8 : a ≠ 8) (h9 : a ≠ 9) (h10 : a ≠ 10) (h11 : a ≠ 11) : (f_X5_fillCell σ x y z w).1 a = σ.1 a := (si_ne h11).trans ((si_ne h10).trans ((si_ne h9).trans (si_ne h8)))
theorem Sm_2 {f g : Nat → Int} {x y : Nat} {z : Int} (hx : x < 6) (hy : y < 6) (hne : x ≠ y) (h : ∀ w, g w = if w = y then f w + z else if w = x then f w - z else f w) : Sm g 6 = Sm f 6 := by
  have e1 : Sm g 6 = Sm (fun w => if w = y then f y + z else (fun v => if v = x then f x - z else f v) w) 6 := Sm_congr (fun k _ => by
    rw [h k]
    show _ = if k = y then f y + z else if k = x then f x - z else f k
    by_cases e : k = y
    · rw [if_pos e, if_pos e, e]
    · rw [if_neg e, if_neg e]
      by_cases e2 : k = x
      · rw [if_pos e2, if_pos e2, e2]
      · rw [if_neg e2, if_neg e2])
  rw [e1, Sm_upd hy, Sm_upd hx]
  show Sm f 6 + (f x - z) - f x + (f y + z) - (if y = x then f x - z else f y) = Sm f 6
  rw [if_neg (fun e => hne e.symm)]
  omega
theorem KW.fm {C M : Nat} {τ σ : Sg} (h : Inv C M σ) (f : FM τ σ) : KW τ σ := by
  refine ⟨congrArg Int32.toNatClampNeg f.2.2.2.1, by unfold rI; rw [f.1 19 (by omega)], Sm_le (fun w hw => ?_)⟩
  rcases f.2.2.2.2 w with e | e
  · rw [e]; exact Int.le_refl _
  · rw [e]; exact (h.aw w hw).1.1
theorem kw_of {C M : Nat} {σ : Sg} {v : CV} (h : Inv C M σ) (hC : C + 1 ≤ 1000) (hv : okN v (cnt σ) M) (h8 : v.1 ≠ 8) : KW (fo1 (-1) v σ) σ := by
  obtain ⟨k, a, b, c, d⟩ := v
  match k, hv, h8 with
  | 0, _, _ => exact KW.r (congrFun (fill_r (by decide) (by decide) (by decide) (by decide)) 4) (fill_r (by decide) (by decide) (by decide) (by decide)) (fill_r (by decide) (by decide) (by decide) (by decide))
  | 1, _, _ => exact KW.fl (FL_si (by omega))
  | 2, _, _ => exact KW.fl (FL_si (by omega))
  | 3, _, _ => exact KW.fl (FL_si (by omega))
  | 4, _, _ => exact KW.fl (FL_si (by omega))
  | 5, _, _ => exact KW.fl ((FL_si (by omega)).tr (FL_si (by omega)))
  | 6, _, _ => exact KW.fl (FL_ss (by omega))
  | 7, _, _ => exact KW.fl (FL_ss (by omega))
  | 8, _, h8 => exact absurd rfl h8
  | 9, _, _ =>
    show KW (f_X5_follow_9 σ (-1) a b c d) σ
    unfold f_X5_follow_9
    split
    · exact KW.rf
    · exact KW.r (congrFun (si_ne (by decide)) 4) (si_ne (by decide)) (si_ne (by decide))
  | 10, hv, _ =>
    obtain ⟨h1, h2, h3⟩ := hv
    show KW (f_X5_followTransfer σ (-1) a b c) σ
    have hk : Kp (f_X5_followTransfer σ (-1) a b c) σ := KP_X5_followTransfer
    refine ⟨congrArg Int32.toNatClampNeg hk.2.2.2.2.1, by unfold rI; rw [hk.2.1], ?_⟩
    unfold f_X5_followTransfer
    split
    · exact Int.le_refl _
    · split
      · exact Int.le_refl _
      · split
        · exact Int.le_refl _
        · rename_i hg
          obtain ⟨x1, x2⟩ := ix_n h.wf.le h1
          obtain ⟨y1, y2⟩ := ix_n h.wf.le h2
          obtain ⟨-, g2, g3, -, -⟩ := inv_give h hC x1 y1 (rgI 1 999 1 999 (by decide) (by decide) h3) y2 hg
          exact Int.le_of_eq (Sm_2 (vp_lt x1) (vp_lt y1) g2 g3)
  | 11, hv, _ =>
    obtain ⟨mm, e, h1, h2, h3⟩ := hv
    have e : a = nI mm := e
    subst e
    rw [fo1_m (by omega)]
    exact KW.fm h (inv_months mm M σ h h3).2.1
  | k + 12, hv, _ => exact hv.elim
/-- what holds between the law's turns: C calls of o's diary, M months, A rights in all -/
def TI (t C M A : Nat) (yf : Nat → Int32) (uo up : SOB) (σ : Sg) (cvs : List CV) : Prop := DI C M uo σ cvs ∧ C ≤ 2 * t ∧ OkU up ∧ (∀ w, w < cnt σ → (yf w).toInt = rI 19 σ w) ∧ Sm (rI 20 σ) 6 ≤ (A : Int) ∧ A ≤ 1000 * t ∧ (1 ≤ t → uo.2.2.2.2 ≠ [] ∧ up.2.2.2.2 ≠ [])
/-- a turn that adds no well, by one call -/
theorem TI.one {t C M A : Nat} {yf : Nat → Int32} {uo up uo' up' : SOB} {σ : Sg} {cvs : List CV} {v : CV} (h : TI t C M A yf uo up σ cvs) (ht : t < 60) (hv : okN v (cnt σ) M) (h8 : v.1 ≠ 8) (ho : Nx uo v uo') (hp : OkU up' ∧ up'.2.2.2.2 ≠ []) : TI (t + 1) (C + 1) (M + isM v) A yf uo' up' (fo1 (-1) v σ) (cvs ++ [v]) := by
  obtain ⟨h1, h2, h3, h4, h5, h6, h7⟩ := h
  obtain ⟨k1, k2, k3⟩ := kw_of h1.1 (by omega) hv h8
  exact ⟨h1.add (by omega) hv ho, by omega, hp.1, fun w hw => by rw [k2]; exact h4 w (by rw [← k1]; exact hw), Int.le_trans k3 h5, by omega, fun _ => ⟨ho.2.1, hp.2⟩⟩
/-- two calls in one turn -/
theorem TI.two {t C M A : Nat} {yf : Nat → Int32} {uo up uo' uo2 up' : SOB} {σ : Sg} {cvs : List CV} {v w : CV} (h : TI t C M A yf uo up σ cvs) (ht : t < 60) (hv : okN v (cnt σ) M) (h8 : v.1 ≠ 8) (hw : okN w (cnt (fo1 (-1) v σ)) (M + isM v)) (h82 : w.1 ≠ 8) (ho : Nx uo v uo') (ho2 : Nx uo' w uo2) (hp : OkU up' ∧ up'.2.2.2.2 ≠ []) : TI (t + 1) (C + 2) (M + isM v + isM w) A yf uo2 up' (fo1 (-1) w (fo1 (-1) v σ)) (cvs ++ [v] ++ [w]) := by
  obtain ⟨h1, h2, h3, h4, h5, h6, h7⟩ := h
  obtain ⟨k1, k2, k3⟩ := kw_of h1.1 (by omega) hv h8
  have d1 := h1.add (by omega) hv ho
  obtain ⟨l1, l2, l3⟩ := kw_of d1.1 (by omega) hw h82
  exact ⟨d1.add (by omega) hw ho2, by omega, hp.1, fun w hw => by rw [l2, k2]; exact h4 w (by rw [← k1, ← l1]; exact hw), Int.le_trans l3 (Int.le_trans k3 h5), by omega, fun _ => ⟨ho2.2.1, hp.2⟩⟩
/-- a turn in which nothing is called -/
theorem TI.none {t C M A : Nat} {yf : Nat → Int32} {uo up : SOB} {σ : Sg} {cvs : List CV} (h : TI t C M A yf uo up σ cvs) (ht : 1 ≤ t) : TI (t + 1) C M A yf uo up σ cvs := ⟨h.1, by have := h.2.1; omega, h.2.2.1, h.2.2.2.1, h.2.2.2.2.1, by have := h.2.2.2.2.2.1; omega, fun _ => h.2.2.2.2.2.2 ht⟩
theorem Nx.ok {u u' : SOB} {v : CV} (h : Nx u v u') : OkU u' ∧ u'.2.2.2.2 ≠ [] := ⟨h.1, h.2.1⟩
/-- a new well -/
theorem TI.well {t C M A : Nat} {yf : Nat → Int32} {uo up uo' up' : SOB} {σ : Sg} {cvs : List CV} {x y z : Nat} (h : TI t C M A yf uo up σ cvs) (ht : t < 60) (hx : x < 16) (hz : z < 1000) (hn : cnt σ < 6) (ho : Nx uo (8, nI x, nI y, nI z, 0) uo') (hp : OkU up' ∧ up'.2.2.2.2 ≠ []) : TI (t + 1) (C + 1) M (A + z) (upd yf (nI (cnt σ)).toNatClampNeg (nI y)) uo' up' (fo1 (-1) (8, nI x, nI y, nI z, 0) σ) (cvs ++ [(8, nI x, nI y, nI z, 0)]) ∧ cnt (fo1 (-1) (8, nI x, nI y, nI z, 0) σ) = cnt σ + 1 := by
  obtain ⟨h1, h2, h3, h4, h5, h6, h7⟩ := h
  have hv : okN (8, nI x, nI y, nI z, 0) (cnt σ) M := show _ ∧ _ from ⟨rgN (m := 15) (by omega) (by decide), rgN (m := 999) (by omega) (by decide), hn⟩
  have zi : (nI z).toInt = (z : Int) := nI_toInt (by omega)
  obtain ⟨a1, a2, a3, a4⟩ := inv_add (x := nI x) (y := nI y) (z := nI z) h1.1 (by omega) (vp_in_nI hx (by decide)) ⟨by omega, by omega⟩ hn
  refine ⟨⟨h1.add (by omega) hv ho, by omega, hp.1, fun w hw => ?_, ?_, by omega, fun _ => ⟨ho.2.1, hp.2⟩⟩, a2⟩
  · have hw : w < cnt (f_X4_add σ (nI x) (nI y) (nI z)) := hw
    rw [a2] at hw
    show (upd yf (nI (cnt σ)).toNatClampNeg (nI y) w).toInt = rI 19 (f_X4_add σ (nI x) (nI y) (nI z)) w
    rw [a4, nI_clamp (by omega)]
    show (upd yf (cnt σ) (nI y) w).toInt = if w = cnt σ then (nI y).toInt else rI 19 σ w
    by_cases e : w = cnt σ
    · rw [if_pos e, e, pk_us]
    · rw [if_neg e, pk_un e]
      exact h4 w (by omega)
  · show Sm (rI 20 (f_X4_add σ (nI x) (nI y) (nI z))) 6 ≤ ((A + z : Nat) : Int)
    have h0 := (h1.1.sh.2 (cnt σ) (Nat.le_refl _) hn).2.2.1
    rw [a3, Sm_upd hn, h0]
    omega
/-- the order of rights -/
theorem or_1 {t C M A : Nat} {yf : Nat → Int32} {uo up : SOB} {σ : Sg} {cvs : List CV} {k : Nat} (h : TI t C M A yf uo up σ cvs) (h1 : 1 ≤ k) (hk : k < cnt σ) : ¬ yf (gi σ 27 (nI k)).toNatClampNeg < yf (gi σ 27 (nI (k - 1))).toNatClampNeg ∧ (yf (gi σ 27 (nI (k - 1))).toNatClampNeg = yf (gi σ 27 (nI k)).toNatClampNeg → gi σ 27 (nI (k - 1)) ≤ gi σ 27 (nI k)) := by
  have h6 := h.1.1.wf.le
  have ow := h.1.1.ow
  obtain ⟨e1, l1⟩ := cl_oe h.1.1 (i := k - 1) (by omega)
  obtain ⟨e2, l2⟩ := cl_oe h.1.1 (i := k) hk
  have y1 := h.2.2.2.1 _ l1
  have y2 := h.2.2.2.1 _ l2
  have o := ow.2.2 (k - 1) (by omega)
  rw [show k - 1 + 1 = k by omega] at o
  rw [gi_oN (by omega), gi_oN (by omega), e1, e2]
  refine ⟨fun z => ?_, fun z => ?_⟩
  · rw [i_lt] at z
    rcases o with o | o <;> omega
  · rw [i_eq] at z
    rcases o with o | o
    · omega
    · exact nI_le (by omega) (by omega)
