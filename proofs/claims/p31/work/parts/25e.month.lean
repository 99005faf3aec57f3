/-! A MONTH; what holds of every world -/
theorem PI.fw {N M K G : Int} {τ σ : Sg} (h : PI N K G σ) (f : FW τ σ) (hE : EvOK τ) (hC : EC τ) (hW : WB M τ) (hB : BK τ) : PI M K G τ := by
  obtain ⟨a1, -, -, a4, -, -, a7, a8, a9, a10⟩ := h
  have m1 : ∀ a, a = 18 ∨ a = 19 ∨ a = 20 ∨ a = 21 ∨ a = 22 ∨ a = 24 ∨ a = 26 ∨ a = 27 → τ.1 a = σ.1 a := fun a ha => f.1 a (by omega) (by omega) (by omega) (by omega) (by omega) (by omega) (by omega)
  have mr : ∀ a, a = 18 ∨ a = 19 ∨ a = 20 ∨ a = 21 ∨ a = 22 ∨ a = 24 ∨ a = 26 ∨ a = 27 → rI a τ = rI a σ := fun a ha => by funext k; unfold rI; rw [m1 a ha]
  have m4 : gs τ 4 = gs σ 4 := f.2.1 4 (by decide) (by decide) (by decide)
  have mc : cnt τ = cnt σ := congrArg Int32.toNatClampNeg m4
  have mo : oN τ = oN σ := by funext p; unfold oN; rw [m1 27 (by omega)]
  have m23 : τ.2 23 = σ.2 23 := f.2.2.1 23 (by decide)
  refine ⟨⟨⟨by rw [m4, mc]; exact a1.1.1, by rw [mc]; exact a1.1.2⟩, fun v hv => by rw [m1 18 (by omega)]; exact a1.2.1 v hv, fun v hv => by rw [m1 27 (by omega)]; exact a1.2.2 v hv⟩, hE, hC, a4.fw f, hW, hB, a7.same (m1 27 (by omega)) (m1 19 (by omega)) m4, ?_, ?_, ?_⟩
  · unfold AW
    rw [mr 20 (by omega), mr 21 (by omega), mr 22 (by omega), mr 26 (by omega), m1 24 (by omega), m23]
    exact a8
  · unfold SH
    rw [mc, mo, m1 24 (by omega), mr 22 (by omega), mr 20 (by omega), m23]
    exact a9
  · unfold PS lI
    rw [m23, f.2.2.2]
    exact a10
/-! notes of the river -/
theorem ec_bed {σ : Sg} {x y : Int32} (hC : EC σ) (hE : EvOK σ) (hb : en σ + 1 ≤ 20000) : EC (f_X5_runThroughBed σ x y).2 := by
  unfold f_X5_runThroughBed
  have s1 : ∀ (v : Int32) (u : Int64), EC (sl (si σ 10 x v) 28 3 u) := fun v u => hC.same (show (si σ 10 x v).1 30 = σ.1 30 from si_ne (by decide)) (show (si σ 10 x v).1 0 5 = σ.1 0 5 from congrFun (si_ne (by decide)) 5)
  have s2 : ∀ (v : Int32) (u : Int64), EvOK (sl (si σ 10 x v) 28 3 u) := fun v u => ev_same ⟨show (si σ 10 x v).1 30 = σ.1 30 from si_ne (by decide), show (si σ 10 x v).1 0 5 = σ.1 0 5 from congrFun (si_ne (by decide)) 5, show (si σ 10 x v).1 0 6 = σ.1 0 6 from congrFun (si_ne (by decide)) 6, show (si σ 10 x v).1 0 7 = σ.1 0 7 from congrFun (si_ne (by decide)) 7⟩ hE
  have s3 : ∀ (v : Int32) (u : Int64), en (sl (si σ 10 x v) 28 3 u) = en σ := fun v u => congrArg Int32.toNatClampNeg (show (si σ 10 x v).1 0 5 = σ.1 0 5 from congrFun (si_ne (by decide)) 5)
  split
  · split
    · exact s1 _ _
    · split
      · exact EC_note (k := 100) (s1 _ _) (s2 _ _) (by rw [s3]; exact hb) (Or.inr (Or.inl rfl))
      · exact s1 _ _
  · exact hC.same (takeOut_r (by decide) (by decide)) (congrFun (takeOut_r (by decide) (by decide)) 5)
theorem ec_river : ∀ (k i : Nat) (τ : Sg) (y : Int32), EC τ → EvOK τ → en τ + k ≤ 20000 → EC (f_X5_letRiverRun_L11 k i τ y) := by
  intro k
  induction k with
  | zero => intro i τ y h _ _; rw [f_X5_letRiverRun_L11]; exact h.same rfl rfl
  | succ k ih =>
    intro i τ y h hE hb
    rw [f_X5_letRiverRun_L11]
    obtain ⟨e1, e2, e3, -⟩ := EK_X5_runThroughBed (x := nI k) (y := y) hE (by omega)
    exact ih _ _ _ (ec_bed h hE (by omega)) e1 (by omega)
/-! the year's end -/
theorem forf_s {σ : Sg} {x : Int32} : (∀ a, a ≠ 25 → a ≠ 20 → (f_X4_forfeits σ x).2.1 a = σ.1 a) ∧ (f_X4_forfeits σ x).2.2 = σ.2 ∧ ((f_X4_forfeits σ x).2.1 20 = σ.1 20 ∨ (f_X4_forfeits σ x).2.1 20 = upd (σ.1 20) x.toNatClampNeg 0) := by
  have one : ∀ v : Int32, (∀ a, a ≠ 25 → a ≠ 20 → (si σ 25 x v).1 a = σ.1 a) ∧ (si σ 25 x v).2 = σ.2 ∧ ((si σ 25 x v).1 20 = σ.1 20 ∨ (si σ 25 x v).1 20 = upd (σ.1 20) x.toNatClampNeg 0) := fun v => ⟨fun a h _ => si_ne h, rfl, Or.inl (si_ne (by decide))⟩
  have two : ∀ v : Int32, (∀ a, a ≠ 25 → a ≠ 20 → (si (si (si σ 25 x v) 20 x 0) 25 x 0).1 a = σ.1 a) ∧ (si (si (si σ 25 x v) 20 x 0) 25 x 0).2 = σ.2 ∧ ((si (si (si σ 25 x v) 20 x 0) 25 x 0).1 20 = σ.1 20 ∨ (si (si (si σ 25 x v) 20 x 0) 25 x 0).1 20 = upd (σ.1 20) x.toNatClampNeg 0) := fun v => ⟨fun a h h2 => (si_ne h).trans ((si_ne h2).trans (si_ne h)), rfl, Or.inr (by rw [si_ne (by decide), r_si, si_ne (by decide)])⟩
  unfold f_X4_forfeits
  repeat' split
  all_goals first | exact one _ | exact two _
def FY (τ σ : Sg) : Prop := (∀ a, a ≠ 0 → a ≠ 20 → a ≠ 22 → a ≠ 24 → a ≠ 25 → a ≠ 26 → a ≠ 30 → τ.1 a = σ.1 a) ∧ (∀ j, j ≠ 5 → j ≠ 6 → j ≠ 7 → τ.1 0 j = σ.1 0 j) ∧ τ.2 = σ.2 ∧ ∀ w, rI 20 τ w = rI 20 σ w ∨ rI 20 τ w = 0
theorem FY.rf {σ : Sg} : FY σ σ := ⟨fun _ _ _ _ _ _ _ _ => rfl, fun _ _ _ _ => rfl, rfl, fun _ => Or.inl rfl⟩
theorem FY.tr {ρ τ σ : Sg} (h : FY ρ τ) (k : FY τ σ) : FY ρ σ := ⟨fun a h0 h1 h2 h3 h4 h5 h6 => (h.1 a h0 h1 h2 h3 h4 h5 h6).trans (k.1 a h0 h1 h2 h3 h4 h5 h6), fun j h5 h6 h7 => (h.2.1 j h5 h6 h7).trans (k.2.1 j h5 h6 h7), h.2.2.1.trans k.2.2.1, fun w => by
  rcases h.2.2.2 w with e | e
  · rcases k.2.2.2 w with f | f
    · exact Or.inl (e.trans f)
    · exact Or.inr (e.trans f)
  · exact Or.inr e⟩
set_option maxHeartbeats 1000000 in
theorem yearW_s {τ φ ρ : Sg} {N K G : Int} {i : Nat} (h : PI N K G τ) (hi : i < cnt τ) (hf : (∀ a, a ≠ 25 → a ≠ 20 → φ.1 a = τ.1 a) ∧ φ.2 = τ.2 ∧ (φ.1 20 = τ.1 20 ∨ φ.1 20 = upd (τ.1 20) i 0)) (hρ : ρ = φ ∨ (ρ = f_X5_note φ (nI 102) ∧ en τ + 1 ≤ 20000)) :
    PI N K G (f_X4_startYear ρ (nI i)) ∧ FY (f_X4_startYear ρ (nI i)) τ ∧ (∀ w, w ≠ i → rI 22 (f_X4_startYear ρ (nI i)) w = rI 22 τ w ∧ (f_X4_startYear ρ (nI i)).1 24 w = τ.1 24 w) ∧ rI 22 (f_X4_startYear ρ (nI i)) i = 0 ∧ (f_X4_startYear ρ (nI i)).1 24 i = 0 ∧ en (f_X4_startYear ρ (nI i)) ≤ en τ + 1 ∧ en τ ≤ en (f_X4_startYear ρ (nI i)) := by
  obtain ⟨hW, hE, hC, hL, hWB, hB, hO, hA, hS, hP⟩ := h
  have hle := hW.le
  have hc : (nI i).toNatClampNeg = i := nI_clamp (by omega)
  obtain ⟨f1, f2, f3⟩ := hf
  have fE : EvOK φ := ev_same ⟨f1 30 (by decide) (by decide), congrFun (f1 0 (by decide) (by decide)) 5, congrFun (f1 0 (by decide) (by decide)) 6, congrFun (f1 0 (by decide) (by decide)) 7⟩ hE
  have fen : en φ = en τ := congrArg Int32.toNatClampNeg (congrFun (f1 0 (by decide) (by decide)) 5)
  have fC : EC φ := hC.same (f1 30 (by decide) (by decide)) (congrFun (f1 0 (by decide) (by decide)) 5)
  have r0 : (∀ a, a ≠ 0 → a ≠ 30 → ρ.1 a = φ.1 a) ∧ (∀ j, j ≠ 5 → j ≠ 6 → j ≠ 7 → ρ.1 0 j = φ.1 0 j) ∧ ρ.2 = φ.2 ∧ EvOK ρ ∧ EC ρ ∧ en ρ ≤ en τ + 1 ∧ en τ ≤ en ρ := by
    rcases hρ with rfl | ⟨rfl, hb⟩
    · exact ⟨fun _ _ _ => rfl, fun _ _ _ _ => rfl, rfl, fE, fC, by omega, by omega⟩
    · have v := EK_note (k := 102) fE (by omega) (by decide)
      exact ⟨fun a h0 h30 => note_r h0 h30, fun j h5 h6 h7 => note_0 h5 h6 h7, rfl, v.1, EC_note fC fE (by omega) (Or.inr (Or.inr rfl)), by have := v.2.2.1; omega, by have := v.2.1; omega⟩
  obtain ⟨r1, r2, r3, rE, rC, ren, ren2⟩ := r0
  unfold f_X4_startYear
  generalize hψ : si (si (si ρ 22 (nI i) 0) 26 (nI i) 0) 24 (nI i) 0 = ψ
  have p1 : ∀ a, a ≠ 22 → a ≠ 26 → a ≠ 24 → ψ.1 a = ρ.1 a := fun a h1 h2 h3 => by rw [← hψ]; exact (si_ne h3).trans ((si_ne h2).trans (si_ne h1))
  have p0 : ∀ j, ψ.1 0 j = ρ.1 0 j := fun j => by rw [p1 0 (by decide) (by decide) (by decide)]
  have pl : ψ.2 = τ.2 := by rw [← hψ]; show ρ.2 = τ.2; rw [r3, f2]
  have q1 : ∀ a, a ≠ 0 → a ≠ 20 → a ≠ 22 → a ≠ 24 → a ≠ 25 → a ≠ 26 → a ≠ 30 → ψ.1 a = τ.1 a := fun a h0 h20 h22 h24 h25 h26 h30 => (p1 a h22 h26 h24).trans ((r1 a h0 h30).trans (f1 a h25 h20))
  have q0 : ∀ j, j ≠ 5 → j ≠ 6 → j ≠ 7 → ψ.1 0 j = τ.1 0 j := fun j h5 h6 h7 => (p0 j).trans ((r2 j h5 h6 h7).trans (congrFun (f1 0 (by decide) (by decide)) j))
  have q22 : rI 22 ψ = fun w => if w = i then 0 else rI 22 τ w := by
    rw [← hψ, rI_ne (by decide), rI_ne (by decide), rI_si, hc, i_0]
    funext w
    by_cases e : w = i
    · rw [if_pos e, if_pos e]
    · rw [if_neg e, if_neg e]
      unfold rI
      rw [r1 22 (by decide) (by decide), f1 22 (by decide) (by decide)]
  have q26 : rI 26 ψ = fun w => if w = i then 0 else rI 26 τ w := by
    rw [← hψ, rI_ne (by decide), rI_si, hc, i_0, rI_ne (by decide)]
    funext w
    by_cases e : w = i
    · rw [if_pos e, if_pos e]
    · rw [if_neg e, if_neg e]
      unfold rI
      rw [r1 26 (by decide) (by decide), f1 26 (by decide) (by decide)]
  have q24 : ∀ w, ψ.1 24 w = if w = i then 0 else τ.1 24 w := by
    intro w
    rw [← hψ, r_si, hc, si_ne (by decide), si_ne (by decide), r1 24 (by decide) (by decide), f1 24 (by decide) (by decide)]
    rfl
  have q20 : ∀ w, rI 20 ψ w = rI 20 τ w ∨ (w = i ∧ rI 20 ψ w = 0) := by
    intro w
    have e0 : ψ.1 20 = φ.1 20 := (p1 20 (by decide) (by decide) (by decide)).trans (r1 20 (by decide) (by decide))
    rcases f3 with e | e
    · exact Or.inl (by unfold rI; rw [e0, e])
    · by_cases ew : w = i
      · refine Or.inr ⟨ew, ?_⟩
        unfold rI
        rw [e0, e]
        unfold upd
        rw [if_pos ew, i_0]
      · refine Or.inl ?_
        unfold rI
        rw [e0, e]
        unfold upd
        rw [if_neg ew]
  have qo : oN ψ = oN τ := by funext p; unfold oN; rw [q1 27 (by decide) (by decide) (by decide) (by decide) (by decide) (by decide) (by decide)]
  have q4 : gs ψ 4 = gs τ 4 := q0 4 (by decide) (by decide) (by decide)
  have qc : cnt ψ = cnt τ := congrArg Int32.toNatClampNeg q4
  have qE : EvOK ψ := ev_same ⟨p1 30 (by decide) (by decide) (by decide), p0 5, p0 6, p0 7⟩ rE
  have qen : en ψ = en ρ := congrArg Int32.toNatClampNeg (p0 5)
  have qr21 : rI 21 ψ = rI 21 τ := by funext w; unfold rI; rw [q1 21 (by decide) (by decide) (by decide) (by decide) (by decide) (by decide) (by decide)]
  refine ⟨⟨⟨⟨by rw [q4, qc]; exact hW.1.1, by rw [qc]; exact hle⟩, fun v hv => by rw [q1 18 (by decide) (by decide) (by decide) (by decide) (by decide) (by decide) (by decide)]; exact hW.2.1 v hv, fun v hv => by rw [q1 27 (by decide) (by decide) (by decide) (by decide) (by decide) (by decide) (by decide)]; exact hW.2.2 v hv⟩, qE, rC.same (p1 30 (by decide) (by decide) (by decide)) (p0 5), hL.same (fun a ha => q1 a (by omega) (by omega) (by omega) (by omega) (by omega) (by omega) (by omega)) (q0 2 (by decide) (by decide) (by decide)) (q0 3 (by decide) (by decide) (by decide)), hWB.same (q1 10 (by decide) (by decide) (by decide) (by decide) (by decide) (by decide) (by decide)) (q1 11 (by decide) (by decide) (by decide) (by decide) (by decide) (by decide) (by decide)), hB.same (q1 10 (by decide) (by decide) (by decide) (by decide) (by decide) (by decide) (by decide)) (by rw [pl]), hO.same (q1 27 (by decide) (by decide) (by decide) (by decide) (by decide) (by decide) (by decide)) (q1 19 (by decide) (by decide) (by decide) (by decide) (by decide) (by decide) (by decide)) q4, ?_, ?_, ?_⟩, ⟨q1, q0, pl, fun w => ?_⟩, fun w hw => ?_, ?_, ?_, by rw [qen]; exact ren, by rw [qen]; exact ren2⟩
  · intro w hw
    obtain ⟨⟨a1, a2⟩, b, ⟨c1, c2, c3⟩, ⟨d1, d2⟩, e1, g1⟩ := hA w hw
    rw [qr21, q22, q26, q24, pl]
    by_cases e : w = i
    · simp only [if_pos e]
      rcases q20 w with z | z
      · rw [z]; exact ⟨⟨a1, a2⟩, b, ⟨by omega, by omega, c3⟩, ⟨by omega, by omega⟩, by omega, Or.inl trivial⟩
      · rw [z.2]; exact ⟨⟨by omega, by omega⟩, b, ⟨by omega, by omega, c3⟩, ⟨by omega, by omega⟩, by omega, Or.inl trivial⟩
    · simp only [if_neg e]
      rcases q20 w with z | z
      · rw [z]; exact ⟨⟨a1, a2⟩, b, ⟨c1, c2, c3⟩, ⟨d1, d2⟩, e1, g1⟩
      · exact absurd z.1 e
  · refine ⟨fun z => ?_, fun w hw hw6 => ?_⟩
    · rw [qo, q24]
      split
      · rfl
      · exact hS.1 (by rw [← qc]; exact z)
    · rw [qc] at hw
      obtain ⟨x1, x2, x3, x4⟩ := hS.2 w hw hw6
      have e : w ≠ i := by omega
      rw [q24, q22, pl]
      simp only [if_neg e]
      refine ⟨x1, x2, ?_, x4⟩
      rcases q20 w with z | z
      · rw [z]; exact x3
      · exact z.2
  · unfold PS lI
    rw [pl]
    exact hP
  · rcases q20 w with z | z
    · exact Or.inl z
    · exact Or.inr z.2
  · rw [q22, q24]
    simp only [if_neg hw]
    exact ⟨trivial, trivial⟩
  · rw [q22]; exact if_pos rfl
  · rw [q24]; exact if_pos rfl
theorem year_s {N K G : Int} {n : Nat} : ∀ (k i : Nat) (τ : Sg), i + k = n → n = cnt τ → en τ + k ≤ 20000 → PI N K G τ → (∀ w, w < i → rI 22 τ w = 0 ∧ τ.1 24 w = 0) → PI N K G (f_X5_endYear_L2 k i τ) ∧ FY (f_X5_endYear_L2 k i τ) τ ∧ (∀ w, w < n → rI 22 (f_X5_endYear_L2 k i τ) w = 0 ∧ (f_X5_endYear_L2 k i τ).1 24 w = 0) := by
  intro k
  induction k with
  | zero => intro i τ hi _ _ h h0; rw [f_X5_endYear_L2]; exact ⟨h, FY.rf, fun w hw => h0 w (by omega)⟩
  | succ k ih =>
    intro i τ hi hn hb h h0
    rw [f_X5_endYear_L2]
    have hcl : (nI i).toNatClampNeg = i := nI_clamp (by have := h.1.le; omega)
    have hf := forf_s (σ := τ) (x := nI i)
    rw [hcl] at hf
    have go : ∀ ρ : Sg, (ρ = (f_X4_forfeits τ (nI i)).2 ∨ (ρ = f_X5_note (f_X4_forfeits τ (nI i)).2 (nI 102) ∧ en τ + 1 ≤ 20000)) → PI N K G (f_X5_endYear_L2 k (i + 1) (f_X4_startYear ρ (nI i))) ∧ FY (f_X5_endYear_L2 k (i + 1) (f_X4_startYear ρ (nI i))) τ ∧ (∀ w, w < n → rI 22 (f_X5_endYear_L2 k (i + 1) (f_X4_startYear ρ (nI i))) w = 0 ∧ (f_X5_endYear_L2 k (i + 1) (f_X4_startYear ρ (nI i))).1 24 w = 0) := by
      intro ρ hρ
      obtain ⟨a, b, c0, d1, d2, e1, -⟩ := yearW_s h (i := i) (by omega) hf hρ
      have bc : cnt (f_X4_startYear ρ (nI i)) = cnt τ := congrArg Int32.toNatClampNeg (b.2.1 4 (by decide) (by decide) (by decide))
      obtain ⟨x1, x2, x3⟩ := ih (i + 1) _ (by omega) (by rw [bc]; exact hn) (by omega) a (fun w hw => by
        by_cases e : w = i
        · subst e; exact ⟨d1, d2⟩
        · rw [(c0 w e).1, (c0 w e).2]; exact h0 w (by omega))
      exact ⟨x1, x2.tr b, x3⟩
    split
    · exact go _ (Or.inl rfl)
    · exact go _ (Or.inr ⟨rfl, by omega⟩)
theorem gs_s0 {σ : Sg} {v : Int32} : gs (ss σ 0 v) 0 = v := by
  show upd (σ.1 0) 0 v 0 = v
  exact pk_us
/-! a month -/
def f_month (σ : Sg) : Sg := f_X5_endMonth (f_X5_meetSea (f_X5_meetSea (f_X5_letSpringsRun (f_X5_letRiverRun (f_X5_letWaterFlow (f_X5_pumpWells (f_X5_letRainFall σ))))) 0) 8)
/-- what a month leaves as it is -/
def FM (τ σ : Sg) : Prop := (∀ a, a = 8 ∨ a = 9 ∨ a = 12 ∨ a = 13 ∨ a = 14 ∨ a = 15 ∨ a = 16 ∨ a = 17 ∨ a = 18 ∨ a = 19 ∨ a = 21 ∨ a = 27 → τ.1 a = σ.1 a) ∧ gs τ 2 = gs σ 2 ∧ gs τ 3 = gs σ 3 ∧ gs τ 4 = gs σ 4 ∧ ∀ w, rI 20 τ w = rI 20 σ w ∨ rI 20 τ w = 0
theorem FM.rf {σ : Sg} : FM σ σ := ⟨fun _ _ => rfl, rfl, rfl, rfl, fun _ => Or.inl rfl⟩
theorem FM.tr {ρ τ σ : Sg} (h : FM ρ τ) (k : FM τ σ) : FM ρ σ := ⟨fun a ha => (h.1 a ha).trans (k.1 a ha), h.2.1.trans k.2.1, h.2.2.1.trans k.2.2.1, h.2.2.2.1.trans k.2.2.2.1, fun w => by
  rcases h.2.2.2.2 w with e | e
  · rcases k.2.2.2.2 w with f | f
    · exact Or.inl (e.trans f)
    · exact Or.inr (e.trans f)
  · exact Or.inr e⟩
theorem FW.fm {τ σ : Sg} (h : FW τ σ) : FM τ σ := ⟨fun a ha => h.1 a (by omega) (by omega) (by omega) (by omega) (by omega) (by omega) (by omega), h.2.1 2 (by decide) (by decide) (by decide), h.2.1 3 (by decide) (by decide) (by decide), h.2.1 4 (by decide) (by decide) (by decide), fun w => Or.inl (by unfold rI; rw [h.1 20 (by decide) (by decide) (by decide) (by decide) (by decide) (by decide) (by decide)])⟩
theorem FP.fm {τ σ : Sg} (h : FP τ σ) : FM τ σ := ⟨fun a ha => h.1 a (by omega) (by omega) (by omega) (by omega) (by omega) (by omega), h.2 2 (by decide) (by decide) (by decide), h.2 3 (by decide) (by decide) (by decide), h.2 4 (by decide) (by decide) (by decide), fun w => Or.inl (by unfold rI; rw [h.1 20 (by decide) (by decide) (by decide) (by decide) (by decide) (by decide)])⟩
theorem FY.fm {τ σ : Sg} (h : FY τ σ) : FM τ σ := ⟨fun a ha => h.1 a (by omega) (by omega) (by omega) (by omega) (by omega) (by omega) (by omega), h.2.1 2 (by decide) (by decide) (by decide), h.2.1 3 (by decide) (by decide) (by decide), h.2.1 4 (by decide) (by decide) (by decide), h.2.2.2⟩
theorem PI.ss0 {N K G : Int} {σ : Sg} {v : Int32} (h : PI N K G σ) : PI N K G (ss σ 0 v) := by
  obtain ⟨a1, a2, a3, a4, a5, a6, a7, a8, a9, a10⟩ := h
  have e : ∀ i, i ≠ 0 → gs (ss σ 0 v) i = gs σ i := fun i hi => gs_ss hi
  have r : ∀ a, a ≠ 0 → (ss σ 0 v).1 a = σ.1 a := fun a ha => if_neg ha
  have rr : ∀ a, a ≠ 0 → rI a (ss σ 0 v) = rI a σ := fun a ha => rI_ss ha
  have ec : cnt (ss σ 0 v) = cnt σ := congrArg Int32.toNatClampNeg (e 4 (by decide))
  have eo : oN (ss σ 0 v) = oN σ := by funext p; unfold oN; rw [r 27 (by decide)]
  refine ⟨⟨⟨by rw [e 4 (by decide), ec]; exact a1.1.1, by rw [ec]; exact a1.1.2⟩, fun w hw => by rw [r 18 (by decide)]; exact a1.2.1 w hw, fun w hw => by rw [r 27 (by decide)]; exact a1.2.2 w hw⟩, ev_same ⟨r 30 (by decide), e 5 (by decide), e 6 (by decide), e 7 (by decide)⟩ a2, a3.same (r 30 (by decide)) (e 5 (by decide)), a4.same (fun a ha => r a (by omega)) (e 2 (by decide)) (e 3 (by decide)), a5.same (r 10 (by decide)) (r 11 (by decide)), a6.same (r 10 (by decide)) rfl, a7.same (r 27 (by decide)) (r 19 (by decide)) (e 4 (by decide)), ?_, ?_, a10⟩
  · unfold AW
    rw [rr 20 (by decide), rr 21 (by decide), rr 22 (by decide), rr 26 (by decide), r 24 (by decide)]
    exact a8
  · unfold SH
    rw [ec, eo, r 24 (by decide), rr 22 (by decide), rr 20 (by decide)]
    exact a9
theorem kp_fw {N M K G : Int} {τ σ : Sg} (h : PI N K G σ) (f : FW τ σ) (k : Kp τ σ) (hW : WB M τ) (hB : BK τ) : PI M K G τ := h.fw f (k.ev h.2.1) (h.2.2.1.same k.evs.1 k.evs.2.1) hW hB
set_option maxHeartbeats 1000000 in
theorem month_s {σ : Sg} {N K G : Int} {mo : Nat} (h : PI N K G σ) (hN0 : 0 ≤ N) (hN : N + 3000 ≤ 20000000) (hK : K + 600 ≤ 1000000) (hG : G ≤ 2000000) (hb : en σ + 20 ≤ 20000) (hm : gs σ 0 = nI mo) (hmo : mo < 600) :
    PI (N + 3000) (K + 600) G (f_month σ) ∧ FM (f_month σ) σ ∧ gs (f_month σ) 0 = nI (mo + 1) ∧ ((mo + 1) % 12 = 0 → ∀ w, w < cnt σ → rI 22 (f_month σ) w = 0 ∧ (f_month σ).1 24 w = 0) := by
  unfold f_month
  -- rain
  obtain ⟨x1, x2⟩ := rain_s (N := N) (by omega) 8 0 σ rfl h.2.2.2.1 (h.2.2.2.2.1.up (by omega)) h.2.2.2.2.2.1
  have f1 : FW (f_X5_letRainFall σ) σ := FW_rain 8 0 σ
  have h1 : PI (N + 792) K G (f_X5_letRainFall σ) := kp_fw h f1 KP_X5_letRainFall x1 x2
  have n1 : en (f_X5_letRainFall σ) = en σ := congrArg Int32.toNatClampNeg (KP_X5_letRainFall (σ := σ)).evs.2.1
  generalize f_X5_letRainFall σ = σ1 at f1 h1 n1 ⊢
  -- pumps
  have c1 : cnt σ1 ≤ 6 := h1.1.le
  obtain ⟨y1, y2⟩ := pumps_s (N := N + 792) (G := G) (by omega) hG (n := cnt σ1) (cnt σ1) 0 σ1 K (by omega) rfl (by omega) (by omega) h1
  have e2 := EK_X5_pumpWells h1.2.1 (by omega) h1.1
  have h2 : PI (N + 792) (K + 600) G (f_X5_pumpWells σ1) := y1.up (Int.le_refl _) (by omega)
  have f2 : FP (f_X5_pumpWells σ1) σ1 := y2
  have n2 : en (f_X5_pumpWells σ1) ≤ en σ1 + 6 := e2.2.2.1
  generalize f_X5_pumpWells σ1 = σ2 at h2 f2 n2 ⊢
  -- from cell to cell
  obtain ⟨z1, z2⟩ := waterFlow_s h2.2.2.2.2.1 (by omega) h2.2.2.2.2.2.1
  have f3 : FW (f_X5_letWaterFlow σ2) σ2 := FW_flowAll 16 0 σ2
  have h3 : PI (N + 792) (K + 600) G (f_X5_letWaterFlow σ2) := kp_fw h2 f3 KP_X5_letWaterFlow z1 z2
  have n3 : en (f_X5_letWaterFlow σ2) = en σ2 := congrArg Int32.toNatClampNeg (KP_X5_letWaterFlow (σ := σ2)).evs.2.1
  generalize f_X5_letWaterFlow σ2 = σ3 at f3 h3 n3 ⊢
  -- the river
  have hr := h3.2.2.2.1.2.2.1
  have hs3 := h3.2.2.2.2.1.2.1
  obtain ⟨u1, u2⟩ := river_s (N := N + 1791) (by omega) 8 0 σ3 (gs σ3 2) (by omega) h3.2.2.2.1 (h3.2.2.2.2.1.up (by omega)) h3.2.2.2.2.2.1 hr.1 (by omega)
  have f4 : FW (f_X5_letRiverRun σ3) σ3 := FW_river 8 0 σ3 _
  have e4 := EK_X5_letRiverRun h3.2.1 (by omega)
  have h4 : PI (N + 1791) (K + 600) G (f_X5_letRiverRun σ3) := h3.fw f4 e4.1 (ec_river 8 0 σ3 _ h3.2.2.1 h3.2.1 (by omega)) u1 u2
  have n4 : en (f_X5_letRiverRun σ3) ≤ en σ3 + 8 := e4.2.2.1
  generalize f_X5_letRiverRun σ3 = σ4 at f4 h4 n4 ⊢
  -- springs
  obtain ⟨v1, v2⟩ := springs_s (N := N + 1791) (by omega) 8 0 σ4 rfl h4.2.2.2.2.1 h4.2.2.2.2.2.1
  have f5 : FW (f_X5_letSpringsRun σ4) σ4 := FW_springs 8 0 σ4
  have h5 : PI (N + 1791) (K + 600) G (f_X5_letSpringsRun σ4) := kp_fw h4 f5 KP_X5_letSpringsRun v1 v2
  have n5 : en (f_X5_letSpringsRun σ4) = en σ4 := congrArg Int32.toNatClampNeg (KP_X5_letSpringsRun (σ := σ4)).evs.2.1
  generalize f_X5_letSpringsRun σ4 = σ5 at f5 h5 n5 ⊢
  -- the sea, twice
  have s0 : vp_in (0 : Int32) 16 := by unfold vp_in; decide
  have s8 : vp_in (8 : Int32) 16 := by unfold vp_in; decide
  obtain ⟨w1, w2⟩ := sea_s h5.2.2.2.1 h5.2.2.2.2.1 (by omega) h5.2.2.2.2.2.1 s0
  have f6 : FW (f_X5_meetSea σ5 0) σ5 := FW_sea
  have h6 : PI (N + 1791 + 225) (K + 600) G (f_X5_meetSea σ5 0) := kp_fw h5 f6 KP_X5_meetSea w1 w2
  have n6 : en (f_X5_meetSea σ5 0) = en σ5 := congrArg Int32.toNatClampNeg (KP_X5_meetSea (σ := σ5)).evs.2.1
  generalize f_X5_meetSea σ5 0 = σ6 at f6 h6 n6 ⊢
  obtain ⟨w3, w4⟩ := sea_s h6.2.2.2.1 h6.2.2.2.2.1 (by omega) h6.2.2.2.2.2.1 s8
  have f7 : FW (f_X5_meetSea σ6 8) σ6 := FW_sea
  have h7 : PI (N + 1791 + 225 + 225) (K + 600) G (f_X5_meetSea σ6 8) := kp_fw h6 f7 KP_X5_meetSea w3 w4
  have n7 : en (f_X5_meetSea σ6 8) = en σ6 := congrArg Int32.toNatClampNeg (KP_X5_meetSea (σ := σ6)).evs.2.1
  generalize f_X5_meetSea σ6 8 = σ7 at f7 h7 n7 ⊢
  have fm : FM σ7 σ := f7.fm.tr (f6.fm.tr (f5.fm.tr (f4.fm.tr (f3.fm.tr (f2.fm.tr f1.fm)))))
  have m7 : gs σ7 0 = nI mo := by
    have a : ∀ {τ ρ : Sg}, FW τ ρ → gs τ 0 = gs ρ 0 := fun f => f.2.1 0 (by decide) (by decide) (by decide)
    rw [a f7, a f6, a f5, a f4, a f3, show gs σ2 0 = gs σ1 0 from f2.2 0 (by decide) (by decide) (by decide), a f1, hm]
  have h8 : PI (N + 3000) (K + 600) G σ7 := h7.up (by omega) (Int.le_refl _)
  have cs : cnt σ7 = cnt σ := congrArg Int32.toNatClampNeg fm.2.2.2.1
  -- the month's end
  have e1 : gs σ7 0 + 1 = nI (mo + 1) := by rw [m7, nI_1]
  unfold f_X5_endMonth
  rw [e1]
  have hk : PI (N + 3000) (K + 600) G (ss σ7 0 (nI (mo + 1))) := h8.ss0
  have fs : FM (ss σ7 0 (nI (mo + 1))) σ7 := ⟨fun a ha => if_neg (by omega), gs_ss (by decide), gs_ss (by decide), gs_ss (by decide), fun w => Or.inl (by rw [rI_ss (by decide)])⟩
  have g0 : gs (ss σ7 0 (nI (mo + 1))) 0 = nI (mo + 1) := gs_s0
  have g5 : en (ss σ7 0 (nI (mo + 1))) = en σ7 := congrArg Int32.toNatClampNeg (show gs (ss σ7 0 (nI (mo + 1))) 5 = gs σ7 5 from gs_ss (by decide))
  have er : nI (mo + 1) - nI (mo + 1) / 12 * 12 = nI ((mo + 1) % 12) := pk_rem (a := mo + 1) (d := 12) (by omega) (by decide) (by decide)
  rw [er]
  by_cases hy : nI ((mo + 1) % 12) = 0
  · rw [if_pos hy]
    generalize ss σ7 0 (nI (mo + 1)) = σ8 at hk fs g0 g5 ⊢
    have n8 : en σ8 ≤ en σ + 14 := by omega
    have c8 : cnt σ8 = cnt σ := (congrArg Int32.toNatClampNeg fs.2.2.2.1).trans cs
    obtain ⟨r1, r2, r3⟩ := year_s (n := cnt σ8) (cnt σ8) 0 σ8 (by omega) rfl (by have := hk.1.le; omega) hk (fun w hw => by omega)
    refine ⟨r1, r2.fm.tr (fs.tr fm), (r2.2.1 0 (by decide) (by decide) (by decide)).trans g0, fun _ w hw => r3 w (by omega)⟩
  · rw [if_neg hy]
    refine ⟨hk, fs.tr fm, g0, fun z => absurd ?_ hy⟩
    rw [z]
    rfl
