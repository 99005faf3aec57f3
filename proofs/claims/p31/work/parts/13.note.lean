/-! NOTES: the events' text grows by a letter; what grows is told by the state -/
def en (σ : Sg) : Nat := (gs σ 5).toNatClampNeg
def ec (σ : Sg) : Nat := (gs σ 6).toNatClampNeg
def eg (σ : Sg) : Nat := (gs σ 7).toNatClampNeg
def EvOK (σ : Sg) : Prop := gs σ 5 = nI (en σ) ∧ gs σ 6 = nI (ec σ) ∧ gs σ 7 = nI (eg σ) ∧ en σ ≤ ec σ ∧ ec σ ≤ 2 * en σ + 16 ∧ ec σ + 2 = 18 * 2 ^ eg σ ∧ (∀ j, en σ ≤ j → σ.1 30 j = 0) ∧ ∀ j, fits .byte (.int (σ.1 30 j)) = true
def LC (c : Int32) : Prop := ∃ k : Nat, k < 128 ∧ c = nI k
def f_X5_note (σ : Sg) (c : Int32) : Sg := ss (ss (ss (si σ 30 (gs σ 5) c) 5 (gs σ 5 + 1)) 6 (nI (capf (en σ + 1) (ec σ)))) 7 (if en σ + 1 ≤ ec σ then gs σ 7 else gs σ 7 + 1)
/-- K notes at the most, and nothing else of the wells' places -/
def EK (K : Nat) (τ σ : Sg) : Prop := EvOK τ ∧ en σ ≤ en τ ∧ en τ ≤ en σ + K ∧ eg σ ≤ eg τ ∧ ec σ ≤ ec τ ∧ τ.1 18 = σ.1 18 ∧ τ.1 19 = σ.1 19 ∧ τ.1 27 = σ.1 27 ∧ gs τ 4 = gs σ 4
theorem Kp.ev {τ σ : Sg} (h : Kp τ σ) (v : EvOK σ) : EvOK τ := by
  obtain ⟨-, -, -, h30, -, h5, h6, h7⟩ := h
  have e5 : en τ = en σ := congrArg Int32.toNatClampNeg h5
  have e6 : ec τ = ec σ := congrArg Int32.toNatClampNeg h6
  have e7 : eg τ = eg σ := congrArg Int32.toNatClampNeg h7
  unfold EvOK
  rw [e5, e6, e7, h5, h6, h7, h30]
  exact v
theorem Kp.ek {τ σ : Sg} (h : Kp τ σ) (v : EvOK σ) : EK 0 τ σ := by
  have e5 : en τ = en σ := congrArg Int32.toNatClampNeg h.2.2.2.2.2.1
  have e6 : ec τ = ec σ := congrArg Int32.toNatClampNeg h.2.2.2.2.2.2.1
  have e7 : eg τ = eg σ := congrArg Int32.toNatClampNeg h.2.2.2.2.2.2.2
  exact ⟨h.ev v, by omega, by omega, by omega, by omega, h.1, h.2.1, h.2.2.1, h.2.2.2.2.1⟩
theorem EK.rf {σ : Sg} (v : EvOK σ) : EK 0 σ σ := Kp.rf.ek v
theorem EK.tr {a b : Nat} {ρ τ σ : Sg} (h : EK b ρ τ) (k : EK a τ σ) : EK (a + b) ρ σ := by
  obtain ⟨h1, h2, h3, h4, h5, h6, h7, h8, h9⟩ := h
  obtain ⟨-, k2, k3, k4, k5, k6, k7, k8, k9⟩ := k
  exact ⟨h1, by omega, by omega, by omega, by omega, h6.trans k6, h7.trans k7, h8.trans k8, h9.trans k9⟩
theorem EK.kp {a : Nat} {ρ τ σ : Sg} (h : Kp ρ τ) (k : EK a τ σ) : EK a ρ σ := (h.ek k.1).tr k
theorem EK.up {a b : Nat} {τ σ : Sg} (h : EK a τ σ) (hab : a ≤ b) : EK b τ σ := ⟨h.1, h.2.1, Nat.le_trans h.2.2.1 (by omega), h.2.2.2⟩
theorem EK.cnt {a : Nat} {τ σ : Sg} (h : EK a τ σ) : cnt τ = cnt σ := congrArg Int32.toNatClampNeg h.2.2.2.2.2.2.2.2
theorem EK.wf {a : Nat} {τ σ : Sg} (h : EK a τ σ) (w : WF σ) : WF τ := by
  obtain ⟨⟨x, b⟩, c, d⟩ := w
  refine ⟨⟨?_, ?_⟩, ?_, ?_⟩
  · rw [h.2.2.2.2.2.2.2.2, h.cnt]; exact x
  · rw [h.cnt]; exact b
  · rw [h.2.2.2.2.2.1]; exact c
  · rw [h.2.2.2.2.2.2.2.1]; exact d
theorem pow_le_of {g c : Nat} (h : c + 2 = 18 * 2 ^ g) (hc : c < 50000) : g < 12 := by
  rcases Nat.lt_or_ge g 12 with q | q
  · exact q
  · have : 2 ^ 12 ≤ 2 ^ g := Nat.pow_le_pow_right (by decide) q
    omega
theorem note_f {σ : Sg} {k : Nat} (v : EvOK σ) (hb : en σ + 1 ≤ 20000) : en (f_X5_note σ (nI k)) = en σ + 1 ∧ ec (f_X5_note σ (nI k)) = capf (en σ + 1) (ec σ) ∧ eg (f_X5_note σ (nI k)) = (if en σ + 1 ≤ ec σ then eg σ else eg σ + 1) ∧ (f_X5_note σ (nI k)).1 30 = upd (σ.1 30) (en σ) (nI k) := by
  obtain ⟨h5, h6, h7, hle, h2, hp, -, -⟩ := v
  have hg : eg σ < 12 := pow_le_of hp (by omega)
  refine ⟨?_, ?_, ?_, ?_⟩
  · show (gs σ 5 + 1).toNatClampNeg = en σ + 1
    rw [h5, nI_1, nI_clamp (by omega)]
  · show (nI (capf (en σ + 1) (ec σ))).toNatClampNeg = _
    exact nI_clamp (by have := @capf_le (en σ) (ec σ); omega)
  · show (if en σ + 1 ≤ ec σ then gs σ 7 else gs σ 7 + 1).toNatClampNeg = _
    split
    · rfl
    · rw [h7, nI_1, nI_clamp (by omega)]
  · show upd (σ.1 30) (gs σ 5).toNatClampNeg (nI k) = _
    rfl
theorem EK_note {σ : Sg} {k : Nat} (v : EvOK σ) (hb : en σ + 1 ≤ 20000) (hk : k < 128) : EK 1 (f_X5_note σ (nI k)) σ := by
  obtain ⟨e5, e6, e7, e30⟩ := note_f (k := k) v hb
  obtain ⟨h5, h6, h7, hle, h2, hp, hz, hf⟩ := v
  have hg : eg σ < 12 := pow_le_of hp (by omega)
  have hcl := @capf_le (en σ) (ec σ)
  have hcl2 : ec σ ≤ capf (en σ + 1) (ec σ) := by unfold capf; split <;> omega
  have hck : capf (en σ + 1) (ec σ) ≤ 2 * (en σ + 1) + 16 := by unfold capf; split <;> omega
  have hcn : en σ + 1 ≤ capf (en σ + 1) (ec σ) := by unfold capf; split <;> omega
  refine ⟨⟨?_, ?_, ?_, ?_, ?_, ?_, ?_, ?_⟩, by rw [e5]; omega, by rw [e5]; omega, by rw [e7]; split <;> omega, by rw [e6]; exact hcl2, rfl, rfl, rfl, rfl⟩
  · rw [e5]; show gs σ 5 + 1 = nI (en σ + 1); rw [← nI_1, ← h5]
  · rw [e6]; rfl
  · rw [e7]
    show (if en σ + 1 ≤ ec σ then gs σ 7 else gs σ 7 + 1) = _
    split
    · exact h7
    · rw [← nI_1, ← h7]
  · rw [e5, e6]; exact hcn
  · rw [e5, e6]; exact hck
  · rw [e6, e7]
    unfold capf
    split
    · exact hp
    · rw [Nat.pow_succ]; omega
  · intro j hj
    rw [e5] at hj
    rw [e30, pk_un (by omega)]
    exact hz j (by omega)
  · intro j
    rw [e30]
    by_cases q : j = en σ
    · rw [q, pk_us]
      have : ∀ c, c < 128 → fits .byte (.int (nI c)) = true := by decide +kernel
      exact this k hk
    · rw [pk_un q]; exact hf j
def wsW0 (g : Gm) (ad : Nat → Nat) (lo ke fo : Int32) (σ : Sg) : va_W := (wsW g ad lo ke fo 0 σ).take 29
theorem wsW_0 {g : Gm} {ad : Nat → Nat} {lo ke fo : Int32} {ea : Nat} {σ : Sg} : wsW g ad lo ke fo ea σ = wsW0 g ad lo ke fo σ ++ [(ad 29, .inr (7, [.ref ea, .int 0, .int 0, .int (evn ke σ)])), (ea, .inl (g.2.1 3, evc ke σ, .inl (evt ke σ)))] := rfl
theorem wsW_1 {g : Gm} {ad : Nat → Nat} {lo fo : Int32} {ea : Nat} {σ : Sg} (h : gs σ 5 = nI (en σ)) : wsW g ad lo 1 fo ea σ = wsW0 g ad lo 1 fo σ ++ [(ad 29, .inr (7, [.ref ea, .int 0, .int 0, .int (nI (en σ))])), (ea, .inl (g.2.1 3, ec σ, .inl (σ.1 30)))] := by
  rw [wsW_0, show evn 1 σ = nI (en σ) from h]
  rfl
theorem ne01 : ¬ (0 : Int32) = 1 := by decide
theorem wsW0_note {g : Gm} {ad : Nat → Nat} {lo fo ke : Int32} {σ : Sg} {c : Int32} : wsW0 g ad lo ke fo (f_X5_note σ c) = wsW0 g ad lo ke fo σ := rfl
theorem wsW_note0 {g : Gm} {ad : Nat → Nat} {lo fo : Int32} {ea : Nat} {σ : Sg} {c : Int32} : wsW g ad lo 0 fo ea (f_X5_note σ c) = wsW g ad lo 0 fo ea σ := by
  rw [wsW_0, wsW_0, wsW0_note]
  unfold evn evc evt
  simp only [if_neg ne01]
abbrev kxN (σ : Sg) : Sg × Nat → Nat × Nat := fun u => (eg u.1 - eg σ, 2 * ec u.1 - 2 * ec σ)
set_option maxHeartbeats 4000000 in
set_option maxRecDepth 100000 in
/-- World.note(letter) -/
theorem c_X5_note (l : Launch) (g : Gm) (ad : Nat → Nat) (lo ke fo : Int32) (ea : Nat) (σ : Sg) (x : Int32) (q_x : LC x) (hke : ke = 0 ∨ ke = 1) (hE : EvOK σ) (hB : en σ + 1 ≤ 20000) : MXv (S := Sg × Nat) l g yX5_note cX5_note 2 ({ frames := 6, cells := 1, slots := 100002, locals := 1000 } : Room) [.ref (ad 0), .int x] (wsW g ad lo ke fo ea σ) (fun u : Sg × Nat => u.1 = f_X5_note σ x) (fun u => wsW g ad lo ke fo u.2 u.1) (kxN σ) := by
  intro sz tt
  obtain ⟨k, hk, rfl⟩ := q_x
  refine ofX RX5 rfl (by decide +kernel) (Nat.le_of_ble_eq_true rfl) (fun p e s m args below meth c hargs S hml hr hlk hnm hsz htt hK hA hZ E ls hl => ?_)
  have hx := S.1
  have hb := S.2.1
  have hl : lv_has ls 2 [(0, .ref (ad 0)), (1, .int (nI k))] := hl
  refine lv_aload_n hx hb dX5_note_0 rfl (lv_at hl 0 rfl) ?_
  refine wg_X5_60 (v := .int ke) S hK E 0 rfl rfl dX5_note_1 ?_
  refine lv_if_eq (tgt := 16) hx hb dX5_note_4 (by decide) (fun c1 => ?_) (fun c1 => ?_)
  · subst c1
    exact x_vret (f_X5_note σ (nI k), ea) S hr hlk hsz htt hK E dX5_note_16 rfl wsW_note0.symm ⟨Nat.zero_le _, Nat.zero_le _⟩ ⟨Nat.zero_le _, Nat.zero_le _⟩
  · have h1 : ke = 1 := hke.resolve_left c1
    subst h1
    have hcap : ec σ < 50000 := by have := hE.2.2.2.2.1; omega
    refine lv_aload_n hx hb dX5_note_7 rfl (lv_at hl 0 rfl) ?_
    refine wg_X5_42 (v := .ref (ad 29)) S hK E 0 rfl rfl dX5_note_8 ?_
    refine lv_iload_n hx hb dX5_note_11 rfl (lv_at hl 1 rfl) ?_
    have E1 := E
    rw [wsW_1 (ea := ea) hE.1] at E1
    have E2 : Ev g (va_A (wsW g ad lo 1 fo ea σ) sz) s.heap s.heap [] (wsW0 g ad lo 1 fo σ ++ [(ad 29, .inr (7, [.ref ea, .int 0, .int 0, .int (nI (en σ))])), (ea, .inl (g.2.1 3, ec σ, .inl (σ.1 30)))]) := ⟨by have := E.1; rw [wsW_1 hE.1] at this; exact this, by have := E.2.1; rw [wsW_1 (ea := ea) hE.1] at this ⊢; exact this, E.2.2⟩
    have hcut : Cut g (va_A (wsW g ad lo 1 fo ea σ) sz) s.heap [(ad 29, .inr (7, [.ref ea, .int 0, .int 0, .int (nI (en σ))])), (ea, .inl (g.2.1 3, ec σ, .inl (σ.1 30)))] (wsW0 g ad lo 1 fo σ) := Cut.of E2 hA [29, 30] (List.range 29) rfl rfl rfl rfl (by decide)
    refine w_retr (runV_X (As := [.int (nI k)]) (rest := []) (q0 := 0) (n := 1) S hml hK (hZ.at E) hcut (c_J4_append_cf468 l g (ad 29) ea (ec σ) (en σ) k (σ.1 30) hcap hE.2.2.2.1 hk hE.2.2.2.2.2.2.2 (fun j hj => hE.2.2.2.2.2.2.1 j (Nat.le_trans hE.2.2.2.1 hj)) _ _) (gi_wsV ml_X5_184 im_J4_append_cf468 sl_J4_append_cf468 in_J4 co_J4_append_cf468) ⟨rfl, by decide +kernel, by decide +kernel, by decide +kernel⟩ ⟨Nat.le_of_ble_eq_true rfl, Nat.le_of_ble_eq_true rfl⟩ rfl rfl rfl hl.1 rfl (Nat.le_of_ble_eq_true rfl) dX5_note_12 ⟨Nat.le_of_ble_eq_true rfl, (by show 0 + (ec σ + (ec σ + 2)) ≤ 100002; omega)⟩) hcut E2 (fun u H locs hp E => ?_)
    obtain ⟨e5, e6, e7, e30⟩ := note_f (k := k) hE hB
    have ek := EK_note hE hB hk
    have E : Ev g (va_A (wsW g ad lo 1 fo ea σ) sz) s.heap H locs (wsW g ad lo 1 fo u (f_X5_note σ (nI k))) := by
      rw [wsW_1 ek.1.1, e5, e6, e30]
      exact E
    refine lv_pop hx hb dX5_note_15 rfl ?_
    refine x_vret (f_X5_note σ (nI k), u) S hr hlk hsz htt hK E dX5_note_16 rfl rfl ⟨?_, ?_⟩ ⟨?_, ?_⟩
    · show 0 + (if en σ + 1 ≤ ec σ then 0 else 1) ≤ eg (f_X5_note σ (nI k)) - eg σ
      rw [e7]; split <;> omega
    · show 0 + (if en σ + 1 ≤ ec σ then 0 else ec σ + (ec σ + 2)) ≤ 2 * ec (f_X5_note σ (nI k)) - 2 * ec σ
      rw [e6]; unfold capf; split <;> omega
    · show 0 + (if en σ + 1 ≤ ec σ then 0 else 1) ≤ 1
      split <;> omega
    · show 0 + (if en σ + 1 ≤ ec σ then 0 else ec σ + (ec σ + 2)) ≤ 100002
      split <;> omega
