/-! WHAT STAYS: Kp says what no method but addWell and the notes changes; WF says that places are places -/
theorem vp_mono {x : Int32} {a b : Nat} (h : vp_in x a) (hab : a ≤ b) : vp_in x b := fun z => h (z.elim Or.inl (fun q => Or.inr (Nat.le_trans hab q)))
theorem g_no {x y : Int32} {a b : Nat} (hx : x = nI a) (hy : y = nI b) (h : a < b) (hb : b < 2 ^ 31) : ¬ y ≤ x := by rw [hx, hy]; exact nI_ge h hb
theorem g_yes {x y : Int32} {a b : Nat} (hx : x = nI a) (hy : y = nI b) (h : b ≤ a) (ha : a < 2 ^ 31) : y ≤ x := by rw [hx, hy]; exact nI_le h ha
def cnt (σ : Sg) : Nat := (gs σ 4).toNatClampNeg
def Kp (τ σ : Sg) : Prop := τ.1 18 = σ.1 18 ∧ τ.1 19 = σ.1 19 ∧ τ.1 27 = σ.1 27 ∧ τ.1 30 = σ.1 30 ∧ gs τ 4 = gs σ 4 ∧ gs τ 5 = gs σ 5 ∧ gs τ 6 = gs σ 6 ∧ gs τ 7 = gs σ 7
theorem Kp.rf {σ : Sg} : Kp σ σ := ⟨rfl, rfl, rfl, rfl, rfl, rfl, rfl, rfl⟩
theorem Kp.tr {a b c : Sg} (h : Kp a b) (k : Kp b c) : Kp a c := ⟨h.1.trans k.1, h.2.1.trans k.2.1, h.2.2.1.trans k.2.2.1, h.2.2.2.1.trans k.2.2.2.1, h.2.2.2.2.1.trans k.2.2.2.2.1, h.2.2.2.2.2.1.trans k.2.2.2.2.2.1, h.2.2.2.2.2.2.1.trans k.2.2.2.2.2.2.1, h.2.2.2.2.2.2.2.trans k.2.2.2.2.2.2.2⟩
theorem si_ne {σ : Sg} {k j : Nat} {x v : Int32} (h : j ≠ k) : (si σ k x v).1 j = σ.1 j := if_neg h
theorem Kp_si {τ σ : Sg} {k : Nat} {x v : Int32} (h : Kp τ σ) (hk : k ≠ 18 ∧ k ≠ 19 ∧ k ≠ 27 ∧ k ≠ 30 ∧ k ≠ 0) : Kp (si τ k x v) σ := by
  obtain ⟨h1, h2, h3, h4, h5⟩ := hk
  refine Kp.tr ⟨si_ne (Ne.symm h1), si_ne (Ne.symm h2), si_ne (Ne.symm h3), si_ne (Ne.symm h4), ?_, ?_, ?_, ?_⟩ h <;> (unfold gs; rw [si_ne (Ne.symm h5)])
theorem Kp_sl {τ σ : Sg} {k : Nat} {x : Int32} {v : Int64} (h : Kp τ σ) : Kp (sl τ k x v) σ := h
theorem Kp_ss {τ σ : Sg} {j : Nat} {v : Int32} (h : Kp τ σ) (hj : j ≠ 4 ∧ j ≠ 5 ∧ j ≠ 6 ∧ j ≠ 7) : Kp (ss τ j v) σ := by
  obtain ⟨h1, h2, h3, h4⟩ := hj
  have e : ∀ i, i ≠ j → gs (ss τ j v) i = gs τ i := fun i hi => pk_un hi
  exact Kp.tr (b := τ) ⟨rfl, rfl, rfl, rfl, e 4 (Ne.symm h1), e 5 (Ne.symm h2), e 6 (Ne.symm h3), e 7 (Ne.symm h4)⟩ h
theorem Kp.cnt {τ σ : Sg} (h : Kp τ σ) : cnt τ = cnt σ := congrArg Int32.toNatClampNeg h.2.2.2.2.1
def WF (σ : Sg) : Prop := (gs σ 4 = nI (cnt σ) ∧ cnt σ ≤ 6) ∧ (∀ w : Nat, w < 6 → vp_in (σ.1 18 w) 16) ∧ ∀ w : Nat, w < 6 → vp_in (σ.1 27 w) 6
theorem Kp.wf {τ σ : Sg} (h : Kp τ σ) (w : WF σ) : WF τ := by
  obtain ⟨⟨a, b⟩, c, d⟩ := w
  refine ⟨⟨?_, ?_⟩, ?_, ?_⟩
  · rw [h.2.2.2.2.1, h.cnt]; exact a
  · rw [h.cnt]; exact b
  · rw [h.1]; exact c
  · rw [h.2.2.1]; exact d
theorem WF.n {σ : Sg} (h : WF σ) : gs σ 4 = nI (cnt σ) := h.1.1
theorem WF.le {σ : Sg} (h : WF σ) : cnt σ ≤ 6 := h.1.2
theorem vp_lt {x : Int32} {n : Nat} (h : vp_in x n) : x.toNatClampNeg < n := Nat.not_le.mp fun q => h (Or.inr q)
theorem WF.c {σ : Sg} {x : Int32} (h : WF σ) (hx : vp_in x 6) : vp_in (gi σ 18 x) 16 := h.2.1 _ (vp_lt hx)
theorem WF.o {σ : Sg} {x : Int32} (h : WF σ) (hx : vp_in x 6) : vp_in (gi σ 27 x) 6 := h.2.2 _ (vp_lt hx)
/-! CELLS, and small ones: by program out of the bytecode; f_.. is what a method makes of the state -/
def f_X2_height (σ : Sg) (x : Int32) : Int32 := if 1 ≤ (gi σ 9 x) then ((gi σ 8 x) + ((gi σ 10 x) / (gi σ 9 x))) else (gi σ 8 x)
set_option maxHeartbeats 4000000 in
set_option maxRecDepth 100000 in
/-- Cells.height -/
theorem c_X2_height (l : Launch) (g : Gm) (ad : Nat → Nat) (lo ke fo : Int32) (ea : Nat) (σ : Sg) (x : Int32) (q_x : vp_in x 16) : MXi l g yX2_height cX2_height 3 .int ({ frames := 0, cells := 0, slots := 0, locals := 0 } : Room) [.ref (ad 1), .int x] (wsW g ad lo ke fo ea σ) (fun (r : Int32) (u : Sg) => r = f_X2_height σ x ∧ u = σ) (wsW g ad lo ke fo ea) (fun _ => (0, 0)) := by
  intro sz tt
  refine ofX RX2 rfl (by decide +kernel) (Nat.le_of_ble_eq_true rfl) (fun p e s m args below meth c hargs S hml hr hlk hnm hsz htt hK hA hZ E ls hl => ?_)
  have hx := S.1
  have hb := S.2.1
  have hl : lv_has ls 3 [(0, .ref (ad 1)), (1, .int x)] := hl
  refine lv_aload_n hx hb dX2_height_0 rfl (lv_at hl 0 rfl) ?_
  refine wg_X2_15 (v := .ref (ad 9)) S hK E 1 rfl rfl dX2_height_1 ?_
  refine lv_iload_n hx hb dX2_height_4 rfl (lv_at hl 1 rfl) ?_
  refine w_ild (v := gi σ 9 x) S hK E 9 0 rfl rfl q_x rfl dX2_height_5 ?_
  refine lv_istore_n (lv' := [(2, .int (gi σ 9 x)), (0, .ref (ad 1)), (1, .int x)]) hx hb dX2_height_6 rfl hl (by decide) rfl (fun ls hl => ?_)
  refine lv_iload_n hx hb dX2_height_7 rfl (lv_at hl 0 rfl) ?_
  refine lv_iconst (v := 1) hx hb dX2_height_8 (by decide) ?_
  refine lv_icmp_ge (tgt := 21) hx hb dX2_height_9 (by decide) (fun c1 => ?_) (fun c1 => ?_)
  · have c1 : 1 ≤ (gi σ 9 x) := c1
    refine lv_aload_n hx hb dX2_height_21 rfl (lv_at hl 1 rfl) ?_
    refine wg_X2_9 (v := .ref (ad 8)) S hK E 1 rfl rfl dX2_height_22 ?_
    refine lv_iload_n hx hb dX2_height_25 rfl (lv_at hl 2 rfl) ?_
    refine w_ild (v := gi σ 8 x) S hK E 8 0 rfl rfl q_x rfl dX2_height_26 ?_
    refine lv_aload_n hx hb dX2_height_27 rfl (lv_at hl 1 rfl) ?_
    refine wg_X2_18 (v := .ref (ad 10)) S hK E 1 rfl rfl dX2_height_28 ?_
    refine lv_iload_n hx hb dX2_height_31 rfl (lv_at hl 2 rfl) ?_
    refine w_ild (v := gi σ 10 x) S hK E 10 0 rfl rfl q_x rfl dX2_height_32 ?_
    refine lv_iload_n hx hb dX2_height_33 rfl (lv_at hl 0 rfl) ?_
    refine lv_idiv hx hb dX2_height_34 (nz_1 c1) ?_
    refine lv_iadd hx hb dX2_height_35 ?_
    have hQ : f_X2_height σ x = ((gi σ 8 x) + ((gi σ 10 x) / (gi σ 9 x))) := by
      unfold f_X2_height; rw [if_pos c1]
    exact x_iret σ S hr hlk hsz htt hK E dX2_height_36 ⟨hQ.symm, rfl⟩ rfl ⟨Nat.le_of_ble_eq_true rfl, Nat.le_of_ble_eq_true rfl⟩ ⟨Nat.le_of_ble_eq_true rfl, Nat.le_of_ble_eq_true rfl⟩
  · have c1 : ¬ (1 ≤ (gi σ 9 x)) := c1
    refine lv_aload_n hx hb dX2_height_12 rfl (lv_at hl 1 rfl) ?_
    refine wg_X2_9 (v := .ref (ad 8)) S hK E 1 rfl rfl dX2_height_13 ?_
    refine lv_iload_n hx hb dX2_height_16 rfl (lv_at hl 2 rfl) ?_
    refine w_ild (v := gi σ 8 x) S hK E 8 0 rfl rfl q_x rfl dX2_height_17 ?_
    refine lv_goto (tgt := 36) hx hb dX2_height_18 (by decide) ?_
    have hQ : f_X2_height σ x = (gi σ 8 x) := by
      unfold f_X2_height; rw [if_neg c1]
    exact x_iret σ S hr hlk hsz htt hK E dX2_height_36 ⟨hQ.symm, rfl⟩ rfl ⟨Nat.le_of_ble_eq_true rfl, Nat.le_of_ble_eq_true rfl⟩ ⟨Nat.le_of_ble_eq_true rfl, Nat.le_of_ble_eq_true rfl⟩

def f_X2_takeOut (σ : Sg) (x : Int32) (y : Int32) : Int32 × Sg := if 1 ≤ (gi σ 10 x) then (((((((gi σ 11 x)).toInt64) * ((y).toInt64)) / (((gi σ 10 x)).toInt64))).toInt32, (si (si σ 10 x ((gi σ 10 x) - y)) 11 x ((gi σ 11 x) - (((((((gi σ 11 x)).toInt64) * ((y).toInt64)) / (((gi σ 10 x)).toInt64))).toInt32)))) else (0, σ)
theorem KP_X2_takeOut {σ : Sg} {x : Int32} {y : Int32} : Kp (f_X2_takeOut σ x y).2 σ := by
  unfold f_X2_takeOut
  split
  · exact (Kp_si (k := 11) (Kp_si (k := 10) Kp.rf (by decide)) (by decide))
  · exact Kp.rf
set_option maxHeartbeats 4000000 in
set_option maxRecDepth 100000 in
/-- Cells.takeOut -/
theorem c_X2_takeOut (l : Launch) (g : Gm) (ad : Nat → Nat) (lo ke fo : Int32) (ea : Nat) (σ : Sg) (x : Int32) (y : Int32) (q_x : vp_in x 16) : MXi l g yX2_takeOut cX2_takeOut 5 .int ({ frames := 0, cells := 0, slots := 0, locals := 0 } : Room) [.ref (ad 1), .int x, .int y] (wsW g ad lo ke fo ea σ) (fun (r : Int32) (u : Sg) => r = (f_X2_takeOut σ x y).1 ∧ u = (f_X2_takeOut σ x y).2) (wsW g ad lo ke fo ea) (fun _ => (0, 0)) := by
  intro sz tt
  refine ofX RX2 rfl (by decide +kernel) (Nat.le_of_ble_eq_true rfl) (fun p e s m args below meth c hargs S hml hr hlk hnm hsz htt hK hA hZ E ls hl => ?_)
  have hx := S.1
  have hb := S.2.1
  have hl : lv_has ls 5 [(0, .ref (ad 1)), (1, .int x), (2, .int y)] := hl
  refine lv_aload_n hx hb dX2_takeOut_0 rfl (lv_at hl 0 rfl) ?_
  refine wg_X2_18 (v := .ref (ad 10)) S hK E 1 rfl rfl dX2_takeOut_1 ?_
  refine lv_iload_n hx hb dX2_takeOut_4 rfl (lv_at hl 1 rfl) ?_
  refine w_ild (v := gi σ 10 x) S hK E 10 0 rfl rfl q_x rfl dX2_takeOut_5 ?_
  refine lv_istore_n (lv' := [(3, .int (gi σ 10 x)), (0, .ref (ad 1)), (1, .int x), (2, .int y)]) hx hb dX2_takeOut_6 rfl hl (by decide) rfl (fun ls hl => ?_)
  refine lv_iload_n hx hb dX2_takeOut_7 rfl (lv_at hl 0 rfl) ?_
  refine lv_iconst (v := 1) hx hb dX2_takeOut_8 (by decide) ?_
  refine lv_icmp_ge (tgt := 14) hx hb dX2_takeOut_9 (by decide) (fun c1 => ?_) (fun c1 => ?_)
  · have c1 : 1 ≤ (gi σ 10 x) := c1
    refine lv_aload_n hx hb dX2_takeOut_14 rfl (lv_at hl 1 rfl) ?_
    refine wg_X2_21 (v := .ref (ad 11)) S hK E 1 rfl rfl dX2_takeOut_15 ?_
    refine lv_iload_n hx hb dX2_takeOut_18 rfl (lv_at hl 2 rfl) ?_
    refine w_ild (v := gi σ 11 x) S hK E 11 0 rfl rfl q_x rfl dX2_takeOut_19 ?_
    refine lv_i2l (v := ((gi σ 11 x)).toInt64) hx hb dX2_takeOut_20 rfl ?_
    refine lv_iload_n hx hb dX2_takeOut_21 rfl (lv_at hl 3 rfl) ?_
    refine lv_i2l (v := (y).toInt64) hx hb dX2_takeOut_22 rfl ?_
    refine lv_lmul hx hb dX2_takeOut_23 ?_
    refine lv_iload_n hx hb dX2_takeOut_24 rfl (lv_at hl 0 rfl) ?_
    refine lv_i2l (v := ((gi σ 10 x)).toInt64) hx hb dX2_takeOut_25 rfl ?_
    refine lv_ldiv hx hb dX2_takeOut_26 (nz_l c1) ?_
    refine lv_l2i (v := ((((((gi σ 11 x)).toInt64) * ((y).toInt64)) / (((gi σ 10 x)).toInt64))).toInt32) hx hb dX2_takeOut_27 rfl ?_
    refine lv_istore (lv' := [(4, .int (((((((gi σ 11 x)).toInt64) * ((y).toInt64)) / (((gi σ 10 x)).toInt64))).toInt32)), (3, .int (gi σ 10 x)), (0, .ref (ad 1)), (1, .int x), (2, .int y)]) hx hb dX2_takeOut_28 hl (by decide) rfl (fun ls hl => ?_)
    refine lv_aload_n hx hb dX2_takeOut_30 rfl (lv_at hl 2 rfl) ?_
    refine wg_X2_18 (v := .ref (ad 10)) S hK E 1 rfl rfl dX2_takeOut_31 ?_
    refine lv_iload_n hx hb dX2_takeOut_34 rfl (lv_at hl 3 rfl) ?_
    refine lv_iload_n hx hb dX2_takeOut_35 rfl (lv_at hl 1 rfl) ?_
    refine lv_iload_n hx hb dX2_takeOut_36 rfl (lv_at hl 4 rfl) ?_
    refine lv_isub hx hb dX2_takeOut_37 ?_
    refine w_ist (w' := wsW g ad lo ke fo ea (si σ 10 x ((gi σ 10 x) - y))) S hK E 10 0 rfl rfl q_x wset_10 dX2_takeOut_38 (fun H locs E => ?_)
    refine lv_aload_n hx hb dX2_takeOut_39 rfl (lv_at hl 2 rfl) ?_
    refine wg_X2_21 (v := .ref (ad 11)) S hK E 1 rfl rfl dX2_takeOut_40 ?_
    refine lv_iload_n hx hb dX2_takeOut_43 rfl (lv_at hl 3 rfl) ?_
    refine lv_dup2_11 hx hb dX2_takeOut_44 rfl rfl ?_
    refine w_ild (v := gi σ 11 x) S hK E 11 0 rfl rfl q_x rfl dX2_takeOut_45 ?_
    refine lv_iload hx hb dX2_takeOut_46 (lv_at hl 0 rfl) ?_
    refine lv_isub hx hb dX2_takeOut_48 ?_
    refine w_ist (w' := wsW g ad lo ke fo ea (si (si σ 10 x ((gi σ 10 x) - y)) 11 x ((gi σ 11 x) - (((((((gi σ 11 x)).toInt64) * ((y).toInt64)) / (((gi σ 10 x)).toInt64))).toInt32)))) S hK E 11 0 rfl rfl q_x wset_11 dX2_takeOut_49 (fun H locs E => ?_)
    refine lv_iload hx hb dX2_takeOut_50 (lv_at hl 0 rfl) ?_
    have hQ : f_X2_takeOut σ x y = (((((((gi σ 11 x)).toInt64) * ((y).toInt64)) / (((gi σ 10 x)).toInt64))).toInt32, (si (si σ 10 x ((gi σ 10 x) - y)) 11 x ((gi σ 11 x) - (((((((gi σ 11 x)).toInt64) * ((y).toInt64)) / (((gi σ 10 x)).toInt64))).toInt32)))) := by
      unfold f_X2_takeOut; rw [if_pos c1]
    exact x_iret (si (si σ 10 x ((gi σ 10 x) - y)) 11 x ((gi σ 11 x) - (((((((gi σ 11 x)).toInt64) * ((y).toInt64)) / (((gi σ 10 x)).toInt64))).toInt32))) S hr hlk hsz htt hK E dX2_takeOut_52 ⟨(congrArg Prod.fst hQ).symm, (congrArg Prod.snd hQ).symm⟩ rfl ⟨Nat.le_of_ble_eq_true rfl, Nat.le_of_ble_eq_true rfl⟩ ⟨Nat.le_of_ble_eq_true rfl, Nat.le_of_ble_eq_true rfl⟩
  · have c1 : ¬ (1 ≤ (gi σ 10 x)) := c1
    refine lv_iconst (v := 0) hx hb dX2_takeOut_12 (by decide) ?_
    have hQ : f_X2_takeOut σ x y = (0, σ) := by
      unfold f_X2_takeOut; rw [if_neg c1]
    exact x_iret σ S hr hlk hsz htt hK E dX2_takeOut_13 ⟨(congrArg Prod.fst hQ).symm, (congrArg Prod.snd hQ).symm⟩ rfl ⟨Nat.le_of_ble_eq_true rfl, Nat.le_of_ble_eq_true rfl⟩ ⟨Nat.le_of_ble_eq_true rfl, Nat.le_of_ble_eq_true rfl⟩

def f_X2_waterInAll_L4 (σ : Sg)  : Nat → Nat → Int64 → Int64
  | 0, i, a => a
  | k + 1, i, a => f_X2_waterInAll_L4 σ k (i + 1) (a + (((gi σ 10 (nI i))).toInt64))
def f_X2_waterInAll (σ : Sg)  : Int64 := f_X2_waterInAll_L4 σ 16 0 0
set_option maxHeartbeats 4000000 in
set_option maxRecDepth 100000 in
/-- Cells.waterInAll -/
theorem c_X2_waterInAll (l : Launch) (g : Gm) (ad : Nat → Nat) (lo ke fo : Int32) (ea : Nat) (σ : Sg) : MXl l g yX2_waterInAll cX2_waterInAll 4 ({ frames := 0, cells := 0, slots := 0, locals := 0 } : Room) [.ref (ad 1)] (wsW g ad lo ke fo ea σ) (fun (r : Int64) (u : Sg) => r = f_X2_waterInAll σ ∧ u = σ) (wsW g ad lo ke fo ea) (fun _ => (0, 0)) := by
  intro sz tt
  refine ofX RX2 rfl (by decide +kernel) (Nat.le_of_ble_eq_true rfl) (fun p e s m args below meth c hargs S hml hr hlk hnm hsz htt hK hA hZ E ls hl => ?_)
  have hx := S.1
  have hb := S.2.1
  have hl : lv_has ls 4 [(0, .ref (ad 1))] := hl
  have L4 : ∀ (k i : Nat), i + k = 16 → ∀  (a : Int64)   (H : Heap) (locs : List Loc), f_X2_waterInAll σ = f_X2_waterInAll_L4 σ k i a → Ev g (va_A (wsW g ad lo ke fo ea σ) sz) s.heap H locs (wsW g ad lo ke fo ea σ) → ∀ ls : Array Slot, lv_has ls 4 [(0, .ref (ad 1)), (1, .long a), (3, .int (nI i))] → W p l e ({ frames := 0, cells := 0, slots := 0, locals := 0 } : Room) s m args below meth c H locs 0 0 (MQ below (va_Ql (fun (r : Int64) (u : Sg) => r = f_X2_waterInAll σ ∧ u = σ) (AtX g (va_A (wsW g ad lo ke fo ea σ) sz) (wsW g ad lo ke fo ea) (fun _ => (0, 0)) sz tt) (va_A (wsW g ad lo ke fo ea σ) sz)) args s 0 0 (va_A (wsW g ad lo ke fo ea σ) sz)) (F0 m 4 ls []) := by
    intro k
    induction k with
    | zero =>
      intro i hi  a   H locs hF E ls hl
      have hk : Kp σ σ := Kp.rf
      have hl : lv_has ls 4 [(0, .ref (ad 1)), (1, .long a), (3, .int (nI i))] := hl
      refine lv_iload_n hx hb dX2_waterInAll_4 rfl (lv_at hl 2 rfl) ?_
      refine lv_bipush (v := 16) hx hb dX2_waterInAll_5 (by decide) ?_
      refine lv_icmp_ge (tgt := 26) hx hb dX2_waterInAll_7 (by decide) (fun _ => ?_) (fun c_ => absurd (g_yes (b := 16) rfl rfl (by omega) (by omega)) c_)
      refine lv_lload_n hx hb dX2_waterInAll_26 rfl (lv_at hl 1 rfl) ?_
      have hQ : f_X2_waterInAll σ = a := by
        rw [hF]; rw [f_X2_waterInAll_L4]
      exact x_lret σ S hr hlk hsz htt hK E dX2_waterInAll_27 ⟨hQ.symm, rfl⟩ rfl ⟨Nat.le_of_ble_eq_true rfl, Nat.le_of_ble_eq_true rfl⟩ ⟨Nat.le_of_ble_eq_true rfl, Nat.le_of_ble_eq_true rfl⟩
    | succ k ih =>
      intro i hi  a   H locs hF E ls hl
      have hk : Kp σ σ := Kp.rf
      have hl : lv_has ls 4 [(0, .ref (ad 1)), (1, .long a), (3, .int (nI i))] := hl
      refine lv_iload_n hx hb dX2_waterInAll_4 rfl (lv_at hl 2 rfl) ?_
      refine lv_bipush (v := 16) hx hb dX2_waterInAll_5 (by decide) ?_
      refine lv_icmp_ge (tgt := 26) hx hb dX2_waterInAll_7 (by decide) (fun c_ => absurd c_ (g_no (b := 16) rfl rfl (by omega) (by decide))) (fun _ => ?_)
      refine lv_lload_n hx hb dX2_waterInAll_10 rfl (lv_at hl 1 rfl) ?_
      refine lv_aload_n hx hb dX2_waterInAll_11 rfl (lv_at hl 0 rfl) ?_
      refine wg_X2_18 (v := .ref (ad 10)) S hK E 1 rfl rfl dX2_waterInAll_12 ?_
      refine lv_iload_n hx hb dX2_waterInAll_15 rfl (lv_at hl 2 rfl) ?_
      refine w_ild (v := gi σ 10 (nI i)) S hK E 10 0 rfl rfl (vp_in_nI (n := i) (by omega) (by decide)) rfl dX2_waterInAll_16 ?_
      refine lv_i2l (v := ((gi σ 10 (nI i))).toInt64) hx hb dX2_waterInAll_17 rfl ?_
      refine lv_ladd hx hb dX2_waterInAll_18 ?_
      refine lv_lstore_n (lv' := [(1, .long (a + (((gi σ 10 (nI i))).toInt64))), (0, .ref (ad 1)), (3, .int (nI i))]) hx hb dX2_waterInAll_19 rfl hl (by decide) rfl (fun ls hl => ?_)
      refine lv_iinc (v := (nI (i + 1))) (lv' := [(3, .int (nI (i + 1))), (1, .long (a + (((gi σ 10 (nI i))).toInt64))), (0, .ref (ad 1))]) hx hb dX2_waterInAll_20 hl (k := 2) rfl (nI_1 i) (by decide) rfl (fun ls hl => ?_)
      refine lv_goto (tgt := 4) hx hb dX2_waterInAll_23 (by decide) ?_
      have hF : f_X2_waterInAll σ = f_X2_waterInAll_L4 σ k (i + 1) (a + (((gi σ 10 (nI i))).toInt64)) := by
        rw [hF]; rw [f_X2_waterInAll_L4]
      exact ih (i + 1) (by omega)  (a + (((gi σ 10 (nI i))).toInt64))   _ _ hF E ls (lv_sub hl [2, 1, 0] rfl)
  refine lv_lconst (v := 0) hx hb dX2_waterInAll_0 (by decide) ?_
  refine lv_lstore_n (lv' := [(1, .long 0), (0, .ref (ad 1))]) hx hb dX2_waterInAll_1 rfl hl (by decide) rfl (fun ls hl => ?_)
  refine lv_iconst (v := 0) hx hb dX2_waterInAll_2 (by decide) ?_
  refine lv_istore_n (lv' := [(3, .int 0), (1, .long 0), (0, .ref (ad 1))]) hx hb dX2_waterInAll_3 rfl hl (by decide) rfl (fun ls hl => ?_)
  have hF : f_X2_waterInAll σ = f_X2_waterInAll_L4 σ 16 0 0 := by
    rfl
  exact L4 16 0 (by omega)  0   _ _ hF E ls (lv_sub hl [2, 1, 0] rfl)

def f_X0_balanceWith (σ : Sg) (x : Int64) : Int32 := if (lg_cmp ((((gl σ 28 0) + (gl σ 28 1)) + (gl σ 28 3)) + (gl σ 28 6)) (((((gl σ 28 2) + (gl σ 28 4)) + (gl σ 28 5)) + (gl σ 28 7)) + x)) = 0 then 1 else 0
set_option maxHeartbeats 4000000 in
set_option maxRecDepth 100000 in
/-- Books.balanceWith -/
theorem c_X0_balanceWith (l : Launch) (g : Gm) (ad : Nat → Nat) (lo ke fo : Int32) (ea : Nat) (σ : Sg) (x : Int64) : MXi l g yX0_balanceWith cX0_balanceWith 7 .boolean ({ frames := 0, cells := 0, slots := 0, locals := 0 } : Room) [.ref (ad 4), .long x] (wsW g ad lo ke fo ea σ) (fun (r : Int32) (u : Sg) => r = f_X0_balanceWith σ x ∧ u = σ) (wsW g ad lo ke fo ea) (fun _ => (0, 0)) := by
  intro sz tt
  refine ofX RX0 rfl (by decide +kernel) (Nat.le_of_ble_eq_true rfl) (fun p e s m args below meth c hargs S hml hr hlk hnm hsz htt hK hA hZ E ls hl => ?_)
  have hx := S.1
  have hb := S.2.1
  have hl : lv_has ls 7 [(0, .ref (ad 4)), (1, .long x)] := hl
  refine lv_aload_n hx hb dX0_balanceWith_0 rfl (lv_at hl 0 rfl) ?_
  refine wg_X0_7 (v := .ref (ad 28)) S hK E 4 rfl rfl dX0_balanceWith_1 ?_
  refine lv_iconst (v := 0) hx hb dX0_balanceWith_4 (by decide) ?_
  refine w_lld (v := gl σ 28 0) S hK E 28 1 rfl rfl (show vp_in 0 9 by unfold vp_in; decide) rfl dX0_balanceWith_5 ?_
  refine lv_aload_n hx hb dX0_balanceWith_6 rfl (lv_at hl 0 rfl) ?_
  refine wg_X0_7 (v := .ref (ad 28)) S hK E 4 rfl rfl dX0_balanceWith_7 ?_
  refine lv_iconst (v := 1) hx hb dX0_balanceWith_10 (by decide) ?_
  refine w_lld (v := gl σ 28 1) S hK E 28 1 rfl rfl (show vp_in 1 9 by unfold vp_in; decide) rfl dX0_balanceWith_11 ?_
  refine lv_ladd hx hb dX0_balanceWith_12 ?_
  refine lv_aload_n hx hb dX0_balanceWith_13 rfl (lv_at hl 0 rfl) ?_
  refine wg_X0_7 (v := .ref (ad 28)) S hK E 4 rfl rfl dX0_balanceWith_14 ?_
  refine lv_iconst (v := 3) hx hb dX0_balanceWith_17 (by decide) ?_
  refine w_lld (v := gl σ 28 3) S hK E 28 1 rfl rfl (show vp_in 3 9 by unfold vp_in; decide) rfl dX0_balanceWith_18 ?_
  refine lv_ladd hx hb dX0_balanceWith_19 ?_
  refine lv_aload_n hx hb dX0_balanceWith_20 rfl (lv_at hl 0 rfl) ?_
  refine wg_X0_7 (v := .ref (ad 28)) S hK E 4 rfl rfl dX0_balanceWith_21 ?_
  refine lv_bipush (v := 6) hx hb dX0_balanceWith_24 (by decide) ?_
  refine w_lld (v := gl σ 28 6) S hK E 28 1 rfl rfl (show vp_in 6 9 by unfold vp_in; decide) rfl dX0_balanceWith_26 ?_
  refine lv_ladd hx hb dX0_balanceWith_27 ?_
  refine lv_lstore_n (lv' := [(3, .long ((((gl σ 28 0) + (gl σ 28 1)) + (gl σ 28 3)) + (gl σ 28 6))), (0, .ref (ad 4)), (1, .long x)]) hx hb dX0_balanceWith_28 rfl hl (by decide) rfl (fun ls hl => ?_)
  refine lv_aload_n hx hb dX0_balanceWith_29 rfl (lv_at hl 1 rfl) ?_
  refine wg_X0_7 (v := .ref (ad 28)) S hK E 4 rfl rfl dX0_balanceWith_30 ?_
  refine lv_iconst (v := 2) hx hb dX0_balanceWith_33 (by decide) ?_
  refine w_lld (v := gl σ 28 2) S hK E 28 1 rfl rfl (show vp_in 2 9 by unfold vp_in; decide) rfl dX0_balanceWith_34 ?_
  refine lv_aload_n hx hb dX0_balanceWith_35 rfl (lv_at hl 1 rfl) ?_
  refine wg_X0_7 (v := .ref (ad 28)) S hK E 4 rfl rfl dX0_balanceWith_36 ?_
  refine lv_iconst (v := 4) hx hb dX0_balanceWith_39 (by decide) ?_
  refine w_lld (v := gl σ 28 4) S hK E 28 1 rfl rfl (show vp_in 4 9 by unfold vp_in; decide) rfl dX0_balanceWith_40 ?_
  refine lv_ladd hx hb dX0_balanceWith_41 ?_
  refine lv_aload_n hx hb dX0_balanceWith_42 rfl (lv_at hl 1 rfl) ?_
  refine wg_X0_7 (v := .ref (ad 28)) S hK E 4 rfl rfl dX0_balanceWith_43 ?_
  refine lv_iconst (v := 5) hx hb dX0_balanceWith_46 (by decide) ?_
  refine w_lld (v := gl σ 28 5) S hK E 28 1 rfl rfl (show vp_in 5 9 by unfold vp_in; decide) rfl dX0_balanceWith_47 ?_
  refine lv_ladd hx hb dX0_balanceWith_48 ?_
  refine lv_aload_n hx hb dX0_balanceWith_49 rfl (lv_at hl 1 rfl) ?_
  refine wg_X0_7 (v := .ref (ad 28)) S hK E 4 rfl rfl dX0_balanceWith_50 ?_
  refine lv_bipush (v := 7) hx hb dX0_balanceWith_53 (by decide) ?_
  refine w_lld (v := gl σ 28 7) S hK E 28 1 rfl rfl (show vp_in 7 9 by unfold vp_in; decide) rfl dX0_balanceWith_55 ?_
  refine lv_ladd hx hb dX0_balanceWith_56 ?_
  refine lv_lstore (lv' := [(5, .long ((((gl σ 28 2) + (gl σ 28 4)) + (gl σ 28 5)) + (gl σ 28 7))), (3, .long ((((gl σ 28 0) + (gl σ 28 1)) + (gl σ 28 3)) + (gl σ 28 6))), (0, .ref (ad 4)), (1, .long x)]) hx hb dX0_balanceWith_57 hl (by decide) rfl (fun ls hl => ?_)
  refine lv_lload_n hx hb dX0_balanceWith_59 rfl (lv_at hl 1 rfl) ?_
  refine lv_lload hx hb dX0_balanceWith_60 (lv_at hl 0 rfl) ?_
  refine lv_lload_n hx hb dX0_balanceWith_62 rfl (lv_at hl 3 rfl) ?_
  refine lv_ladd hx hb dX0_balanceWith_63 ?_
  refine W.lcmp hx hb dX0_balanceWith_64 ?_
  refine lv_if_ne (tgt := 72) hx hb dX0_balanceWith_65 (by decide) (fun c1 => ?_) (fun c1 => ?_)
  · have c1 : ¬ ((lg_cmp ((((gl σ 28 0) + (gl σ 28 1)) + (gl σ 28 3)) + (gl σ 28 6)) (((((gl σ 28 2) + (gl σ 28 4)) + (gl σ 28 5)) + (gl σ 28 7)) + x)) = 0) := c1
    refine lv_iconst (v := 0) hx hb dX0_balanceWith_72 (by decide) ?_
    have hQ : f_X0_balanceWith σ x = 0 := by
      unfold f_X0_balanceWith; rw [if_neg c1]
    exact x_zret σ S hr hlk hsz htt hK E dX0_balanceWith_73 rfl ⟨hQ.symm, rfl⟩ rfl ⟨Nat.le_of_ble_eq_true rfl, Nat.le_of_ble_eq_true rfl⟩ ⟨Nat.le_of_ble_eq_true rfl, Nat.le_of_ble_eq_true rfl⟩
  · have c1 : (lg_cmp ((((gl σ 28 0) + (gl σ 28 1)) + (gl σ 28 3)) + (gl σ 28 6)) (((((gl σ 28 2) + (gl σ 28 4)) + (gl σ 28 5)) + (gl σ 28 7)) + x)) = 0 := c1
    refine lv_iconst (v := 1) hx hb dX0_balanceWith_68 (by decide) ?_
    refine lv_goto (tgt := 73) hx hb dX0_balanceWith_69 (by decide) ?_
    have hQ : f_X0_balanceWith σ x = 1 := by
      unfold f_X0_balanceWith; rw [if_pos c1]
    exact x_zret σ S hr hlk hsz htt hK E dX0_balanceWith_73 rfl ⟨hQ.symm, rfl⟩ rfl ⟨Nat.le_of_ble_eq_true rfl, Nat.le_of_ble_eq_true rfl⟩ ⟨Nat.le_of_ble_eq_true rfl, Nat.le_of_ble_eq_true rfl⟩

def f_X4_canGive (σ : Sg) (x : Int32) (y : Int32) (z : Int32) : Int32 := if x = y then 0 else (if (gi σ 20 x) < z then 0 else (if 999 < ((gi σ 20 y) + z) then 0 else 1))
set_option maxHeartbeats 4000000 in
set_option maxRecDepth 100000 in
/-- Wells.canGive -/
theorem c_X4_canGive (l : Launch) (g : Gm) (ad : Nat → Nat) (lo ke fo : Int32) (ea : Nat) (σ : Sg) (x : Int32) (y : Int32) (z : Int32) (q_x : vp_in x 6) (q_y : vp_in y 6) : MXi l g yX4_canGive cX4_canGive 4 .boolean ({ frames := 0, cells := 0, slots := 0, locals := 0 } : Room) [.ref (ad 3), .int x, .int y, .int z] (wsW g ad lo ke fo ea σ) (fun (r : Int32) (u : Sg) => r = f_X4_canGive σ x y z ∧ u = σ) (wsW g ad lo ke fo ea) (fun _ => (0, 0)) := by
  intro sz tt
  refine ofX RX4 rfl (by decide +kernel) (Nat.le_of_ble_eq_true rfl) (fun p e s m args below meth c hargs S hml hr hlk hnm hsz htt hK hA hZ E ls hl => ?_)
  have hx := S.1
  have hb := S.2.1
  have hl : lv_has ls 4 [(0, .ref (ad 3)), (1, .int x), (2, .int y), (3, .int z)] := hl
  refine lv_iload_n hx hb dX4_canGive_0 rfl (lv_at hl 1 rfl) ?_
  refine lv_iload_n hx hb dX4_canGive_1 rfl (lv_at hl 2 rfl) ?_
  refine lv_icmp_eq (tgt := 33) hx hb dX4_canGive_2 (by decide) (fun c1 => ?_) (fun c1 => ?_)
  · have c1 : x = y := c1
    refine lv_iconst (v := 0) hx hb dX4_canGive_33 (by decide) ?_
    have hQ : f_X4_canGive σ x y z = 0 := by
      unfold f_X4_canGive; rw [if_pos c1]
    exact x_zret σ S hr hlk hsz htt hK E dX4_canGive_34 rfl ⟨hQ.symm, rfl⟩ rfl ⟨Nat.le_of_ble_eq_true rfl, Nat.le_of_ble_eq_true rfl⟩ ⟨Nat.le_of_ble_eq_true rfl, Nat.le_of_ble_eq_true rfl⟩
  · have c1 : ¬ (x = y) := c1
    refine lv_aload_n hx hb dX4_canGive_5 rfl (lv_at hl 0 rfl) ?_
    refine wg_X4_18 (v := .ref (ad 20)) S hK E 3 rfl rfl dX4_canGive_6 ?_
    refine lv_iload_n hx hb dX4_canGive_9 rfl (lv_at hl 1 rfl) ?_
    refine w_ild (v := gi σ 20 x) S hK E 20 0 rfl rfl q_x rfl dX4_canGive_10 ?_
    refine lv_iload_n hx hb dX4_canGive_11 rfl (lv_at hl 3 rfl) ?_
    refine lv_icmp_lt (tgt := 33) hx hb dX4_canGive_12 (by decide) (fun c2 => ?_) (fun c2 => ?_)
    · have c2 : (gi σ 20 x) < z := c2
      refine lv_iconst (v := 0) hx hb dX4_canGive_33 (by decide) ?_
      have hQ : f_X4_canGive σ x y z = 0 := by
        unfold f_X4_canGive; rw [if_neg c1, if_pos c2]
      exact x_zret σ S hr hlk hsz htt hK E dX4_canGive_34 rfl ⟨hQ.symm, rfl⟩ rfl ⟨Nat.le_of_ble_eq_true rfl, Nat.le_of_ble_eq_true rfl⟩ ⟨Nat.le_of_ble_eq_true rfl, Nat.le_of_ble_eq_true rfl⟩
    · have c2 : ¬ ((gi σ 20 x) < z) := c2
      refine lv_aload_n hx hb dX4_canGive_15 rfl (lv_at hl 0 rfl) ?_
      refine wg_X4_18 (v := .ref (ad 20)) S hK E 3 rfl rfl dX4_canGive_16 ?_
      refine lv_iload_n hx hb dX4_canGive_19 rfl (lv_at hl 2 rfl) ?_
      refine w_ild (v := gi σ 20 y) S hK E 20 0 rfl rfl q_y rfl dX4_canGive_20 ?_
      refine lv_iload_n hx hb dX4_canGive_21 rfl (lv_at hl 3 rfl) ?_
      refine lv_iadd hx hb dX4_canGive_22 ?_
      refine lv_sipush (v := 999) hx hb dX4_canGive_23 (by decide) ?_
      refine lv_icmp_gt (tgt := 33) hx hb dX4_canGive_26 (by decide) (fun c3 => ?_) (fun c3 => ?_)
      · have c3 : 999 < ((gi σ 20 y) + z) := c3
        refine lv_iconst (v := 0) hx hb dX4_canGive_33 (by decide) ?_
        have hQ : f_X4_canGive σ x y z = 0 := by
          unfold f_X4_canGive; rw [if_neg c1, if_neg c2, if_pos c3]
        exact x_zret σ S hr hlk hsz htt hK E dX4_canGive_34 rfl ⟨hQ.symm, rfl⟩ rfl ⟨Nat.le_of_ble_eq_true rfl, Nat.le_of_ble_eq_true rfl⟩ ⟨Nat.le_of_ble_eq_true rfl, Nat.le_of_ble_eq_true rfl⟩
      · have c3 : ¬ (999 < ((gi σ 20 y) + z)) := c3
        refine lv_iconst (v := 1) hx hb dX4_canGive_29 (by decide) ?_
        refine lv_goto (tgt := 34) hx hb dX4_canGive_30 (by decide) ?_
        have hQ : f_X4_canGive σ x y z = 1 := by
          unfold f_X4_canGive; rw [if_neg c1, if_neg c2, if_neg c3]
        exact x_zret σ S hr hlk hsz htt hK E dX4_canGive_34 rfl ⟨hQ.symm, rfl⟩ rfl ⟨Nat.le_of_ble_eq_true rfl, Nat.le_of_ble_eq_true rfl⟩ ⟨Nat.le_of_ble_eq_true rfl, Nat.le_of_ble_eq_true rfl⟩

def f_X4_give (σ : Sg) (x : Int32) (y : Int32) (z : Int32) : Sg := (si (si (si σ 20 x ((gi σ 20 x) - z)) 20 y ((gi (si σ 20 x ((gi σ 20 x) - z)) 20 y) + z)) 26 x ((gi σ 26 x) + z))
theorem KP_X4_give {σ : Sg} {x : Int32} {y : Int32} {z : Int32} : Kp (f_X4_give σ x y z) σ := by
  unfold f_X4_give
  exact (Kp_si (k := 26) (Kp_si (k := 20) (Kp_si (k := 20) Kp.rf (by decide)) (by decide)) (by decide))
set_option maxHeartbeats 4000000 in
set_option maxRecDepth 100000 in
/-- Wells.give -/
theorem c_X4_give (l : Launch) (g : Gm) (ad : Nat → Nat) (lo ke fo : Int32) (ea : Nat) (σ : Sg) (x : Int32) (y : Int32) (z : Int32) (q_x : vp_in x 6) (q_y : vp_in y 6) : MXv l g yX4_give cX4_give 4 ({ frames := 0, cells := 0, slots := 0, locals := 0 } : Room) [.ref (ad 3), .int x, .int y, .int z] (wsW g ad lo ke fo ea σ) (fun u : Sg => u = f_X4_give σ x y z) (wsW g ad lo ke fo ea) (fun _ => (0, 0)) := by
  intro sz tt
  refine ofX RX4 rfl (by decide +kernel) (Nat.le_of_ble_eq_true rfl) (fun p e s m args below meth c hargs S hml hr hlk hnm hsz htt hK hA hZ E ls hl => ?_)
  have hx := S.1
  have hb := S.2.1
  have hl : lv_has ls 4 [(0, .ref (ad 3)), (1, .int x), (2, .int y), (3, .int z)] := hl
  refine lv_aload_n hx hb dX4_give_0 rfl (lv_at hl 0 rfl) ?_
  refine wg_X4_18 (v := .ref (ad 20)) S hK E 3 rfl rfl dX4_give_1 ?_
  refine lv_iload_n hx hb dX4_give_4 rfl (lv_at hl 1 rfl) ?_
  refine lv_dup2_11 hx hb dX4_give_5 rfl rfl ?_
  refine w_ild (v := gi σ 20 x) S hK E 20 0 rfl rfl q_x rfl dX4_give_6 ?_
  refine lv_iload_n hx hb dX4_give_7 rfl (lv_at hl 3 rfl) ?_
  refine lv_isub hx hb dX4_give_8 ?_
  refine w_ist (w' := wsW g ad lo ke fo ea (si σ 20 x ((gi σ 20 x) - z))) S hK E 20 0 rfl rfl q_x wset_20 dX4_give_9 (fun H locs E => ?_)
  refine lv_aload_n hx hb dX4_give_10 rfl (lv_at hl 0 rfl) ?_
  refine wg_X4_18 (v := .ref (ad 20)) S hK E 3 rfl rfl dX4_give_11 ?_
  refine lv_iload_n hx hb dX4_give_14 rfl (lv_at hl 2 rfl) ?_
  refine lv_dup2_11 hx hb dX4_give_15 rfl rfl ?_
  refine w_ild (v := gi (si σ 20 x ((gi σ 20 x) - z)) 20 y) S hK E 20 0 rfl rfl q_y rfl dX4_give_16 ?_
  refine lv_iload_n hx hb dX4_give_17 rfl (lv_at hl 3 rfl) ?_
  refine lv_iadd hx hb dX4_give_18 ?_
  refine w_ist (w' := wsW g ad lo ke fo ea (si (si σ 20 x ((gi σ 20 x) - z)) 20 y ((gi (si σ 20 x ((gi σ 20 x) - z)) 20 y) + z))) S hK E 20 0 rfl rfl q_y wset_20 dX4_give_19 (fun H locs E => ?_)
  refine lv_aload_n hx hb dX4_give_20 rfl (lv_at hl 0 rfl) ?_
  refine wg_X4_38 (v := .ref (ad 26)) S hK E 3 rfl rfl dX4_give_21 ?_
  refine lv_iload_n hx hb dX4_give_24 rfl (lv_at hl 1 rfl) ?_
  refine lv_dup2_11 hx hb dX4_give_25 rfl rfl ?_
  refine w_ild (v := gi σ 26 x) S hK E 26 0 rfl rfl q_x rfl dX4_give_26 ?_
  refine lv_iload_n hx hb dX4_give_27 rfl (lv_at hl 3 rfl) ?_
  refine lv_iadd hx hb dX4_give_28 ?_
  refine w_ist (w' := wsW g ad lo ke fo ea (si (si (si σ 20 x ((gi σ 20 x) - z)) 20 y ((gi (si σ 20 x ((gi σ 20 x) - z)) 20 y) + z)) 26 x ((gi σ 26 x) + z))) S hK E 26 0 rfl rfl q_x wset_26 dX4_give_29 (fun H locs E => ?_)
  have hQ : f_X4_give σ x y z = (si (si (si σ 20 x ((gi σ 20 x) - z)) 20 y ((gi (si σ 20 x ((gi σ 20 x) - z)) 20 y) + z)) 26 x ((gi σ 26 x) + z)) := by
    rfl
  exact x_vret (si (si (si σ 20 x ((gi σ 20 x) - z)) 20 y ((gi (si σ 20 x ((gi σ 20 x) - z)) 20 y) + z)) 26 x ((gi σ 26 x) + z)) S hr hlk hsz htt hK E dX4_give_30 hQ.symm rfl ⟨Nat.le_of_ble_eq_true rfl, Nat.le_of_ble_eq_true rfl⟩ ⟨Nat.le_of_ble_eq_true rfl, Nat.le_of_ble_eq_true rfl⟩

def f_X4_wanted (σ : Sg) (x : Int32) : Int32 := (mx 0 (mn (gi σ 21 x) ((gi σ 20 x) - (gi σ 22 x))))
set_option maxHeartbeats 4000000 in
set_option maxRecDepth 100000 in
/-- Wells.wanted -/
theorem c_X4_wanted (l : Launch) (g : Gm) (ad : Nat → Nat) (lo ke fo : Int32) (ea : Nat) (σ : Sg) (x : Int32) (q_x : vp_in x 6) : MXi l g yX4_wanted cX4_wanted 3 .int ({ frames := 1, cells := 0, slots := 0, locals := 14 } : Room) [.ref (ad 3), .int x] (wsW g ad lo ke fo ea σ) (fun (r : Int32) (u : Sg) => r = f_X4_wanted σ x ∧ u = σ) (wsW g ad lo ke fo ea) (fun _ => (0, 0)) := by
  intro sz tt
  refine ofX RX4 rfl (by decide +kernel) (Nat.le_of_ble_eq_true rfl) (fun p e s m args below meth c hargs S hml hr hlk hnm hsz htt hK hA hZ E ls hl => ?_)
  have hx := S.1
  have hb := S.2.1
  have hl : lv_has ls 3 [(0, .ref (ad 3)), (1, .int x)] := hl
  refine lv_aload_n hx hb dX4_wanted_0 rfl (lv_at hl 0 rfl) ?_
  refine wg_X4_18 (v := .ref (ad 20)) S hK E 3 rfl rfl dX4_wanted_1 ?_
  refine lv_iload_n hx hb dX4_wanted_4 rfl (lv_at hl 1 rfl) ?_
  refine w_ild (v := gi σ 20 x) S hK E 20 0 rfl rfl q_x rfl dX4_wanted_5 ?_
  refine lv_aload_n hx hb dX4_wanted_6 rfl (lv_at hl 0 rfl) ?_
  refine wg_X4_24 (v := .ref (ad 22)) S hK E 3 rfl rfl dX4_wanted_7 ?_
  refine lv_iload_n hx hb dX4_wanted_10 rfl (lv_at hl 1 rfl) ?_
  refine w_ild (v := gi σ 22 x) S hK E 22 0 rfl rfl q_x rfl dX4_wanted_11 ?_
  refine lv_isub hx hb dX4_wanted_12 ?_
  refine lv_istore_n (lv' := [(2, .int ((gi σ 20 x) - (gi σ 22 x))), (0, .ref (ad 3)), (1, .int x)]) hx hb dX4_wanted_13 rfl hl (by decide) rfl (fun ls hl => ?_)
  refine lv_iconst (v := 0) hx hb dX4_wanted_14 (by decide) ?_
  refine lv_aload_n hx hb dX4_wanted_15 rfl (lv_at hl 1 rfl) ?_
  refine wg_X4_21 (v := .ref (ad 21)) S hK E 3 rfl rfl dX4_wanted_16 ?_
  refine lv_iload_n hx hb dX4_wanted_19 rfl (lv_at hl 2 rfl) ?_
  refine w_ild (v := gi σ 21 x) S hK E 21 0 rfl rfl q_x rfl dX4_wanted_20 ?_
  refine lv_iload_n hx hb dX4_wanted_21 rfl (lv_at hl 0 rfl) ?_
  refine w_min (v := (mn (gi σ 21 x) ((gi σ 20 x) - (gi σ 22 x)))) S hml hl ml_X4_48 st_min in_J9 co_min (Nat.le_of_ble_eq_true rfl) (Nat.le_of_ble_eq_true rfl) ⟨Nat.le_of_ble_eq_true rfl, Nat.le_of_ble_eq_true rfl⟩ rfl dX4_wanted_22 ?_
  refine w_max (v := (mx 0 (mn (gi σ 21 x) ((gi σ 20 x) - (gi σ 22 x))))) S hml hl ml_X4_54 st_max in_J9 co_max (Nat.le_of_ble_eq_true rfl) (Nat.le_of_ble_eq_true rfl) ⟨Nat.le_of_ble_eq_true rfl, Nat.le_of_ble_eq_true rfl⟩ rfl dX4_wanted_25 ?_
  have hQ : f_X4_wanted σ x = (mx 0 (mn (gi σ 21 x) ((gi σ 20 x) - (gi σ 22 x)))) := by
    rfl
  exact x_iret σ S hr hlk hsz htt hK E dX4_wanted_28 ⟨hQ.symm, rfl⟩ rfl ⟨Nat.le_of_ble_eq_true rfl, Nat.le_of_ble_eq_true rfl⟩ ⟨Nat.le_of_ble_eq_true rfl, Nat.le_of_ble_eq_true rfl⟩

def f_X4_startYear (σ : Sg) (x : Int32) : Sg := (si (si (si σ 22 x 0) 26 x 0) 24 x 0)
theorem KP_X4_startYear {σ : Sg} {x : Int32} : Kp (f_X4_startYear σ x) σ := by
  unfold f_X4_startYear
  exact (Kp_si (k := 24) (Kp_si (k := 26) (Kp_si (k := 22) Kp.rf (by decide)) (by decide)) (by decide))
set_option maxHeartbeats 4000000 in
set_option maxRecDepth 100000 in
/-- Wells.startYear -/
theorem c_X4_startYear (l : Launch) (g : Gm) (ad : Nat → Nat) (lo ke fo : Int32) (ea : Nat) (σ : Sg) (x : Int32) (q_x : vp_in x 6) : MXv l g yX4_startYear cX4_startYear 2 ({ frames := 0, cells := 0, slots := 0, locals := 0 } : Room) [.ref (ad 3), .int x] (wsW g ad lo ke fo ea σ) (fun u : Sg => u = f_X4_startYear σ x) (wsW g ad lo ke fo ea) (fun _ => (0, 0)) := by
  intro sz tt
  refine ofX RX4 rfl (by decide +kernel) (Nat.le_of_ble_eq_true rfl) (fun p e s m args below meth c hargs S hml hr hlk hnm hsz htt hK hA hZ E ls hl => ?_)
  have hx := S.1
  have hb := S.2.1
  have hl : lv_has ls 2 [(0, .ref (ad 3)), (1, .int x)] := hl
  refine lv_aload_n hx hb dX4_startYear_0 rfl (lv_at hl 0 rfl) ?_
  refine wg_X4_24 (v := .ref (ad 22)) S hK E 3 rfl rfl dX4_startYear_1 ?_
  refine lv_iload_n hx hb dX4_startYear_4 rfl (lv_at hl 1 rfl) ?_
  refine lv_iconst (v := 0) hx hb dX4_startYear_5 (by decide) ?_
  refine w_ist (w' := wsW g ad lo ke fo ea (si σ 22 x 0)) S hK E 22 0 rfl rfl q_x wset_22 dX4_startYear_6 (fun H locs E => ?_)
  refine lv_aload_n hx hb dX4_startYear_7 rfl (lv_at hl 0 rfl) ?_
  refine wg_X4_38 (v := .ref (ad 26)) S hK E 3 rfl rfl dX4_startYear_8 ?_
  refine lv_iload_n hx hb dX4_startYear_11 rfl (lv_at hl 1 rfl) ?_
  refine lv_iconst (v := 0) hx hb dX4_startYear_12 (by decide) ?_
  refine w_ist (w' := wsW g ad lo ke fo ea (si (si σ 22 x 0) 26 x 0)) S hK E 26 0 rfl rfl q_x wset_26 dX4_startYear_13 (fun H locs E => ?_)
  refine lv_aload_n hx hb dX4_startYear_14 rfl (lv_at hl 0 rfl) ?_
  refine wg_X4_31 (v := .ref (ad 24)) S hK E 3 rfl rfl dX4_startYear_15 ?_
  refine lv_iload_n hx hb dX4_startYear_18 rfl (lv_at hl 1 rfl) ?_
  refine lv_iconst (v := 0) hx hb dX4_startYear_19 (by decide) ?_
  refine w_zst (w' := wsW g ad lo ke fo ea (si (si (si σ 22 x 0) 26 x 0) 24 x 0)) S hK E 24 2 rfl rfl q_x (wset_24 (by decide)) dX4_startYear_20 (fun H locs E => ?_)
  have hQ : f_X4_startYear σ x = (si (si (si σ 22 x 0) 26 x 0) 24 x 0) := by
    rfl
  exact x_vret (si (si (si σ 22 x 0) 26 x 0) 24 x 0) S hr hlk hsz htt hK E dX4_startYear_21 hQ.symm rfl ⟨Nat.le_of_ble_eq_true rfl, Nat.le_of_ble_eq_true rfl⟩ ⟨Nat.le_of_ble_eq_true rfl, Nat.le_of_ble_eq_true rfl⟩

def f_X4_forfeits (σ : Sg) (x : Int32) : Int32 × Sg := if (gi σ 22 x) = 0 then (if (gi σ 21 x) ≤ 0 then (if (gi (si σ 25 x 0) 25 x) < 3 then (0, (si σ 25 x 0)) else (if (gi σ 20 x) = 0 then (0, (si σ 25 x 0)) else (1, (si (si (si σ 25 x 0) 20 x 0) 25 x 0)))) else (if (gi (si σ 25 x ((gi σ 25 x) + 1)) 25 x) < 3 then (0, (si σ 25 x ((gi σ 25 x) + 1))) else (if (gi σ 20 x) = 0 then (0, (si σ 25 x ((gi σ 25 x) + 1))) else (1, (si (si (si σ 25 x ((gi σ 25 x) + 1)) 20 x 0) 25 x 0))))) else (if (gi (si σ 25 x 0) 25 x) < 3 then (0, (si σ 25 x 0)) else (if (gi σ 20 x) = 0 then (0, (si σ 25 x 0)) else (1, (si (si (si σ 25 x 0) 20 x 0) 25 x 0))))
theorem KP_X4_forfeits {σ : Sg} {x : Int32} : Kp (f_X4_forfeits σ x).2 σ := by
  unfold f_X4_forfeits
  split
  · split
    · split
      · exact (Kp_si (k := 25) Kp.rf (by decide))
      · split
        · exact (Kp_si (k := 25) Kp.rf (by decide))
        · exact (Kp_si (k := 25) (Kp_si (k := 20) (Kp_si (k := 25) Kp.rf (by decide)) (by decide)) (by decide))
    · split
      · exact (Kp_si (k := 25) Kp.rf (by decide))
      · split
        · exact (Kp_si (k := 25) Kp.rf (by decide))
        · exact (Kp_si (k := 25) (Kp_si (k := 20) (Kp_si (k := 25) Kp.rf (by decide)) (by decide)) (by decide))
  · split
    · exact (Kp_si (k := 25) Kp.rf (by decide))
    · split
      · exact (Kp_si (k := 25) Kp.rf (by decide))
      · exact (Kp_si (k := 25) (Kp_si (k := 20) (Kp_si (k := 25) Kp.rf (by decide)) (by decide)) (by decide))
set_option maxHeartbeats 4000000 in
set_option maxRecDepth 100000 in
/-- Wells.forfeits -/
theorem c_X4_forfeits (l : Launch) (g : Gm) (ad : Nat → Nat) (lo ke fo : Int32) (ea : Nat) (σ : Sg) (x : Int32) (q_x : vp_in x 6) : MXi l g yX4_forfeits cX4_forfeits 3 .boolean ({ frames := 0, cells := 0, slots := 0, locals := 0 } : Room) [.ref (ad 3), .int x] (wsW g ad lo ke fo ea σ) (fun (r : Int32) (u : Sg) => r = (f_X4_forfeits σ x).1 ∧ u = (f_X4_forfeits σ x).2) (wsW g ad lo ke fo ea) (fun _ => (0, 0)) := by
  intro sz tt
  refine ofX RX4 rfl (by decide +kernel) (Nat.le_of_ble_eq_true rfl) (fun p e s m args below meth c hargs S hml hr hlk hnm hsz htt hK hA hZ E ls hl => ?_)
  have hx := S.1
  have hb := S.2.1
  have hl : lv_has ls 3 [(0, .ref (ad 3)), (1, .int x)] := hl
  refine lv_aload_n hx hb dX4_forfeits_0 rfl (lv_at hl 0 rfl) ?_
  refine wg_X4_24 (v := .ref (ad 22)) S hK E 3 rfl rfl dX4_forfeits_1 ?_
  refine lv_iload_n hx hb dX4_forfeits_4 rfl (lv_at hl 1 rfl) ?_
  refine w_ild (v := gi σ 22 x) S hK E 22 0 rfl rfl q_x rfl dX4_forfeits_5 ?_
  refine lv_if_ne (tgt := 22) hx hb dX4_forfeits_6 (by decide) (fun c1 => ?_) (fun c1 => ?_)
  · have c1 : ¬ ((gi σ 22 x) = 0) := c1
    refine lv_iconst (v := 0) hx hb dX4_forfeits_22 (by decide) ?_
    refine lv_istore_n (lv' := [(2, .int 0), (0, .ref (ad 3)), (1, .int x)]) hx hb dX4_forfeits_23 rfl hl (by decide) rfl (fun ls hl => ?_)
    refine lv_aload_n hx hb dX4_forfeits_24 rfl (lv_at hl 1 rfl) ?_
    refine wg_X4_35 (v := .ref (ad 25)) S hK E 3 rfl rfl dX4_forfeits_25 ?_
    refine lv_iload_n hx hb dX4_forfeits_28 rfl (lv_at hl 2 rfl) ?_
    refine lv_iload_n hx hb dX4_forfeits_29 rfl (lv_at hl 0 rfl) ?_
    refine lv_if_eq (tgt := 44) hx hb dX4_forfeits_30 (by decide) (fun _ => ?_) (fun c_ => absurd (by decide) c_)
    refine lv_iconst (v := 0) hx hb dX4_forfeits_44 (by decide) ?_
    refine w_ist (w' := wsW g ad lo ke fo ea (si σ 25 x 0)) S hK E 25 0 rfl rfl q_x wset_25 dX4_forfeits_45 (fun H locs E => ?_)
    refine lv_aload_n hx hb dX4_forfeits_46 rfl (lv_at hl 1 rfl) ?_
    refine wg_X4_35 (v := .ref (ad 25)) S hK E 3 rfl rfl dX4_forfeits_47 ?_
    refine lv_iload_n hx hb dX4_forfeits_50 rfl (lv_at hl 2 rfl) ?_
    refine w_ild (v := gi (si σ 25 x 0) 25 x) S hK E 25 0 rfl rfl q_x rfl dX4_forfeits_51 ?_
    refine lv_iconst (v := 3) hx hb dX4_forfeits_52 (by decide) ?_
    refine lv_icmp_lt (tgt := 65) hx hb dX4_forfeits_53 (by decide) (fun c2 => ?_) (fun c2 => ?_)
    · have c2 : (gi (si σ 25 x 0) 25 x) < 3 := c2
      refine lv_iconst (v := 0) hx hb dX4_forfeits_65 (by decide) ?_
      have hQ : f_X4_forfeits σ x = (0, (si σ 25 x 0)) := by
        unfold f_X4_forfeits; rw [if_neg c1, if_pos c2]
      exact x_zret (si σ 25 x 0) S hr hlk hsz htt hK E dX4_forfeits_66 rfl ⟨(congrArg Prod.fst hQ).symm, (congrArg Prod.snd hQ).symm⟩ rfl ⟨Nat.le_of_ble_eq_true rfl, Nat.le_of_ble_eq_true rfl⟩ ⟨Nat.le_of_ble_eq_true rfl, Nat.le_of_ble_eq_true rfl⟩
    · have c2 : ¬ ((gi (si σ 25 x 0) 25 x) < 3) := c2
      refine lv_aload_n hx hb dX4_forfeits_56 rfl (lv_at hl 1 rfl) ?_
      refine wg_X4_18 (v := .ref (ad 20)) S hK E 3 rfl rfl dX4_forfeits_57 ?_
      refine lv_iload_n hx hb dX4_forfeits_60 rfl (lv_at hl 2 rfl) ?_
      refine w_ild (v := gi σ 20 x) S hK E 20 0 rfl rfl q_x rfl dX4_forfeits_61 ?_
      refine lv_if_ne (tgt := 67) hx hb dX4_forfeits_62 (by decide) (fun c3 => ?_) (fun c3 => ?_)
      · have c3 : ¬ ((gi σ 20 x) = 0) := c3
        refine lv_aload_n hx hb dX4_forfeits_67 rfl (lv_at hl 1 rfl) ?_
        refine wg_X4_18 (v := .ref (ad 20)) S hK E 3 rfl rfl dX4_forfeits_68 ?_
        refine lv_iload_n hx hb dX4_forfeits_71 rfl (lv_at hl 2 rfl) ?_
        refine lv_iconst (v := 0) hx hb dX4_forfeits_72 (by decide) ?_
        refine w_ist (w' := wsW g ad lo ke fo ea (si (si σ 25 x 0) 20 x 0)) S hK E 20 0 rfl rfl q_x wset_20 dX4_forfeits_73 (fun H locs E => ?_)
        refine lv_aload_n hx hb dX4_forfeits_74 rfl (lv_at hl 1 rfl) ?_
        refine wg_X4_35 (v := .ref (ad 25)) S hK E 3 rfl rfl dX4_forfeits_75 ?_
        refine lv_iload_n hx hb dX4_forfeits_78 rfl (lv_at hl 2 rfl) ?_
        refine lv_iconst (v := 0) hx hb dX4_forfeits_79 (by decide) ?_
        refine w_ist (w' := wsW g ad lo ke fo ea (si (si (si σ 25 x 0) 20 x 0) 25 x 0)) S hK E 25 0 rfl rfl q_x wset_25 dX4_forfeits_80 (fun H locs E => ?_)
        refine lv_iconst (v := 1) hx hb dX4_forfeits_81 (by decide) ?_
        have hQ : f_X4_forfeits σ x = (1, (si (si (si σ 25 x 0) 20 x 0) 25 x 0)) := by
          unfold f_X4_forfeits; rw [if_neg c1, if_neg c2, if_neg c3]
        exact x_zret (si (si (si σ 25 x 0) 20 x 0) 25 x 0) S hr hlk hsz htt hK E dX4_forfeits_82 rfl ⟨(congrArg Prod.fst hQ).symm, (congrArg Prod.snd hQ).symm⟩ rfl ⟨Nat.le_of_ble_eq_true rfl, Nat.le_of_ble_eq_true rfl⟩ ⟨Nat.le_of_ble_eq_true rfl, Nat.le_of_ble_eq_true rfl⟩
      · have c3 : (gi σ 20 x) = 0 := c3
        refine lv_iconst (v := 0) hx hb dX4_forfeits_65 (by decide) ?_
        have hQ : f_X4_forfeits σ x = (0, (si σ 25 x 0)) := by
          unfold f_X4_forfeits; rw [if_neg c1, if_neg c2, if_pos c3]
        exact x_zret (si σ 25 x 0) S hr hlk hsz htt hK E dX4_forfeits_66 rfl ⟨(congrArg Prod.fst hQ).symm, (congrArg Prod.snd hQ).symm⟩ rfl ⟨Nat.le_of_ble_eq_true rfl, Nat.le_of_ble_eq_true rfl⟩ ⟨Nat.le_of_ble_eq_true rfl, Nat.le_of_ble_eq_true rfl⟩
  · have c1 : (gi σ 22 x) = 0 := c1
    refine lv_aload_n hx hb dX4_forfeits_9 rfl (lv_at hl 0 rfl) ?_
    refine wg_X4_21 (v := .ref (ad 21)) S hK E 3 rfl rfl dX4_forfeits_10 ?_
    refine lv_iload_n hx hb dX4_forfeits_13 rfl (lv_at hl 1 rfl) ?_
    refine w_ild (v := gi σ 21 x) S hK E 21 0 rfl rfl q_x rfl dX4_forfeits_14 ?_
    refine lv_if_le (tgt := 22) hx hb dX4_forfeits_15 (by decide) (fun c4 => ?_) (fun c4 => ?_)
    · have c4 : (gi σ 21 x) ≤ 0 := c4
      refine lv_iconst (v := 0) hx hb dX4_forfeits_22 (by decide) ?_
      refine lv_istore_n (lv' := [(2, .int 0), (0, .ref (ad 3)), (1, .int x)]) hx hb dX4_forfeits_23 rfl hl (by decide) rfl (fun ls hl => ?_)
      refine lv_aload_n hx hb dX4_forfeits_24 rfl (lv_at hl 1 rfl) ?_
      refine wg_X4_35 (v := .ref (ad 25)) S hK E 3 rfl rfl dX4_forfeits_25 ?_
      refine lv_iload_n hx hb dX4_forfeits_28 rfl (lv_at hl 2 rfl) ?_
      refine lv_iload_n hx hb dX4_forfeits_29 rfl (lv_at hl 0 rfl) ?_
      refine lv_if_eq (tgt := 44) hx hb dX4_forfeits_30 (by decide) (fun _ => ?_) (fun c_ => absurd (by decide) c_)
      refine lv_iconst (v := 0) hx hb dX4_forfeits_44 (by decide) ?_
      refine w_ist (w' := wsW g ad lo ke fo ea (si σ 25 x 0)) S hK E 25 0 rfl rfl q_x wset_25 dX4_forfeits_45 (fun H locs E => ?_)
      refine lv_aload_n hx hb dX4_forfeits_46 rfl (lv_at hl 1 rfl) ?_
      refine wg_X4_35 (v := .ref (ad 25)) S hK E 3 rfl rfl dX4_forfeits_47 ?_
      refine lv_iload_n hx hb dX4_forfeits_50 rfl (lv_at hl 2 rfl) ?_
      refine w_ild (v := gi (si σ 25 x 0) 25 x) S hK E 25 0 rfl rfl q_x rfl dX4_forfeits_51 ?_
      refine lv_iconst (v := 3) hx hb dX4_forfeits_52 (by decide) ?_
      refine lv_icmp_lt (tgt := 65) hx hb dX4_forfeits_53 (by decide) (fun c5 => ?_) (fun c5 => ?_)
      · have c5 : (gi (si σ 25 x 0) 25 x) < 3 := c5
        refine lv_iconst (v := 0) hx hb dX4_forfeits_65 (by decide) ?_
        have hQ : f_X4_forfeits σ x = (0, (si σ 25 x 0)) := by
          unfold f_X4_forfeits; rw [if_pos c1, if_pos c4, if_pos c5]
        exact x_zret (si σ 25 x 0) S hr hlk hsz htt hK E dX4_forfeits_66 rfl ⟨(congrArg Prod.fst hQ).symm, (congrArg Prod.snd hQ).symm⟩ rfl ⟨Nat.le_of_ble_eq_true rfl, Nat.le_of_ble_eq_true rfl⟩ ⟨Nat.le_of_ble_eq_true rfl, Nat.le_of_ble_eq_true rfl⟩
      · have c5 : ¬ ((gi (si σ 25 x 0) 25 x) < 3) := c5
        refine lv_aload_n hx hb dX4_forfeits_56 rfl (lv_at hl 1 rfl) ?_
        refine wg_X4_18 (v := .ref (ad 20)) S hK E 3 rfl rfl dX4_forfeits_57 ?_
        refine lv_iload_n hx hb dX4_forfeits_60 rfl (lv_at hl 2 rfl) ?_
        refine w_ild (v := gi σ 20 x) S hK E 20 0 rfl rfl q_x rfl dX4_forfeits_61 ?_
        refine lv_if_ne (tgt := 67) hx hb dX4_forfeits_62 (by decide) (fun c6 => ?_) (fun c6 => ?_)
        · have c6 : ¬ ((gi σ 20 x) = 0) := c6
          refine lv_aload_n hx hb dX4_forfeits_67 rfl (lv_at hl 1 rfl) ?_
          refine wg_X4_18 (v := .ref (ad 20)) S hK E 3 rfl rfl dX4_forfeits_68 ?_
          refine lv_iload_n hx hb dX4_forfeits_71 rfl (lv_at hl 2 rfl) ?_
          refine lv_iconst (v := 0) hx hb dX4_forfeits_72 (by decide) ?_
          refine w_ist (w' := wsW g ad lo ke fo ea (si (si σ 25 x 0) 20 x 0)) S hK E 20 0 rfl rfl q_x wset_20 dX4_forfeits_73 (fun H locs E => ?_)
          refine lv_aload_n hx hb dX4_forfeits_74 rfl (lv_at hl 1 rfl) ?_
          refine wg_X4_35 (v := .ref (ad 25)) S hK E 3 rfl rfl dX4_forfeits_75 ?_
          refine lv_iload_n hx hb dX4_forfeits_78 rfl (lv_at hl 2 rfl) ?_
          refine lv_iconst (v := 0) hx hb dX4_forfeits_79 (by decide) ?_
          refine w_ist (w' := wsW g ad lo ke fo ea (si (si (si σ 25 x 0) 20 x 0) 25 x 0)) S hK E 25 0 rfl rfl q_x wset_25 dX4_forfeits_80 (fun H locs E => ?_)
          refine lv_iconst (v := 1) hx hb dX4_forfeits_81 (by decide) ?_
          have hQ : f_X4_forfeits σ x = (1, (si (si (si σ 25 x 0) 20 x 0) 25 x 0)) := by
            unfold f_X4_forfeits; rw [if_pos c1, if_pos c4, if_neg c5, if_neg c6]
          exact x_zret (si (si (si σ 25 x 0) 20 x 0) 25 x 0) S hr hlk hsz htt hK E dX4_forfeits_82 rfl ⟨(congrArg Prod.fst hQ).symm, (congrArg Prod.snd hQ).symm⟩ rfl ⟨Nat.le_of_ble_eq_true rfl, Nat.le_of_ble_eq_true rfl⟩ ⟨Nat.le_of_ble_eq_true rfl, Nat.le_of_ble_eq_true rfl⟩
        · have c6 : (gi σ 20 x) = 0 := c6
          refine lv_iconst (v := 0) hx hb dX4_forfeits_65 (by decide) ?_
          have hQ : f_X4_forfeits σ x = (0, (si σ 25 x 0)) := by
            unfold f_X4_forfeits; rw [if_pos c1, if_pos c4, if_neg c5, if_pos c6]
          exact x_zret (si σ 25 x 0) S hr hlk hsz htt hK E dX4_forfeits_66 rfl ⟨(congrArg Prod.fst hQ).symm, (congrArg Prod.snd hQ).symm⟩ rfl ⟨Nat.le_of_ble_eq_true rfl, Nat.le_of_ble_eq_true rfl⟩ ⟨Nat.le_of_ble_eq_true rfl, Nat.le_of_ble_eq_true rfl⟩
    · have c4 : ¬ ((gi σ 21 x) ≤ 0) := c4
      refine lv_iconst (v := 1) hx hb dX4_forfeits_18 (by decide) ?_
      refine lv_goto (tgt := 23) hx hb dX4_forfeits_19 (by decide) ?_
      refine lv_istore_n (lv' := [(2, .int 1), (0, .ref (ad 3)), (1, .int x)]) hx hb dX4_forfeits_23 rfl hl (by decide) rfl (fun ls hl => ?_)
      refine lv_aload_n hx hb dX4_forfeits_24 rfl (lv_at hl 1 rfl) ?_
      refine wg_X4_35 (v := .ref (ad 25)) S hK E 3 rfl rfl dX4_forfeits_25 ?_
      refine lv_iload_n hx hb dX4_forfeits_28 rfl (lv_at hl 2 rfl) ?_
      refine lv_iload_n hx hb dX4_forfeits_29 rfl (lv_at hl 0 rfl) ?_
      refine lv_if_eq (tgt := 44) hx hb dX4_forfeits_30 (by decide) (fun c_ => absurd c_ (by decide)) (fun _ => ?_)
      refine lv_aload_n hx hb dX4_forfeits_33 rfl (lv_at hl 1 rfl) ?_
      refine wg_X4_35 (v := .ref (ad 25)) S hK E 3 rfl rfl dX4_forfeits_34 ?_
      refine lv_iload_n hx hb dX4_forfeits_37 rfl (lv_at hl 2 rfl) ?_
      refine w_ild (v := gi σ 25 x) S hK E 25 0 rfl rfl q_x rfl dX4_forfeits_38 ?_
      refine lv_iconst (v := 1) hx hb dX4_forfeits_39 (by decide) ?_
      refine lv_iadd hx hb dX4_forfeits_40 ?_
      refine lv_goto (tgt := 45) hx hb dX4_forfeits_41 (by decide) ?_
      refine w_ist (w' := wsW g ad lo ke fo ea (si σ 25 x ((gi σ 25 x) + 1))) S hK E 25 0 rfl rfl q_x wset_25 dX4_forfeits_45 (fun H locs E => ?_)
      refine lv_aload_n hx hb dX4_forfeits_46 rfl (lv_at hl 1 rfl) ?_
      refine wg_X4_35 (v := .ref (ad 25)) S hK E 3 rfl rfl dX4_forfeits_47 ?_
      refine lv_iload_n hx hb dX4_forfeits_50 rfl (lv_at hl 2 rfl) ?_
      refine w_ild (v := gi (si σ 25 x ((gi σ 25 x) + 1)) 25 x) S hK E 25 0 rfl rfl q_x rfl dX4_forfeits_51 ?_
      refine lv_iconst (v := 3) hx hb dX4_forfeits_52 (by decide) ?_
      refine lv_icmp_lt (tgt := 65) hx hb dX4_forfeits_53 (by decide) (fun c7 => ?_) (fun c7 => ?_)
      · have c7 : (gi (si σ 25 x ((gi σ 25 x) + 1)) 25 x) < 3 := c7
        refine lv_iconst (v := 0) hx hb dX4_forfeits_65 (by decide) ?_
        have hQ : f_X4_forfeits σ x = (0, (si σ 25 x ((gi σ 25 x) + 1))) := by
          unfold f_X4_forfeits; rw [if_pos c1, if_neg c4, if_pos c7]
        exact x_zret (si σ 25 x ((gi σ 25 x) + 1)) S hr hlk hsz htt hK E dX4_forfeits_66 rfl ⟨(congrArg Prod.fst hQ).symm, (congrArg Prod.snd hQ).symm⟩ rfl ⟨Nat.le_of_ble_eq_true rfl, Nat.le_of_ble_eq_true rfl⟩ ⟨Nat.le_of_ble_eq_true rfl, Nat.le_of_ble_eq_true rfl⟩
      · have c7 : ¬ ((gi (si σ 25 x ((gi σ 25 x) + 1)) 25 x) < 3) := c7
        refine lv_aload_n hx hb dX4_forfeits_56 rfl (lv_at hl 1 rfl) ?_
        refine wg_X4_18 (v := .ref (ad 20)) S hK E 3 rfl rfl dX4_forfeits_57 ?_
        refine lv_iload_n hx hb dX4_forfeits_60 rfl (lv_at hl 2 rfl) ?_
        refine w_ild (v := gi σ 20 x) S hK E 20 0 rfl rfl q_x rfl dX4_forfeits_61 ?_
        refine lv_if_ne (tgt := 67) hx hb dX4_forfeits_62 (by decide) (fun c8 => ?_) (fun c8 => ?_)
        · have c8 : ¬ ((gi σ 20 x) = 0) := c8
          refine lv_aload_n hx hb dX4_forfeits_67 rfl (lv_at hl 1 rfl) ?_
          refine wg_X4_18 (v := .ref (ad 20)) S hK E 3 rfl rfl dX4_forfeits_68 ?_
          refine lv_iload_n hx hb dX4_forfeits_71 rfl (lv_at hl 2 rfl) ?_
          refine lv_iconst (v := 0) hx hb dX4_forfeits_72 (by decide) ?_
          refine w_ist (w' := wsW g ad lo ke fo ea (si (si σ 25 x ((gi σ 25 x) + 1)) 20 x 0)) S hK E 20 0 rfl rfl q_x wset_20 dX4_forfeits_73 (fun H locs E => ?_)
          refine lv_aload_n hx hb dX4_forfeits_74 rfl (lv_at hl 1 rfl) ?_
          refine wg_X4_35 (v := .ref (ad 25)) S hK E 3 rfl rfl dX4_forfeits_75 ?_
          refine lv_iload_n hx hb dX4_forfeits_78 rfl (lv_at hl 2 rfl) ?_
          refine lv_iconst (v := 0) hx hb dX4_forfeits_79 (by decide) ?_
          refine w_ist (w' := wsW g ad lo ke fo ea (si (si (si σ 25 x ((gi σ 25 x) + 1)) 20 x 0) 25 x 0)) S hK E 25 0 rfl rfl q_x wset_25 dX4_forfeits_80 (fun H locs E => ?_)
          refine lv_iconst (v := 1) hx hb dX4_forfeits_81 (by decide) ?_
          have hQ : f_X4_forfeits σ x = (1, (si (si (si σ 25 x ((gi σ 25 x) + 1)) 20 x 0) 25 x 0)) := by
            unfold f_X4_forfeits; rw [if_pos c1, if_neg c4, if_neg c7, if_neg c8]
          exact x_zret (si (si (si σ 25 x ((gi σ 25 x) + 1)) 20 x 0) 25 x 0) S hr hlk hsz htt hK E dX4_forfeits_82 rfl ⟨(congrArg Prod.fst hQ).symm, (congrArg Prod.snd hQ).symm⟩ rfl ⟨Nat.le_of_ble_eq_true rfl, Nat.le_of_ble_eq_true rfl⟩ ⟨Nat.le_of_ble_eq_true rfl, Nat.le_of_ble_eq_true rfl⟩
        · have c8 : (gi σ 20 x) = 0 := c8
          refine lv_iconst (v := 0) hx hb dX4_forfeits_65 (by decide) ?_
          have hQ : f_X4_forfeits σ x = (0, (si σ 25 x ((gi σ 25 x) + 1))) := by
            unfold f_X4_forfeits; rw [if_pos c1, if_neg c4, if_neg c7, if_pos c8]
          exact x_zret (si σ 25 x ((gi σ 25 x) + 1)) S hr hlk hsz htt hK E dX4_forfeits_66 rfl ⟨(congrArg Prod.fst hQ).symm, (congrArg Prod.snd hQ).symm⟩ rfl ⟨Nat.le_of_ble_eq_true rfl, Nat.le_of_ble_eq_true rfl⟩ ⟨Nat.le_of_ble_eq_true rfl, Nat.le_of_ble_eq_true rfl⟩

