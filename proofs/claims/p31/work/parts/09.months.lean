/-! WELLS and the LAND's months, but for the notes -/
theorem cnt_lt {n : Nat} (h : nI n < 6) (hn : n ≤ 6) : n < 6 := (nI_ltI (by omega) (by decide)).mp (show nI n < nI 6 from h)
theorem cnt_in {n : Nat} (h : nI n < 6) (hn : n ≤ 6) : vp_in (nI n) 6 := vp_in_nI (cnt_lt h hn) (by decide)
theorem gi_in27 {τ : Sg} {x : Int32} (h : ∀ w : Nat, w < 6 → vp_in (τ.1 27 w) 6) (hx : vp_in x 6) : vp_in (gi τ 27 x) 6 := h _ (vp_lt hx)
theorem up_in27 {τ : Sg} {x v : Int32} (h : ∀ w : Nat, w < 6 → vp_in (τ.1 27 w) 6) (hv : vp_in v 6) : ∀ w : Nat, w < 6 → vp_in ((si τ 27 x v).1 27 w) 6 := by
  intro w hw
  show vp_in (upd (τ.1 27) x.toNatClampNeg v w) 6
  unfold upd
  split
  · exact hv
  · exact h w hw
theorem col_lo {i : Nat} (h : ¬ nI (i % 8) ≤ 0) (hi : i < 16) : vp_in (nI i - 1) 16 := by
  have h2 : i % 8 ≠ 0 := fun z => h (by rw [z]; decide)
  obtain ⟨j, rfl⟩ : ∃ j, i = j + 1 := ⟨i - 1, by omega⟩
  rw [nI_pred]
  exact vp_in_nI (by omega) (by decide)
theorem col_hi {i : Nat} (h : ¬ (7 : Int32) ≤ nI (i % 8)) (hi : i < 16) : vp_in (nI (i + 1)) 16 := by
  have h2 : i % 8 < 7 := by
    rcases Nat.lt_or_ge (i % 8) 7 with q | q
    · exact q
    · exact absurd (show nI 7 ≤ nI (i % 8) from nI_le q (by omega)) h
  exact vp_in_nI (by omega) (by decide)
def f_X4_shutYounger_L16 (j : Nat) : Nat → Nat → Sg → Int32 → Sg
  | 0, i, τ, z => τ
  | k + 1, i, τ, z => if ((gi τ 18 (gi τ 27 (nI i))) / 8) = (z / 8) then (if 2 < (ab ((gi τ 18 (gi τ 27 (nI i))) - z)) then (f_X4_shutYounger_L16 j k (i + 1) τ z) else (f_X4_shutYounger_L16 j k (i + 1) (si τ 24 (gi τ 27 (nI i)) 1) z)) else (f_X4_shutYounger_L16 j k (i + 1) τ z)
theorem KP_X4_shutYounger_L16 {σ : Sg} {j : Nat} : ∀ (k i : Nat) (τ : Sg) (z : Int32), Kp τ σ → Kp (f_X4_shutYounger_L16 j k i τ z) σ := by
  intro k
  induction k with
  | zero =>
    intro i τ z hk
    rw [f_X4_shutYounger_L16]
    exact hk
  | succ k ih =>
    intro i τ z hk
    rw [f_X4_shutYounger_L16]
    split
    · split
      · exact ih _ _ _ hk
      · exact ih _ _ _ (Kp_si (k := 24) hk (by decide))
    · exact ih _ _ _ hk
def f_X4_shutYounger (σ : Sg) (j : Nat) : Sg := f_X4_shutYounger_L16 j (cnt σ - (j + 1)) (j + 1) σ (gi σ 18 (gi σ 27 (nI j)))
theorem KP_X4_shutYounger {σ : Sg} {j : Nat} : Kp (f_X4_shutYounger σ j) σ := by
  unfold f_X4_shutYounger
  exact KP_X4_shutYounger_L16 _ _ _ _ Kp.rf
set_option maxHeartbeats 4000000 in
set_option maxRecDepth 100000 in
/-- Wells.shutYounger -/
theorem c_X4_shutYounger (l : Launch) (g : Gm) (ad : Nat → Nat) (lo ke fo : Int32) (ea : Nat) (σ : Sg) (j : Nat) (q_j : j < 6) (hW : WF σ) (hj : j < cnt σ) : MXv l g yX4_shutYounger cX4_shutYounger 6 ({ frames := 1, cells := 0, slots := 0, locals := 13 } : Room) [.ref (ad 3), .int (nI j)] (wsW g ad lo ke fo ea σ) (fun u : Sg => u = f_X4_shutYounger σ j) (wsW g ad lo ke fo ea) (fun _ => (0, 0)) := by
  intro sz tt
  refine ofX RX4 rfl (by decide +kernel) (Nat.le_of_ble_eq_true rfl) (fun p e s m args below meth c hargs S hml hr hlk hnm hsz htt hK hA hZ E ls hl => ?_)
  have hx := S.1
  have hb := S.2.1
  have hl : lv_has ls 6 [(0, .ref (ad 3)), (1, .int (nI j))] := hl
  have L16 : ∀ (k i : Nat), i + k = cnt σ → ∀ (τ : Sg) (z : Int32) (hk : Kp τ σ)  (H : Heap) (locs : List Loc), f_X4_shutYounger σ j = f_X4_shutYounger_L16 j k i τ z → Ev g (va_A (wsW g ad lo ke fo ea σ) sz) s.heap H locs (wsW g ad lo ke fo ea τ) → ∀ ls : Array Slot, lv_has ls 6 [(0, .ref (ad 3)), (2, .int z), (3, .int (nI i))] → W p l e ({ frames := 1, cells := 0, slots := 0, locals := 13 } : Room) s m args below meth c H locs 0 0 (MQ below (va_Qv (fun u : Sg => u = f_X4_shutYounger σ j) (AtX g (va_A (wsW g ad lo ke fo ea σ) sz) (wsW g ad lo ke fo ea) (fun _ => (0, 0)) sz tt) (va_A (wsW g ad lo ke fo ea σ) sz)) args s 0 0 (va_A (wsW g ad lo ke fo ea σ) sz)) (F0 m 16 ls []) := by
    intro k
    induction k with
    | zero =>
      intro i hi τ z hk  H locs hF E ls hl
      have hl : lv_has ls 6 [(0, .ref (ad 3)), (2, .int z), (3, .int (nI i))] := hl
      have hcn := Kp.cnt hk
      have hle := WF.le hW
      refine lv_iload_n hx hb dX4_shutYounger_16 rfl (lv_at hl 2 rfl) ?_
      refine lv_aload_n hx hb dX4_shutYounger_17 rfl (lv_at hl 0 rfl) ?_
      refine wg_X4_44 (v := .int (nI (cnt τ))) S hK E 3 rfl (congrArg (fun z => some (Value.int z)) (WF.n (σ := τ) (Kp.wf hk hW))) dX4_shutYounger_18 ?_
      refine lv_icmp_ge (tgt := 91) hx hb dX4_shutYounger_21 (by decide) (fun _ => ?_) (fun c_ => absurd (g_yes rfl rfl (by have := Kp.cnt hk; have := WF.le hW; omega) (by have := WF.le hW; have := Kp.cnt hk; omega)) c_)
      have hQ : f_X4_shutYounger σ j = τ := by
        rw [hF]; rw [f_X4_shutYounger_L16]
      exact x_vret τ S hr hlk hsz htt hK E dX4_shutYounger_91 hQ.symm rfl ⟨Nat.le_of_ble_eq_true rfl, Nat.le_of_ble_eq_true rfl⟩ ⟨Nat.le_of_ble_eq_true rfl, Nat.le_of_ble_eq_true rfl⟩
    | succ k ih =>
      intro i hi τ z hk  H locs hF E ls hl
      have hl : lv_has ls 6 [(0, .ref (ad 3)), (2, .int z), (3, .int (nI i))] := hl
      have hcn := Kp.cnt hk
      have hle := WF.le hW
      refine lv_iload_n hx hb dX4_shutYounger_16 rfl (lv_at hl 2 rfl) ?_
      refine lv_aload_n hx hb dX4_shutYounger_17 rfl (lv_at hl 0 rfl) ?_
      refine wg_X4_44 (v := .int (nI (cnt τ))) S hK E 3 rfl (congrArg (fun z => some (Value.int z)) (WF.n (σ := τ) (Kp.wf hk hW))) dX4_shutYounger_18 ?_
      refine lv_icmp_ge (tgt := 91) hx hb dX4_shutYounger_21 (by decide) (fun c_ => absurd c_ (g_no rfl rfl (by have := Kp.cnt hk; omega) (by have := WF.le hW; have := Kp.cnt hk; omega))) (fun _ => ?_)
      refine lv_aload_n hx hb dX4_shutYounger_24 rfl (lv_at hl 0 rfl) ?_
      refine wg_X4_41 (v := .ref (ad 27)) S hK E 3 rfl rfl dX4_shutYounger_25 ?_
      refine lv_iload_n hx hb dX4_shutYounger_28 rfl (lv_at hl 2 rfl) ?_
      refine w_ild (v := gi τ 27 (nI i)) S hK E 27 0 rfl rfl (vp_in_nI (n := i) (by omega) (by decide)) rfl dX4_shutYounger_29 ?_
      refine lv_istore (lv' := [(4, .int (gi τ 27 (nI i))), (0, .ref (ad 3)), (2, .int z), (3, .int (nI i))]) hx hb dX4_shutYounger_30 hl (by decide) rfl (fun ls hl => ?_)
      refine lv_aload_n hx hb dX4_shutYounger_32 rfl (lv_at hl 1 rfl) ?_
      refine wg_X4_9 (v := .ref (ad 18)) S hK E 3 rfl rfl dX4_shutYounger_33 ?_
      refine lv_iload hx hb dX4_shutYounger_36 (lv_at hl 0 rfl) ?_
      refine w_ild (v := gi τ 18 (gi τ 27 (nI i))) S hK E 18 0 rfl rfl (WF.o (Kp.wf hk hW) (vp_in_nI (n := i) (by omega) (by decide))) rfl dX4_shutYounger_38 ?_
      refine lv_bipush (v := 8) hx hb dX4_shutYounger_39 (by decide) ?_
      refine lv_idiv hx hb dX4_shutYounger_41 (by decide) ?_
      refine lv_iload_n hx hb dX4_shutYounger_42 rfl (lv_at hl 2 rfl) ?_
      refine lv_bipush (v := 8) hx hb dX4_shutYounger_43 (by decide) ?_
      refine lv_idiv hx hb dX4_shutYounger_45 (by decide) ?_
      refine lv_icmp_ne (tgt := 53) hx hb dX4_shutYounger_46 (by decide) (fun c1 => ?_) (fun c1 => ?_)
      · have c1 : ¬ (((gi τ 18 (gi τ 27 (nI i))) / 8) = (z / 8)) := c1
        refine lv_iconst (v := 0) hx hb dX4_shutYounger_53 (by decide) ?_
        refine lv_istore (lv' := [(5, .int 0), (4, .int (gi τ 27 (nI i))), (0, .ref (ad 3)), (2, .int z), (3, .int (nI i))]) hx hb dX4_shutYounger_54 hl (by decide) rfl (fun ls hl => ?_)
        refine lv_iload hx hb dX4_shutYounger_56 (lv_at hl 0 rfl) ?_
        refine lv_if_eq (tgt := 85) hx hb dX4_shutYounger_58 (by decide) (fun _ => ?_) (fun c_ => absurd (by decide) c_)
        refine lv_iinc (v := (nI (i + 1))) (lv' := [(3, .int (nI (i + 1))), (5, .int 0), (4, .int (gi τ 27 (nI i))), (0, .ref (ad 3)), (2, .int z)]) hx hb dX4_shutYounger_85 hl (k := 4) rfl (nI_1 i) (by decide) rfl (fun ls hl => ?_)
        refine lv_goto (tgt := 16) hx hb dX4_shutYounger_88 (by decide) ?_
        have hF : f_X4_shutYounger σ j = f_X4_shutYounger_L16 j k (i + 1) τ z := by
          rw [hF]; rw [f_X4_shutYounger_L16]; rw [if_neg c1]
        exact ih (i + 1) (by omega) τ z hk  _ _ hF E ls (lv_sub hl [3, 4, 0] rfl)
      · have c1 : ((gi τ 18 (gi τ 27 (nI i))) / 8) = (z / 8) := c1
        refine lv_iconst (v := 1) hx hb dX4_shutYounger_49 (by decide) ?_
        refine lv_goto (tgt := 54) hx hb dX4_shutYounger_50 (by decide) ?_
        refine lv_istore (lv' := [(5, .int 1), (4, .int (gi τ 27 (nI i))), (0, .ref (ad 3)), (2, .int z), (3, .int (nI i))]) hx hb dX4_shutYounger_54 hl (by decide) rfl (fun ls hl => ?_)
        refine lv_iload hx hb dX4_shutYounger_56 (lv_at hl 0 rfl) ?_
        refine lv_if_eq (tgt := 85) hx hb dX4_shutYounger_58 (by decide) (fun c_ => absurd c_ (by decide)) (fun _ => ?_)
        refine lv_aload_n hx hb dX4_shutYounger_61 rfl (lv_at hl 2 rfl) ?_
        refine wg_X4_9 (v := .ref (ad 18)) S hK E 3 rfl rfl dX4_shutYounger_62 ?_
        refine lv_iload hx hb dX4_shutYounger_65 (lv_at hl 1 rfl) ?_
        refine w_ild (v := gi τ 18 (gi τ 27 (nI i))) S hK E 18 0 rfl rfl (WF.o (Kp.wf hk hW) (vp_in_nI (n := i) (by omega) (by decide))) rfl dX4_shutYounger_67 ?_
        refine lv_iload_n hx hb dX4_shutYounger_68 rfl (lv_at hl 3 rfl) ?_
        refine lv_isub hx hb dX4_shutYounger_69 ?_
        refine w_abs (v := (ab ((gi τ 18 (gi τ 27 (nI i))) - z))) S hml hl ml_X4_57 st_abs in_J9 co_abs (Nat.le_of_ble_eq_true rfl) (Nat.le_of_ble_eq_true rfl) ⟨Nat.le_of_ble_eq_true rfl, Nat.le_of_ble_eq_true rfl⟩ rfl dX4_shutYounger_70 ?_
        refine lv_iconst (v := 2) hx hb dX4_shutYounger_73 (by decide) ?_
        refine lv_icmp_gt (tgt := 85) hx hb dX4_shutYounger_74 (by decide) (fun c2 => ?_) (fun c2 => ?_)
        · have c2 : 2 < (ab ((gi τ 18 (gi τ 27 (nI i))) - z)) := c2
          refine lv_iinc (v := (nI (i + 1))) (lv' := [(3, .int (nI (i + 1))), (5, .int 1), (4, .int (gi τ 27 (nI i))), (0, .ref (ad 3)), (2, .int z)]) hx hb dX4_shutYounger_85 hl (k := 4) rfl (nI_1 i) (by decide) rfl (fun ls hl => ?_)
          refine lv_goto (tgt := 16) hx hb dX4_shutYounger_88 (by decide) ?_
          have hF : f_X4_shutYounger σ j = f_X4_shutYounger_L16 j k (i + 1) τ z := by
            rw [hF]; rw [f_X4_shutYounger_L16]; rw [if_pos c1, if_pos c2]
          exact ih (i + 1) (by omega) τ z hk  _ _ hF E ls (lv_sub hl [3, 4, 0] rfl)
        · have c2 : ¬ (2 < (ab ((gi τ 18 (gi τ 27 (nI i))) - z))) := c2
          refine lv_aload_n hx hb dX4_shutYounger_77 rfl (lv_at hl 2 rfl) ?_
          refine wg_X4_31 (v := .ref (ad 24)) S hK E 3 rfl rfl dX4_shutYounger_78 ?_
          refine lv_iload hx hb dX4_shutYounger_81 (lv_at hl 1 rfl) ?_
          refine lv_iconst (v := 1) hx hb dX4_shutYounger_83 (by decide) ?_
          refine w_zst (w' := wsW g ad lo ke fo ea (si τ 24 (gi τ 27 (nI i)) 1)) S hK E 24 2 rfl rfl (WF.o (Kp.wf hk hW) (vp_in_nI (n := i) (by omega) (by decide))) (wset_24 (by decide)) dX4_shutYounger_84 (fun H locs E => ?_)
          refine lv_iinc (v := (nI (i + 1))) (lv' := [(3, .int (nI (i + 1))), (5, .int 1), (4, .int (gi τ 27 (nI i))), (0, .ref (ad 3)), (2, .int z)]) hx hb dX4_shutYounger_85 hl (k := 4) rfl (nI_1 i) (by decide) rfl (fun ls hl => ?_)
          refine lv_goto (tgt := 16) hx hb dX4_shutYounger_88 (by decide) ?_
          have hF : f_X4_shutYounger σ j = f_X4_shutYounger_L16 j k (i + 1) (si τ 24 (gi τ 27 (nI i)) 1) z := by
            rw [hF]; rw [f_X4_shutYounger_L16]; rw [if_pos c1, if_neg c2]
          exact ih (i + 1) (by omega) (si τ 24 (gi τ 27 (nI i)) 1) z (Kp_si (k := 24) hk (by decide))  _ _ hF E ls (lv_sub hl [3, 4, 0] rfl)
  refine lv_aload_n hx hb dX4_shutYounger_0 rfl (lv_at hl 0 rfl) ?_
  refine wg_X4_9 (v := .ref (ad 18)) S hK E 3 rfl rfl dX4_shutYounger_1 ?_
  refine lv_aload_n hx hb dX4_shutYounger_4 rfl (lv_at hl 0 rfl) ?_
  refine wg_X4_41 (v := .ref (ad 27)) S hK E 3 rfl rfl dX4_shutYounger_5 ?_
  refine lv_iload_n hx hb dX4_shutYounger_8 rfl (lv_at hl 1 rfl) ?_
  refine w_ild (v := gi σ 27 (nI j)) S hK E 27 0 rfl rfl (vp_in_nI (n := j) (by omega) (by decide)) rfl dX4_shutYounger_9 ?_
  refine w_ild (v := gi σ 18 (gi σ 27 (nI j))) S hK E 18 0 rfl rfl (WF.o (Kp.wf Kp.rf hW) (vp_in_nI (n := j) (by omega) (by decide))) rfl dX4_shutYounger_10 ?_
  refine lv_istore_n (lv' := [(2, .int (gi σ 18 (gi σ 27 (nI j)))), (0, .ref (ad 3)), (1, .int (nI j))]) hx hb dX4_shutYounger_11 rfl hl (by decide) rfl (fun ls hl => ?_)
  refine lv_iload_n hx hb dX4_shutYounger_12 rfl (lv_at hl 2 rfl) ?_
  refine lv_iconst (v := 1) hx hb dX4_shutYounger_13 (by decide) ?_
  refine lv_iadd hx hb dX4_shutYounger_14 ?_
  rw [nI_1]
  refine lv_istore_n (lv' := [(3, .int (nI (j + 1))), (2, .int (gi σ 18 (gi σ 27 (nI j)))), (0, .ref (ad 3)), (1, .int (nI j))]) hx hb dX4_shutYounger_15 rfl hl (by decide) rfl (fun ls hl => ?_)
  have hF : f_X4_shutYounger σ j = f_X4_shutYounger_L16 j (cnt σ - (j + 1)) (j + 1) σ (gi σ 18 (gi σ 27 (nI j))) := by
    rfl
  exact L16 (cnt σ - (j + 1)) (j + 1) (by omega) σ (gi σ 18 (gi σ 27 (nI j))) Kp.rf  _ _ hF E ls (lv_sub hl [2, 1, 0] rfl)

def f_X4_keptToAmounts_L2 (σ : Sg)  : Nat → Nat → Int32
  | 0, i => 1
  | k + 1, i => if (gi σ 22 (nI i)) ≤ ((gi σ 20 (nI i)) + (gi σ 26 (nI i))) then (f_X4_keptToAmounts_L2 σ k (i + 1)) else 0
def f_X4_keptToAmounts (σ : Sg)  : Int32 := f_X4_keptToAmounts_L2 σ (cnt σ) 0
set_option maxHeartbeats 4000000 in
set_option maxRecDepth 100000 in
/-- Wells.keptToAmounts -/
theorem c_X4_keptToAmounts (l : Launch) (g : Gm) (ad : Nat → Nat) (lo ke fo : Int32) (ea : Nat) (σ : Sg) (hW : WF σ) : MXi l g yX4_keptToAmounts cX4_keptToAmounts 2 .boolean ({ frames := 0, cells := 0, slots := 0, locals := 0 } : Room) [.ref (ad 3)] (wsW g ad lo ke fo ea σ) (fun (r : Int32) (u : Sg) => r = f_X4_keptToAmounts σ ∧ u = σ) (wsW g ad lo ke fo ea) (fun _ => (0, 0)) := by
  intro sz tt
  refine ofX RX4 rfl (by decide +kernel) (Nat.le_of_ble_eq_true rfl) (fun p e s m args below meth c hargs S hml hr hlk hnm hsz htt hK hA hZ E ls hl => ?_)
  have hx := S.1
  have hb := S.2.1
  have hl : lv_has ls 2 [(0, .ref (ad 3))] := hl
  have L2 : ∀ (k i : Nat), i + k = cnt σ → ∀     (H : Heap) (locs : List Loc), f_X4_keptToAmounts σ = f_X4_keptToAmounts_L2 σ k i → Ev g (va_A (wsW g ad lo ke fo ea σ) sz) s.heap H locs (wsW g ad lo ke fo ea σ) → ∀ ls : Array Slot, lv_has ls 2 [(0, .ref (ad 3)), (1, .int (nI i))] → W p l e ({ frames := 0, cells := 0, slots := 0, locals := 0 } : Room) s m args below meth c H locs 0 0 (MQ below (va_Qi (fun (r : Int32) (u : Sg) => r = f_X4_keptToAmounts σ ∧ u = σ) (AtX g (va_A (wsW g ad lo ke fo ea σ) sz) (wsW g ad lo ke fo ea) (fun _ => (0, 0)) sz tt) (va_A (wsW g ad lo ke fo ea σ) sz)) args s 0 0 (va_A (wsW g ad lo ke fo ea σ) sz)) (F0 m 2 ls []) := by
    intro k
    induction k with
    | zero =>
      intro i hi     H locs hF E ls hl
      have hk : Kp σ σ := Kp.rf
      have hl : lv_has ls 2 [(0, .ref (ad 3)), (1, .int (nI i))] := hl
      have hcn := Kp.cnt hk
      have hle := WF.le hW
      refine lv_iload_n hx hb dX4_keptToAmounts_2 rfl (lv_at hl 1 rfl) ?_
      refine lv_aload_n hx hb dX4_keptToAmounts_3 rfl (lv_at hl 0 rfl) ?_
      refine wg_X4_44 (v := .int (nI (cnt σ))) S hK E 3 rfl (congrArg (fun z => some (Value.int z)) (WF.n (σ := σ) (Kp.wf hk hW))) dX4_keptToAmounts_4 ?_
      refine lv_icmp_ge (tgt := 40) hx hb dX4_keptToAmounts_7 (by decide) (fun _ => ?_) (fun c_ => absurd (g_yes rfl rfl (by have := Kp.cnt hk; have := WF.le hW; omega) (by have := WF.le hW; have := Kp.cnt hk; omega)) c_)
      refine lv_iconst (v := 1) hx hb dX4_keptToAmounts_40 (by decide) ?_
      have hQ : f_X4_keptToAmounts σ = 1 := by
        rw [hF]; rw [f_X4_keptToAmounts_L2]
      exact x_zret σ S hr hlk hsz htt hK E dX4_keptToAmounts_41 rfl ⟨hQ.symm, rfl⟩ rfl ⟨Nat.le_of_ble_eq_true rfl, Nat.le_of_ble_eq_true rfl⟩ ⟨Nat.le_of_ble_eq_true rfl, Nat.le_of_ble_eq_true rfl⟩
    | succ k ih =>
      intro i hi     H locs hF E ls hl
      have hk : Kp σ σ := Kp.rf
      have hl : lv_has ls 2 [(0, .ref (ad 3)), (1, .int (nI i))] := hl
      have hcn := Kp.cnt hk
      have hle := WF.le hW
      refine lv_iload_n hx hb dX4_keptToAmounts_2 rfl (lv_at hl 1 rfl) ?_
      refine lv_aload_n hx hb dX4_keptToAmounts_3 rfl (lv_at hl 0 rfl) ?_
      refine wg_X4_44 (v := .int (nI (cnt σ))) S hK E 3 rfl (congrArg (fun z => some (Value.int z)) (WF.n (σ := σ) (Kp.wf hk hW))) dX4_keptToAmounts_4 ?_
      refine lv_icmp_ge (tgt := 40) hx hb dX4_keptToAmounts_7 (by decide) (fun c_ => absurd c_ (g_no rfl rfl (by have := Kp.cnt hk; omega) (by have := WF.le hW; have := Kp.cnt hk; omega))) (fun _ => ?_)
      refine lv_aload_n hx hb dX4_keptToAmounts_10 rfl (lv_at hl 0 rfl) ?_
      refine wg_X4_24 (v := .ref (ad 22)) S hK E 3 rfl rfl dX4_keptToAmounts_11 ?_
      refine lv_iload_n hx hb dX4_keptToAmounts_14 rfl (lv_at hl 1 rfl) ?_
      refine w_ild (v := gi σ 22 (nI i)) S hK E 22 0 rfl rfl (vp_in_nI (n := i) (by omega) (by decide)) rfl dX4_keptToAmounts_15 ?_
      refine lv_aload_n hx hb dX4_keptToAmounts_16 rfl (lv_at hl 0 rfl) ?_
      refine wg_X4_18 (v := .ref (ad 20)) S hK E 3 rfl rfl dX4_keptToAmounts_17 ?_
      refine lv_iload_n hx hb dX4_keptToAmounts_20 rfl (lv_at hl 1 rfl) ?_
      refine w_ild (v := gi σ 20 (nI i)) S hK E 20 0 rfl rfl (vp_in_nI (n := i) (by omega) (by decide)) rfl dX4_keptToAmounts_21 ?_
      refine lv_aload_n hx hb dX4_keptToAmounts_22 rfl (lv_at hl 0 rfl) ?_
      refine wg_X4_38 (v := .ref (ad 26)) S hK E 3 rfl rfl dX4_keptToAmounts_23 ?_
      refine lv_iload_n hx hb dX4_keptToAmounts_26 rfl (lv_at hl 1 rfl) ?_
      refine w_ild (v := gi σ 26 (nI i)) S hK E 26 0 rfl rfl (vp_in_nI (n := i) (by omega) (by decide)) rfl dX4_keptToAmounts_27 ?_
      refine lv_iadd hx hb dX4_keptToAmounts_28 ?_
      refine lv_icmp_le (tgt := 34) hx hb dX4_keptToAmounts_29 (by decide) (fun c1 => ?_) (fun c1 => ?_)
      · have c1 : (gi σ 22 (nI i)) ≤ ((gi σ 20 (nI i)) + (gi σ 26 (nI i))) := c1
        refine lv_iinc (v := (nI (i + 1))) (lv' := [(1, .int (nI (i + 1))), (0, .ref (ad 3))]) hx hb dX4_keptToAmounts_34 hl (k := 1) rfl (nI_1 i) (by decide) rfl (fun ls hl => ?_)
        refine lv_goto (tgt := 2) hx hb dX4_keptToAmounts_37 (by decide) ?_
        have hF : f_X4_keptToAmounts σ = f_X4_keptToAmounts_L2 σ k (i + 1) := by
          rw [hF]; rw [f_X4_keptToAmounts_L2]; rw [if_pos c1]
        exact ih (i + 1) (by omega)     _ _ hF E ls (lv_sub hl [1, 0] rfl)
      · have c1 : ¬ ((gi σ 22 (nI i)) ≤ ((gi σ 20 (nI i)) + (gi σ 26 (nI i)))) := c1
        refine lv_iconst (v := 0) hx hb dX4_keptToAmounts_32 (by decide) ?_
        have hQ : f_X4_keptToAmounts σ = 0 := by
          rw [hF]; rw [f_X4_keptToAmounts_L2]; rw [if_neg c1]
        exact x_zret σ S hr hlk hsz htt hK E dX4_keptToAmounts_33 rfl ⟨hQ.symm, rfl⟩ rfl ⟨Nat.le_of_ble_eq_true rfl, Nat.le_of_ble_eq_true rfl⟩ ⟨Nat.le_of_ble_eq_true rfl, Nat.le_of_ble_eq_true rfl⟩
  refine lv_iconst (v := 0) hx hb dX4_keptToAmounts_0 (by decide) ?_
  refine lv_istore_n (lv' := [(1, .int 0), (0, .ref (ad 3))]) hx hb dX4_keptToAmounts_1 rfl hl (by decide) rfl (fun ls hl => ?_)
  have hF : f_X4_keptToAmounts σ = f_X4_keptToAmounts_L2 σ (cnt σ) 0 := by
    rfl
  exact L2 (cnt σ) 0 (by omega)     _ _ hF E ls (lv_sub hl [1, 0] rfl)

def f_X4_add_L46 (x : Int32) (y : Int32) (z : Int32) : Nat → Nat → Sg → Sg
  | 0, i, τ => (ss (si τ 27 (nI 0) (gs τ 4)) 4 ((gs τ 4) + 1))
  | k + 1, i, τ => if (gi τ 19 (gi τ 27 (nI k))) ≤ y then (ss (si τ 27 (nI (k + 1)) (gs τ 4)) 4 ((gs τ 4) + 1)) else (f_X4_add_L46 x y z k (i + 1) (si τ 27 (nI (k + 1)) (gi τ 27 (nI k))))
def f_X4_add (σ : Sg) (x : Int32) (y : Int32) (z : Int32) : Sg := if (nI (cnt σ)) < 6 then (f_X4_add_L46 x y z (cnt σ) 0 (si (si (si σ 18 (nI (cnt σ)) x) 19 (nI (cnt σ)) y) 20 (nI (cnt σ)) z)) else σ
set_option maxHeartbeats 4000000 in
set_option maxRecDepth 100000 in
/-- Wells.add -/
theorem c_X4_add (l : Launch) (g : Gm) (ad : Nat → Nat) (lo ke fo : Int32) (ea : Nat) (σ : Sg) (x : Int32) (y : Int32) (z : Int32) (q_x : vp_in x 16) (hW : WF σ) : MXv l g yX4_add cX4_add 5 ({ frames := 0, cells := 0, slots := 0, locals := 0 } : Room) [.ref (ad 3), .int x, .int y, .int z] (wsW g ad lo ke fo ea σ) (fun u : Sg => u = f_X4_add σ x y z) (wsW g ad lo ke fo ea) (fun _ => (0, 0)) := by
  intro sz tt
  refine ofX RX4 rfl (by decide +kernel) (Nat.le_of_ble_eq_true rfl) (fun p e s m args below meth c hargs S hml hr hlk hnm hsz htt hK hA hZ E ls hl => ?_)
  have hx := S.1
  have hb := S.2.1
  have hl : lv_has ls 5 [(0, .ref (ad 3)), (1, .int x), (2, .int y), (3, .int z)] := hl
  have L46 : ∀ (k i : Nat), i + k = cnt σ ∧ cnt σ < 6 → ∀ (τ : Sg)   (h27 : ∀ w : Nat, w < 6 → vp_in (τ.1 27 w) 6) (H : Heap) (locs : List Loc), f_X4_add σ x y z = f_X4_add_L46 x y z k i τ → Ev g (va_A (wsW g ad lo ke fo ea σ) sz) s.heap H locs (wsW g ad lo ke fo ea τ) → ∀ ls : Array Slot, lv_has ls 5 [(0, .ref (ad 3)), (1, .int x), (2, .int y), (3, .int z), (4, .int (nI k))] → W p l e ({ frames := 0, cells := 0, slots := 0, locals := 0 } : Room) s m args below meth c H locs 0 0 (MQ below (va_Qv (fun u : Sg => u = f_X4_add σ x y z) (AtX g (va_A (wsW g ad lo ke fo ea σ) sz) (wsW g ad lo ke fo ea) (fun _ => (0, 0)) sz tt) (va_A (wsW g ad lo ke fo ea σ) sz)) args s 0 0 (va_A (wsW g ad lo ke fo ea σ) sz)) (F0 m 46 ls []) := by
    intro k
    induction k with
    | zero =>
      intro i hi τ   h27 H locs hF E ls hl
      have hl : lv_has ls 5 [(0, .ref (ad 3)), (1, .int x), (2, .int y), (3, .int z), (4, .int (nI 0))] := hl
      obtain ⟨hi, hi6⟩ := hi
      refine lv_iload hx hb dX4_add_46 (lv_at hl 4 rfl) ?_
      refine lv_if_le (tgt := 91) hx hb dX4_add_48 (by decide) (fun _ => ?_) (fun c_ => absurd (by decide) c_)
      refine lv_aload_n hx hb dX4_add_91 rfl (lv_at hl 0 rfl) ?_
      refine wg_X4_41 (v := .ref (ad 27)) S hK E 3 rfl rfl dX4_add_92 ?_
      refine lv_iload hx hb dX4_add_95 (lv_at hl 4 rfl) ?_
      refine lv_aload_n hx hb dX4_add_97 rfl (lv_at hl 0 rfl) ?_
      refine wg_X4_44 (v := .int (gs τ 4)) S hK E 3 rfl rfl dX4_add_98 ?_
      refine w_ist (w' := wsW g ad lo ke fo ea (si τ 27 (nI 0) (gs τ 4))) S hK E 27 0 rfl rfl (vp_in_nI (n := 0) (by omega) (by decide)) wset_27 dX4_add_101 (fun H locs E => ?_)
      refine lv_aload_n hx hb dX4_add_102 rfl (lv_at hl 0 rfl) ?_
      refine lv_dup hx hb dX4_add_103 rfl ?_
      refine wg_X4_44 (v := .int (gs τ 4)) S hK E 3 rfl rfl dX4_add_104 ?_
      refine lv_iconst (v := 1) hx hb dX4_add_107 (by decide) ?_
      refine lv_iadd hx hb dX4_add_108 ?_
      refine wp_X4_44 (w' := wsW g ad lo ke fo ea (ss (si τ 27 (nI 0) (gs τ 4)) 4 ((gs τ 4) + 1))) S hK E 3 rfl rfl rfl (Nat.le_of_ble_eq_true rfl) wset_count dX4_add_109 (fun H locs E => ?_)
      have hQ : f_X4_add σ x y z = (ss (si τ 27 (nI 0) (gs τ 4)) 4 ((gs τ 4) + 1)) := by
        rw [hF]; rw [f_X4_add_L46]
      exact x_vret (ss (si τ 27 (nI 0) (gs τ 4)) 4 ((gs τ 4) + 1)) S hr hlk hsz htt hK E dX4_add_112 hQ.symm rfl ⟨Nat.le_of_ble_eq_true rfl, Nat.le_of_ble_eq_true rfl⟩ ⟨Nat.le_of_ble_eq_true rfl, Nat.le_of_ble_eq_true rfl⟩
    | succ k ih =>
      intro i hi τ   h27 H locs hF E ls hl
      have hl : lv_has ls 5 [(0, .ref (ad 3)), (1, .int x), (2, .int y), (3, .int z), (4, .int (nI (k + 1)))] := hl
      have hi0 := hi.1
      have hi6 := hi.2
      refine lv_iload hx hb dX4_add_46 (lv_at hl 4 rfl) ?_
      refine lv_if_le (tgt := 91) hx hb dX4_add_48 (by decide) (fun c_ => absurd c_ (nI_nle (by omega) (by omega))) (fun _ => ?_)
      refine lv_aload_n hx hb dX4_add_51 rfl (lv_at hl 0 rfl) ?_
      refine wg_X4_15 (v := .ref (ad 19)) S hK E 3 rfl rfl dX4_add_52 ?_
      refine lv_aload_n hx hb dX4_add_55 rfl (lv_at hl 0 rfl) ?_
      refine wg_X4_41 (v := .ref (ad 27)) S hK E 3 rfl rfl dX4_add_56 ?_
      refine lv_iload hx hb dX4_add_59 (lv_at hl 4 rfl) ?_
      refine lv_iconst (v := 1) hx hb dX4_add_61 (by decide) ?_
      refine lv_isub hx hb dX4_add_62 ?_
      rw [show ((nI (k + 1)) - 1) = nI k from nI_pred k]
      refine w_ild (v := gi τ 27 (nI k)) S hK E 27 0 rfl rfl (vp_in_nI (n := k) (by omega) (by decide)) rfl dX4_add_63 ?_
      refine w_ild (v := gi τ 19 (gi τ 27 (nI k))) S hK E 19 0 rfl rfl (gi_in27 h27 (vp_in_nI (by omega) (by decide))) rfl dX4_add_64 ?_
      refine lv_iload_n hx hb dX4_add_65 rfl (lv_at hl 2 rfl) ?_
      refine lv_icmp_le (tgt := 91) hx hb dX4_add_66 (by decide) (fun c1 => ?_) (fun c1 => ?_)
      · have c1 : (gi τ 19 (gi τ 27 (nI k))) ≤ y := c1
        refine lv_aload_n hx hb dX4_add_91 rfl (lv_at hl 0 rfl) ?_
        refine wg_X4_41 (v := .ref (ad 27)) S hK E 3 rfl rfl dX4_add_92 ?_
        refine lv_iload hx hb dX4_add_95 (lv_at hl 4 rfl) ?_
        refine lv_aload_n hx hb dX4_add_97 rfl (lv_at hl 0 rfl) ?_
        refine wg_X4_44 (v := .int (gs τ 4)) S hK E 3 rfl rfl dX4_add_98 ?_
        refine w_ist (w' := wsW g ad lo ke fo ea (si τ 27 (nI (k + 1)) (gs τ 4))) S hK E 27 0 rfl rfl (vp_in_nI (n := (k + 1)) (by omega) (by decide)) wset_27 dX4_add_101 (fun H locs E => ?_)
        refine lv_aload_n hx hb dX4_add_102 rfl (lv_at hl 0 rfl) ?_
        refine lv_dup hx hb dX4_add_103 rfl ?_
        refine wg_X4_44 (v := .int (gs τ 4)) S hK E 3 rfl rfl dX4_add_104 ?_
        refine lv_iconst (v := 1) hx hb dX4_add_107 (by decide) ?_
        refine lv_iadd hx hb dX4_add_108 ?_
        refine wp_X4_44 (w' := wsW g ad lo ke fo ea (ss (si τ 27 (nI (k + 1)) (gs τ 4)) 4 ((gs τ 4) + 1))) S hK E 3 rfl rfl rfl (Nat.le_of_ble_eq_true rfl) wset_count dX4_add_109 (fun H locs E => ?_)
        have hQ : f_X4_add σ x y z = (ss (si τ 27 (nI (k + 1)) (gs τ 4)) 4 ((gs τ 4) + 1)) := by
          rw [hF]; rw [f_X4_add_L46]; rw [if_pos c1]
        exact x_vret (ss (si τ 27 (nI (k + 1)) (gs τ 4)) 4 ((gs τ 4) + 1)) S hr hlk hsz htt hK E dX4_add_112 hQ.symm rfl ⟨Nat.le_of_ble_eq_true rfl, Nat.le_of_ble_eq_true rfl⟩ ⟨Nat.le_of_ble_eq_true rfl, Nat.le_of_ble_eq_true rfl⟩
      · have c1 : ¬ ((gi τ 19 (gi τ 27 (nI k))) ≤ y) := c1
        refine lv_aload_n hx hb dX4_add_69 rfl (lv_at hl 0 rfl) ?_
        refine wg_X4_41 (v := .ref (ad 27)) S hK E 3 rfl rfl dX4_add_70 ?_
        refine lv_iload hx hb dX4_add_73 (lv_at hl 4 rfl) ?_
        refine lv_aload_n hx hb dX4_add_75 rfl (lv_at hl 0 rfl) ?_
        refine wg_X4_41 (v := .ref (ad 27)) S hK E 3 rfl rfl dX4_add_76 ?_
        refine lv_iload hx hb dX4_add_79 (lv_at hl 4 rfl) ?_
        refine lv_iconst (v := 1) hx hb dX4_add_81 (by decide) ?_
        refine lv_isub hx hb dX4_add_82 ?_
        rw [show ((nI (k + 1)) - 1) = nI k from nI_pred k]
        refine w_ild (v := gi τ 27 (nI k)) S hK E 27 0 rfl rfl (vp_in_nI (n := k) (by omega) (by decide)) rfl dX4_add_83 ?_
        refine w_ist (w' := wsW g ad lo ke fo ea (si τ 27 (nI (k + 1)) (gi τ 27 (nI k)))) S hK E 27 0 rfl rfl (vp_in_nI (n := (k + 1)) (by omega) (by decide)) wset_27 dX4_add_84 (fun H locs E => ?_)
        refine lv_iinc (v := (nI k)) (lv' := [(4, .int (nI k)), (0, .ref (ad 3)), (1, .int x), (2, .int y), (3, .int z)]) hx hb dX4_add_85 hl (k := 4) rfl (pk_m1 k) (by decide) rfl (fun ls hl => ?_)
        refine lv_goto (tgt := 46) hx hb dX4_add_88 (by decide) ?_
        have hF : f_X4_add σ x y z = f_X4_add_L46 x y z k (i + 1) (si τ 27 (nI (k + 1)) (gi τ 27 (nI k))) := by
          rw [hF]; rw [f_X4_add_L46]; rw [if_neg c1]
        exact ih (i + 1) ⟨by omega, hi.2⟩ (si τ 27 (nI (k + 1)) (gi τ 27 (nI k)))   (up_in27 h27 (gi_in27 h27 (vp_in_nI (by omega) (by decide)))) _ _ hF E ls (lv_sub hl [1, 2, 3, 4, 0] rfl)
  refine lv_aload_n hx hb dX4_add_0 rfl (lv_at hl 0 rfl) ?_
  refine wg_X4_44 (v := .int (nI (cnt σ))) S hK E 3 rfl (congrArg (fun z => some (Value.int z)) (WF.n (σ := σ) (Kp.wf Kp.rf hW))) dX4_add_1 ?_
  refine lv_bipush (v := 6) hx hb dX4_add_4 (by decide) ?_
  refine lv_icmp_lt (tgt := 10) hx hb dX4_add_6 (by decide) (fun c2 => ?_) (fun c2 => ?_)
  · have c2 : (nI (cnt σ)) < 6 := c2
    refine lv_aload_n hx hb dX4_add_10 rfl (lv_at hl 0 rfl) ?_
    refine wg_X4_9 (v := .ref (ad 18)) S hK E 3 rfl rfl dX4_add_11 ?_
    refine lv_aload_n hx hb dX4_add_14 rfl (lv_at hl 0 rfl) ?_
    refine wg_X4_44 (v := .int (nI (cnt σ))) S hK E 3 rfl (congrArg (fun z => some (Value.int z)) (WF.n (σ := σ) (Kp.wf Kp.rf hW))) dX4_add_15 ?_
    refine lv_iload_n hx hb dX4_add_18 rfl (lv_at hl 1 rfl) ?_
    refine w_ist (w' := wsW g ad lo ke fo ea (si σ 18 (nI (cnt σ)) x)) S hK E 18 0 rfl rfl (cnt_in c2 (WF.le hW)) wset_18 dX4_add_19 (fun H locs E => ?_)
    refine lv_aload_n hx hb dX4_add_20 rfl (lv_at hl 0 rfl) ?_
    refine wg_X4_15 (v := .ref (ad 19)) S hK E 3 rfl rfl dX4_add_21 ?_
    refine lv_aload_n hx hb dX4_add_24 rfl (lv_at hl 0 rfl) ?_
    refine wg_X4_44 (v := .int (nI (cnt σ))) S hK E 3 rfl (congrArg (fun z => some (Value.int z)) (WF.n (σ := σ) (Kp.wf Kp.rf hW))) dX4_add_25 ?_
    refine lv_iload_n hx hb dX4_add_28 rfl (lv_at hl 2 rfl) ?_
    refine w_ist (w' := wsW g ad lo ke fo ea (si (si σ 18 (nI (cnt σ)) x) 19 (nI (cnt σ)) y)) S hK E 19 0 rfl rfl (cnt_in c2 (WF.le hW)) wset_19 dX4_add_29 (fun H locs E => ?_)
    refine lv_aload_n hx hb dX4_add_30 rfl (lv_at hl 0 rfl) ?_
    refine wg_X4_18 (v := .ref (ad 20)) S hK E 3 rfl rfl dX4_add_31 ?_
    refine lv_aload_n hx hb dX4_add_34 rfl (lv_at hl 0 rfl) ?_
    refine wg_X4_44 (v := .int (nI (cnt σ))) S hK E 3 rfl (congrArg (fun z => some (Value.int z)) (WF.n (σ := σ) (Kp.wf Kp.rf hW))) dX4_add_35 ?_
    refine lv_iload_n hx hb dX4_add_38 rfl (lv_at hl 3 rfl) ?_
    refine w_ist (w' := wsW g ad lo ke fo ea (si (si (si σ 18 (nI (cnt σ)) x) 19 (nI (cnt σ)) y) 20 (nI (cnt σ)) z)) S hK E 20 0 rfl rfl (cnt_in c2 (WF.le hW)) wset_20 dX4_add_39 (fun H locs E => ?_)
    refine lv_aload_n hx hb dX4_add_40 rfl (lv_at hl 0 rfl) ?_
    refine wg_X4_44 (v := .int (nI (cnt σ))) S hK E 3 rfl (congrArg (fun z => some (Value.int z)) (WF.n (σ := σ) (Kp.wf Kp.rf hW))) dX4_add_41 ?_
    refine lv_istore (lv' := [(4, .int (nI (cnt σ))), (0, .ref (ad 3)), (1, .int x), (2, .int y), (3, .int z)]) hx hb dX4_add_44 hl (by decide) rfl (fun ls hl => ?_)
    have hF : f_X4_add σ x y z = f_X4_add_L46 x y z (cnt σ) 0 (si (si (si σ 18 (nI (cnt σ)) x) 19 (nI (cnt σ)) y) 20 (nI (cnt σ)) z) := by
      unfold f_X4_add; rw [if_pos c2]
    exact L46 (cnt σ) 0 ⟨by omega, cnt_lt c2 (WF.le hW)⟩ (si (si (si σ 18 (nI (cnt σ)) x) 19 (nI (cnt σ)) y) 20 (nI (cnt σ)) z)   hW.2.2 _ _ hF E ls (lv_sub hl [1, 2, 3, 4, 0] rfl)
  · have c2 : ¬ ((nI (cnt σ)) < 6) := c2
    have hQ : f_X4_add σ x y z = σ := by
      unfold f_X4_add; rw [if_neg c2]
    exact x_vret σ S hr hlk hsz htt hK E dX4_add_9 hQ.symm rfl ⟨Nat.le_of_ble_eq_true rfl, Nat.le_of_ble_eq_true rfl⟩ ⟨Nat.le_of_ble_eq_true rfl, Nat.le_of_ble_eq_true rfl⟩

def f_X5_fillCell (σ : Sg) (x : Int32) (y : Int32) (z : Int32) (w : Int32) : Sg := (si (si (si (si (sl σ 28 0 ((gl σ 28 0) + (((w - (gi σ 10 x))).toInt64))) 8 x y) 9 x z) 10 x w) 11 x 0)
theorem KP_X5_fillCell {σ : Sg} {x : Int32} {y : Int32} {z : Int32} {w : Int32} : Kp (f_X5_fillCell σ x y z w) σ := by
  unfold f_X5_fillCell
  exact (Kp_si (k := 11) (Kp_si (k := 10) (Kp_si (k := 9) (Kp_si (k := 8) (Kp_sl Kp.rf) (by decide)) (by decide)) (by decide)) (by decide))
set_option maxHeartbeats 4000000 in
set_option maxRecDepth 100000 in
/-- World.fillCell -/
theorem c_X5_fillCell (l : Launch) (g : Gm) (ad : Nat → Nat) (lo ke fo : Int32) (ea : Nat) (σ : Sg) (x : Int32) (y : Int32) (z : Int32) (w : Int32) (q_x : vp_in x 16) : MXv l g yX5_fillCell cX5_fillCell 5 ({ frames := 0, cells := 0, slots := 0, locals := 0 } : Room) [.ref (ad 0), .int x, .int y, .int z, .int w] (wsW g ad lo ke fo ea σ) (fun u : Sg => u = f_X5_fillCell σ x y z w) (wsW g ad lo ke fo ea) (fun _ => (0, 0)) := by
  intro sz tt
  refine ofX RX5 rfl (by decide +kernel) (Nat.le_of_ble_eq_true rfl) (fun p e s m args below meth c hargs S hml hr hlk hnm hsz htt hK hA hZ E ls hl => ?_)
  have hx := S.1
  have hb := S.2.1
  have hl : lv_has ls 5 [(0, .ref (ad 0)), (1, .int x), (2, .int y), (3, .int z), (4, .int w)] := hl
  refine lv_aload_n hx hb dX5_fillCell_0 rfl (lv_at hl 0 rfl) ?_
  refine wg_X5_35 (v := .ref (ad 4)) S hK E 0 rfl rfl dX5_fillCell_1 ?_
  refine wg_X5_147 (v := .ref (ad 28)) S hK E 4 rfl rfl dX5_fillCell_4 ?_
  refine lv_iconst (v := 0) hx hb dX5_fillCell_7 (by decide) ?_
  refine lv_dup2_11 hx hb dX5_fillCell_8 rfl rfl ?_
  refine w_lld (v := gl σ 28 0) S hK E 28 1 rfl rfl (show vp_in 0 9 by unfold vp_in; decide) rfl dX5_fillCell_9 ?_
  refine lv_iload hx hb dX5_fillCell_10 (lv_at hl 4 rfl) ?_
  refine lv_aload_n hx hb dX5_fillCell_12 rfl (lv_at hl 0 rfl) ?_
  refine wg_X5_12 (v := .ref (ad 1)) S hK E 0 rfl rfl dX5_fillCell_13 ?_
  refine wg_X5_151 (v := .ref (ad 10)) S hK E 1 rfl rfl dX5_fillCell_16 ?_
  refine lv_iload_n hx hb dX5_fillCell_19 rfl (lv_at hl 1 rfl) ?_
  refine w_ild (v := gi σ 10 x) S hK E 10 0 rfl rfl q_x rfl dX5_fillCell_20 ?_
  refine lv_isub hx hb dX5_fillCell_21 ?_
  refine lv_i2l (v := ((w - (gi σ 10 x))).toInt64) hx hb dX5_fillCell_22 rfl ?_
  refine lv_ladd hx hb dX5_fillCell_23 ?_
  refine w_lst (w' := wsW g ad lo ke fo ea (sl σ 28 0 ((gl σ 28 0) + (((w - (gi σ 10 x))).toInt64)))) S hK E 28 1 rfl rfl (show vp_in 0 9 by unfold vp_in; decide) wset_28 dX5_fillCell_24 (fun H locs E => ?_)
  refine lv_aload_n hx hb dX5_fillCell_25 rfl (lv_at hl 0 rfl) ?_
  refine wg_X5_12 (v := .ref (ad 1)) S hK E 0 rfl rfl dX5_fillCell_26 ?_
  refine wg_X5_154 (v := .ref (ad 8)) S hK E 1 rfl rfl dX5_fillCell_29 ?_
  refine lv_iload_n hx hb dX5_fillCell_32 rfl (lv_at hl 1 rfl) ?_
  refine lv_iload_n hx hb dX5_fillCell_33 rfl (lv_at hl 2 rfl) ?_
  refine w_ist (w' := wsW g ad lo ke fo ea (si (sl σ 28 0 ((gl σ 28 0) + (((w - (gi σ 10 x))).toInt64))) 8 x y)) S hK E 8 0 rfl rfl q_x wset_8 dX5_fillCell_34 (fun H locs E => ?_)
  refine lv_aload_n hx hb dX5_fillCell_35 rfl (lv_at hl 0 rfl) ?_
  refine wg_X5_12 (v := .ref (ad 1)) S hK E 0 rfl rfl dX5_fillCell_36 ?_
  refine wg_X5_157 (v := .ref (ad 9)) S hK E 1 rfl rfl dX5_fillCell_39 ?_
  refine lv_iload_n hx hb dX5_fillCell_42 rfl (lv_at hl 1 rfl) ?_
  refine lv_iload_n hx hb dX5_fillCell_43 rfl (lv_at hl 3 rfl) ?_
  refine w_ist (w' := wsW g ad lo ke fo ea (si (si (sl σ 28 0 ((gl σ 28 0) + (((w - (gi σ 10 x))).toInt64))) 8 x y) 9 x z)) S hK E 9 0 rfl rfl q_x wset_9 dX5_fillCell_44 (fun H locs E => ?_)
  refine lv_aload_n hx hb dX5_fillCell_45 rfl (lv_at hl 0 rfl) ?_
  refine wg_X5_12 (v := .ref (ad 1)) S hK E 0 rfl rfl dX5_fillCell_46 ?_
  refine wg_X5_151 (v := .ref (ad 10)) S hK E 1 rfl rfl dX5_fillCell_49 ?_
  refine lv_iload_n hx hb dX5_fillCell_52 rfl (lv_at hl 1 rfl) ?_
  refine lv_iload hx hb dX5_fillCell_53 (lv_at hl 4 rfl) ?_
  refine w_ist (w' := wsW g ad lo ke fo ea (si (si (si (sl σ 28 0 ((gl σ 28 0) + (((w - (gi σ 10 x))).toInt64))) 8 x y) 9 x z) 10 x w)) S hK E 10 0 rfl rfl q_x wset_10 dX5_fillCell_55 (fun H locs E => ?_)
  refine lv_aload_n hx hb dX5_fillCell_56 rfl (lv_at hl 0 rfl) ?_
  refine wg_X5_12 (v := .ref (ad 1)) S hK E 0 rfl rfl dX5_fillCell_57 ?_
  refine wg_X5_160 (v := .ref (ad 11)) S hK E 1 rfl rfl dX5_fillCell_60 ?_
  refine lv_iload_n hx hb dX5_fillCell_63 rfl (lv_at hl 1 rfl) ?_
  refine lv_iconst (v := 0) hx hb dX5_fillCell_64 (by decide) ?_
  refine w_ist (w' := wsW g ad lo ke fo ea (si (si (si (si (sl σ 28 0 ((gl σ 28 0) + (((w - (gi σ 10 x))).toInt64))) 8 x y) 9 x z) 10 x w) 11 x 0)) S hK E 11 0 rfl rfl q_x wset_11 dX5_fillCell_65 (fun H locs E => ?_)
  have hQ : f_X5_fillCell σ x y z w = (si (si (si (si (sl σ 28 0 ((gl σ 28 0) + (((w - (gi σ 10 x))).toInt64))) 8 x y) 9 x z) 10 x w) 11 x 0) := by
    rfl
  exact x_vret (si (si (si (si (sl σ 28 0 ((gl σ 28 0) + (((w - (gi σ 10 x))).toInt64))) 8 x y) 9 x z) 10 x w) 11 x 0) S hr hlk hsz htt hK E dX5_fillCell_66 hQ.symm rfl ⟨Nat.le_of_ble_eq_true rfl, Nat.le_of_ble_eq_true rfl⟩ ⟨Nat.le_of_ble_eq_true rfl, Nat.le_of_ble_eq_true rfl⟩

def f_X5_followTransfer (σ : Sg) (lo : Int32) (x : Int32) (y : Int32) (z : Int32) : Sg := if x = lo then σ else (if y = lo then σ else (if (f_X4_canGive σ x y z) = 0 then σ else (f_X4_give σ x y z)))
theorem KP_X5_followTransfer {σ : Sg} {lo : Int32} {x : Int32} {y : Int32} {z : Int32} : Kp (f_X5_followTransfer σ lo x y z) σ := by
  unfold f_X5_followTransfer
  split
  · exact Kp.rf
  · split
    · exact Kp.rf
    · split
      · exact Kp.rf
      · exact (Kp.tr KP_X4_give Kp.rf)
set_option maxHeartbeats 4000000 in
set_option maxRecDepth 100000 in
/-- World.followTransfer -/
theorem c_X5_followTransfer (l : Launch) (g : Gm) (ad : Nat → Nat) (lo ke fo : Int32) (ea : Nat) (σ : Sg) (x : Int32) (y : Int32) (z : Int32) (q_x : vp_in x 6) (q_y : vp_in y 6) : MXv l g yX5_followTransfer cX5_followTransfer 4 ({ frames := 1, cells := 0, slots := 0, locals := 23 } : Room) [.ref (ad 0), .int x, .int y, .int z] (wsW g ad lo ke fo ea σ) (fun u : Sg => u = f_X5_followTransfer σ lo x y z) (wsW g ad lo ke fo ea) (fun _ => (0, 0)) := by
  intro sz tt
  refine ofX RX5 rfl (by decide +kernel) (Nat.le_of_ble_eq_true rfl) (fun p e s m args below meth c hargs S hml hr hlk hnm hsz htt hK hA hZ E ls hl => ?_)
  have hx := S.1
  have hb := S.2.1
  have hl : lv_has ls 4 [(0, .ref (ad 0)), (1, .int x), (2, .int y), (3, .int z)] := hl
  refine lv_iload_n hx hb dX5_followTransfer_0 rfl (lv_at hl 1 rfl) ?_
  refine lv_aload_n hx hb dX5_followTransfer_1 rfl (lv_at hl 0 rfl) ?_
  refine wg_X5_56 (v := .int lo) S hK E 0 rfl rfl dX5_followTransfer_2 ?_
  refine lv_icmp_eq (tgt := 39) hx hb dX5_followTransfer_5 (by decide) (fun c1 => ?_) (fun c1 => ?_)
  · have c1 : x = lo := c1
    have hQ : f_X5_followTransfer σ lo x y z = σ := by
      unfold f_X5_followTransfer; rw [if_pos c1]
    exact x_vret σ S hr hlk hsz htt hK E dX5_followTransfer_39 hQ.symm rfl ⟨Nat.le_of_ble_eq_true rfl, Nat.le_of_ble_eq_true rfl⟩ ⟨Nat.le_of_ble_eq_true rfl, Nat.le_of_ble_eq_true rfl⟩
  · have c1 : ¬ (x = lo) := c1
    refine lv_iload_n hx hb dX5_followTransfer_8 rfl (lv_at hl 2 rfl) ?_
    refine lv_aload_n hx hb dX5_followTransfer_9 rfl (lv_at hl 0 rfl) ?_
    refine wg_X5_56 (v := .int lo) S hK E 0 rfl rfl dX5_followTransfer_10 ?_
    refine lv_icmp_eq (tgt := 39) hx hb dX5_followTransfer_13 (by decide) (fun c2 => ?_) (fun c2 => ?_)
    · have c2 : y = lo := c2
      have hQ : f_X5_followTransfer σ lo x y z = σ := by
        unfold f_X5_followTransfer; rw [if_neg c1, if_pos c2]
      exact x_vret σ S hr hlk hsz htt hK E dX5_followTransfer_39 hQ.symm rfl ⟨Nat.le_of_ble_eq_true rfl, Nat.le_of_ble_eq_true rfl⟩ ⟨Nat.le_of_ble_eq_true rfl, Nat.le_of_ble_eq_true rfl⟩
    · have c2 : ¬ (y = lo) := c2
      refine lv_aload_n hx hb dX5_followTransfer_16 rfl (lv_at hl 0 rfl) ?_
      refine wg_X5_28 (v := .ref (ad 3)) S hK E 0 rfl rfl dX5_followTransfer_17 ?_
      refine lv_iload_n hx hb dX5_followTransfer_20 rfl (lv_at hl 1 rfl) ?_
      refine lv_iload_n hx hb dX5_followTransfer_21 rfl (lv_at hl 2 rfl) ?_
      refine lv_iload_n hx hb dX5_followTransfer_22 rfl (lv_at hl 3 rfl) ?_
      refine w_reti (runV_X (As := [.int x, .int y, .int z]) (rest := []) (q0 := 3) (n := 3) S hml hK (hZ.at E) (Cut.full E hA) (c_X4_canGive l g ad lo ke fo ea σ x y z q_x q_y _ _) (gi_wsV ml_X5_140 im_X4_canGive sl_X4_canGive in_X4 co_X4_canGive) ⟨rfl, by decide +kernel, by decide +kernel, by decide +kernel⟩ ⟨Nat.le_of_ble_eq_true rfl, Nat.le_of_ble_eq_true rfl⟩ rfl rfl rfl hl.1 rfl (Nat.le_of_ble_eq_true rfl) dX5_followTransfer_23 ⟨Nat.le_of_ble_eq_true rfl, Nat.le_of_ble_eq_true rfl⟩) (Cut.full E hA) E (fun r u H locs hp E => ?_)
      obtain ⟨hp, hu⟩ := hp
      subst hp
      rw [hu] at E
      have E : Ev g _ s.heap H locs (wsW g ad lo ke fo ea σ) := E
      refine lv_if_eq (tgt := 39) hx hb dX5_followTransfer_26 (by decide) (fun c3 => ?_) (fun c3 => ?_)
      · have c3 : (f_X4_canGive σ x y z) = 0 := c3
        have hQ : f_X5_followTransfer σ lo x y z = σ := by
          unfold f_X5_followTransfer; rw [if_neg c1, if_neg c2, if_pos c3]
        exact x_vret σ S hr hlk hsz htt hK E dX5_followTransfer_39 hQ.symm rfl ⟨Nat.le_of_ble_eq_true rfl, Nat.le_of_ble_eq_true rfl⟩ ⟨Nat.le_of_ble_eq_true rfl, Nat.le_of_ble_eq_true rfl⟩
      · have c3 : ¬ ((f_X4_canGive σ x y z) = 0) := c3
        refine lv_aload_n hx hb dX5_followTransfer_29 rfl (lv_at hl 0 rfl) ?_
        refine wg_X5_28 (v := .ref (ad 3)) S hK E 0 rfl rfl dX5_followTransfer_30 ?_
        refine lv_iload_n hx hb dX5_followTransfer_33 rfl (lv_at hl 1 rfl) ?_
        refine lv_iload_n hx hb dX5_followTransfer_34 rfl (lv_at hl 2 rfl) ?_
        refine lv_iload_n hx hb dX5_followTransfer_35 rfl (lv_at hl 3 rfl) ?_
        refine w_retv (runV_X (As := [.int x, .int y, .int z]) (rest := []) (q0 := 3) (n := 3) S hml hK (hZ.at E) (Cut.full E hA) (c_X4_give l g ad lo ke fo ea σ x y z q_x q_y _ _) (gi_wsV ml_X5_144 im_X4_give sl_X4_give in_X4 co_X4_give) ⟨rfl, by decide +kernel, by decide +kernel, by decide +kernel⟩ ⟨Nat.le_of_ble_eq_true rfl, Nat.le_of_ble_eq_true rfl⟩ rfl rfl rfl hl.1 rfl (Nat.le_of_ble_eq_true rfl) dX5_followTransfer_36 ⟨Nat.le_of_ble_eq_true rfl, Nat.le_of_ble_eq_true rfl⟩) (Cut.full E hA) E (fun u H locs hp E => ?_)
        subst hp
        have E : Ev g _ s.heap H locs (wsW g ad lo ke fo ea (f_X4_give σ x y z)) := E
        have hQ : f_X5_followTransfer σ lo x y z = (f_X4_give σ x y z) := by
          unfold f_X5_followTransfer; rw [if_neg c1, if_neg c2, if_neg c3]
        exact x_vret (f_X4_give σ x y z) S hr hlk hsz htt hK E dX5_followTransfer_39 hQ.symm rfl ⟨Nat.le_of_ble_eq_true rfl, Nat.le_of_ble_eq_true rfl⟩ ⟨Nat.le_of_ble_eq_true rfl, Nat.le_of_ble_eq_true rfl⟩

def f_X5_letRainFall_L2  : Nat → Nat → Sg → Sg
  | 0, i, τ => τ
  | k + 1, i, τ => f_X5_letRainFall_L2 k (i + 1) (sl (si τ 10 (nI i) ((gi τ 10 (nI i)) + (gi τ 15 (nI i)))) 28 1 ((gl τ 28 1) + (((gi τ 15 (nI i))).toInt64)))
theorem KP_X5_letRainFall_L2 {σ : Sg}  : ∀ (k i : Nat) (τ : Sg) , Kp τ σ → Kp (f_X5_letRainFall_L2 k i τ) σ := by
  intro k
  induction k with
  | zero =>
    intro i τ  hk
    rw [f_X5_letRainFall_L2]
    exact hk
  | succ k ih =>
    intro i τ  hk
    rw [f_X5_letRainFall_L2]
    exact ih _ _ (Kp_sl (Kp_si (k := 10) hk (by decide)))
def f_X5_letRainFall (σ : Sg)  : Sg := f_X5_letRainFall_L2 8 0 σ
theorem KP_X5_letRainFall {σ : Sg}  : Kp (f_X5_letRainFall σ) σ := by
  unfold f_X5_letRainFall
  exact KP_X5_letRainFall_L2 _ _ _ Kp.rf
set_option maxHeartbeats 4000000 in
set_option maxRecDepth 100000 in
/-- World.letRainFall -/
theorem c_X5_letRainFall (l : Launch) (g : Gm) (ad : Nat → Nat) (lo ke fo : Int32) (ea : Nat) (σ : Sg) : MXv l g yX5_letRainFall cX5_letRainFall 2 ({ frames := 0, cells := 0, slots := 0, locals := 0 } : Room) [.ref (ad 0)] (wsW g ad lo ke fo ea σ) (fun u : Sg => u = f_X5_letRainFall σ) (wsW g ad lo ke fo ea) (fun _ => (0, 0)) := by
  intro sz tt
  refine ofX RX5 rfl (by decide +kernel) (Nat.le_of_ble_eq_true rfl) (fun p e s m args below meth c hargs S hml hr hlk hnm hsz htt hK hA hZ E ls hl => ?_)
  have hx := S.1
  have hb := S.2.1
  have hl : lv_has ls 2 [(0, .ref (ad 0))] := hl
  have L2 : ∀ (k i : Nat), i + k = 8 → ∀ (τ : Sg)  (hk : Kp τ σ)  (H : Heap) (locs : List Loc), f_X5_letRainFall σ = f_X5_letRainFall_L2 k i τ → Ev g (va_A (wsW g ad lo ke fo ea σ) sz) s.heap H locs (wsW g ad lo ke fo ea τ) → ∀ ls : Array Slot, lv_has ls 2 [(0, .ref (ad 0)), (1, .int (nI i))] → W p l e ({ frames := 0, cells := 0, slots := 0, locals := 0 } : Room) s m args below meth c H locs 0 0 (MQ below (va_Qv (fun u : Sg => u = f_X5_letRainFall σ) (AtX g (va_A (wsW g ad lo ke fo ea σ) sz) (wsW g ad lo ke fo ea) (fun _ => (0, 0)) sz tt) (va_A (wsW g ad lo ke fo ea σ) sz)) args s 0 0 (va_A (wsW g ad lo ke fo ea σ) sz)) (F0 m 2 ls []) := by
    intro k
    induction k with
    | zero =>
      intro i hi τ  hk  H locs hF E ls hl
      have hl : lv_has ls 2 [(0, .ref (ad 0)), (1, .int (nI i))] := hl
      refine lv_iload_n hx hb dX5_letRainFall_2 rfl (lv_at hl 1 rfl) ?_
      refine lv_bipush (v := 8) hx hb dX5_letRainFall_3 (by decide) ?_
      refine lv_icmp_ge (tgt := 57) hx hb dX5_letRainFall_5 (by decide) (fun _ => ?_) (fun c_ => absurd (g_yes (b := 8) rfl rfl (by omega) (by omega)) c_)
      have hQ : f_X5_letRainFall σ = τ := by
        rw [hF]; rw [f_X5_letRainFall_L2]
      exact x_vret τ S hr hlk hsz htt hK E dX5_letRainFall_57 hQ.symm rfl ⟨Nat.le_of_ble_eq_true rfl, Nat.le_of_ble_eq_true rfl⟩ ⟨Nat.le_of_ble_eq_true rfl, Nat.le_of_ble_eq_true rfl⟩
    | succ k ih =>
      intro i hi τ  hk  H locs hF E ls hl
      have hl : lv_has ls 2 [(0, .ref (ad 0)), (1, .int (nI i))] := hl
      refine lv_iload_n hx hb dX5_letRainFall_2 rfl (lv_at hl 1 rfl) ?_
      refine lv_bipush (v := 8) hx hb dX5_letRainFall_3 (by decide) ?_
      refine lv_icmp_ge (tgt := 57) hx hb dX5_letRainFall_5 (by decide) (fun c_ => absurd c_ (g_no (b := 8) rfl rfl (by omega) (by decide))) (fun _ => ?_)
      refine lv_aload_n hx hb dX5_letRainFall_8 rfl (lv_at hl 0 rfl) ?_
      refine wg_X5_12 (v := .ref (ad 1)) S hK E 0 rfl rfl dX5_letRainFall_9 ?_
      refine wg_X5_151 (v := .ref (ad 10)) S hK E 1 rfl rfl dX5_letRainFall_12 ?_
      refine lv_iload_n hx hb dX5_letRainFall_15 rfl (lv_at hl 1 rfl) ?_
      refine lv_dup2_11 hx hb dX5_letRainFall_16 rfl rfl ?_
      refine w_ild (v := gi τ 10 (nI i)) S hK E 10 0 rfl rfl (vp_in_nI (n := i) (by omega) (by decide)) rfl dX5_letRainFall_17 ?_
      refine lv_aload_n hx hb dX5_letRainFall_18 rfl (lv_at hl 0 rfl) ?_
      refine wg_X5_21 (v := .ref (ad 2)) S hK E 0 rfl rfl dX5_letRainFall_19 ?_
      refine wg_X5_111 (v := .ref (ad 15)) S hK E 2 rfl rfl dX5_letRainFall_22 ?_
      refine lv_iload_n hx hb dX5_letRainFall_25 rfl (lv_at hl 1 rfl) ?_
      refine w_ild (v := gi τ 15 (nI i)) S hK E 15 0 rfl rfl (vp_in_nI (n := i) (by omega) (by decide)) rfl dX5_letRainFall_26 ?_
      refine lv_iadd hx hb dX5_letRainFall_27 ?_
      refine w_ist (w' := wsW g ad lo ke fo ea (si τ 10 (nI i) ((gi τ 10 (nI i)) + (gi τ 15 (nI i))))) S hK E 10 0 rfl rfl (vp_in_nI (n := i) (by omega) (by decide)) wset_10 dX5_letRainFall_28 (fun H locs E => ?_)
      refine lv_aload_n hx hb dX5_letRainFall_29 rfl (lv_at hl 0 rfl) ?_
      refine wg_X5_35 (v := .ref (ad 4)) S hK E 0 rfl rfl dX5_letRainFall_30 ?_
      refine wg_X5_147 (v := .ref (ad 28)) S hK E 4 rfl rfl dX5_letRainFall_33 ?_
      refine lv_iconst (v := 1) hx hb dX5_letRainFall_36 (by decide) ?_
      refine lv_dup2_11 hx hb dX5_letRainFall_37 rfl rfl ?_
      refine w_lld (v := gl τ 28 1) S hK E 28 1 rfl rfl (show vp_in 1 9 by unfold vp_in; decide) rfl dX5_letRainFall_38 ?_
      refine lv_aload_n hx hb dX5_letRainFall_39 rfl (lv_at hl 0 rfl) ?_
      refine wg_X5_21 (v := .ref (ad 2)) S hK E 0 rfl rfl dX5_letRainFall_40 ?_
      refine wg_X5_111 (v := .ref (ad 15)) S hK E 2 rfl rfl dX5_letRainFall_43 ?_
      refine lv_iload_n hx hb dX5_letRainFall_46 rfl (lv_at hl 1 rfl) ?_
      refine w_ild (v := gi τ 15 (nI i)) S hK E 15 0 rfl rfl (vp_in_nI (n := i) (by omega) (by decide)) rfl dX5_letRainFall_47 ?_
      refine lv_i2l (v := ((gi τ 15 (nI i))).toInt64) hx hb dX5_letRainFall_48 rfl ?_
      refine lv_ladd hx hb dX5_letRainFall_49 ?_
      refine w_lst (w' := wsW g ad lo ke fo ea (sl (si τ 10 (nI i) ((gi τ 10 (nI i)) + (gi τ 15 (nI i)))) 28 1 ((gl τ 28 1) + (((gi τ 15 (nI i))).toInt64)))) S hK E 28 1 rfl rfl (show vp_in 1 9 by unfold vp_in; decide) wset_28 dX5_letRainFall_50 (fun H locs E => ?_)
      refine lv_iinc (v := (nI (i + 1))) (lv' := [(1, .int (nI (i + 1))), (0, .ref (ad 0))]) hx hb dX5_letRainFall_51 hl (k := 1) rfl (nI_1 i) (by decide) rfl (fun ls hl => ?_)
      refine lv_goto (tgt := 2) hx hb dX5_letRainFall_54 (by decide) ?_
      have hF : f_X5_letRainFall σ = f_X5_letRainFall_L2 k (i + 1) (sl (si τ 10 (nI i) ((gi τ 10 (nI i)) + (gi τ 15 (nI i)))) 28 1 ((gl τ 28 1) + (((gi τ 15 (nI i))).toInt64))) := by
        rw [hF]; rw [f_X5_letRainFall_L2]
      exact ih (i + 1) (by omega) (sl (si τ 10 (nI i) ((gi τ 10 (nI i)) + (gi τ 15 (nI i)))) 28 1 ((gl τ 28 1) + (((gi τ 15 (nI i))).toInt64)))  (Kp_sl (Kp_si (k := 10) hk (by decide)))  _ _ hF E ls (lv_sub hl [1, 0] rfl)
  refine lv_iconst (v := 0) hx hb dX5_letRainFall_0 (by decide) ?_
  refine lv_istore_n (lv' := [(1, .int 0), (0, .ref (ad 0))]) hx hb dX5_letRainFall_1 rfl hl (by decide) rfl (fun ls hl => ?_)
  have hF : f_X5_letRainFall σ = f_X5_letRainFall_L2 8 0 σ := by
    rfl
  exact L2 8 0 (by omega) σ  Kp.rf  _ _ hF E ls (lv_sub hl [1, 0] rfl)

def f_X5_flow (σ : Sg) (x : Int32) (y : Int32) (z : Int32) : Sg := if (mn ((((gi σ 5 x) - (gi σ 5 y)) * z) / 4) (gi σ 10 x)) ≤ 0 then σ else (si (si (f_X2_takeOut σ x (mn ((((gi σ 5 x) - (gi σ 5 y)) * z) / 4) (gi σ 10 x))).2 7 y ((gi σ 7 y) + ((f_X2_takeOut σ x (mn ((((gi σ 5 x) - (gi σ 5 y)) * z) / 4) (gi σ 10 x))).1))) 6 y ((gi (f_X2_takeOut σ x (mn ((((gi σ 5 x) - (gi σ 5 y)) * z) / 4) (gi σ 10 x))).2 6 y) + (mn ((((gi σ 5 x) - (gi σ 5 y)) * z) / 4) (gi σ 10 x))))
theorem KP_X5_flow {σ : Sg} {x : Int32} {y : Int32} {z : Int32} : Kp (f_X5_flow σ x y z) σ := by
  unfold f_X5_flow
  split
  · exact Kp.rf
  · exact (Kp_si (k := 6) (Kp_si (k := 7) (Kp.tr KP_X2_takeOut Kp.rf) (by decide)) (by decide))
set_option maxHeartbeats 4000000 in
set_option maxRecDepth 100000 in
/-- World.flow -/
theorem c_X5_flow (l : Launch) (g : Gm) (ad : Nat → Nat) (lo ke fo : Int32) (ea : Nat) (σ : Sg) (x : Int32) (y : Int32) (z : Int32) (q_x : vp_in x 16) (q_y : vp_in y 16) : MXv l g yX5_flow cX5_flow 6 ({ frames := 1, cells := 0, slots := 0, locals := 24 } : Room) [.ref (ad 0), .int x, .int y, .int z] (wsW g ad lo ke fo ea σ) (fun u : Sg => u = f_X5_flow σ x y z) (wsW g ad lo ke fo ea) (fun _ => (0, 0)) := by
  intro sz tt
  refine ofX RX5 rfl (by decide +kernel) (Nat.le_of_ble_eq_true rfl) (fun p e s m args below meth c hargs S hml hr hlk hnm hsz htt hK hA hZ E ls hl => ?_)
  have hx := S.1
  have hb := S.2.1
  have hl : lv_has ls 6 [(0, .ref (ad 0)), (1, .int x), (2, .int y), (3, .int z)] := hl
  refine lv_aload_n hx hb dX5_flow_0 rfl (lv_at hl 0 rfl) ?_
  refine wg_X5_46 (v := .ref (ad 5)) S hK E 0 rfl rfl dX5_flow_1 ?_
  refine lv_iload_n hx hb dX5_flow_4 rfl (lv_at hl 1 rfl) ?_
  refine w_ild (v := gi σ 5 x) S hK E 5 0 rfl rfl q_x rfl dX5_flow_5 ?_
  refine lv_aload_n hx hb dX5_flow_6 rfl (lv_at hl 0 rfl) ?_
  refine wg_X5_46 (v := .ref (ad 5)) S hK E 0 rfl rfl dX5_flow_7 ?_
  refine lv_iload_n hx hb dX5_flow_10 rfl (lv_at hl 2 rfl) ?_
  refine w_ild (v := gi σ 5 y) S hK E 5 0 rfl rfl q_y rfl dX5_flow_11 ?_
  refine lv_isub hx hb dX5_flow_12 ?_
  refine lv_iload_n hx hb dX5_flow_13 rfl (lv_at hl 3 rfl) ?_
  refine lv_imul hx hb dX5_flow_14 ?_
  refine lv_iconst (v := 4) hx hb dX5_flow_15 (by decide) ?_
  refine lv_idiv hx hb dX5_flow_16 (by decide) ?_
  refine lv_istore (lv' := [(4, .int ((((gi σ 5 x) - (gi σ 5 y)) * z) / 4)), (0, .ref (ad 0)), (1, .int x), (2, .int y), (3, .int z)]) hx hb dX5_flow_17 hl (by decide) rfl (fun ls hl => ?_)
  refine lv_iload hx hb dX5_flow_19 (lv_at hl 0 rfl) ?_
  refine lv_aload_n hx hb dX5_flow_21 rfl (lv_at hl 1 rfl) ?_
  refine wg_X5_12 (v := .ref (ad 1)) S hK E 0 rfl rfl dX5_flow_22 ?_
  refine wg_X5_151 (v := .ref (ad 10)) S hK E 1 rfl rfl dX5_flow_25 ?_
  refine lv_iload_n hx hb dX5_flow_28 rfl (lv_at hl 2 rfl) ?_
  refine w_ild (v := gi σ 10 x) S hK E 10 0 rfl rfl q_x rfl dX5_flow_29 ?_
  refine w_min (v := (mn ((((gi σ 5 x) - (gi σ 5 y)) * z) / 4) (gi σ 10 x))) S hml hl ml_X5_207 st_min in_J9 co_min (Nat.le_of_ble_eq_true rfl) (Nat.le_of_ble_eq_true rfl) ⟨Nat.le_of_ble_eq_true rfl, Nat.le_of_ble_eq_true rfl⟩ rfl dX5_flow_30 ?_
  refine lv_istore (lv' := [(5, .int (mn ((((gi σ 5 x) - (gi σ 5 y)) * z) / 4) (gi σ 10 x))), (4, .int ((((gi σ 5 x) - (gi σ 5 y)) * z) / 4)), (0, .ref (ad 0)), (1, .int x), (2, .int y), (3, .int z)]) hx hb dX5_flow_33 hl (by decide) rfl (fun ls hl => ?_)
  refine lv_iload hx hb dX5_flow_35 (lv_at hl 0 rfl) ?_
  refine lv_if_le (tgt := 70) hx hb dX5_flow_37 (by decide) (fun c1 => ?_) (fun c1 => ?_)
  · have c1 : (mn ((((gi σ 5 x) - (gi σ 5 y)) * z) / 4) (gi σ 10 x)) ≤ 0 := c1
    have hQ : f_X5_flow σ x y z = σ := by
      unfold f_X5_flow; rw [if_pos c1]
    exact x_vret σ S hr hlk hsz htt hK E dX5_flow_70 hQ.symm rfl ⟨Nat.le_of_ble_eq_true rfl, Nat.le_of_ble_eq_true rfl⟩ ⟨Nat.le_of_ble_eq_true rfl, Nat.le_of_ble_eq_true rfl⟩
  · have c1 : ¬ ((mn ((((gi σ 5 x) - (gi σ 5 y)) * z) / 4) (gi σ 10 x)) ≤ 0) := c1
    refine lv_aload_n hx hb dX5_flow_40 rfl (lv_at hl 2 rfl) ?_
    refine wg_X5_53 (v := .ref (ad 7)) S hK E 0 rfl rfl dX5_flow_41 ?_
    refine lv_iload_n hx hb dX5_flow_44 rfl (lv_at hl 4 rfl) ?_
    refine lv_dup2_11 hx hb dX5_flow_45 rfl rfl ?_
    refine w_ild (v := gi σ 7 y) S hK E 7 0 rfl rfl q_y rfl dX5_flow_46 ?_
    refine lv_aload_n hx hb dX5_flow_47 rfl (lv_at hl 2 rfl) ?_
    refine wg_X5_12 (v := .ref (ad 1)) S hK E 0 rfl rfl dX5_flow_48 ?_
    refine lv_iload_n hx hb dX5_flow_51 rfl (lv_at hl 3 rfl) ?_
    refine lv_iload hx hb dX5_flow_52 (lv_at hl 0 rfl) ?_
    refine w_reti (runV_X (As := [.int x, .int (mn ((((gi σ 5 x) - (gi σ 5 y)) * z) / 4) (gi σ 10 x))]) (rest := [.int (gi σ 7 y), .int y, .ref (ad 7)]) (q0 := 1) (n := 2) S hml hK (hZ.at E) (Cut.full E hA) (c_X2_takeOut l g ad lo ke fo ea σ x (mn ((((gi σ 5 x) - (gi σ 5 y)) * z) / 4) (gi σ 10 x)) q_x _ _) (gi_wsV ml_X5_213 im_X2_takeOut sl_X2_takeOut in_X2 co_X2_takeOut) ⟨rfl, by decide +kernel, by decide +kernel, by decide +kernel⟩ ⟨Nat.le_of_ble_eq_true rfl, Nat.le_of_ble_eq_true rfl⟩ rfl rfl rfl hl.1 rfl (Nat.le_of_ble_eq_true rfl) dX5_flow_54 ⟨Nat.le_of_ble_eq_true rfl, Nat.le_of_ble_eq_true rfl⟩) (Cut.full E hA) E (fun r u H locs hp E => ?_)
    obtain ⟨rfl, rfl⟩ := hp
    have E : Ev g _ s.heap H locs (wsW g ad lo ke fo ea (f_X2_takeOut σ x (mn ((((gi σ 5 x) - (gi σ 5 y)) * z) / 4) (gi σ 10 x))).2) := E
    refine lv_iadd hx hb dX5_flow_57 ?_
    refine w_ist (w' := wsW g ad lo ke fo ea (si (f_X2_takeOut σ x (mn ((((gi σ 5 x) - (gi σ 5 y)) * z) / 4) (gi σ 10 x))).2 7 y ((gi σ 7 y) + ((f_X2_takeOut σ x (mn ((((gi σ 5 x) - (gi σ 5 y)) * z) / 4) (gi σ 10 x))).1)))) S hK E 7 0 rfl rfl q_y wset_7 dX5_flow_58 (fun H locs E => ?_)
    refine lv_aload_n hx hb dX5_flow_59 rfl (lv_at hl 2 rfl) ?_
    refine wg_X5_50 (v := .ref (ad 6)) S hK E 0 rfl rfl dX5_flow_60 ?_
    refine lv_iload_n hx hb dX5_flow_63 rfl (lv_at hl 4 rfl) ?_
    refine lv_dup2_11 hx hb dX5_flow_64 rfl rfl ?_
    refine w_ild (v := gi (f_X2_takeOut σ x (mn ((((gi σ 5 x) - (gi σ 5 y)) * z) / 4) (gi σ 10 x))).2 6 y) S hK E 6 0 rfl rfl q_y rfl dX5_flow_65 ?_
    refine lv_iload hx hb dX5_flow_66 (lv_at hl 0 rfl) ?_
    refine lv_iadd hx hb dX5_flow_68 ?_
    refine w_ist (w' := wsW g ad lo ke fo ea (si (si (f_X2_takeOut σ x (mn ((((gi σ 5 x) - (gi σ 5 y)) * z) / 4) (gi σ 10 x))).2 7 y ((gi σ 7 y) + ((f_X2_takeOut σ x (mn ((((gi σ 5 x) - (gi σ 5 y)) * z) / 4) (gi σ 10 x))).1))) 6 y ((gi (f_X2_takeOut σ x (mn ((((gi σ 5 x) - (gi σ 5 y)) * z) / 4) (gi σ 10 x))).2 6 y) + (mn ((((gi σ 5 x) - (gi σ 5 y)) * z) / 4) (gi σ 10 x))))) S hK E 6 0 rfl rfl q_y wset_6 dX5_flow_69 (fun H locs E => ?_)
    have hQ : f_X5_flow σ x y z = (si (si (f_X2_takeOut σ x (mn ((((gi σ 5 x) - (gi σ 5 y)) * z) / 4) (gi σ 10 x))).2 7 y ((gi σ 7 y) + ((f_X2_takeOut σ x (mn ((((gi σ 5 x) - (gi σ 5 y)) * z) / 4) (gi σ 10 x))).1))) 6 y ((gi (f_X2_takeOut σ x (mn ((((gi σ 5 x) - (gi σ 5 y)) * z) / 4) (gi σ 10 x))).2 6 y) + (mn ((((gi σ 5 x) - (gi σ 5 y)) * z) / 4) (gi σ 10 x)))) := by
      unfold f_X5_flow; rw [if_neg c1]
    exact x_vret (si (si (f_X2_takeOut σ x (mn ((((gi σ 5 x) - (gi σ 5 y)) * z) / 4) (gi σ 10 x))).2 7 y ((gi σ 7 y) + ((f_X2_takeOut σ x (mn ((((gi σ 5 x) - (gi σ 5 y)) * z) / 4) (gi σ 10 x))).1))) 6 y ((gi (f_X2_takeOut σ x (mn ((((gi σ 5 x) - (gi σ 5 y)) * z) / 4) (gi σ 10 x))).2 6 y) + (mn ((((gi σ 5 x) - (gi σ 5 y)) * z) / 4) (gi σ 10 x)))) S hr hlk hsz htt hK E dX5_flow_70 hQ.symm rfl ⟨Nat.le_of_ble_eq_true rfl, Nat.le_of_ble_eq_true rfl⟩ ⟨Nat.le_of_ble_eq_true rfl, Nat.le_of_ble_eq_true rfl⟩

def f_X5_letWaterFlow_L125  : Nat → Nat → Sg → Sg
  | 0, i, τ => τ
  | k + 1, i, τ => f_X5_letWaterFlow_L125 k (i + 1) (si (si τ 10 (nI i) ((gi τ 10 (nI i)) + (gi τ 6 (nI i)))) 11 (nI i) ((gi τ 11 (nI i)) + (gi τ 7 (nI i))))
theorem KP_X5_letWaterFlow_L125 {σ : Sg}  : ∀ (k i : Nat) (τ : Sg) , Kp τ σ → Kp (f_X5_letWaterFlow_L125 k i τ) σ := by
  intro k
  induction k with
  | zero =>
    intro i τ  hk
    rw [f_X5_letWaterFlow_L125]
    exact hk
  | succ k ih =>
    intro i τ  hk
    rw [f_X5_letWaterFlow_L125]
    exact ih _ _ (Kp_si (k := 11) (Kp_si (k := 10) hk (by decide)) (by decide))
def f_X5_letWaterFlow_L44  : Nat → Nat → Sg → Sg
  | 0, i, τ => f_X5_letWaterFlow_L125 16 0 τ
  | k + 1, i, τ => if (nI (i % 8)) ≤ 0 then (if 7 ≤ (nI (i % 8)) then (f_X5_letWaterFlow_L44 k (i + 1) (f_X5_flow τ (nI i) (nI ((i + 8) % 16)) (gi τ 14 (nI (i % 8))))) else (f_X5_letWaterFlow_L44 k (i + 1) (f_X5_flow (f_X5_flow τ (nI i) (nI (i + 1)) (gi τ 13 (nI (i / 8)))) (nI i) (nI ((i + 8) % 16)) (gi (f_X5_flow τ (nI i) (nI (i + 1)) (gi τ 13 (nI (i / 8)))) 14 (nI (i % 8)))))) else (if 7 ≤ (nI (i % 8)) then (f_X5_letWaterFlow_L44 k (i + 1) (f_X5_flow (f_X5_flow τ (nI i) ((nI i) - 1) (gi τ 13 (nI (i / 8)))) (nI i) (nI ((i + 8) % 16)) (gi (f_X5_flow τ (nI i) ((nI i) - 1) (gi τ 13 (nI (i / 8)))) 14 (nI (i % 8))))) else (f_X5_letWaterFlow_L44 k (i + 1) (f_X5_flow (f_X5_flow (f_X5_flow τ (nI i) ((nI i) - 1) (gi τ 13 (nI (i / 8)))) (nI i) (nI (i + 1)) (gi τ 13 (nI (i / 8)))) (nI i) (nI ((i + 8) % 16)) (gi (f_X5_flow (f_X5_flow τ (nI i) ((nI i) - 1) (gi τ 13 (nI (i / 8)))) (nI i) (nI (i + 1)) (gi τ 13 (nI (i / 8)))) 14 (nI (i % 8))))))
theorem KP_X5_letWaterFlow_L44 {σ : Sg}  : ∀ (k i : Nat) (τ : Sg) , Kp τ σ → Kp (f_X5_letWaterFlow_L44 k i τ) σ := by
  intro k
  induction k with
  | zero =>
    intro i τ  hk
    rw [f_X5_letWaterFlow_L44]
    exact KP_X5_letWaterFlow_L125 _ _ _ hk
  | succ k ih =>
    intro i τ  hk
    rw [f_X5_letWaterFlow_L44]
    split
    · split
      · exact ih _ _ (Kp.tr KP_X5_flow hk)
      · exact ih _ _ (Kp.tr KP_X5_flow (Kp.tr KP_X5_flow hk))
    · split
      · exact ih _ _ (Kp.tr KP_X5_flow (Kp.tr KP_X5_flow hk))
      · exact ih _ _ (Kp.tr KP_X5_flow (Kp.tr KP_X5_flow (Kp.tr KP_X5_flow hk)))
def f_X5_letWaterFlow_L2  : Nat → Nat → Sg → Sg
  | 0, i, τ => f_X5_letWaterFlow_L44 16 0 τ
  | k + 1, i, τ => f_X5_letWaterFlow_L2 k (i + 1) (si (si (si τ 5 (nI i) (f_X2_height τ (nI i))) 6 (nI i) 0) 7 (nI i) 0)
theorem KP_X5_letWaterFlow_L2 {σ : Sg}  : ∀ (k i : Nat) (τ : Sg) , Kp τ σ → Kp (f_X5_letWaterFlow_L2 k i τ) σ := by
  intro k
  induction k with
  | zero =>
    intro i τ  hk
    rw [f_X5_letWaterFlow_L2]
    exact KP_X5_letWaterFlow_L44 _ _ _ hk
  | succ k ih =>
    intro i τ  hk
    rw [f_X5_letWaterFlow_L2]
    exact ih _ _ (Kp_si (k := 7) (Kp_si (k := 6) (Kp_si (k := 5) hk (by decide)) (by decide)) (by decide))
def f_X5_letWaterFlow (σ : Sg)  : Sg := f_X5_letWaterFlow_L2 16 0 σ
theorem KP_X5_letWaterFlow {σ : Sg}  : Kp (f_X5_letWaterFlow σ) σ := by
  unfold f_X5_letWaterFlow
  exact KP_X5_letWaterFlow_L2 _ _ _ Kp.rf
set_option maxHeartbeats 4000000 in
set_option maxRecDepth 100000 in
/-- World.letWaterFlow -/
theorem c_X5_letWaterFlow (l : Launch) (g : Gm) (ad : Nat → Nat) (lo ke fo : Int32) (ea : Nat) (σ : Sg) : MXv l g yX5_letWaterFlow cX5_letWaterFlow 4 ({ frames := 2, cells := 0, slots := 0, locals := 49 } : Room) [.ref (ad 0)] (wsW g ad lo ke fo ea σ) (fun u : Sg => u = f_X5_letWaterFlow σ) (wsW g ad lo ke fo ea) (fun _ => (0, 0)) := by
  intro sz tt
  refine ofX RX5 rfl (by decide +kernel) (Nat.le_of_ble_eq_true rfl) (fun p e s m args below meth c hargs S hml hr hlk hnm hsz htt hK hA hZ E ls hl => ?_)
  have hx := S.1
  have hb := S.2.1
  have hl : lv_has ls 4 [(0, .ref (ad 0))] := hl
  have L125 : ∀ (k i : Nat), i + k = 16 → ∀ (τ : Sg)  (hk : Kp τ σ)  (H : Heap) (locs : List Loc), f_X5_letWaterFlow σ = f_X5_letWaterFlow_L125 k i τ → Ev g (va_A (wsW g ad lo ke fo ea σ) sz) s.heap H locs (wsW g ad lo ke fo ea τ) → ∀ ls : Array Slot, lv_has ls 4 [(0, .ref (ad 0)), (1, .int (nI i))] → W p l e ({ frames := 2, cells := 0, slots := 0, locals := 49 } : Room) s m args below meth c H locs 0 0 (MQ below (va_Qv (fun u : Sg => u = f_X5_letWaterFlow σ) (AtX g (va_A (wsW g ad lo ke fo ea σ) sz) (wsW g ad lo ke fo ea) (fun _ => (0, 0)) sz tt) (va_A (wsW g ad lo ke fo ea σ) sz)) args s 0 0 (va_A (wsW g ad lo ke fo ea σ) sz)) (F0 m 125 ls []) := by
    intro k
    induction k with
    | zero =>
      intro i hi τ  hk  H locs hF E ls hl
      have hl : lv_has ls 4 [(0, .ref (ad 0)), (1, .int (nI i))] := hl
      refine lv_iload_n hx hb dX5_letWaterFlow_125 rfl (lv_at hl 1 rfl) ?_
      refine lv_bipush (v := 16) hx hb dX5_letWaterFlow_126 (by decide) ?_
      refine lv_icmp_ge (tgt := 173) hx hb dX5_letWaterFlow_128 (by decide) (fun _ => ?_) (fun c_ => absurd (g_yes (b := 16) rfl rfl (by omega) (by omega)) c_)
      have hQ : f_X5_letWaterFlow σ = τ := by
        rw [hF]; rw [f_X5_letWaterFlow_L125]
      exact x_vret τ S hr hlk hsz htt hK E dX5_letWaterFlow_173 hQ.symm rfl ⟨Nat.le_of_ble_eq_true rfl, Nat.le_of_ble_eq_true rfl⟩ ⟨Nat.le_of_ble_eq_true rfl, Nat.le_of_ble_eq_true rfl⟩
    | succ k ih =>
      intro i hi τ  hk  H locs hF E ls hl
      have hl : lv_has ls 4 [(0, .ref (ad 0)), (1, .int (nI i))] := hl
      refine lv_iload_n hx hb dX5_letWaterFlow_125 rfl (lv_at hl 1 rfl) ?_
      refine lv_bipush (v := 16) hx hb dX5_letWaterFlow_126 (by decide) ?_
      refine lv_icmp_ge (tgt := 173) hx hb dX5_letWaterFlow_128 (by decide) (fun c_ => absurd c_ (g_no (b := 16) rfl rfl (by omega) (by decide))) (fun _ => ?_)
      refine lv_aload_n hx hb dX5_letWaterFlow_131 rfl (lv_at hl 0 rfl) ?_
      refine wg_X5_12 (v := .ref (ad 1)) S hK E 0 rfl rfl dX5_letWaterFlow_132 ?_
      refine wg_X5_151 (v := .ref (ad 10)) S hK E 1 rfl rfl dX5_letWaterFlow_135 ?_
      refine lv_iload_n hx hb dX5_letWaterFlow_138 rfl (lv_at hl 1 rfl) ?_
      refine lv_dup2_11 hx hb dX5_letWaterFlow_139 rfl rfl ?_
      refine w_ild (v := gi τ 10 (nI i)) S hK E 10 0 rfl rfl (vp_in_nI (n := i) (by omega) (by decide)) rfl dX5_letWaterFlow_140 ?_
      refine lv_aload_n hx hb dX5_letWaterFlow_141 rfl (lv_at hl 0 rfl) ?_
      refine wg_X5_50 (v := .ref (ad 6)) S hK E 0 rfl rfl dX5_letWaterFlow_142 ?_
      refine lv_iload_n hx hb dX5_letWaterFlow_145 rfl (lv_at hl 1 rfl) ?_
      refine w_ild (v := gi τ 6 (nI i)) S hK E 6 0 rfl rfl (vp_in_nI (n := i) (by omega) (by decide)) rfl dX5_letWaterFlow_146 ?_
      refine lv_iadd hx hb dX5_letWaterFlow_147 ?_
      refine w_ist (w' := wsW g ad lo ke fo ea (si τ 10 (nI i) ((gi τ 10 (nI i)) + (gi τ 6 (nI i))))) S hK E 10 0 rfl rfl (vp_in_nI (n := i) (by omega) (by decide)) wset_10 dX5_letWaterFlow_148 (fun H locs E => ?_)
      refine lv_aload_n hx hb dX5_letWaterFlow_149 rfl (lv_at hl 0 rfl) ?_
      refine wg_X5_12 (v := .ref (ad 1)) S hK E 0 rfl rfl dX5_letWaterFlow_150 ?_
      refine wg_X5_160 (v := .ref (ad 11)) S hK E 1 rfl rfl dX5_letWaterFlow_153 ?_
      refine lv_iload_n hx hb dX5_letWaterFlow_156 rfl (lv_at hl 1 rfl) ?_
      refine lv_dup2_11 hx hb dX5_letWaterFlow_157 rfl rfl ?_
      refine w_ild (v := gi τ 11 (nI i)) S hK E 11 0 rfl rfl (vp_in_nI (n := i) (by omega) (by decide)) rfl dX5_letWaterFlow_158 ?_
      refine lv_aload_n hx hb dX5_letWaterFlow_159 rfl (lv_at hl 0 rfl) ?_
      refine wg_X5_53 (v := .ref (ad 7)) S hK E 0 rfl rfl dX5_letWaterFlow_160 ?_
      refine lv_iload_n hx hb dX5_letWaterFlow_163 rfl (lv_at hl 1 rfl) ?_
      refine w_ild (v := gi τ 7 (nI i)) S hK E 7 0 rfl rfl (vp_in_nI (n := i) (by omega) (by decide)) rfl dX5_letWaterFlow_164 ?_
      refine lv_iadd hx hb dX5_letWaterFlow_165 ?_
      refine w_ist (w' := wsW g ad lo ke fo ea (si (si τ 10 (nI i) ((gi τ 10 (nI i)) + (gi τ 6 (nI i)))) 11 (nI i) ((gi τ 11 (nI i)) + (gi τ 7 (nI i))))) S hK E 11 0 rfl rfl (vp_in_nI (n := i) (by omega) (by decide)) wset_11 dX5_letWaterFlow_166 (fun H locs E => ?_)
      refine lv_iinc (v := (nI (i + 1))) (lv' := [(1, .int (nI (i + 1))), (0, .ref (ad 0))]) hx hb dX5_letWaterFlow_167 hl (k := 1) rfl (nI_1 i) (by decide) rfl (fun ls hl => ?_)
      refine lv_goto (tgt := 125) hx hb dX5_letWaterFlow_170 (by decide) ?_
      have hF : f_X5_letWaterFlow σ = f_X5_letWaterFlow_L125 k (i + 1) (si (si τ 10 (nI i) ((gi τ 10 (nI i)) + (gi τ 6 (nI i)))) 11 (nI i) ((gi τ 11 (nI i)) + (gi τ 7 (nI i)))) := by
        rw [hF]; rw [f_X5_letWaterFlow_L125]
      exact ih (i + 1) (by omega) (si (si τ 10 (nI i) ((gi τ 10 (nI i)) + (gi τ 6 (nI i)))) 11 (nI i) ((gi τ 11 (nI i)) + (gi τ 7 (nI i))))  (Kp_si (k := 11) (Kp_si (k := 10) hk (by decide)) (by decide))  _ _ hF E ls (lv_sub hl [1, 0] rfl)
  have L44 : ∀ (k i : Nat), i + k = 16 → ∀ (τ : Sg)  (hk : Kp τ σ)  (H : Heap) (locs : List Loc), f_X5_letWaterFlow σ = f_X5_letWaterFlow_L44 k i τ → Ev g (va_A (wsW g ad lo ke fo ea σ) sz) s.heap H locs (wsW g ad lo ke fo ea τ) → ∀ ls : Array Slot, lv_has ls 4 [(0, .ref (ad 0)), (1, .int (nI i))] → W p l e ({ frames := 2, cells := 0, slots := 0, locals := 49 } : Room) s m args below meth c H locs 0 0 (MQ below (va_Qv (fun u : Sg => u = f_X5_letWaterFlow σ) (AtX g (va_A (wsW g ad lo ke fo ea σ) sz) (wsW g ad lo ke fo ea) (fun _ => (0, 0)) sz tt) (va_A (wsW g ad lo ke fo ea σ) sz)) args s 0 0 (va_A (wsW g ad lo ke fo ea σ) sz)) (F0 m 44 ls []) := by
    intro k
    induction k with
    | zero =>
      intro i hi τ  hk  H locs hF E ls hl
      have hl : lv_has ls 4 [(0, .ref (ad 0)), (1, .int (nI i))] := hl
      refine lv_iload_n hx hb dX5_letWaterFlow_44 rfl (lv_at hl 1 rfl) ?_
      refine lv_bipush (v := 16) hx hb dX5_letWaterFlow_45 (by decide) ?_
      refine lv_icmp_ge (tgt := 123) hx hb dX5_letWaterFlow_47 (by decide) (fun _ => ?_) (fun c_ => absurd (g_yes (b := 16) rfl rfl (by omega) (by omega)) c_)
      refine lv_iconst (v := 0) hx hb dX5_letWaterFlow_123 (by decide) ?_
      refine lv_istore_n (lv' := [(1, .int 0), (0, .ref (ad 0))]) hx hb dX5_letWaterFlow_124 rfl hl (by decide) rfl (fun ls hl => ?_)
      have hF : f_X5_letWaterFlow σ = f_X5_letWaterFlow_L125 16 0 τ := by
        rw [hF]; rw [f_X5_letWaterFlow_L44]
      exact L125 16 0 (by omega) τ  hk  _ _ hF E ls (lv_sub hl [1, 0] rfl)
    | succ k ih =>
      intro i hi τ  hk  H locs hF E ls hl
      have hl : lv_has ls 4 [(0, .ref (ad 0)), (1, .int (nI i))] := hl
      refine lv_iload_n hx hb dX5_letWaterFlow_44 rfl (lv_at hl 1 rfl) ?_
      refine lv_bipush (v := 16) hx hb dX5_letWaterFlow_45 (by decide) ?_
      refine lv_icmp_ge (tgt := 123) hx hb dX5_letWaterFlow_47 (by decide) (fun c_ => absurd c_ (g_no (b := 16) rfl rfl (by omega) (by decide))) (fun _ => ?_)
      refine lv_iload_n hx hb dX5_letWaterFlow_50 rfl (lv_at hl 1 rfl) ?_
      refine lv_bipush (v := 8) hx hb dX5_letWaterFlow_51 (by decide) ?_
      refine lv_irem hx hb dX5_letWaterFlow_53 (by decide) ?_
      rw [show ((nI i) - (nI i) / 8 * 8) = nI (i % 8) from pk_rem (a := i) (d := 8) (by omega) (by decide) (by decide)]
      refine lv_istore_n (lv' := [(2, .int (nI (i % 8))), (0, .ref (ad 0)), (1, .int (nI i))]) hx hb dX5_letWaterFlow_54 rfl hl (by decide) rfl (fun ls hl => ?_)
      refine lv_aload_n hx hb dX5_letWaterFlow_55 rfl (lv_at hl 1 rfl) ?_
      refine wg_X5_21 (v := .ref (ad 2)) S hK E 0 rfl rfl dX5_letWaterFlow_56 ?_
      refine wg_X5_105 (v := .ref (ad 13)) S hK E 2 rfl rfl dX5_letWaterFlow_59 ?_
      refine lv_iload_n hx hb dX5_letWaterFlow_62 rfl (lv_at hl 2 rfl) ?_
      refine lv_bipush (v := 8) hx hb dX5_letWaterFlow_63 (by decide) ?_
      refine lv_idiv hx hb dX5_letWaterFlow_65 (by decide) ?_
      rw [show ((nI i) / 8) = nI (i / 8) from pk_div (a := i) (d := 8) (by omega) (by decide) (by decide)]
      refine w_ild (v := gi τ 13 (nI (i / 8))) S hK E 13 0 rfl rfl (vp_in_nI (n := (i / 8)) (by omega) (by decide)) rfl dX5_letWaterFlow_66 ?_
      refine lv_istore_n (lv' := [(3, .int (gi τ 13 (nI (i / 8)))), (2, .int (nI (i % 8))), (0, .ref (ad 0)), (1, .int (nI i))]) hx hb dX5_letWaterFlow_67 rfl hl (by decide) rfl (fun ls hl => ?_)
      refine lv_iload_n hx hb dX5_letWaterFlow_68 rfl (lv_at hl 1 rfl) ?_
      refine lv_if_le (tgt := 81) hx hb dX5_letWaterFlow_69 (by decide) (fun c1 => ?_) (fun c1 => ?_)
      · have c1 : (nI (i % 8)) ≤ 0 := c1
        refine lv_iload_n hx hb dX5_letWaterFlow_81 rfl (lv_at hl 1 rfl) ?_
        refine lv_bipush (v := 7) hx hb dX5_letWaterFlow_82 (by decide) ?_
        refine lv_icmp_ge (tgt := 96) hx hb dX5_letWaterFlow_84 (by decide) (fun c2 => ?_) (fun c2 => ?_)
        · have c2 : 7 ≤ (nI (i % 8)) := c2
          refine lv_aload_n hx hb dX5_letWaterFlow_96 rfl (lv_at hl 2 rfl) ?_
          refine lv_iload_n hx hb dX5_letWaterFlow_97 rfl (lv_at hl 3 rfl) ?_
          refine lv_iload_n hx hb dX5_letWaterFlow_98 rfl (lv_at hl 3 rfl) ?_
          refine lv_bipush (v := 8) hx hb dX5_letWaterFlow_99 (by decide) ?_
          refine lv_iadd hx hb dX5_letWaterFlow_101 ?_
          rw [show ((nI i) + 8) = nI (i + 8) from nI_add i 8]
          refine lv_bipush (v := 16) hx hb dX5_letWaterFlow_102 (by decide) ?_
          refine lv_irem hx hb dX5_letWaterFlow_104 (by decide) ?_
          rw [show ((nI (i + 8)) - (nI (i + 8)) / 16 * 16) = nI ((i + 8) % 16) from pk_rem (a := (i + 8)) (d := 16) (by omega) (by decide) (by decide)]
          refine lv_aload_n hx hb dX5_letWaterFlow_105 rfl (lv_at hl 2 rfl) ?_
          refine wg_X5_21 (v := .ref (ad 2)) S hK E 0 rfl rfl dX5_letWaterFlow_106 ?_
          refine wg_X5_108 (v := .ref (ad 14)) S hK E 2 rfl rfl dX5_letWaterFlow_109 ?_
          refine lv_iload_n hx hb dX5_letWaterFlow_112 rfl (lv_at hl 1 rfl) ?_
          refine w_ild (v := gi τ 14 (nI (i % 8))) S hK E 14 0 rfl rfl (vp_in_nI (n := (i % 8)) (by omega) (by decide)) rfl dX5_letWaterFlow_113 ?_
          refine w_retv (runV_X (As := [.int (nI i), .int (nI ((i + 8) % 16)), .int (gi τ 14 (nI (i % 8)))]) (rest := []) (q0 := 0) (n := 3) S hml hK (hZ.at E) (Cut.full E hA) (c_X5_flow l g ad lo ke fo ea τ (nI i) (nI ((i + 8) % 16)) (gi τ 14 (nI (i % 8))) (vp_in_nI (n := i) (by omega) (by decide)) (vp_in_nI (n := ((i + 8) % 16)) (by omega) (by decide)) _ _) (gi_wsV ml_X5_232 im_X5_flow sl_X5_flow in_X5 co_X5_flow) ⟨rfl, by decide +kernel, by decide +kernel, by decide +kernel⟩ ⟨Nat.le_of_ble_eq_true rfl, Nat.le_of_ble_eq_true rfl⟩ rfl rfl rfl hl.1 rfl (Nat.le_of_ble_eq_true rfl) dX5_letWaterFlow_114 ⟨Nat.le_of_ble_eq_true rfl, Nat.le_of_ble_eq_true rfl⟩) (Cut.full E hA) E (fun u H locs hp E => ?_)
          subst hp
          have E : Ev g _ s.heap H locs (wsW g ad lo ke fo ea (f_X5_flow τ (nI i) (nI ((i + 8) % 16)) (gi τ 14 (nI (i % 8))))) := E
          refine lv_iinc (v := (nI (i + 1))) (lv' := [(1, .int (nI (i + 1))), (3, .int (gi τ 13 (nI (i / 8)))), (2, .int (nI (i % 8))), (0, .ref (ad 0))]) hx hb dX5_letWaterFlow_117 hl (k := 3) rfl (nI_1 i) (by decide) rfl (fun ls hl => ?_)
          refine lv_goto (tgt := 44) hx hb dX5_letWaterFlow_120 (by decide) ?_
          have hF : f_X5_letWaterFlow σ = f_X5_letWaterFlow_L44 k (i + 1) (f_X5_flow τ (nI i) (nI ((i + 8) % 16)) (gi τ 14 (nI (i % 8)))) := by
            rw [hF]; rw [f_X5_letWaterFlow_L44]; rw [if_pos c1, if_pos c2]
          exact ih (i + 1) (by omega) (f_X5_flow τ (nI i) (nI ((i + 8) % 16)) (gi τ 14 (nI (i % 8))))  (Kp.tr KP_X5_flow hk)  _ _ hF E ls (lv_sub hl [3, 0] rfl)
        · have c2 : ¬ (7 ≤ (nI (i % 8))) := c2
          refine lv_aload_n hx hb dX5_letWaterFlow_87 rfl (lv_at hl 2 rfl) ?_
          refine lv_iload_n hx hb dX5_letWaterFlow_88 rfl (lv_at hl 3 rfl) ?_
          refine lv_iload_n hx hb dX5_letWaterFlow_89 rfl (lv_at hl 3 rfl) ?_
          refine lv_iconst (v := 1) hx hb dX5_letWaterFlow_90 (by decide) ?_
          refine lv_iadd hx hb dX5_letWaterFlow_91 ?_
          rw [nI_1]
          refine lv_iload_n hx hb dX5_letWaterFlow_92 rfl (lv_at hl 0 rfl) ?_
          refine w_retv (runV_X (As := [.int (nI i), .int (nI (i + 1)), .int (gi τ 13 (nI (i / 8)))]) (rest := []) (q0 := 0) (n := 3) S hml hK (hZ.at E) (Cut.full E hA) (c_X5_flow l g ad lo ke fo ea τ (nI i) (nI (i + 1)) (gi τ 13 (nI (i / 8))) (vp_in_nI (n := i) (by omega) (by decide)) (col_hi c2 (by omega)) _ _) (gi_wsV ml_X5_232 im_X5_flow sl_X5_flow in_X5 co_X5_flow) ⟨rfl, by decide +kernel, by decide +kernel, by decide +kernel⟩ ⟨Nat.le_of_ble_eq_true rfl, Nat.le_of_ble_eq_true rfl⟩ rfl rfl rfl hl.1 rfl (Nat.le_of_ble_eq_true rfl) dX5_letWaterFlow_93 ⟨Nat.le_of_ble_eq_true rfl, Nat.le_of_ble_eq_true rfl⟩) (Cut.full E hA) E (fun u H locs hp E => ?_)
          subst hp
          have E : Ev g _ s.heap H locs (wsW g ad lo ke fo ea (f_X5_flow τ (nI i) (nI (i + 1)) (gi τ 13 (nI (i / 8))))) := E
          refine lv_aload_n hx hb dX5_letWaterFlow_96 rfl (lv_at hl 2 rfl) ?_
          refine lv_iload_n hx hb dX5_letWaterFlow_97 rfl (lv_at hl 3 rfl) ?_
          refine lv_iload_n hx hb dX5_letWaterFlow_98 rfl (lv_at hl 3 rfl) ?_
          refine lv_bipush (v := 8) hx hb dX5_letWaterFlow_99 (by decide) ?_
          refine lv_iadd hx hb dX5_letWaterFlow_101 ?_
          rw [show ((nI i) + 8) = nI (i + 8) from nI_add i 8]
          refine lv_bipush (v := 16) hx hb dX5_letWaterFlow_102 (by decide) ?_
          refine lv_irem hx hb dX5_letWaterFlow_104 (by decide) ?_
          rw [show ((nI (i + 8)) - (nI (i + 8)) / 16 * 16) = nI ((i + 8) % 16) from pk_rem (a := (i + 8)) (d := 16) (by omega) (by decide) (by decide)]
          refine lv_aload_n hx hb dX5_letWaterFlow_105 rfl (lv_at hl 2 rfl) ?_
          refine wg_X5_21 (v := .ref (ad 2)) S hK E 0 rfl rfl dX5_letWaterFlow_106 ?_
          refine wg_X5_108 (v := .ref (ad 14)) S hK E 2 rfl rfl dX5_letWaterFlow_109 ?_
          refine lv_iload_n hx hb dX5_letWaterFlow_112 rfl (lv_at hl 1 rfl) ?_
          refine w_ild (v := gi (f_X5_flow τ (nI i) (nI (i + 1)) (gi τ 13 (nI (i / 8)))) 14 (nI (i % 8))) S hK E 14 0 rfl rfl (vp_in_nI (n := (i % 8)) (by omega) (by decide)) rfl dX5_letWaterFlow_113 ?_
          refine w_retv (runV_X (As := [.int (nI i), .int (nI ((i + 8) % 16)), .int (gi (f_X5_flow τ (nI i) (nI (i + 1)) (gi τ 13 (nI (i / 8)))) 14 (nI (i % 8)))]) (rest := []) (q0 := 0) (n := 3) S hml hK (hZ.at E) (Cut.full E hA) (c_X5_flow l g ad lo ke fo ea (f_X5_flow τ (nI i) (nI (i + 1)) (gi τ 13 (nI (i / 8)))) (nI i) (nI ((i + 8) % 16)) (gi (f_X5_flow τ (nI i) (nI (i + 1)) (gi τ 13 (nI (i / 8)))) 14 (nI (i % 8))) (vp_in_nI (n := i) (by omega) (by decide)) (vp_in_nI (n := ((i + 8) % 16)) (by omega) (by decide)) _ _) (gi_wsV ml_X5_232 im_X5_flow sl_X5_flow in_X5 co_X5_flow) ⟨rfl, by decide +kernel, by decide +kernel, by decide +kernel⟩ ⟨Nat.le_of_ble_eq_true rfl, Nat.le_of_ble_eq_true rfl⟩ rfl rfl rfl hl.1 rfl (Nat.le_of_ble_eq_true rfl) dX5_letWaterFlow_114 ⟨Nat.le_of_ble_eq_true rfl, Nat.le_of_ble_eq_true rfl⟩) (Cut.full E hA) E (fun u H locs hp E => ?_)
          subst hp
          have E : Ev g _ s.heap H locs (wsW g ad lo ke fo ea (f_X5_flow (f_X5_flow τ (nI i) (nI (i + 1)) (gi τ 13 (nI (i / 8)))) (nI i) (nI ((i + 8) % 16)) (gi (f_X5_flow τ (nI i) (nI (i + 1)) (gi τ 13 (nI (i / 8)))) 14 (nI (i % 8))))) := E
          refine lv_iinc (v := (nI (i + 1))) (lv' := [(1, .int (nI (i + 1))), (3, .int (gi τ 13 (nI (i / 8)))), (2, .int (nI (i % 8))), (0, .ref (ad 0))]) hx hb dX5_letWaterFlow_117 hl (k := 3) rfl (nI_1 i) (by decide) rfl (fun ls hl => ?_)
          refine lv_goto (tgt := 44) hx hb dX5_letWaterFlow_120 (by decide) ?_
          have hF : f_X5_letWaterFlow σ = f_X5_letWaterFlow_L44 k (i + 1) (f_X5_flow (f_X5_flow τ (nI i) (nI (i + 1)) (gi τ 13 (nI (i / 8)))) (nI i) (nI ((i + 8) % 16)) (gi (f_X5_flow τ (nI i) (nI (i + 1)) (gi τ 13 (nI (i / 8)))) 14 (nI (i % 8)))) := by
            rw [hF]; rw [f_X5_letWaterFlow_L44]; rw [if_pos c1, if_neg c2]
          exact ih (i + 1) (by omega) (f_X5_flow (f_X5_flow τ (nI i) (nI (i + 1)) (gi τ 13 (nI (i / 8)))) (nI i) (nI ((i + 8) % 16)) (gi (f_X5_flow τ (nI i) (nI (i + 1)) (gi τ 13 (nI (i / 8)))) 14 (nI (i % 8))))  (Kp.tr KP_X5_flow (Kp.tr KP_X5_flow hk))  _ _ hF E ls (lv_sub hl [3, 0] rfl)
      · have c1 : ¬ ((nI (i % 8)) ≤ 0) := c1
        refine lv_aload_n hx hb dX5_letWaterFlow_72 rfl (lv_at hl 2 rfl) ?_
        refine lv_iload_n hx hb dX5_letWaterFlow_73 rfl (lv_at hl 3 rfl) ?_
        refine lv_iload_n hx hb dX5_letWaterFlow_74 rfl (lv_at hl 3 rfl) ?_
        refine lv_iconst (v := 1) hx hb dX5_letWaterFlow_75 (by decide) ?_
        refine lv_isub hx hb dX5_letWaterFlow_76 ?_
        refine lv_iload_n hx hb dX5_letWaterFlow_77 rfl (lv_at hl 0 rfl) ?_
        refine w_retv (runV_X (As := [.int (nI i), .int ((nI i) - 1), .int (gi τ 13 (nI (i / 8)))]) (rest := []) (q0 := 0) (n := 3) S hml hK (hZ.at E) (Cut.full E hA) (c_X5_flow l g ad lo ke fo ea τ (nI i) ((nI i) - 1) (gi τ 13 (nI (i / 8))) (vp_in_nI (n := i) (by omega) (by decide)) (col_lo c1 (by omega)) _ _) (gi_wsV ml_X5_232 im_X5_flow sl_X5_flow in_X5 co_X5_flow) ⟨rfl, by decide +kernel, by decide +kernel, by decide +kernel⟩ ⟨Nat.le_of_ble_eq_true rfl, Nat.le_of_ble_eq_true rfl⟩ rfl rfl rfl hl.1 rfl (Nat.le_of_ble_eq_true rfl) dX5_letWaterFlow_78 ⟨Nat.le_of_ble_eq_true rfl, Nat.le_of_ble_eq_true rfl⟩) (Cut.full E hA) E (fun u H locs hp E => ?_)
        subst hp
        have E : Ev g _ s.heap H locs (wsW g ad lo ke fo ea (f_X5_flow τ (nI i) ((nI i) - 1) (gi τ 13 (nI (i / 8))))) := E
        refine lv_iload_n hx hb dX5_letWaterFlow_81 rfl (lv_at hl 1 rfl) ?_
        refine lv_bipush (v := 7) hx hb dX5_letWaterFlow_82 (by decide) ?_
        refine lv_icmp_ge (tgt := 96) hx hb dX5_letWaterFlow_84 (by decide) (fun c3 => ?_) (fun c3 => ?_)
        · have c3 : 7 ≤ (nI (i % 8)) := c3
          refine lv_aload_n hx hb dX5_letWaterFlow_96 rfl (lv_at hl 2 rfl) ?_
          refine lv_iload_n hx hb dX5_letWaterFlow_97 rfl (lv_at hl 3 rfl) ?_
          refine lv_iload_n hx hb dX5_letWaterFlow_98 rfl (lv_at hl 3 rfl) ?_
          refine lv_bipush (v := 8) hx hb dX5_letWaterFlow_99 (by decide) ?_
          refine lv_iadd hx hb dX5_letWaterFlow_101 ?_
          rw [show ((nI i) + 8) = nI (i + 8) from nI_add i 8]
          refine lv_bipush (v := 16) hx hb dX5_letWaterFlow_102 (by decide) ?_
          refine lv_irem hx hb dX5_letWaterFlow_104 (by decide) ?_
          rw [show ((nI (i + 8)) - (nI (i + 8)) / 16 * 16) = nI ((i + 8) % 16) from pk_rem (a := (i + 8)) (d := 16) (by omega) (by decide) (by decide)]
          refine lv_aload_n hx hb dX5_letWaterFlow_105 rfl (lv_at hl 2 rfl) ?_
          refine wg_X5_21 (v := .ref (ad 2)) S hK E 0 rfl rfl dX5_letWaterFlow_106 ?_
          refine wg_X5_108 (v := .ref (ad 14)) S hK E 2 rfl rfl dX5_letWaterFlow_109 ?_
          refine lv_iload_n hx hb dX5_letWaterFlow_112 rfl (lv_at hl 1 rfl) ?_
          refine w_ild (v := gi (f_X5_flow τ (nI i) ((nI i) - 1) (gi τ 13 (nI (i / 8)))) 14 (nI (i % 8))) S hK E 14 0 rfl rfl (vp_in_nI (n := (i % 8)) (by omega) (by decide)) rfl dX5_letWaterFlow_113 ?_
          refine w_retv (runV_X (As := [.int (nI i), .int (nI ((i + 8) % 16)), .int (gi (f_X5_flow τ (nI i) ((nI i) - 1) (gi τ 13 (nI (i / 8)))) 14 (nI (i % 8)))]) (rest := []) (q0 := 0) (n := 3) S hml hK (hZ.at E) (Cut.full E hA) (c_X5_flow l g ad lo ke fo ea (f_X5_flow τ (nI i) ((nI i) - 1) (gi τ 13 (nI (i / 8)))) (nI i) (nI ((i + 8) % 16)) (gi (f_X5_flow τ (nI i) ((nI i) - 1) (gi τ 13 (nI (i / 8)))) 14 (nI (i % 8))) (vp_in_nI (n := i) (by omega) (by decide)) (vp_in_nI (n := ((i + 8) % 16)) (by omega) (by decide)) _ _) (gi_wsV ml_X5_232 im_X5_flow sl_X5_flow in_X5 co_X5_flow) ⟨rfl, by decide +kernel, by decide +kernel, by decide +kernel⟩ ⟨Nat.le_of_ble_eq_true rfl, Nat.le_of_ble_eq_true rfl⟩ rfl rfl rfl hl.1 rfl (Nat.le_of_ble_eq_true rfl) dX5_letWaterFlow_114 ⟨Nat.le_of_ble_eq_true rfl, Nat.le_of_ble_eq_true rfl⟩) (Cut.full E hA) E (fun u H locs hp E => ?_)
          subst hp
          have E : Ev g _ s.heap H locs (wsW g ad lo ke fo ea (f_X5_flow (f_X5_flow τ (nI i) ((nI i) - 1) (gi τ 13 (nI (i / 8)))) (nI i) (nI ((i + 8) % 16)) (gi (f_X5_flow τ (nI i) ((nI i) - 1) (gi τ 13 (nI (i / 8)))) 14 (nI (i % 8))))) := E
          refine lv_iinc (v := (nI (i + 1))) (lv' := [(1, .int (nI (i + 1))), (3, .int (gi τ 13 (nI (i / 8)))), (2, .int (nI (i % 8))), (0, .ref (ad 0))]) hx hb dX5_letWaterFlow_117 hl (k := 3) rfl (nI_1 i) (by decide) rfl (fun ls hl => ?_)
          refine lv_goto (tgt := 44) hx hb dX5_letWaterFlow_120 (by decide) ?_
          have hF : f_X5_letWaterFlow σ = f_X5_letWaterFlow_L44 k (i + 1) (f_X5_flow (f_X5_flow τ (nI i) ((nI i) - 1) (gi τ 13 (nI (i / 8)))) (nI i) (nI ((i + 8) % 16)) (gi (f_X5_flow τ (nI i) ((nI i) - 1) (gi τ 13 (nI (i / 8)))) 14 (nI (i % 8)))) := by
            rw [hF]; rw [f_X5_letWaterFlow_L44]; rw [if_neg c1, if_pos c3]
          exact ih (i + 1) (by omega) (f_X5_flow (f_X5_flow τ (nI i) ((nI i) - 1) (gi τ 13 (nI (i / 8)))) (nI i) (nI ((i + 8) % 16)) (gi (f_X5_flow τ (nI i) ((nI i) - 1) (gi τ 13 (nI (i / 8)))) 14 (nI (i % 8))))  (Kp.tr KP_X5_flow (Kp.tr KP_X5_flow hk))  _ _ hF E ls (lv_sub hl [3, 0] rfl)
        · have c3 : ¬ (7 ≤ (nI (i % 8))) := c3
          refine lv_aload_n hx hb dX5_letWaterFlow_87 rfl (lv_at hl 2 rfl) ?_
          refine lv_iload_n hx hb dX5_letWaterFlow_88 rfl (lv_at hl 3 rfl) ?_
          refine lv_iload_n hx hb dX5_letWaterFlow_89 rfl (lv_at hl 3 rfl) ?_
          refine lv_iconst (v := 1) hx hb dX5_letWaterFlow_90 (by decide) ?_
          refine lv_iadd hx hb dX5_letWaterFlow_91 ?_
          rw [nI_1]
          refine lv_iload_n hx hb dX5_letWaterFlow_92 rfl (lv_at hl 0 rfl) ?_
          refine w_retv (runV_X (As := [.int (nI i), .int (nI (i + 1)), .int (gi τ 13 (nI (i / 8)))]) (rest := []) (q0 := 0) (n := 3) S hml hK (hZ.at E) (Cut.full E hA) (c_X5_flow l g ad lo ke fo ea (f_X5_flow τ (nI i) ((nI i) - 1) (gi τ 13 (nI (i / 8)))) (nI i) (nI (i + 1)) (gi τ 13 (nI (i / 8))) (vp_in_nI (n := i) (by omega) (by decide)) (col_hi c3 (by omega)) _ _) (gi_wsV ml_X5_232 im_X5_flow sl_X5_flow in_X5 co_X5_flow) ⟨rfl, by decide +kernel, by decide +kernel, by decide +kernel⟩ ⟨Nat.le_of_ble_eq_true rfl, Nat.le_of_ble_eq_true rfl⟩ rfl rfl rfl hl.1 rfl (Nat.le_of_ble_eq_true rfl) dX5_letWaterFlow_93 ⟨Nat.le_of_ble_eq_true rfl, Nat.le_of_ble_eq_true rfl⟩) (Cut.full E hA) E (fun u H locs hp E => ?_)
          subst hp
          have E : Ev g _ s.heap H locs (wsW g ad lo ke fo ea (f_X5_flow (f_X5_flow τ (nI i) ((nI i) - 1) (gi τ 13 (nI (i / 8)))) (nI i) (nI (i + 1)) (gi τ 13 (nI (i / 8))))) := E
          refine lv_aload_n hx hb dX5_letWaterFlow_96 rfl (lv_at hl 2 rfl) ?_
          refine lv_iload_n hx hb dX5_letWaterFlow_97 rfl (lv_at hl 3 rfl) ?_
          refine lv_iload_n hx hb dX5_letWaterFlow_98 rfl (lv_at hl 3 rfl) ?_
          refine lv_bipush (v := 8) hx hb dX5_letWaterFlow_99 (by decide) ?_
          refine lv_iadd hx hb dX5_letWaterFlow_101 ?_
          rw [show ((nI i) + 8) = nI (i + 8) from nI_add i 8]
          refine lv_bipush (v := 16) hx hb dX5_letWaterFlow_102 (by decide) ?_
          refine lv_irem hx hb dX5_letWaterFlow_104 (by decide) ?_
          rw [show ((nI (i + 8)) - (nI (i + 8)) / 16 * 16) = nI ((i + 8) % 16) from pk_rem (a := (i + 8)) (d := 16) (by omega) (by decide) (by decide)]
          refine lv_aload_n hx hb dX5_letWaterFlow_105 rfl (lv_at hl 2 rfl) ?_
          refine wg_X5_21 (v := .ref (ad 2)) S hK E 0 rfl rfl dX5_letWaterFlow_106 ?_
          refine wg_X5_108 (v := .ref (ad 14)) S hK E 2 rfl rfl dX5_letWaterFlow_109 ?_
          refine lv_iload_n hx hb dX5_letWaterFlow_112 rfl (lv_at hl 1 rfl) ?_
          refine w_ild (v := gi (f_X5_flow (f_X5_flow τ (nI i) ((nI i) - 1) (gi τ 13 (nI (i / 8)))) (nI i) (nI (i + 1)) (gi τ 13 (nI (i / 8)))) 14 (nI (i % 8))) S hK E 14 0 rfl rfl (vp_in_nI (n := (i % 8)) (by omega) (by decide)) rfl dX5_letWaterFlow_113 ?_
          refine w_retv (runV_X (As := [.int (nI i), .int (nI ((i + 8) % 16)), .int (gi (f_X5_flow (f_X5_flow τ (nI i) ((nI i) - 1) (gi τ 13 (nI (i / 8)))) (nI i) (nI (i + 1)) (gi τ 13 (nI (i / 8)))) 14 (nI (i % 8)))]) (rest := []) (q0 := 0) (n := 3) S hml hK (hZ.at E) (Cut.full E hA) (c_X5_flow l g ad lo ke fo ea (f_X5_flow (f_X5_flow τ (nI i) ((nI i) - 1) (gi τ 13 (nI (i / 8)))) (nI i) (nI (i + 1)) (gi τ 13 (nI (i / 8)))) (nI i) (nI ((i + 8) % 16)) (gi (f_X5_flow (f_X5_flow τ (nI i) ((nI i) - 1) (gi τ 13 (nI (i / 8)))) (nI i) (nI (i + 1)) (gi τ 13 (nI (i / 8)))) 14 (nI (i % 8))) (vp_in_nI (n := i) (by omega) (by decide)) (vp_in_nI (n := ((i + 8) % 16)) (by omega) (by decide)) _ _) (gi_wsV ml_X5_232 im_X5_flow sl_X5_flow in_X5 co_X5_flow) ⟨rfl, by decide +kernel, by decide +kernel, by decide +kernel⟩ ⟨Nat.le_of_ble_eq_true rfl, Nat.le_of_ble_eq_true rfl⟩ rfl rfl rfl hl.1 rfl (Nat.le_of_ble_eq_true rfl) dX5_letWaterFlow_114 ⟨Nat.le_of_ble_eq_true rfl, Nat.le_of_ble_eq_true rfl⟩) (Cut.full E hA) E (fun u H locs hp E => ?_)
          subst hp
          have E : Ev g _ s.heap H locs (wsW g ad lo ke fo ea (f_X5_flow (f_X5_flow (f_X5_flow τ (nI i) ((nI i) - 1) (gi τ 13 (nI (i / 8)))) (nI i) (nI (i + 1)) (gi τ 13 (nI (i / 8)))) (nI i) (nI ((i + 8) % 16)) (gi (f_X5_flow (f_X5_flow τ (nI i) ((nI i) - 1) (gi τ 13 (nI (i / 8)))) (nI i) (nI (i + 1)) (gi τ 13 (nI (i / 8)))) 14 (nI (i % 8))))) := E
          refine lv_iinc (v := (nI (i + 1))) (lv' := [(1, .int (nI (i + 1))), (3, .int (gi τ 13 (nI (i / 8)))), (2, .int (nI (i % 8))), (0, .ref (ad 0))]) hx hb dX5_letWaterFlow_117 hl (k := 3) rfl (nI_1 i) (by decide) rfl (fun ls hl => ?_)
          refine lv_goto (tgt := 44) hx hb dX5_letWaterFlow_120 (by decide) ?_
          have hF : f_X5_letWaterFlow σ = f_X5_letWaterFlow_L44 k (i + 1) (f_X5_flow (f_X5_flow (f_X5_flow τ (nI i) ((nI i) - 1) (gi τ 13 (nI (i / 8)))) (nI i) (nI (i + 1)) (gi τ 13 (nI (i / 8)))) (nI i) (nI ((i + 8) % 16)) (gi (f_X5_flow (f_X5_flow τ (nI i) ((nI i) - 1) (gi τ 13 (nI (i / 8)))) (nI i) (nI (i + 1)) (gi τ 13 (nI (i / 8)))) 14 (nI (i % 8)))) := by
            rw [hF]; rw [f_X5_letWaterFlow_L44]; rw [if_neg c1, if_neg c3]
          exact ih (i + 1) (by omega) (f_X5_flow (f_X5_flow (f_X5_flow τ (nI i) ((nI i) - 1) (gi τ 13 (nI (i / 8)))) (nI i) (nI (i + 1)) (gi τ 13 (nI (i / 8)))) (nI i) (nI ((i + 8) % 16)) (gi (f_X5_flow (f_X5_flow τ (nI i) ((nI i) - 1) (gi τ 13 (nI (i / 8)))) (nI i) (nI (i + 1)) (gi τ 13 (nI (i / 8)))) 14 (nI (i % 8))))  (Kp.tr KP_X5_flow (Kp.tr KP_X5_flow (Kp.tr KP_X5_flow hk)))  _ _ hF E ls (lv_sub hl [3, 0] rfl)
  have L2 : ∀ (k i : Nat), i + k = 16 → ∀ (τ : Sg)  (hk : Kp τ σ)  (H : Heap) (locs : List Loc), f_X5_letWaterFlow σ = f_X5_letWaterFlow_L2 k i τ → Ev g (va_A (wsW g ad lo ke fo ea σ) sz) s.heap H locs (wsW g ad lo ke fo ea τ) → ∀ ls : Array Slot, lv_has ls 4 [(0, .ref (ad 0)), (1, .int (nI i))] → W p l e ({ frames := 2, cells := 0, slots := 0, locals := 49 } : Room) s m args below meth c H locs 0 0 (MQ below (va_Qv (fun u : Sg => u = f_X5_letWaterFlow σ) (AtX g (va_A (wsW g ad lo ke fo ea σ) sz) (wsW g ad lo ke fo ea) (fun _ => (0, 0)) sz tt) (va_A (wsW g ad lo ke fo ea σ) sz)) args s 0 0 (va_A (wsW g ad lo ke fo ea σ) sz)) (F0 m 2 ls []) := by
    intro k
    induction k with
    | zero =>
      intro i hi τ  hk  H locs hF E ls hl
      have hl : lv_has ls 4 [(0, .ref (ad 0)), (1, .int (nI i))] := hl
      refine lv_iload_n hx hb dX5_letWaterFlow_2 rfl (lv_at hl 1 rfl) ?_
      refine lv_bipush (v := 16) hx hb dX5_letWaterFlow_3 (by decide) ?_
      refine lv_icmp_ge (tgt := 42) hx hb dX5_letWaterFlow_5 (by decide) (fun _ => ?_) (fun c_ => absurd (g_yes (b := 16) rfl rfl (by omega) (by omega)) c_)
      refine lv_iconst (v := 0) hx hb dX5_letWaterFlow_42 (by decide) ?_
      refine lv_istore_n (lv' := [(1, .int 0), (0, .ref (ad 0))]) hx hb dX5_letWaterFlow_43 rfl hl (by decide) rfl (fun ls hl => ?_)
      have hF : f_X5_letWaterFlow σ = f_X5_letWaterFlow_L44 16 0 τ := by
        rw [hF]; rw [f_X5_letWaterFlow_L2]
      exact L44 16 0 (by omega) τ  hk  _ _ hF E ls (lv_sub hl [1, 0] rfl)
    | succ k ih =>
      intro i hi τ  hk  H locs hF E ls hl
      have hl : lv_has ls 4 [(0, .ref (ad 0)), (1, .int (nI i))] := hl
      refine lv_iload_n hx hb dX5_letWaterFlow_2 rfl (lv_at hl 1 rfl) ?_
      refine lv_bipush (v := 16) hx hb dX5_letWaterFlow_3 (by decide) ?_
      refine lv_icmp_ge (tgt := 42) hx hb dX5_letWaterFlow_5 (by decide) (fun c_ => absurd c_ (g_no (b := 16) rfl rfl (by omega) (by decide))) (fun _ => ?_)
      refine lv_aload_n hx hb dX5_letWaterFlow_8 rfl (lv_at hl 0 rfl) ?_
      refine wg_X5_46 (v := .ref (ad 5)) S hK E 0 rfl rfl dX5_letWaterFlow_9 ?_
      refine lv_iload_n hx hb dX5_letWaterFlow_12 rfl (lv_at hl 1 rfl) ?_
      refine lv_aload_n hx hb dX5_letWaterFlow_13 rfl (lv_at hl 0 rfl) ?_
      refine wg_X5_12 (v := .ref (ad 1)) S hK E 0 rfl rfl dX5_letWaterFlow_14 ?_
      refine lv_iload_n hx hb dX5_letWaterFlow_17 rfl (lv_at hl 1 rfl) ?_
      refine w_reti (runV_X (As := [.int (nI i)]) (rest := [.int (nI i), .ref (ad 5)]) (q0 := 1) (n := 1) S hml hK (hZ.at E) (Cut.full E hA) (c_X2_height l g ad lo ke fo ea τ (nI i) (vp_in_nI (n := i) (by omega) (by decide)) _ _) (gi_wsV ml_X5_229 im_X2_height sl_X2_height in_X2 co_X2_height) ⟨rfl, by decide +kernel, by decide +kernel, by decide +kernel⟩ ⟨Nat.le_of_ble_eq_true rfl, Nat.le_of_ble_eq_true rfl⟩ rfl rfl rfl hl.1 rfl (Nat.le_of_ble_eq_true rfl) dX5_letWaterFlow_18 ⟨Nat.le_of_ble_eq_true rfl, Nat.le_of_ble_eq_true rfl⟩) (Cut.full E hA) E (fun r u H locs hp E => ?_)
      obtain ⟨hp, hu⟩ := hp
      subst hp
      rw [hu] at E
      have E : Ev g _ s.heap H locs (wsW g ad lo ke fo ea τ) := E
      refine w_ist (w' := wsW g ad lo ke fo ea (si τ 5 (nI i) (f_X2_height τ (nI i)))) S hK E 5 0 rfl rfl (vp_in_nI (n := i) (by omega) (by decide)) wset_5 dX5_letWaterFlow_21 (fun H locs E => ?_)
      refine lv_aload_n hx hb dX5_letWaterFlow_22 rfl (lv_at hl 0 rfl) ?_
      refine wg_X5_50 (v := .ref (ad 6)) S hK E 0 rfl rfl dX5_letWaterFlow_23 ?_
      refine lv_iload_n hx hb dX5_letWaterFlow_26 rfl (lv_at hl 1 rfl) ?_
      refine lv_iconst (v := 0) hx hb dX5_letWaterFlow_27 (by decide) ?_
      refine w_ist (w' := wsW g ad lo ke fo ea (si (si τ 5 (nI i) (f_X2_height τ (nI i))) 6 (nI i) 0)) S hK E 6 0 rfl rfl (vp_in_nI (n := i) (by omega) (by decide)) wset_6 dX5_letWaterFlow_28 (fun H locs E => ?_)
      refine lv_aload_n hx hb dX5_letWaterFlow_29 rfl (lv_at hl 0 rfl) ?_
      refine wg_X5_53 (v := .ref (ad 7)) S hK E 0 rfl rfl dX5_letWaterFlow_30 ?_
      refine lv_iload_n hx hb dX5_letWaterFlow_33 rfl (lv_at hl 1 rfl) ?_
      refine lv_iconst (v := 0) hx hb dX5_letWaterFlow_34 (by decide) ?_
      refine w_ist (w' := wsW g ad lo ke fo ea (si (si (si τ 5 (nI i) (f_X2_height τ (nI i))) 6 (nI i) 0) 7 (nI i) 0)) S hK E 7 0 rfl rfl (vp_in_nI (n := i) (by omega) (by decide)) wset_7 dX5_letWaterFlow_35 (fun H locs E => ?_)
      refine lv_iinc (v := (nI (i + 1))) (lv' := [(1, .int (nI (i + 1))), (0, .ref (ad 0))]) hx hb dX5_letWaterFlow_36 hl (k := 1) rfl (nI_1 i) (by decide) rfl (fun ls hl => ?_)
      refine lv_goto (tgt := 2) hx hb dX5_letWaterFlow_39 (by decide) ?_
      have hF : f_X5_letWaterFlow σ = f_X5_letWaterFlow_L2 k (i + 1) (si (si (si τ 5 (nI i) (f_X2_height τ (nI i))) 6 (nI i) 0) 7 (nI i) 0) := by
        rw [hF]; rw [f_X5_letWaterFlow_L2]
      exact ih (i + 1) (by omega) (si (si (si τ 5 (nI i) (f_X2_height τ (nI i))) 6 (nI i) 0) 7 (nI i) 0)  (Kp_si (k := 7) (Kp_si (k := 6) (Kp_si (k := 5) hk (by decide)) (by decide)) (by decide))  _ _ hF E ls (lv_sub hl [1, 0] rfl)
  refine lv_iconst (v := 0) hx hb dX5_letWaterFlow_0 (by decide) ?_
  refine lv_istore_n (lv' := [(1, .int 0), (0, .ref (ad 0))]) hx hb dX5_letWaterFlow_1 rfl hl (by decide) rfl (fun ls hl => ?_)
  have hF : f_X5_letWaterFlow σ = f_X5_letWaterFlow_L2 16 0 σ := by
    rfl
  exact L2 16 0 (by omega) σ  Kp.rf  _ _ hF E ls (lv_sub hl [1, 0] rfl)

def f_X5_letSpringRun (σ : Sg) (x : Int32) : Sg := (sl (f_X2_takeOut σ x (mx 0 ((gi σ 10 x) - (mx 0 (((gi σ 12 x) - (gi σ 8 x)) * (gi σ 9 x)))))).2 28 5 ((gl (f_X2_takeOut σ x (mx 0 ((gi σ 10 x) - (mx 0 (((gi σ 12 x) - (gi σ 8 x)) * (gi σ 9 x)))))).2 28 5) + (((mx 0 ((gi σ 10 x) - (mx 0 (((gi σ 12 x) - (gi σ 8 x)) * (gi σ 9 x)))))).toInt64)))
theorem KP_X5_letSpringRun {σ : Sg} {x : Int32} : Kp (f_X5_letSpringRun σ x) σ := by
  unfold f_X5_letSpringRun
  exact (Kp_sl (Kp.tr KP_X2_takeOut Kp.rf))
set_option maxHeartbeats 4000000 in
set_option maxRecDepth 100000 in
/-- World.letSpringRun -/
theorem c_X5_letSpringRun (l : Launch) (g : Gm) (ad : Nat → Nat) (lo ke fo : Int32) (ea : Nat) (σ : Sg) (x : Int32) (q_x : vp_in x 8) : MXv l g yX5_letSpringRun cX5_letSpringRun 4 ({ frames := 1, cells := 0, slots := 0, locals := 24 } : Room) [.ref (ad 0), .int x] (wsW g ad lo ke fo ea σ) (fun u : Sg => u = f_X5_letSpringRun σ x) (wsW g ad lo ke fo ea) (fun _ => (0, 0)) := by
  intro sz tt
  refine ofX RX5 rfl (by decide +kernel) (Nat.le_of_ble_eq_true rfl) (fun p e s m args below meth c hargs S hml hr hlk hnm hsz htt hK hA hZ E ls hl => ?_)
  have hx := S.1
  have hb := S.2.1
  have hl : lv_has ls 4 [(0, .ref (ad 0)), (1, .int x)] := hl
  refine lv_iconst (v := 0) hx hb dX5_letSpringRun_0 (by decide) ?_
  refine lv_aload_n hx hb dX5_letSpringRun_1 rfl (lv_at hl 0 rfl) ?_
  refine wg_X5_21 (v := .ref (ad 2)) S hK E 0 rfl rfl dX5_letSpringRun_2 ?_
  refine wg_X5_102 (v := .ref (ad 12)) S hK E 2 rfl rfl dX5_letSpringRun_5 ?_
  refine lv_iload_n hx hb dX5_letSpringRun_8 rfl (lv_at hl 1 rfl) ?_
  refine w_ild (v := gi σ 12 x) S hK E 12 0 rfl rfl q_x rfl dX5_letSpringRun_9 ?_
  refine lv_aload_n hx hb dX5_letSpringRun_10 rfl (lv_at hl 0 rfl) ?_
  refine wg_X5_12 (v := .ref (ad 1)) S hK E 0 rfl rfl dX5_letSpringRun_11 ?_
  refine wg_X5_154 (v := .ref (ad 8)) S hK E 1 rfl rfl dX5_letSpringRun_14 ?_
  refine lv_iload_n hx hb dX5_letSpringRun_17 rfl (lv_at hl 1 rfl) ?_
  refine w_ild (v := gi σ 8 x) S hK E 8 0 rfl rfl (vp_mono q_x (by decide)) rfl dX5_letSpringRun_18 ?_
  refine lv_isub hx hb dX5_letSpringRun_19 ?_
  refine lv_aload_n hx hb dX5_letSpringRun_20 rfl (lv_at hl 0 rfl) ?_
  refine wg_X5_12 (v := .ref (ad 1)) S hK E 0 rfl rfl dX5_letSpringRun_21 ?_
  refine wg_X5_157 (v := .ref (ad 9)) S hK E 1 rfl rfl dX5_letSpringRun_24 ?_
  refine lv_iload_n hx hb dX5_letSpringRun_27 rfl (lv_at hl 1 rfl) ?_
  refine w_ild (v := gi σ 9 x) S hK E 9 0 rfl rfl (vp_mono q_x (by decide)) rfl dX5_letSpringRun_28 ?_
  refine lv_imul hx hb dX5_letSpringRun_29 ?_
  refine w_max (v := (mx 0 (((gi σ 12 x) - (gi σ 8 x)) * (gi σ 9 x)))) S hml hl ml_X5_241 st_max in_J9 co_max (Nat.le_of_ble_eq_true rfl) (Nat.le_of_ble_eq_true rfl) ⟨Nat.le_of_ble_eq_true rfl, Nat.le_of_ble_eq_true rfl⟩ rfl dX5_letSpringRun_30 ?_
  refine lv_istore_n (lv' := [(2, .int (mx 0 (((gi σ 12 x) - (gi σ 8 x)) * (gi σ 9 x)))), (0, .ref (ad 0)), (1, .int x)]) hx hb dX5_letSpringRun_33 rfl hl (by decide) rfl (fun ls hl => ?_)
  refine lv_iconst (v := 0) hx hb dX5_letSpringRun_34 (by decide) ?_
  refine lv_aload_n hx hb dX5_letSpringRun_35 rfl (lv_at hl 1 rfl) ?_
  refine wg_X5_12 (v := .ref (ad 1)) S hK E 0 rfl rfl dX5_letSpringRun_36 ?_
  refine wg_X5_151 (v := .ref (ad 10)) S hK E 1 rfl rfl dX5_letSpringRun_39 ?_
  refine lv_iload_n hx hb dX5_letSpringRun_42 rfl (lv_at hl 2 rfl) ?_
  refine w_ild (v := gi σ 10 x) S hK E 10 0 rfl rfl (vp_mono q_x (by decide)) rfl dX5_letSpringRun_43 ?_
  refine lv_iload_n hx hb dX5_letSpringRun_44 rfl (lv_at hl 0 rfl) ?_
  refine lv_isub hx hb dX5_letSpringRun_45 ?_
  refine w_max (v := (mx 0 ((gi σ 10 x) - (mx 0 (((gi σ 12 x) - (gi σ 8 x)) * (gi σ 9 x)))))) S hml hl ml_X5_241 st_max in_J9 co_max (Nat.le_of_ble_eq_true rfl) (Nat.le_of_ble_eq_true rfl) ⟨Nat.le_of_ble_eq_true rfl, Nat.le_of_ble_eq_true rfl⟩ rfl dX5_letSpringRun_46 ?_
  refine lv_istore_n (lv' := [(3, .int (mx 0 ((gi σ 10 x) - (mx 0 (((gi σ 12 x) - (gi σ 8 x)) * (gi σ 9 x)))))), (2, .int (mx 0 (((gi σ 12 x) - (gi σ 8 x)) * (gi σ 9 x)))), (0, .ref (ad 0)), (1, .int x)]) hx hb dX5_letSpringRun_49 rfl hl (by decide) rfl (fun ls hl => ?_)
  refine lv_aload_n hx hb dX5_letSpringRun_50 rfl (lv_at hl 2 rfl) ?_
  refine wg_X5_12 (v := .ref (ad 1)) S hK E 0 rfl rfl dX5_letSpringRun_51 ?_
  refine lv_iload_n hx hb dX5_letSpringRun_54 rfl (lv_at hl 3 rfl) ?_
  refine lv_iload_n hx hb dX5_letSpringRun_55 rfl (lv_at hl 0 rfl) ?_
  refine w_reti (runV_X (As := [.int x, .int (mx 0 ((gi σ 10 x) - (mx 0 (((gi σ 12 x) - (gi σ 8 x)) * (gi σ 9 x)))))]) (rest := []) (q0 := 1) (n := 2) S hml hK (hZ.at E) (Cut.full E hA) (c_X2_takeOut l g ad lo ke fo ea σ x (mx 0 ((gi σ 10 x) - (mx 0 (((gi σ 12 x) - (gi σ 8 x)) * (gi σ 9 x))))) (vp_mono q_x (by decide)) _ _) (gi_wsV ml_X5_213 im_X2_takeOut sl_X2_takeOut in_X2 co_X2_takeOut) ⟨rfl, by decide +kernel, by decide +kernel, by decide +kernel⟩ ⟨Nat.le_of_ble_eq_true rfl, Nat.le_of_ble_eq_true rfl⟩ rfl rfl rfl hl.1 rfl (Nat.le_of_ble_eq_true rfl) dX5_letSpringRun_56 ⟨Nat.le_of_ble_eq_true rfl, Nat.le_of_ble_eq_true rfl⟩) (Cut.full E hA) E (fun r u H locs hp E => ?_)
  obtain ⟨rfl, rfl⟩ := hp
  have E : Ev g _ s.heap H locs (wsW g ad lo ke fo ea (f_X2_takeOut σ x (mx 0 ((gi σ 10 x) - (mx 0 (((gi σ 12 x) - (gi σ 8 x)) * (gi σ 9 x)))))).2) := E
  refine lv_pop hx hb dX5_letSpringRun_59 rfl ?_
  refine lv_aload_n hx hb dX5_letSpringRun_60 rfl (lv_at hl 2 rfl) ?_
  refine wg_X5_35 (v := .ref (ad 4)) S hK E 0 rfl rfl dX5_letSpringRun_61 ?_
  refine wg_X5_147 (v := .ref (ad 28)) S hK E 4 rfl rfl dX5_letSpringRun_64 ?_
  refine lv_iconst (v := 5) hx hb dX5_letSpringRun_67 (by decide) ?_
  refine lv_dup2_11 hx hb dX5_letSpringRun_68 rfl rfl ?_
  refine w_lld (v := gl (f_X2_takeOut σ x (mx 0 ((gi σ 10 x) - (mx 0 (((gi σ 12 x) - (gi σ 8 x)) * (gi σ 9 x)))))).2 28 5) S hK E 28 1 rfl rfl (show vp_in 5 9 by unfold vp_in; decide) rfl dX5_letSpringRun_69 ?_
  refine lv_iload_n hx hb dX5_letSpringRun_70 rfl (lv_at hl 0 rfl) ?_
  refine lv_i2l (v := ((mx 0 ((gi σ 10 x) - (mx 0 (((gi σ 12 x) - (gi σ 8 x)) * (gi σ 9 x)))))).toInt64) hx hb dX5_letSpringRun_71 rfl ?_
  refine lv_ladd hx hb dX5_letSpringRun_72 ?_
  refine w_lst (w' := wsW g ad lo ke fo ea (sl (f_X2_takeOut σ x (mx 0 ((gi σ 10 x) - (mx 0 (((gi σ 12 x) - (gi σ 8 x)) * (gi σ 9 x)))))).2 28 5 ((gl (f_X2_takeOut σ x (mx 0 ((gi σ 10 x) - (mx 0 (((gi σ 12 x) - (gi σ 8 x)) * (gi σ 9 x)))))).2 28 5) + (((mx 0 ((gi σ 10 x) - (mx 0 (((gi σ 12 x) - (gi σ 8 x)) * (gi σ 9 x)))))).toInt64)))) S hK E 28 1 rfl rfl (show vp_in 5 9 by unfold vp_in; decide) wset_28 dX5_letSpringRun_73 (fun H locs E => ?_)
  have hQ : f_X5_letSpringRun σ x = (sl (f_X2_takeOut σ x (mx 0 ((gi σ 10 x) - (mx 0 (((gi σ 12 x) - (gi σ 8 x)) * (gi σ 9 x)))))).2 28 5 ((gl (f_X2_takeOut σ x (mx 0 ((gi σ 10 x) - (mx 0 (((gi σ 12 x) - (gi σ 8 x)) * (gi σ 9 x)))))).2 28 5) + (((mx 0 ((gi σ 10 x) - (mx 0 (((gi σ 12 x) - (gi σ 8 x)) * (gi σ 9 x)))))).toInt64))) := by
    rfl
  exact x_vret (sl (f_X2_takeOut σ x (mx 0 ((gi σ 10 x) - (mx 0 (((gi σ 12 x) - (gi σ 8 x)) * (gi σ 9 x)))))).2 28 5 ((gl (f_X2_takeOut σ x (mx 0 ((gi σ 10 x) - (mx 0 (((gi σ 12 x) - (gi σ 8 x)) * (gi σ 9 x)))))).2 28 5) + (((mx 0 ((gi σ 10 x) - (mx 0 (((gi σ 12 x) - (gi σ 8 x)) * (gi σ 9 x)))))).toInt64))) S hr hlk hsz htt hK E dX5_letSpringRun_74 hQ.symm rfl ⟨Nat.le_of_ble_eq_true rfl, Nat.le_of_ble_eq_true rfl⟩ ⟨Nat.le_of_ble_eq_true rfl, Nat.le_of_ble_eq_true rfl⟩

def f_X5_letSpringsRun_L2  : Nat → Nat → Sg → Sg
  | 0, i, τ => τ
  | k + 1, i, τ => if (f_X2_height τ (nI i)) ≤ (gi τ 12 (nI i)) then (f_X5_letSpringsRun_L2 k (i + 1) τ) else (f_X5_letSpringsRun_L2 k (i + 1) (f_X5_letSpringRun τ (nI i)))
theorem KP_X5_letSpringsRun_L2 {σ : Sg}  : ∀ (k i : Nat) (τ : Sg) , Kp τ σ → Kp (f_X5_letSpringsRun_L2 k i τ) σ := by
  intro k
  induction k with
  | zero =>
    intro i τ  hk
    rw [f_X5_letSpringsRun_L2]
    exact hk
  | succ k ih =>
    intro i τ  hk
    rw [f_X5_letSpringsRun_L2]
    split
    · exact ih _ _ hk
    · exact ih _ _ (Kp.tr KP_X5_letSpringRun hk)
def f_X5_letSpringsRun (σ : Sg)  : Sg := f_X5_letSpringsRun_L2 8 0 σ
theorem KP_X5_letSpringsRun {σ : Sg}  : Kp (f_X5_letSpringsRun σ) σ := by
  unfold f_X5_letSpringsRun
  exact KP_X5_letSpringsRun_L2 _ _ _ Kp.rf
set_option maxHeartbeats 4000000 in
set_option maxRecDepth 100000 in
/-- World.letSpringsRun -/
theorem c_X5_letSpringsRun (l : Launch) (g : Gm) (ad : Nat → Nat) (lo ke fo : Int32) (ea : Nat) (σ : Sg) : MXv l g yX5_letSpringsRun cX5_letSpringsRun 2 ({ frames := 2, cells := 0, slots := 0, locals := 47 } : Room) [.ref (ad 0)] (wsW g ad lo ke fo ea σ) (fun u : Sg => u = f_X5_letSpringsRun σ) (wsW g ad lo ke fo ea) (fun _ => (0, 0)) := by
  intro sz tt
  refine ofX RX5 rfl (by decide +kernel) (Nat.le_of_ble_eq_true rfl) (fun p e s m args below meth c hargs S hml hr hlk hnm hsz htt hK hA hZ E ls hl => ?_)
  have hx := S.1
  have hb := S.2.1
  have hl : lv_has ls 2 [(0, .ref (ad 0))] := hl
  have L2 : ∀ (k i : Nat), i + k = 8 → ∀ (τ : Sg)  (hk : Kp τ σ)  (H : Heap) (locs : List Loc), f_X5_letSpringsRun σ = f_X5_letSpringsRun_L2 k i τ → Ev g (va_A (wsW g ad lo ke fo ea σ) sz) s.heap H locs (wsW g ad lo ke fo ea τ) → ∀ ls : Array Slot, lv_has ls 2 [(0, .ref (ad 0)), (1, .int (nI i))] → W p l e ({ frames := 2, cells := 0, slots := 0, locals := 47 } : Room) s m args below meth c H locs 0 0 (MQ below (va_Qv (fun u : Sg => u = f_X5_letSpringsRun σ) (AtX g (va_A (wsW g ad lo ke fo ea σ) sz) (wsW g ad lo ke fo ea) (fun _ => (0, 0)) sz tt) (va_A (wsW g ad lo ke fo ea σ) sz)) args s 0 0 (va_A (wsW g ad lo ke fo ea σ) sz)) (F0 m 2 ls []) := by
    intro k
    induction k with
    | zero =>
      intro i hi τ  hk  H locs hF E ls hl
      have hl : lv_has ls 2 [(0, .ref (ad 0)), (1, .int (nI i))] := hl
      refine lv_iload_n hx hb dX5_letSpringsRun_2 rfl (lv_at hl 1 rfl) ?_
      refine lv_bipush (v := 8) hx hb dX5_letSpringsRun_3 (by decide) ?_
      refine lv_icmp_ge (tgt := 39) hx hb dX5_letSpringsRun_5 (by decide) (fun _ => ?_) (fun c_ => absurd (g_yes (b := 8) rfl rfl (by omega) (by omega)) c_)
      have hQ : f_X5_letSpringsRun σ = τ := by
        rw [hF]; rw [f_X5_letSpringsRun_L2]
      exact x_vret τ S hr hlk hsz htt hK E dX5_letSpringsRun_39 hQ.symm rfl ⟨Nat.le_of_ble_eq_true rfl, Nat.le_of_ble_eq_true rfl⟩ ⟨Nat.le_of_ble_eq_true rfl, Nat.le_of_ble_eq_true rfl⟩
    | succ k ih =>
      intro i hi τ  hk  H locs hF E ls hl
      have hl : lv_has ls 2 [(0, .ref (ad 0)), (1, .int (nI i))] := hl
      refine lv_iload_n hx hb dX5_letSpringsRun_2 rfl (lv_at hl 1 rfl) ?_
      refine lv_bipush (v := 8) hx hb dX5_letSpringsRun_3 (by decide) ?_
      refine lv_icmp_ge (tgt := 39) hx hb dX5_letSpringsRun_5 (by decide) (fun c_ => absurd c_ (g_no (b := 8) rfl rfl (by omega) (by decide))) (fun _ => ?_)
      refine lv_aload_n hx hb dX5_letSpringsRun_8 rfl (lv_at hl 0 rfl) ?_
      refine wg_X5_12 (v := .ref (ad 1)) S hK E 0 rfl rfl dX5_letSpringsRun_9 ?_
      refine lv_iload_n hx hb dX5_letSpringsRun_12 rfl (lv_at hl 1 rfl) ?_
      refine w_reti (runV_X (As := [.int (nI i)]) (rest := []) (q0 := 1) (n := 1) S hml hK (hZ.at E) (Cut.full E hA) (c_X2_height l g ad lo ke fo ea τ (nI i) (vp_in_nI (n := i) (by omega) (by decide)) _ _) (gi_wsV ml_X5_229 im_X2_height sl_X2_height in_X2 co_X2_height) ⟨rfl, by decide +kernel, by decide +kernel, by decide +kernel⟩ ⟨Nat.le_of_ble_eq_true rfl, Nat.le_of_ble_eq_true rfl⟩ rfl rfl rfl hl.1 rfl (Nat.le_of_ble_eq_true rfl) dX5_letSpringsRun_13 ⟨Nat.le_of_ble_eq_true rfl, Nat.le_of_ble_eq_true rfl⟩) (Cut.full E hA) E (fun r u H locs hp E => ?_)
      obtain ⟨hp, hu⟩ := hp
      subst hp
      rw [hu] at E
      have E : Ev g _ s.heap H locs (wsW g ad lo ke fo ea τ) := E
      refine lv_aload_n hx hb dX5_letSpringsRun_16 rfl (lv_at hl 0 rfl) ?_
      refine wg_X5_21 (v := .ref (ad 2)) S hK E 0 rfl rfl dX5_letSpringsRun_17 ?_
      refine wg_X5_102 (v := .ref (ad 12)) S hK E 2 rfl rfl dX5_letSpringsRun_20 ?_
      refine lv_iload_n hx hb dX5_letSpringsRun_23 rfl (lv_at hl 1 rfl) ?_
      refine w_ild (v := gi τ 12 (nI i)) S hK E 12 0 rfl rfl (vp_in_nI (n := i) (by omega) (by decide)) rfl dX5_letSpringsRun_24 ?_
      refine lv_icmp_le (tgt := 33) hx hb dX5_letSpringsRun_25 (by decide) (fun c1 => ?_) (fun c1 => ?_)
      · have c1 : (f_X2_height τ (nI i)) ≤ (gi τ 12 (nI i)) := c1
        refine lv_iinc (v := (nI (i + 1))) (lv' := [(1, .int (nI (i + 1))), (0, .ref (ad 0))]) hx hb dX5_letSpringsRun_33 hl (k := 1) rfl (nI_1 i) (by decide) rfl (fun ls hl => ?_)
        refine lv_goto (tgt := 2) hx hb dX5_letSpringsRun_36 (by decide) ?_
        have hF : f_X5_letSpringsRun σ = f_X5_letSpringsRun_L2 k (i + 1) τ := by
          rw [hF]; rw [f_X5_letSpringsRun_L2]; rw [if_pos c1]
        exact ih (i + 1) (by omega) τ  hk  _ _ hF E ls (lv_sub hl [1, 0] rfl)
      · have c1 : ¬ ((f_X2_height τ (nI i)) ≤ (gi τ 12 (nI i))) := c1
        refine lv_aload_n hx hb dX5_letSpringsRun_28 rfl (lv_at hl 0 rfl) ?_
        refine lv_iload_n hx hb dX5_letSpringsRun_29 rfl (lv_at hl 1 rfl) ?_
        refine w_retv (runV_X (As := [.int (nI i)]) (rest := []) (q0 := 0) (n := 1) S hml hK (hZ.at E) (Cut.full E hA) (c_X5_letSpringRun l g ad lo ke fo ea τ (nI i) (vp_in_nI (n := i) (by omega) (by decide)) _ _) (gi_wsV ml_X5_238 im_X5_letSpringRun sl_X5_letSpringRun in_X5 co_X5_letSpringRun) ⟨rfl, by decide +kernel, by decide +kernel, by decide +kernel⟩ ⟨Nat.le_of_ble_eq_true rfl, Nat.le_of_ble_eq_true rfl⟩ rfl rfl rfl hl.1 rfl (Nat.le_of_ble_eq_true rfl) dX5_letSpringsRun_30 ⟨Nat.le_of_ble_eq_true rfl, Nat.le_of_ble_eq_true rfl⟩) (Cut.full E hA) E (fun u H locs hp E => ?_)
        subst hp
        have E : Ev g _ s.heap H locs (wsW g ad lo ke fo ea (f_X5_letSpringRun τ (nI i))) := E
        refine lv_iinc (v := (nI (i + 1))) (lv' := [(1, .int (nI (i + 1))), (0, .ref (ad 0))]) hx hb dX5_letSpringsRun_33 hl (k := 1) rfl (nI_1 i) (by decide) rfl (fun ls hl => ?_)
        refine lv_goto (tgt := 2) hx hb dX5_letSpringsRun_36 (by decide) ?_
        have hF : f_X5_letSpringsRun σ = f_X5_letSpringsRun_L2 k (i + 1) (f_X5_letSpringRun τ (nI i)) := by
          rw [hF]; rw [f_X5_letSpringsRun_L2]; rw [if_neg c1]
        exact ih (i + 1) (by omega) (f_X5_letSpringRun τ (nI i))  (Kp.tr KP_X5_letSpringRun hk)  _ _ hF E ls (lv_sub hl [1, 0] rfl)
  refine lv_iconst (v := 0) hx hb dX5_letSpringsRun_0 (by decide) ?_
  refine lv_istore_n (lv' := [(1, .int 0), (0, .ref (ad 0))]) hx hb dX5_letSpringsRun_1 rfl hl (by decide) rfl (fun ls hl => ?_)
  have hF : f_X5_letSpringsRun σ = f_X5_letSpringsRun_L2 8 0 σ := by
    rfl
  exact L2 8 0 (by omega) σ  Kp.rf  _ _ hF E ls (lv_sub hl [1, 0] rfl)

def f_X5_meetSea (σ : Sg) (x : Int32) : Sg := if (((0 - (f_X2_height σ x)) * (gs σ 3)) / 4) ≤ 0 then (sl (f_X2_takeOut σ x (mn (-(((0 - (f_X2_height σ x)) * (gs σ 3)) / 4)) (gi σ 10 x))).2 28 7 ((gl (f_X2_takeOut σ x (mn (-(((0 - (f_X2_height σ x)) * (gs σ 3)) / 4)) (gi σ 10 x))).2 28 7) + (((mn (-(((0 - (f_X2_height σ x)) * (gs σ 3)) / 4)) (gi σ 10 x))).toInt64))) else (sl (si (si σ 10 x ((gi σ 10 x) + (((0 - (f_X2_height σ x)) * (gs σ 3)) / 4))) 11 x ((gi σ 11 x) + (35 * (((0 - (f_X2_height σ x)) * (gs σ 3)) / 4)))) 28 6 ((gl σ 28 6) + (((((0 - (f_X2_height σ x)) * (gs σ 3)) / 4)).toInt64)))
theorem KP_X5_meetSea {σ : Sg} {x : Int32} : Kp (f_X5_meetSea σ x) σ := by
  unfold f_X5_meetSea
  split
  · exact (Kp_sl (Kp.tr KP_X2_takeOut Kp.rf))
  · exact (Kp_sl (Kp_si (k := 11) (Kp_si (k := 10) Kp.rf (by decide)) (by decide)))
set_option maxHeartbeats 4000000 in
set_option maxRecDepth 100000 in
/-- World.meetSea -/
theorem c_X5_meetSea (l : Launch) (g : Gm) (ad : Nat → Nat) (lo ke fo : Int32) (ea : Nat) (σ : Sg) (x : Int32) (q_x : vp_in x 16) : MXv l g yX5_meetSea cX5_meetSea 4 ({ frames := 1, cells := 0, slots := 0, locals := 24 } : Room) [.ref (ad 0), .int x] (wsW g ad lo ke fo ea σ) (fun u : Sg => u = f_X5_meetSea σ x) (wsW g ad lo ke fo ea) (fun _ => (0, 0)) := by
  intro sz tt
  refine ofX RX5 rfl (by decide +kernel) (Nat.le_of_ble_eq_true rfl) (fun p e s m args below meth c hargs S hml hr hlk hnm hsz htt hK hA hZ E ls hl => ?_)
  have hx := S.1
  have hb := S.2.1
  have hl : lv_has ls 4 [(0, .ref (ad 0)), (1, .int x)] := hl
  refine lv_iconst (v := 0) hx hb dX5_meetSea_0 (by decide) ?_
  refine lv_aload_n hx hb dX5_meetSea_1 rfl (lv_at hl 0 rfl) ?_
  refine wg_X5_12 (v := .ref (ad 1)) S hK E 0 rfl rfl dX5_meetSea_2 ?_
  refine lv_iload_n hx hb dX5_meetSea_5 rfl (lv_at hl 1 rfl) ?_
  refine w_reti (runV_X (As := [.int x]) (rest := [.int 0]) (q0 := 1) (n := 1) S hml hK (hZ.at E) (Cut.full E hA) (c_X2_height l g ad lo ke fo ea σ x q_x _ _) (gi_wsV ml_X5_229 im_X2_height sl_X2_height in_X2 co_X2_height) ⟨rfl, by decide +kernel, by decide +kernel, by decide +kernel⟩ ⟨Nat.le_of_ble_eq_true rfl, Nat.le_of_ble_eq_true rfl⟩ rfl rfl rfl hl.1 rfl (Nat.le_of_ble_eq_true rfl) dX5_meetSea_6 ⟨Nat.le_of_ble_eq_true rfl, Nat.le_of_ble_eq_true rfl⟩) (Cut.full E hA) E (fun r u H locs hp E => ?_)
  obtain ⟨hp, hu⟩ := hp
  subst hp
  rw [hu] at E
  have E : Ev g _ s.heap H locs (wsW g ad lo ke fo ea σ) := E
  refine lv_isub hx hb dX5_meetSea_9 ?_
  refine lv_aload_n hx hb dX5_meetSea_10 rfl (lv_at hl 0 rfl) ?_
  refine wg_X5_21 (v := .ref (ad 2)) S hK E 0 rfl rfl dX5_meetSea_11 ?_
  refine wg_X5_123 (v := .int (gs σ 3)) S hK E 2 rfl rfl dX5_meetSea_14 ?_
  refine lv_imul hx hb dX5_meetSea_17 ?_
  refine lv_iconst (v := 4) hx hb dX5_meetSea_18 (by decide) ?_
  refine lv_idiv hx hb dX5_meetSea_19 (by decide) ?_
  refine lv_istore_n (lv' := [(2, .int (((0 - (f_X2_height σ x)) * (gs σ 3)) / 4)), (0, .ref (ad 0)), (1, .int x)]) hx hb dX5_meetSea_20 rfl hl (by decide) rfl (fun ls hl => ?_)
  refine lv_iload_n hx hb dX5_meetSea_21 rfl (lv_at hl 0 rfl) ?_
  refine lv_if_le (tgt := 72) hx hb dX5_meetSea_22 (by decide) (fun c1 => ?_) (fun c1 => ?_)
  · have c1 : (((0 - (f_X2_height σ x)) * (gs σ 3)) / 4) ≤ 0 := c1
    refine lv_iload_n hx hb dX5_meetSea_72 rfl (lv_at hl 0 rfl) ?_
    refine lv_ineg hx hb dX5_meetSea_73 ?_
    refine lv_aload_n hx hb dX5_meetSea_74 rfl (lv_at hl 1 rfl) ?_
    refine wg_X5_12 (v := .ref (ad 1)) S hK E 0 rfl rfl dX5_meetSea_75 ?_
    refine wg_X5_151 (v := .ref (ad 10)) S hK E 1 rfl rfl dX5_meetSea_78 ?_
    refine lv_iload_n hx hb dX5_meetSea_81 rfl (lv_at hl 2 rfl) ?_
    refine w_ild (v := gi σ 10 x) S hK E 10 0 rfl rfl q_x rfl dX5_meetSea_82 ?_
    refine w_min (v := (mn (-(((0 - (f_X2_height σ x)) * (gs σ 3)) / 4)) (gi σ 10 x))) S hml hl ml_X5_207 st_min in_J9 co_min (Nat.le_of_ble_eq_true rfl) (Nat.le_of_ble_eq_true rfl) ⟨Nat.le_of_ble_eq_true rfl, Nat.le_of_ble_eq_true rfl⟩ rfl dX5_meetSea_83 ?_
    refine lv_istore_n (lv' := [(3, .int (mn (-(((0 - (f_X2_height σ x)) * (gs σ 3)) / 4)) (gi σ 10 x))), (2, .int (((0 - (f_X2_height σ x)) * (gs σ 3)) / 4)), (0, .ref (ad 0)), (1, .int x)]) hx hb dX5_meetSea_86 rfl hl (by decide) rfl (fun ls hl => ?_)
    refine lv_aload_n hx hb dX5_meetSea_87 rfl (lv_at hl 2 rfl) ?_
    refine wg_X5_12 (v := .ref (ad 1)) S hK E 0 rfl rfl dX5_meetSea_88 ?_
    refine lv_iload_n hx hb dX5_meetSea_91 rfl (lv_at hl 3 rfl) ?_
    refine lv_iload_n hx hb dX5_meetSea_92 rfl (lv_at hl 0 rfl) ?_
    refine w_reti (runV_X (As := [.int x, .int (mn (-(((0 - (f_X2_height σ x)) * (gs σ 3)) / 4)) (gi σ 10 x))]) (rest := []) (q0 := 1) (n := 2) S hml hK (hZ.at E) (Cut.full E hA) (c_X2_takeOut l g ad lo ke fo ea σ x (mn (-(((0 - (f_X2_height σ x)) * (gs σ 3)) / 4)) (gi σ 10 x)) q_x _ _) (gi_wsV ml_X5_213 im_X2_takeOut sl_X2_takeOut in_X2 co_X2_takeOut) ⟨rfl, by decide +kernel, by decide +kernel, by decide +kernel⟩ ⟨Nat.le_of_ble_eq_true rfl, Nat.le_of_ble_eq_true rfl⟩ rfl rfl rfl hl.1 rfl (Nat.le_of_ble_eq_true rfl) dX5_meetSea_93 ⟨Nat.le_of_ble_eq_true rfl, Nat.le_of_ble_eq_true rfl⟩) (Cut.full E hA) E (fun r u H locs hp E => ?_)
    obtain ⟨rfl, rfl⟩ := hp
    have E : Ev g _ s.heap H locs (wsW g ad lo ke fo ea (f_X2_takeOut σ x (mn (-(((0 - (f_X2_height σ x)) * (gs σ 3)) / 4)) (gi σ 10 x))).2) := E
    refine lv_pop hx hb dX5_meetSea_96 rfl ?_
    refine lv_aload_n hx hb dX5_meetSea_97 rfl (lv_at hl 2 rfl) ?_
    refine wg_X5_35 (v := .ref (ad 4)) S hK E 0 rfl rfl dX5_meetSea_98 ?_
    refine wg_X5_147 (v := .ref (ad 28)) S hK E 4 rfl rfl dX5_meetSea_101 ?_
    refine lv_bipush (v := 7) hx hb dX5_meetSea_104 (by decide) ?_
    refine lv_dup2_11 hx hb dX5_meetSea_106 rfl rfl ?_
    refine w_lld (v := gl (f_X2_takeOut σ x (mn (-(((0 - (f_X2_height σ x)) * (gs σ 3)) / 4)) (gi σ 10 x))).2 28 7) S hK E 28 1 rfl rfl (show vp_in 7 9 by unfold vp_in; decide) rfl dX5_meetSea_107 ?_
    refine lv_iload_n hx hb dX5_meetSea_108 rfl (lv_at hl 0 rfl) ?_
    refine lv_i2l (v := ((mn (-(((0 - (f_X2_height σ x)) * (gs σ 3)) / 4)) (gi σ 10 x))).toInt64) hx hb dX5_meetSea_109 rfl ?_
    refine lv_ladd hx hb dX5_meetSea_110 ?_
    refine w_lst (w' := wsW g ad lo ke fo ea (sl (f_X2_takeOut σ x (mn (-(((0 - (f_X2_height σ x)) * (gs σ 3)) / 4)) (gi σ 10 x))).2 28 7 ((gl (f_X2_takeOut σ x (mn (-(((0 - (f_X2_height σ x)) * (gs σ 3)) / 4)) (gi σ 10 x))).2 28 7) + (((mn (-(((0 - (f_X2_height σ x)) * (gs σ 3)) / 4)) (gi σ 10 x))).toInt64)))) S hK E 28 1 rfl rfl (show vp_in 7 9 by unfold vp_in; decide) wset_28 dX5_meetSea_111 (fun H locs E => ?_)
    have hQ : f_X5_meetSea σ x = (sl (f_X2_takeOut σ x (mn (-(((0 - (f_X2_height σ x)) * (gs σ 3)) / 4)) (gi σ 10 x))).2 28 7 ((gl (f_X2_takeOut σ x (mn (-(((0 - (f_X2_height σ x)) * (gs σ 3)) / 4)) (gi σ 10 x))).2 28 7) + (((mn (-(((0 - (f_X2_height σ x)) * (gs σ 3)) / 4)) (gi σ 10 x))).toInt64))) := by
      unfold f_X5_meetSea; rw [if_pos c1]
    exact x_vret (sl (f_X2_takeOut σ x (mn (-(((0 - (f_X2_height σ x)) * (gs σ 3)) / 4)) (gi σ 10 x))).2 28 7 ((gl (f_X2_takeOut σ x (mn (-(((0 - (f_X2_height σ x)) * (gs σ 3)) / 4)) (gi σ 10 x))).2 28 7) + (((mn (-(((0 - (f_X2_height σ x)) * (gs σ 3)) / 4)) (gi σ 10 x))).toInt64))) S hr hlk hsz htt hK E dX5_meetSea_112 hQ.symm rfl ⟨Nat.le_of_ble_eq_true rfl, Nat.le_of_ble_eq_true rfl⟩ ⟨Nat.le_of_ble_eq_true rfl, Nat.le_of_ble_eq_true rfl⟩
  · have c1 : ¬ ((((0 - (f_X2_height σ x)) * (gs σ 3)) / 4) ≤ 0) := c1
    refine lv_aload_n hx hb dX5_meetSea_25 rfl (lv_at hl 1 rfl) ?_
    refine wg_X5_12 (v := .ref (ad 1)) S hK E 0 rfl rfl dX5_meetSea_26 ?_
    refine wg_X5_151 (v := .ref (ad 10)) S hK E 1 rfl rfl dX5_meetSea_29 ?_
    refine lv_iload_n hx hb dX5_meetSea_32 rfl (lv_at hl 2 rfl) ?_
    refine lv_dup2_11 hx hb dX5_meetSea_33 rfl rfl ?_
    refine w_ild (v := gi σ 10 x) S hK E 10 0 rfl rfl q_x rfl dX5_meetSea_34 ?_
    refine lv_iload_n hx hb dX5_meetSea_35 rfl (lv_at hl 0 rfl) ?_
    refine lv_iadd hx hb dX5_meetSea_36 ?_
    refine w_ist (w' := wsW g ad lo ke fo ea (si σ 10 x ((gi σ 10 x) + (((0 - (f_X2_height σ x)) * (gs σ 3)) / 4)))) S hK E 10 0 rfl rfl q_x wset_10 dX5_meetSea_37 (fun H locs E => ?_)
    refine lv_aload_n hx hb dX5_meetSea_38 rfl (lv_at hl 1 rfl) ?_
    refine wg_X5_12 (v := .ref (ad 1)) S hK E 0 rfl rfl dX5_meetSea_39 ?_
    refine wg_X5_160 (v := .ref (ad 11)) S hK E 1 rfl rfl dX5_meetSea_42 ?_
    refine lv_iload_n hx hb dX5_meetSea_45 rfl (lv_at hl 2 rfl) ?_
    refine lv_dup2_11 hx hb dX5_meetSea_46 rfl rfl ?_
    refine w_ild (v := gi σ 11 x) S hK E 11 0 rfl rfl q_x rfl dX5_meetSea_47 ?_
    refine lv_bipush (v := 35) hx hb dX5_meetSea_48 (by decide) ?_
    refine lv_iload_n hx hb dX5_meetSea_50 rfl (lv_at hl 0 rfl) ?_
    refine lv_imul hx hb dX5_meetSea_51 ?_
    refine lv_iadd hx hb dX5_meetSea_52 ?_
    refine w_ist (w' := wsW g ad lo ke fo ea (si (si σ 10 x ((gi σ 10 x) + (((0 - (f_X2_height σ x)) * (gs σ 3)) / 4))) 11 x ((gi σ 11 x) + (35 * (((0 - (f_X2_height σ x)) * (gs σ 3)) / 4))))) S hK E 11 0 rfl rfl q_x wset_11 dX5_meetSea_53 (fun H locs E => ?_)
    refine lv_aload_n hx hb dX5_meetSea_54 rfl (lv_at hl 1 rfl) ?_
    refine wg_X5_35 (v := .ref (ad 4)) S hK E 0 rfl rfl dX5_meetSea_55 ?_
    refine wg_X5_147 (v := .ref (ad 28)) S hK E 4 rfl rfl dX5_meetSea_58 ?_
    refine lv_bipush (v := 6) hx hb dX5_meetSea_61 (by decide) ?_
    refine lv_dup2_11 hx hb dX5_meetSea_63 rfl rfl ?_
    refine w_lld (v := gl σ 28 6) S hK E 28 1 rfl rfl (show vp_in 6 9 by unfold vp_in; decide) rfl dX5_meetSea_64 ?_
    refine lv_iload_n hx hb dX5_meetSea_65 rfl (lv_at hl 0 rfl) ?_
    refine lv_i2l (v := ((((0 - (f_X2_height σ x)) * (gs σ 3)) / 4)).toInt64) hx hb dX5_meetSea_66 rfl ?_
    refine lv_ladd hx hb dX5_meetSea_67 ?_
    refine w_lst (w' := wsW g ad lo ke fo ea (sl (si (si σ 10 x ((gi σ 10 x) + (((0 - (f_X2_height σ x)) * (gs σ 3)) / 4))) 11 x ((gi σ 11 x) + (35 * (((0 - (f_X2_height σ x)) * (gs σ 3)) / 4)))) 28 6 ((gl σ 28 6) + (((((0 - (f_X2_height σ x)) * (gs σ 3)) / 4)).toInt64)))) S hK E 28 1 rfl rfl (show vp_in 6 9 by unfold vp_in; decide) wset_28 dX5_meetSea_68 (fun H locs E => ?_)
    refine lv_goto (tgt := 112) hx hb dX5_meetSea_69 (by decide) ?_
    have hQ : f_X5_meetSea σ x = (sl (si (si σ 10 x ((gi σ 10 x) + (((0 - (f_X2_height σ x)) * (gs σ 3)) / 4))) 11 x ((gi σ 11 x) + (35 * (((0 - (f_X2_height σ x)) * (gs σ 3)) / 4)))) 28 6 ((gl σ 28 6) + (((((0 - (f_X2_height σ x)) * (gs σ 3)) / 4)).toInt64))) := by
      unfold f_X5_meetSea; rw [if_neg c1]
    exact x_vret (sl (si (si σ 10 x ((gi σ 10 x) + (((0 - (f_X2_height σ x)) * (gs σ 3)) / 4))) 11 x ((gi σ 11 x) + (35 * (((0 - (f_X2_height σ x)) * (gs σ 3)) / 4)))) 28 6 ((gl σ 28 6) + (((((0 - (f_X2_height σ x)) * (gs σ 3)) / 4)).toInt64))) S hr hlk hsz htt hK E dX5_meetSea_112 hQ.symm rfl ⟨Nat.le_of_ble_eq_true rfl, Nat.le_of_ble_eq_true rfl⟩ ⟨Nat.le_of_ble_eq_true rfl, Nat.le_of_ble_eq_true rfl⟩

