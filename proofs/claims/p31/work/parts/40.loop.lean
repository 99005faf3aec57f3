theorem KT.mono {p : Program} {l : Launch} {e : Env} {s : State} {m : MethodId} {below : List Frame} {meth : Method} {c : Code} {sb : Nat} {g : Gm} {yr : Nat} {qo qp : Fx} {t pc a b a2 b2 : Nat} (h : KT p l e s m below meth c sb g yr qo qp t pc a b) (ha : a2 ≤ a) (hb : b2 ≤ b) : KT p l e s m below meth c sb g yr qo qp t pc a2 b2 := fun C M A yf uo up σ cvs H locs ls k n hT hk hn E hl => h C M A yf uo up σ cvs H locs ls k n hT (by omega) (by omega) E hl
set_option maxHeartbeats 2000000 in
set_option maxRecDepth 100000 in
/-- behind a turn: the books close, the rights are in their order -/
theorem tc_end {p : Program} {l : Launch} {e : Env} {s : State} {m : MethodId} {below : List Frame} {meth : Method} {c : Code} {sb : Nat} {g : Gm} {yr : Nat} {qo qp : Fx} (hst : l.stackTraces = false) (S : Sta p c cL_law s #[.ref sb] RL m) (hml : c.maxLocals = 20) (hK : va_K g.1 vwC (tysG g) s) (hZ : Zs g (fun q => s.heap.size ≤ q) s s.heap) {t : Nat} (ht : t < 60) (K : KT p l e s m below meth c sb g yr qo qp t 1179 98 19900) : KT p l e s m below meth c sb g yr qo qp t 1101 90 19000 := by
  intro C M A yf uo up σ cvs H locs ls k0 n0 hT hk0 hn0 E hl
  have hx := S.1
  have hb := S.2.1
  have hA : ∀ q : Nat, s.heap.size ≤ q → s.heap.size ≤ q := fun _ h => h
  have hI := hT.1.1
  have h6 := hI.wf.le
  obtain ⟨g1, g2⟩ := nt_c hI.ev (Nat.le_trans hI.en (by decide))
  have Lo : ∀ (r i : Nat), 1 ≤ i → cnt σ ≤ i + r → i ≤ 8 → ∀ (H : Heap) (locs : List Loc) (ls : Array Slot), Ev g (fun q => s.heap.size ≤ q) s.heap H locs (LW g yr yf qo qp uo up σ σ) → lv_has ls 20 [(14, .int (nI i)), (7, .int (nI t)), (6, .ref yr), (5, .int (nI A)), (4, .int (nI M)), (3, .int (nI (cnt σ))), (2, .ref qp.1), (1, .ref qo.1), (0, .ref sb)] → W p l e room_1 s m #[.ref sb] below meth c H locs (k0 + 2) (n0 + 12) (lw_Z below #[.ref sb] s) (F0 m 1114 ls []) := by
    intro r
    induction r with
    | zero =>
      intro i h1 hi h8 H locs ls E hl
      refine lv_iload hx hb dL_law_1114 (lv_at hl 0 rfl) ?_
      refine lv_iload_n hx hb dL_law_1116 rfl (lv_at hl 5 rfl) ?_
      refine lv_icmp_ge (tgt := 1179) hx hb dL_law_1117 (by decide) (fun _ => ?_) (fun c_ => absurd (nI_le (a := cnt σ) (b := i) (by omega) (by omega)) c_)
      exact K _ _ _ _ _ _ _ _ H locs ls _ _ hT (by show k0 + 2 ≤ _; omega) (by show n0 + 12 ≤ _; omega) E (lv_sub hl [1, 2, 3, 4, 5, 6, 7, 8] rfl)
    | succ r ih =>
      intro i h1 hi h8 H locs ls E hl
      by_cases hci : cnt σ ≤ i
      · skip
        refine lv_iload hx hb dL_law_1114 (lv_at hl 0 rfl) ?_
        refine lv_iload_n hx hb dL_law_1116 rfl (lv_at hl 5 rfl) ?_
        refine lv_icmp_ge (tgt := 1179) hx hb dL_law_1117 (by decide) (fun _ => ?_) (fun c_ => absurd (nI_le (a := cnt σ) (b := i) (by omega) (by omega)) c_)
        exact K _ _ _ _ _ _ _ _ H locs ls _ _ hT (by show k0 + 2 ≤ _; omega) (by show n0 + 12 ≤ _; omega) E (lv_sub hl [1, 2, 3, 4, 5, 6, 7, 8] rfl)
      · have hci2 : i < cnt σ := by omega
        refine lv_iload hx hb dL_law_1114 (lv_at hl 0 rfl) ?_
        refine lv_iload_n hx hb dL_law_1116 rfl (lv_at hl 5 rfl) ?_
        refine lv_icmp_ge (tgt := 1179) hx hb dL_law_1117 (by decide) (fun c_ => absurd c_ (nI_ge (a := i) (b := cnt σ) (by omega) (by omega))) (fun _ => ?_)
        refine lv_aload_n hx hb dL_law_1120 rfl (lv_at hl 7 rfl) ?_
        refine lv_iload hx hb dL_law_1121 (lv_at hl 0 rfl) ?_
        refine lv_iconst (v := 1) hx hb dL_law_1123 (by decide) ?_
        refine k_isub (v := (nI (i - 1))) hx hb (pk_sub (a := i) (b := 1) (by omega)) dL_law_1124 ?_
        have E1 : Ev g _ s.heap H locs (([(yr, .inl (g.2.1 0, 6, .inl yf))] ++ OB g qp up σ) ++ OB g qo uo σ) := E.perm pm_lo
        refine y_reti (yrunH (As := [.ref qo.1, .int (nI (i - 1))]) (rest := []) (n := 2) S hml hK (hZ.at E) (Cut.app E1 hA) (c_L_byAge l g hst qo uo σ (nI (i - 1)) hI.wf (ixN (k := (i - 1)) hI.wf (by omega)) _ _) ml_L_124 st_L_byAge in_L rfl co_L_byAge ⟨by decide +kernel, by decide +kernel, by decide +kernel⟩ ⟨Nat.le_of_ble_eq_true rfl, Nat.le_of_ble_eq_true rfl⟩ rfl hl.1 rfl (Nat.le_of_ble_eq_true rfl) dL_law_1125 ⟨by show k0 + 2 + 1 ≤ 600312; omega, by show n0 + 12 + 6 ≤ 7292162; omega⟩) (Cut.app E1 hA) E1 (fun En ce q9 H locs hp E hce hcv hcl => (False.elim hp)) (fun r1 u1 H locs hp E2 => ?_)
        have hr := hp
        subst hr
        have E : Ev g _ s.heap H locs (LW g yr yf qo qp uo up σ σ) := E2.perm pm_lo.symm
        refine lv_istore (lv' := [(15, .int (gi σ 27 (nI (i - 1)))), (14, .int (nI i)), (7, .int (nI t)), (6, .ref yr), (5, .int (nI A)), (4, .int (nI M)), (3, .int (nI (cnt σ))), (2, .ref qp.1), (1, .ref qo.1), (0, .ref sb)]) hx hb dL_law_1128 hl (by decide) rfl (fun ls hl => ?_)
        refine lv_aload_n hx hb dL_law_1130 rfl (lv_at hl 8 rfl) ?_
        refine lv_iload hx hb dL_law_1131 (lv_at hl 1 rfl) ?_
        have E1 : Ev g _ s.heap H locs (([(yr, .inl (g.2.1 0, 6, .inl yf))] ++ OB g qp up σ) ++ OB g qo uo σ) := E.perm pm_lo
        refine y_reti (yrunH (As := [.ref qo.1, .int (nI i)]) (rest := []) (n := 2) S hml hK (hZ.at E) (Cut.app E1 hA) (c_L_byAge l g hst qo uo σ (nI i) hI.wf (ixN (k := i) hI.wf (by omega)) _ _) ml_L_124 st_L_byAge in_L rfl co_L_byAge ⟨by decide +kernel, by decide +kernel, by decide +kernel⟩ ⟨Nat.le_of_ble_eq_true rfl, Nat.le_of_ble_eq_true rfl⟩ rfl hl.1 rfl (Nat.le_of_ble_eq_true rfl) dL_law_1133 ⟨by show k0 + 2 + 1 ≤ 600312; omega, by show n0 + 12 + 6 ≤ 7292162; omega⟩) (Cut.app E1 hA) E1 (fun En ce q9 H locs hp E hce hcv hcl => (False.elim hp)) (fun r2 u2 H locs hp E2 => ?_)
        have hr := hp
        subst hr
        have E : Ev g _ s.heap H locs (LW g yr yf qo qp uo up σ σ) := E2.perm pm_lo.symm
        refine lv_istore (lv' := [(16, .int (gi σ 27 (nI i))), (15, .int (gi σ 27 (nI (i - 1)))), (14, .int (nI i)), (7, .int (nI t)), (6, .ref yr), (5, .int (nI A)), (4, .int (nI M)), (3, .int (nI (cnt σ))), (2, .ref qp.1), (1, .ref qo.1), (0, .ref sb)]) hx hb dL_law_1136 hl (by decide) rfl (fun ls hl => ?_)
        refine lv_aload hx hb dL_law_1138 (lv_at hl 4 rfl) ?_
        refine lv_iload hx hb dL_law_1140 (lv_at hl 1 rfl) ?_
        refine w_ild (v := (yf (gi σ 27 (nI (i - 1))).toNatClampNeg)) S hK E 0 0 rfl rfl (cl_o6 hI (i := (i - 1)) (by omega)) rfl dL_law_1142 ?_
        refine lv_aload hx hb dL_law_1143 (lv_at hl 4 rfl) ?_
        refine lv_iload hx hb dL_law_1145 (lv_at hl 0 rfl) ?_
        refine w_ild (v := (yf (gi σ 27 (nI i)).toNatClampNeg)) S hK E 0 0 rfl rfl (cl_o6 hI (i := i) (by omega)) rfl dL_law_1147 ?_
        refine lv_icmp_gt (tgt := 1171) hx hb dL_law_1148 (by decide) (fun c_ => absurd c_ (or_1 hT (k := i) (by omega) (by omega)).1) (fun _ => ?_)
        refine lv_aload hx hb dL_law_1151 (lv_at hl 4 rfl) ?_
        refine lv_iload hx hb dL_law_1153 (lv_at hl 1 rfl) ?_
        refine w_ild (v := (yf (gi σ 27 (nI (i - 1))).toNatClampNeg)) S hK E 0 0 rfl rfl (cl_o6 hI (i := (i - 1)) (by omega)) rfl dL_law_1155 ?_
        refine lv_aload hx hb dL_law_1156 (lv_at hl 4 rfl) ?_
        refine lv_iload hx hb dL_law_1158 (lv_at hl 0 rfl) ?_
        refine w_ild (v := (yf (gi σ 27 (nI i)).toNatClampNeg)) S hK E 0 0 rfl rfl (cl_o6 hI (i := i) (by omega)) rfl dL_law_1160 ?_
        refine lv_icmp_ne (tgt := 1173) hx hb dL_law_1161 (by decide) (fun c3 => ?_) (fun c3 => ?_)
        · have c3 : ¬ ((yf (gi σ 27 (nI (i - 1))).toNatClampNeg) = (yf (gi σ 27 (nI i)).toNatClampNeg)) := c3
          refine lv_iinc (v := (nI (i + 1))) (lv' := [(14, .int (nI (i + 1))), (16, .int (gi σ 27 (nI i))), (15, .int (gi σ 27 (nI (i - 1)))), (7, .int (nI t)), (6, .ref yr), (5, .int (nI A)), (4, .int (nI M)), (3, .int (nI (cnt σ))), (2, .ref qp.1), (1, .ref qo.1), (0, .ref sb)]) hx hb dL_law_1173 hl (k := 2) rfl (nI_1 i) (by decide) rfl (fun ls hl => ?_)
          refine lv_goto (tgt := 1114) hx hb dL_law_1176 (by decide) ?_
          exact ih (i + 1) (by omega) (by omega) (by omega) H locs ls E (lv_sub hl [0, 3, 4, 5, 6, 7, 8, 9, 10] rfl)
        · have c3 : (yf (gi σ 27 (nI (i - 1))).toNatClampNeg) = (yf (gi σ 27 (nI i)).toNatClampNeg) := c3
          refine lv_iload hx hb dL_law_1164 (lv_at hl 1 rfl) ?_
          refine lv_iload hx hb dL_law_1166 (lv_at hl 0 rfl) ?_
          refine lv_icmp_le (tgt := 1173) hx hb dL_law_1168 (by decide) (fun _ => ?_) (fun c_ => absurd ((or_1 hT (k := i) (by omega) (by omega)).2 c3) c_)
          refine lv_iinc (v := (nI (i + 1))) (lv' := [(14, .int (nI (i + 1))), (16, .int (gi σ 27 (nI i))), (15, .int (gi σ 27 (nI (i - 1)))), (7, .int (nI t)), (6, .ref yr), (5, .int (nI A)), (4, .int (nI M)), (3, .int (nI (cnt σ))), (2, .ref qp.1), (1, .ref qo.1), (0, .ref sb)]) hx hb dL_law_1173 hl (k := 2) rfl (nI_1 i) (by decide) rfl (fun ls hl => ?_)
          refine lv_goto (tgt := 1114) hx hb dL_law_1176 (by decide) ?_
          exact ih (i + 1) (by omega) (by omega) (by omega) H locs ls E (lv_sub hl [0, 3, 4, 5, 6, 7, 8, 9, 10] rfl)
  refine lv_aload_n hx hb dL_law_1101 rfl (lv_at hl 6 rfl) ?_
  refine lv_iload_n hx hb dL_law_1102 rfl (lv_at hl 4 rfl) ?_
  have E1 : Ev g _ s.heap H locs (([(yr, .inl (g.2.1 0, 6, .inl yf))] ++ OB g qp up σ) ++ OB g qo uo σ) := E.perm pm_lo
  refine w_reti (runS_X (As := [.ref qo.1, .int (nI (cnt σ))]) (rest := []) (n := 2) S hml hK (hZ.at E) (Cut.app E1 hA) (c_L_closed l g hst qo uo σ hI _ _) ml_L_179 st_L_closed in_L co_L_closed ⟨by decide +kernel, by decide +kernel, by decide +kernel⟩ ⟨Nat.le_of_ble_eq_true rfl, Nat.le_of_ble_eq_true rfl⟩ rfl hl.1 rfl (Nat.le_of_ble_eq_true rfl) dL_law_1103 ⟨by show k0 + 10 ≤ 600312; omega, by show n0 + 100 ≤ 7292162; omega⟩) (Cut.app E1 hA) E1 (fun r4 u4 H locs hp E2 => ?_)
  have hr := hp
  subst hr
  have E : Ev g _ s.heap H locs (LW g yr yf qo qp uo up σ σ) := E2.perm pm_lo.symm
  refine lv_if_ne (tgt := 1111) hx hb dL_law_1106 (by decide) (fun _ => ?_) (fun c_ => absurd c_ (show ¬ ((1 : Int32) = 0) by decide))
  refine lv_iconst (v := 1) hx hb dL_law_1111 (by decide) ?_
  refine lv_istore (lv' := [(14, .int 1), (7, .int (nI t)), (6, .ref yr), (5, .int (nI A)), (4, .int (nI M)), (3, .int (nI (cnt σ))), (2, .ref qp.1), (1, .ref qo.1), (0, .ref sb)]) hx hb dL_law_1112 hl (by decide) rfl (fun ls hl => ?_)
  exact Lo 6 1 (Nat.le_refl _) (by omega) (by omega) H locs ls E (lv_sub hl [0, 1, 2, 3, 4, 5, 6, 7, 8] rfl)
set_option maxHeartbeats 4000000 in
set_option maxRecDepth 100000 in
/-- the turns, one after the other -/
theorem law_turns {p : Program} {l : Launch} {e : Env} {s : State} {m : MethodId} {below : List Frame} {meth : Method} {c : Code} {sb : Nat} {g : Gm} {yr : Nat} {qo qp : Fx} (hst : l.stackTraces = false) (S : Sta p c cL_law s #[.ref sb] RL m) (hml : c.maxLocals = 20) (hK : va_K g.1 vwC (tysG g) s) (hZ : Zs g (fun q => s.heap.size ≤ q) s s.heap) {L : Nat} {xs : Nat → Int32} (hL : L ≤ 260) (hX : va_X sb L xs s s.heap) (hsb : sb < s.heap.size) (Kend : ∀ (C M A : Nat) (yf : Nat → Int32) (uo up : SOB) (σ : Sg) (cvs : List CV) (H : Heap) (locs : List Loc) (ls : Array Slot) (k0 n0 : Nat), TI 60 C M A yf uo up σ cvs → k0 ≤ 100 * 60 + 2 * eg σ + 400 → n0 ≤ 20000 * 60 + 4 * ec σ + 5000 → Ev g (fun q => s.heap.size ≤ q) s.heap H locs (LW g yr yf qo qp uo up σ σ) → lv_has ls 20 [(7, .int (nI 60)), (6, .ref yr), (5, .int (nI A)), (4, .int (nI M)), (3, .int (nI (cnt σ))), (2, .ref qp.1), (1, .ref qo.1), (0, .ref sb)] → W p l e room_1 s m #[.ref sb] below meth c H locs k0 n0 (lw_Z below #[.ref sb] s) (F0 m 1185 ls [])) : ∀ (r t : Nat), t + r = 60 → ∀ (C M A : Nat) (yf : Nat → Int32) (uo up : SOB) (σ : Sg) (cvs : List CV) (H : Heap) (locs : List Loc) (ls : Array Slot) (k0 n0 : Nat), TI t C M A yf uo up σ cvs → k0 ≤ 100 * t + 2 * eg σ + 400 → n0 ≤ 20000 * t + 4 * ec σ + 5000 → Ev g (fun q => s.heap.size ≤ q) s.heap H locs (LW g yr yf qo qp uo up σ σ) → lv_has ls 20 [(7, .int (nI t)), (6, .ref yr), (5, .int (nI A)), (4, .int (nI M)), (3, .int (nI (cnt σ))), (2, .ref qp.1), (1, .ref qo.1), (0, .ref sb)] → W p l e room_1 s m #[.ref sb] below meth c H locs k0 n0 (lw_Z below #[.ref sb] s) (F0 m 33 ls []) := by
  have hx := S.1
  have hb := S.2.1
  have hA : ∀ q : Nat, s.heap.size ≤ q → s.heap.size ≤ q := fun _ h => h
  intro r
  induction r with
  | zero =>
    intro t ht60 C M A yf uo up σ cvs H locs ls k0 n0 hT hk0 hn0 E hl
    have hte : t = 60 := by omega
    subst hte
    refine lv_iload hx hb dL_law_33 (lv_at hl 0 rfl) ?_
    refine lv_bipush (v := 60) hx hb dL_law_35 (by decide) ?_
    refine lv_icmp_ge (tgt := 1185) hx hb dL_law_37 (by decide) (fun _ => ?_) (fun c_ => absurd (show 60 ≤ (nI 60) by decide) c_)
    exact Kend C M A yf uo up σ cvs H locs ls k0 n0 hT hk0 hn0 E hl
  | succ r ih =>
    intro t ht60 C M A yf uo up σ cvs H locs ls k0 n0 hT hk0 hn0 E hl
    have ht : t < 60 := by omega
    have hI := hT.1.1
    have h6 := hI.wf.le
    obtain ⟨g1, g2⟩ := nt_c hI.ev (Nat.le_trans hI.en (by decide))
    have K9 : KT p l e s m below meth c sb g yr qo qp t 1179 98 19900 := by
      intro C M A yf uo up σ cvs H locs ls k1 n1 hT hk1 hn1 E hl
      refine lv_iinc (v := nI (t + 1)) (lv' := [(7, .int (nI (t + 1))), (6, .ref yr), (5, .int (nI A)), (4, .int (nI M)), (3, .int (nI (cnt σ))), (2, .ref qp.1), (1, .ref qo.1), (0, .ref sb)]) hx hb dL_law_1179 hl (k := 0) rfl (nI_1 t) (by decide) rfl (fun ls hl => ?_)
      refine lv_goto (tgt := 33) hx hb dL_law_1182 (by decide) ?_
      exact ih (t + 1) (by omega) C M A yf uo up σ cvs H locs ls k1 n1 hT (by omega) (by omega) E hl
    have K := tc_end hst S hml hK hZ ht K9
    have K2 : KT p l e s m below meth c sb g yr qo qp t 1179 90 19000 := K9.mono (by decide) (by decide)
    refine lv_iload hx hb dL_law_33 (lv_at hl 0 rfl) ?_
    refine lv_bipush (v := 60) hx hb dL_law_35 (by decide) ?_
    refine lv_icmp_ge (tgt := 1185) hx hb dL_law_37 (by decide) (fun c_ => absurd c_ (nI_ge (a := t) (b := 60) (by omega) (by omega))) (fun _ => ?_)
    refine lv_iconst (v := 5) hx hb dL_law_40 (by decide) ?_
    refine lv_iload hx hb dL_law_41 (lv_at hl 0 rfl) ?_
    refine k_imul (v := (nI (5 * t))) hx hb (pk_mul 5 t) dL_law_43 ?_
    refine lv_istore (lv' := [(8, .int (nI (5 * t))), (7, .int (nI t)), (6, .ref yr), (5, .int (nI A)), (4, .int (nI M)), (3, .int (nI (cnt σ))), (2, .ref qp.1), (1, .ref qo.1), (0, .ref sb)]) hx hb dL_law_44 hl (by decide) rfl (fun ls hl => ?_)
    refine lv_aload_n hx hb dL_law_46 rfl (lv_at hl 8 rfl) ?_
    refine lv_iload hx hb dL_law_47 (lv_at hl 0 rfl) ?_
    refine lv_bipush (v := 13) hx hb dL_law_49 (by decide) ?_
    refine w_reti (runS_S (As := [.ref sb, .int (nI (5 * t)), .int 13]) (rest := []) (n := 3) S hml hK (hZ.at E) (Cut.none E hA) (hX.kept (E.2.2.2.1 sb hsb (Nat.not_le.mpr hsb))) (Nat.lt_of_lt_of_le hsb E.2.2.1) (c_L_some l g sb L xs hL (5 * t) 13 (by omega) (by decide) (by decide) _ _) ml_L_136 st_L_some in_L co_L_some ⟨by decide +kernel, by decide +kernel, by decide +kernel⟩ ⟨Nat.le_of_ble_eq_true rfl, Nat.le_of_ble_eq_true rfl⟩ rfl hl.1 rfl (Nat.le_of_ble_eq_true rfl) dL_law_51 ⟨by show k0 + 0 ≤ 600312; omega, by show n0 + 0 ≤ 7292162; omega⟩) (Cut.none E hA) E (fun r1 u1 H locs hp E => ?_)
    obtain ⟨kw, hkw, hr⟩ := hp
    subst hr
    have E : Ev g _ s.heap H locs (LW g yr yf qo qp uo up σ σ) := Ev.nilr E
    refine lv_istore (lv' := [(9, .int (nI kw)), (8, .int (nI (5 * t))), (7, .int (nI t)), (6, .ref yr), (5, .int (nI A)), (4, .int (nI M)), (3, .int (nI (cnt σ))), (2, .ref qp.1), (1, .ref qo.1), (0, .ref sb)]) hx hb dL_law_54 hl (by decide) rfl (fun ls hl => ?_)
    refine lv_aload_n hx hb dL_law_56 rfl (lv_at hl 9 rfl) ?_
    refine lv_iload hx hb dL_law_57 (lv_at hl 1 rfl) ?_
    refine lv_iconst (v := 1) hx hb dL_law_59 (by decide) ?_
    refine k_iadd (v := (nI ((5 * t) + 1))) hx hb (nI_1 (5 * t)) dL_law_60 ?_
    refine lv_bipush (v := 16) hx hb dL_law_61 (by decide) ?_
    refine w_reti (runS_S (As := [.ref sb, .int (nI ((5 * t) + 1)), .int 16]) (rest := []) (n := 3) S hml hK (hZ.at E) (Cut.none E hA) (hX.kept (E.2.2.2.1 sb hsb (Nat.not_le.mpr hsb))) (Nat.lt_of_lt_of_le hsb E.2.2.1) (c_L_some l g sb L xs hL ((5 * t) + 1) 16 (by omega) (by decide) (by decide) _ _) ml_L_136 st_L_some in_L co_L_some ⟨by decide +kernel, by decide +kernel, by decide +kernel⟩ ⟨Nat.le_of_ble_eq_true rfl, Nat.le_of_ble_eq_true rfl⟩ rfl hl.1 rfl (Nat.le_of_ble_eq_true rfl) dL_law_63 ⟨by show k0 + 0 ≤ 600312; omega, by show n0 + 0 ≤ 7292162; omega⟩) (Cut.none E hA) E (fun r2 u2 H locs hp E => ?_)
    obtain ⟨ka, hka, hr⟩ := hp
    subst hr
    have E : Ev g _ s.heap H locs (LW g yr yf qo qp uo up σ σ) := Ev.nilr E
    refine lv_istore (lv' := [(10, .int (nI ka)), (9, .int (nI kw)), (8, .int (nI (5 * t))), (7, .int (nI t)), (6, .ref yr), (5, .int (nI A)), (4, .int (nI M)), (3, .int (nI (cnt σ))), (2, .ref qp.1), (1, .ref qo.1), (0, .ref sb)]) hx hb dL_law_66 hl (by decide) rfl (fun ls hl => ?_)
    refine lv_aload_n hx hb dL_law_68 rfl (lv_at hl 10 rfl) ?_
    refine lv_iload hx hb dL_law_69 (lv_at hl 2 rfl) ?_
    refine lv_iconst (v := 2) hx hb dL_law_71 (by decide) ?_
    refine k_iadd (v := (nI ((5 * t) + 2))) hx hb (nI_add (5 * t) 2) dL_law_72 ?_
    refine lv_sipush (v := 200) hx hb dL_law_73 (by decide) ?_
    refine w_reti (runS_S (As := [.ref sb, .int (nI ((5 * t) + 2)), .int 200]) (rest := []) (n := 3) S hml hK (hZ.at E) (Cut.none E hA) (hX.kept (E.2.2.2.1 sb hsb (Nat.not_le.mpr hsb))) (Nat.lt_of_lt_of_le hsb E.2.2.1) (c_L_some l g sb L xs hL ((5 * t) + 2) 200 (by omega) (by decide) (by decide) _ _) ml_L_136 st_L_some in_L co_L_some ⟨by decide +kernel, by decide +kernel, by decide +kernel⟩ ⟨Nat.le_of_ble_eq_true rfl, Nat.le_of_ble_eq_true rfl⟩ rfl hl.1 rfl (Nat.le_of_ble_eq_true rfl) dL_law_76 ⟨by show k0 + 0 ≤ 600312; omega, by show n0 + 0 ≤ 7292162; omega⟩) (Cut.none E hA) E (fun r3 u3 H locs hp E => ?_)
    obtain ⟨kb, hkb, hr⟩ := hp
    subst hr
    have E : Ev g _ s.heap H locs (LW g yr yf qo qp uo up σ σ) := Ev.nilr E
    refine lv_istore (lv' := [(11, .int (nI kb)), (10, .int (nI ka)), (9, .int (nI kw)), (8, .int (nI (5 * t))), (7, .int (nI t)), (6, .ref yr), (5, .int (nI A)), (4, .int (nI M)), (3, .int (nI (cnt σ))), (2, .ref qp.1), (1, .ref qo.1), (0, .ref sb)]) hx hb dL_law_79 hl (by decide) rfl (fun ls hl => ?_)
    refine lv_aload_n hx hb dL_law_81 rfl (lv_at hl 11 rfl) ?_
    refine lv_iload hx hb dL_law_82 (lv_at hl 3 rfl) ?_
    refine lv_iconst (v := 3) hx hb dL_law_84 (by decide) ?_
    refine k_iadd (v := (nI ((5 * t) + 3))) hx hb (nI_add (5 * t) 3) dL_law_85 ?_
    refine lv_bipush (v := 50) hx hb dL_law_86 (by decide) ?_
    refine w_reti (runS_S (As := [.ref sb, .int (nI ((5 * t) + 3)), .int 50]) (rest := []) (n := 3) S hml hK (hZ.at E) (Cut.none E hA) (hX.kept (E.2.2.2.1 sb hsb (Nat.not_le.mpr hsb))) (Nat.lt_of_lt_of_le hsb E.2.2.1) (c_L_some l g sb L xs hL ((5 * t) + 3) 50 (by omega) (by decide) (by decide) _ _) ml_L_136 st_L_some in_L co_L_some ⟨by decide +kernel, by decide +kernel, by decide +kernel⟩ ⟨Nat.le_of_ble_eq_true rfl, Nat.le_of_ble_eq_true rfl⟩ rfl hl.1 rfl (Nat.le_of_ble_eq_true rfl) dL_law_88 ⟨by show k0 + 0 ≤ 600312; omega, by show n0 + 0 ≤ 7292162; omega⟩) (Cut.none E hA) E (fun r4 u4 H locs hp E => ?_)
    obtain ⟨kc, hkc, hr⟩ := hp
    subst hr
    have E : Ev g _ s.heap H locs (LW g yr yf qo qp uo up σ σ) := Ev.nilr E
    refine lv_istore (lv' := [(12, .int (nI kc)), (11, .int (nI kb)), (10, .int (nI ka)), (9, .int (nI kw)), (8, .int (nI (5 * t))), (7, .int (nI t)), (6, .ref yr), (5, .int (nI A)), (4, .int (nI M)), (3, .int (nI (cnt σ))), (2, .ref qp.1), (1, .ref qo.1), (0, .ref sb)]) hx hb dL_law_91 hl (by decide) rfl (fun ls hl => ?_)
    refine lv_aload_n hx hb dL_law_93 rfl (lv_at hl 12 rfl) ?_
    refine lv_iload hx hb dL_law_94 (lv_at hl 4 rfl) ?_
    refine lv_iconst (v := 4) hx hb dL_law_96 (by decide) ?_
    refine k_iadd (v := (nI ((5 * t) + 4))) hx hb (nI_add (5 * t) 4) dL_law_97 ?_
    refine lv_sipush (v := 1000) hx hb dL_law_98 (by decide) ?_
    refine w_reti (runS_S (As := [.ref sb, .int (nI ((5 * t) + 4)), .int 1000]) (rest := []) (n := 3) S hml hK (hZ.at E) (Cut.none E hA) (hX.kept (E.2.2.2.1 sb hsb (Nat.not_le.mpr hsb))) (Nat.lt_of_lt_of_le hsb E.2.2.1) (c_L_some l g sb L xs hL ((5 * t) + 4) 1000 (by omega) (by decide) (by decide) _ _) ml_L_136 st_L_some in_L co_L_some ⟨by decide +kernel, by decide +kernel, by decide +kernel⟩ ⟨Nat.le_of_ble_eq_true rfl, Nat.le_of_ble_eq_true rfl⟩ rfl hl.1 rfl (Nat.le_of_ble_eq_true rfl) dL_law_101 ⟨by show k0 + 0 ≤ 600312; omega, by show n0 + 0 ≤ 7292162; omega⟩) (Cut.none E hA) E (fun r5 u5 H locs hp E => ?_)
    obtain ⟨kd, hkd, hr⟩ := hp
    subst hr
    have E : Ev g _ s.heap H locs (LW g yr yf qo qp uo up σ σ) := Ev.nilr E
    refine lv_istore (lv' := [(13, .int (nI kd)), (12, .int (nI kc)), (11, .int (nI kb)), (10, .int (nI ka)), (9, .int (nI kw)), (8, .int (nI (5 * t))), (7, .int (nI t)), (6, .ref yr), (5, .int (nI A)), (4, .int (nI M)), (3, .int (nI (cnt σ))), (2, .ref qp.1), (1, .ref qo.1), (0, .ref sb)]) hx hb dL_law_104 hl (by decide) rfl (fun ls hl => ?_)
    by_cases hc0 : kw = 0 ∨ t < 3
    · rcases hc0 with hw0 | hw3
      · subst hw0
        refine lv_iload hx hb dL_law_106 (lv_at hl 4 rfl) ?_
        refine lv_if_eq (tgt := 117) hx hb dL_law_108 (by decide) (fun _ => ?_) (fun c_ => absurd (show (nI 0) = 0 by decide) c_)
        exact tc_cell hst S hml hK hZ hT ht hka hkb hkc hkd (by show k0 ≤ _; omega) (by show n0 ≤ _; omega) E (lv_sub hl [0, 1, 2, 3, 6, 7, 8, 9, 10, 11, 12, 13] rfl) K
      · by_cases hw0 : kw = 0
        · subst hw0
          refine lv_iload hx hb dL_law_106 (lv_at hl 4 rfl) ?_
          refine lv_if_eq (tgt := 117) hx hb dL_law_108 (by decide) (fun _ => ?_) (fun c_ => absurd (show (nI 0) = 0 by decide) c_)
          exact tc_cell hst S hml hK hZ hT ht hka hkb hkc hkd (by show k0 ≤ _; omega) (by show n0 ≤ _; omega) E (lv_sub hl [0, 1, 2, 3, 6, 7, 8, 9, 10, 11, 12, 13] rfl) K
        · skip
          refine lv_iload hx hb dL_law_106 (lv_at hl 4 rfl) ?_
          refine lv_if_eq (tgt := 117) hx hb dL_law_108 (by decide) (fun c_ => absurd c_ (nI_ne0 (by omega) (by omega))) (fun _ => ?_)
          refine lv_iload hx hb dL_law_111 (lv_at hl 6 rfl) ?_
          refine lv_iconst (v := 3) hx hb dL_law_113 (by decide) ?_
          refine lv_icmp_ge (tgt := 216) hx hb dL_law_114 (by decide) (fun c_ => absurd c_ (nI_ge (a := t) (b := 3) (by omega) (by omega))) (fun _ => ?_)
          exact tc_cell hst S hml hK hZ hT ht hka hkb hkc hkd (by show k0 ≤ _; omega) (by show n0 ≤ _; omega) E (lv_sub hl [0, 1, 2, 3, 6, 7, 8, 9, 10, 11, 12, 13] rfl) K
    · have h1t : 1 ≤ t := by omega
      rcases (show kw = 1 ∨ kw = 2 ∨ kw = 3 ∨ kw = 4 ∨ kw = 5 ∨ kw = 6 ∨ kw = 7 ∨ kw = 8 ∨ kw = 9 ∨ kw = 10 ∨ kw = 11 ∨ kw = 12 by omega) with rfl | rfl | rfl | rfl | rfl | rfl | rfl | rfl | rfl | rfl | rfl | rfl
      · skip
        refine lv_iload hx hb dL_law_106 (lv_at hl 4 rfl) ?_
        refine lv_if_eq (tgt := 117) hx hb dL_law_108 (by decide) (fun c_ => absurd c_ (show ¬ ((nI 1) = 0) by decide)) (fun _ => ?_)
        refine lv_iload hx hb dL_law_111 (lv_at hl 6 rfl) ?_
        refine lv_iconst (v := 3) hx hb dL_law_113 (by decide) ?_
        refine lv_icmp_ge (tgt := 216) hx hb dL_law_114 (by decide) (fun _ => ?_) (fun c_ => absurd (nI_le (a := 3) (b := t) (by omega) (by omega)) c_)
        refine lv_iload hx hb dL_law_216 (lv_at hl 4 rfl) ?_
        refine lv_iconst (v := 1) hx hb dL_law_218 (by decide) ?_
        refine lv_icmp_ne (tgt := 265) hx hb dL_law_219 (by decide) (fun c_ => absurd (show (nI 1) = 1 by decide) c_) (fun _ => ?_)
        exact tc_ground hst S hml hK hZ hT ht h1t hka hkb hkc hkd (by show k0 ≤ _; omega) (by show n0 ≤ _; omega) E (lv_sub hl [0, 1, 2, 3, 6, 7, 8, 9, 10, 11, 12, 13] rfl) K
      · skip
        refine lv_iload hx hb dL_law_106 (lv_at hl 4 rfl) ?_
        refine lv_if_eq (tgt := 117) hx hb dL_law_108 (by decide) (fun c_ => absurd c_ (show ¬ ((nI 2) = 0) by decide)) (fun _ => ?_)
        refine lv_iload hx hb dL_law_111 (lv_at hl 6 rfl) ?_
        refine lv_iconst (v := 3) hx hb dL_law_113 (by decide) ?_
        refine lv_icmp_ge (tgt := 216) hx hb dL_law_114 (by decide) (fun _ => ?_) (fun c_ => absurd (nI_le (a := 3) (b := t) (by omega) (by omega)) c_)
        refine lv_iload hx hb dL_law_216 (lv_at hl 4 rfl) ?_
        refine lv_iconst (v := 1) hx hb dL_law_218 (by decide) ?_
        refine lv_icmp_ne (tgt := 265) hx hb dL_law_219 (by decide) (fun _ => ?_) (fun c_ => absurd c_ (show ¬ ((nI 2) = 1) by decide))
        refine lv_iload hx hb dL_law_265 (lv_at hl 4 rfl) ?_
        refine lv_iconst (v := 2) hx hb dL_law_267 (by decide) ?_
        refine lv_icmp_ne (tgt := 333) hx hb dL_law_268 (by decide) (fun c_ => absurd (show (nI 2) = 2 by decide) c_) (fun _ => ?_)
        exact tc_conductance hst S hml hK hZ hT ht h1t hka hkb hkc hkd (by show k0 ≤ _; omega) (by show n0 ≤ _; omega) E (lv_sub hl [0, 1, 2, 3, 6, 7, 8, 9, 10, 11, 12, 13] rfl) K
      · skip
        refine lv_iload hx hb dL_law_106 (lv_at hl 4 rfl) ?_
        refine lv_if_eq (tgt := 117) hx hb dL_law_108 (by decide) (fun c_ => absurd c_ (show ¬ ((nI 3) = 0) by decide)) (fun _ => ?_)
        refine lv_iload hx hb dL_law_111 (lv_at hl 6 rfl) ?_
        refine lv_iconst (v := 3) hx hb dL_law_113 (by decide) ?_
        refine lv_icmp_ge (tgt := 216) hx hb dL_law_114 (by decide) (fun _ => ?_) (fun c_ => absurd (nI_le (a := 3) (b := t) (by omega) (by omega)) c_)
        refine lv_iload hx hb dL_law_216 (lv_at hl 4 rfl) ?_
        refine lv_iconst (v := 1) hx hb dL_law_218 (by decide) ?_
        refine lv_icmp_ne (tgt := 265) hx hb dL_law_219 (by decide) (fun _ => ?_) (fun c_ => absurd c_ (show ¬ ((nI 3) = 1) by decide))
        refine lv_iload hx hb dL_law_265 (lv_at hl 4 rfl) ?_
        refine lv_iconst (v := 2) hx hb dL_law_267 (by decide) ?_
        refine lv_icmp_ne (tgt := 333) hx hb dL_law_268 (by decide) (fun _ => ?_) (fun c_ => absurd c_ (show ¬ ((nI 3) = 2) by decide))
        refine lv_iload hx hb dL_law_333 (lv_at hl 4 rfl) ?_
        refine lv_iconst (v := 3) hx hb dL_law_335 (by decide) ?_
        refine lv_icmp_ne (tgt := 387) hx hb dL_law_336 (by decide) (fun c_ => absurd (show (nI 3) = 3 by decide) c_) (fun _ => ?_)
        exact tc_rain hst S hml hK hZ hT ht h1t hka hkb hkc hkd (by show k0 ≤ _; omega) (by show n0 ≤ _; omega) E (lv_sub hl [0, 1, 2, 3, 6, 7, 8, 9, 10, 11, 12, 13] rfl) K
      · skip
        refine lv_iload hx hb dL_law_106 (lv_at hl 4 rfl) ?_
        refine lv_if_eq (tgt := 117) hx hb dL_law_108 (by decide) (fun c_ => absurd c_ (show ¬ ((nI 4) = 0) by decide)) (fun _ => ?_)
        refine lv_iload hx hb dL_law_111 (lv_at hl 6 rfl) ?_
        refine lv_iconst (v := 3) hx hb dL_law_113 (by decide) ?_
        refine lv_icmp_ge (tgt := 216) hx hb dL_law_114 (by decide) (fun _ => ?_) (fun c_ => absurd (nI_le (a := 3) (b := t) (by omega) (by omega)) c_)
        refine lv_iload hx hb dL_law_216 (lv_at hl 4 rfl) ?_
        refine lv_iconst (v := 1) hx hb dL_law_218 (by decide) ?_
        refine lv_icmp_ne (tgt := 265) hx hb dL_law_219 (by decide) (fun _ => ?_) (fun c_ => absurd c_ (show ¬ ((nI 4) = 1) by decide))
        refine lv_iload hx hb dL_law_265 (lv_at hl 4 rfl) ?_
        refine lv_iconst (v := 2) hx hb dL_law_267 (by decide) ?_
        refine lv_icmp_ne (tgt := 333) hx hb dL_law_268 (by decide) (fun _ => ?_) (fun c_ => absurd c_ (show ¬ ((nI 4) = 2) by decide))
        refine lv_iload hx hb dL_law_333 (lv_at hl 4 rfl) ?_
        refine lv_iconst (v := 3) hx hb dL_law_335 (by decide) ?_
        refine lv_icmp_ne (tgt := 387) hx hb dL_law_336 (by decide) (fun _ => ?_) (fun c_ => absurd c_ (show ¬ ((nI 4) = 3) by decide))
        refine lv_iload hx hb dL_law_387 (lv_at hl 4 rfl) ?_
        refine lv_iconst (v := 4) hx hb dL_law_389 (by decide) ?_
        refine lv_icmp_ne (tgt := 457) hx hb dL_law_390 (by decide) (fun c_ => absurd (show (nI 4) = 4 by decide) c_) (fun _ => ?_)
        exact tc_bed hst S hml hK hZ hT ht h1t hka hkb hkc hkd (by show k0 ≤ _; omega) (by show n0 ≤ _; omega) E (lv_sub hl [0, 1, 2, 3, 6, 7, 8, 9, 10, 11, 12, 13] rfl) K
      · skip
        refine lv_iload hx hb dL_law_106 (lv_at hl 4 rfl) ?_
        refine lv_if_eq (tgt := 117) hx hb dL_law_108 (by decide) (fun c_ => absurd c_ (show ¬ ((nI 5) = 0) by decide)) (fun _ => ?_)
        refine lv_iload hx hb dL_law_111 (lv_at hl 6 rfl) ?_
        refine lv_iconst (v := 3) hx hb dL_law_113 (by decide) ?_
        refine lv_icmp_ge (tgt := 216) hx hb dL_law_114 (by decide) (fun _ => ?_) (fun c_ => absurd (nI_le (a := 3) (b := t) (by omega) (by omega)) c_)
        refine lv_iload hx hb dL_law_216 (lv_at hl 4 rfl) ?_
        refine lv_iconst (v := 1) hx hb dL_law_218 (by decide) ?_
        refine lv_icmp_ne (tgt := 265) hx hb dL_law_219 (by decide) (fun _ => ?_) (fun c_ => absurd c_ (show ¬ ((nI 5) = 1) by decide))
        refine lv_iload hx hb dL_law_265 (lv_at hl 4 rfl) ?_
        refine lv_iconst (v := 2) hx hb dL_law_267 (by decide) ?_
        refine lv_icmp_ne (tgt := 333) hx hb dL_law_268 (by decide) (fun _ => ?_) (fun c_ => absurd c_ (show ¬ ((nI 5) = 2) by decide))
        refine lv_iload hx hb dL_law_333 (lv_at hl 4 rfl) ?_
        refine lv_iconst (v := 3) hx hb dL_law_335 (by decide) ?_
        refine lv_icmp_ne (tgt := 387) hx hb dL_law_336 (by decide) (fun _ => ?_) (fun c_ => absurd c_ (show ¬ ((nI 5) = 3) by decide))
        refine lv_iload hx hb dL_law_387 (lv_at hl 4 rfl) ?_
        refine lv_iconst (v := 4) hx hb dL_law_389 (by decide) ?_
        refine lv_icmp_ne (tgt := 457) hx hb dL_law_390 (by decide) (fun _ => ?_) (fun c_ => absurd c_ (show ¬ ((nI 5) = 4) by decide))
        refine lv_iload hx hb dL_law_457 (lv_at hl 4 rfl) ?_
        refine lv_bipush (v := 7) hx hb dL_law_459 (by decide) ?_
        refine lv_icmp_ge (tgt := 538) hx hb dL_law_461 (by decide) (fun c_ => absurd c_ (show ¬ (7 ≤ (nI 5)) by decide)) (fun _ => ?_)
        by_cases hn6 : cnt σ < 6
        · exact tc_well hst S hml hK hZ hT ht h1t hn6 hka hkb hkc hkd (by show k0 ≤ _; omega) (by show n0 ≤ _; omega) E (lv_sub hl [0, 1, 2, 3, 6, 7, 8, 9, 10, 11, 12, 13] rfl) K
        · exact tc_wellN hst S hml hK hZ hT ht h1t (by omega) hka hkb hkc hkd (by show k0 ≤ _; omega) (by show n0 ≤ _; omega) E (lv_sub hl [0, 1, 2, 3, 6, 7, 8, 9, 10, 11, 12, 13] rfl) K
      · skip
        refine lv_iload hx hb dL_law_106 (lv_at hl 4 rfl) ?_
        refine lv_if_eq (tgt := 117) hx hb dL_law_108 (by decide) (fun c_ => absurd c_ (show ¬ ((nI 6) = 0) by decide)) (fun _ => ?_)
        refine lv_iload hx hb dL_law_111 (lv_at hl 6 rfl) ?_
        refine lv_iconst (v := 3) hx hb dL_law_113 (by decide) ?_
        refine lv_icmp_ge (tgt := 216) hx hb dL_law_114 (by decide) (fun _ => ?_) (fun c_ => absurd (nI_le (a := 3) (b := t) (by omega) (by omega)) c_)
        refine lv_iload hx hb dL_law_216 (lv_at hl 4 rfl) ?_
        refine lv_iconst (v := 1) hx hb dL_law_218 (by decide) ?_
        refine lv_icmp_ne (tgt := 265) hx hb dL_law_219 (by decide) (fun _ => ?_) (fun c_ => absurd c_ (show ¬ ((nI 6) = 1) by decide))
        refine lv_iload hx hb dL_law_265 (lv_at hl 4 rfl) ?_
        refine lv_iconst (v := 2) hx hb dL_law_267 (by decide) ?_
        refine lv_icmp_ne (tgt := 333) hx hb dL_law_268 (by decide) (fun _ => ?_) (fun c_ => absurd c_ (show ¬ ((nI 6) = 2) by decide))
        refine lv_iload hx hb dL_law_333 (lv_at hl 4 rfl) ?_
        refine lv_iconst (v := 3) hx hb dL_law_335 (by decide) ?_
        refine lv_icmp_ne (tgt := 387) hx hb dL_law_336 (by decide) (fun _ => ?_) (fun c_ => absurd c_ (show ¬ ((nI 6) = 3) by decide))
        refine lv_iload hx hb dL_law_387 (lv_at hl 4 rfl) ?_
        refine lv_iconst (v := 4) hx hb dL_law_389 (by decide) ?_
        refine lv_icmp_ne (tgt := 457) hx hb dL_law_390 (by decide) (fun _ => ?_) (fun c_ => absurd c_ (show ¬ ((nI 6) = 4) by decide))
        refine lv_iload hx hb dL_law_457 (lv_at hl 4 rfl) ?_
        refine lv_bipush (v := 7) hx hb dL_law_459 (by decide) ?_
        refine lv_icmp_ge (tgt := 538) hx hb dL_law_461 (by decide) (fun c_ => absurd c_ (show ¬ (7 ≤ (nI 6)) by decide)) (fun _ => ?_)
        by_cases hn6 : cnt σ < 6
        · exact tc_well hst S hml hK hZ hT ht h1t hn6 hka hkb hkc hkd (by show k0 ≤ _; omega) (by show n0 ≤ _; omega) E (lv_sub hl [0, 1, 2, 3, 6, 7, 8, 9, 10, 11, 12, 13] rfl) K
        · exact tc_wellN hst S hml hK hZ hT ht h1t (by omega) hka hkb hkc hkd (by show k0 ≤ _; omega) (by show n0 ≤ _; omega) E (lv_sub hl [0, 1, 2, 3, 6, 7, 8, 9, 10, 11, 12, 13] rfl) K
      · by_cases hn0w : 0 < cnt σ
        · skip
          refine lv_iload hx hb dL_law_106 (lv_at hl 4 rfl) ?_
          refine lv_if_eq (tgt := 117) hx hb dL_law_108 (by decide) (fun c_ => absurd c_ (show ¬ ((nI 7) = 0) by decide)) (fun _ => ?_)
          refine lv_iload hx hb dL_law_111 (lv_at hl 6 rfl) ?_
          refine lv_iconst (v := 3) hx hb dL_law_113 (by decide) ?_
          refine lv_icmp_ge (tgt := 216) hx hb dL_law_114 (by decide) (fun _ => ?_) (fun c_ => absurd (nI_le (a := 3) (b := t) (by omega) (by omega)) c_)
          refine lv_iload hx hb dL_law_216 (lv_at hl 4 rfl) ?_
          refine lv_iconst (v := 1) hx hb dL_law_218 (by decide) ?_
          refine lv_icmp_ne (tgt := 265) hx hb dL_law_219 (by decide) (fun _ => ?_) (fun c_ => absurd c_ (show ¬ ((nI 7) = 1) by decide))
          refine lv_iload hx hb dL_law_265 (lv_at hl 4 rfl) ?_
          refine lv_iconst (v := 2) hx hb dL_law_267 (by decide) ?_
          refine lv_icmp_ne (tgt := 333) hx hb dL_law_268 (by decide) (fun _ => ?_) (fun c_ => absurd c_ (show ¬ ((nI 7) = 2) by decide))
          refine lv_iload hx hb dL_law_333 (lv_at hl 4 rfl) ?_
          refine lv_iconst (v := 3) hx hb dL_law_335 (by decide) ?_
          refine lv_icmp_ne (tgt := 387) hx hb dL_law_336 (by decide) (fun _ => ?_) (fun c_ => absurd c_ (show ¬ ((nI 7) = 3) by decide))
          refine lv_iload hx hb dL_law_387 (lv_at hl 4 rfl) ?_
          refine lv_iconst (v := 4) hx hb dL_law_389 (by decide) ?_
          refine lv_icmp_ne (tgt := 457) hx hb dL_law_390 (by decide) (fun _ => ?_) (fun c_ => absurd c_ (show ¬ ((nI 7) = 4) by decide))
          refine lv_iload hx hb dL_law_457 (lv_at hl 4 rfl) ?_
          refine lv_bipush (v := 7) hx hb dL_law_459 (by decide) ?_
          refine lv_icmp_ge (tgt := 538) hx hb dL_law_461 (by decide) (fun _ => ?_) (fun c_ => absurd (show 7 ≤ (nI 7) by decide) c_)
          refine lv_iload hx hb dL_law_538 (lv_at hl 4 rfl) ?_
          refine lv_bipush (v := 7) hx hb dL_law_540 (by decide) ?_
          refine lv_icmp_ne (tgt := 601) hx hb dL_law_542 (by decide) (fun c_ => absurd (show (nI 7) = 7 by decide) c_) (fun _ => ?_)
          refine lv_iload_n hx hb dL_law_545 rfl (lv_at hl 10 rfl) ?_
          refine lv_if_le (tgt := 601) hx hb dL_law_546 (by decide) (fun c_ => absurd c_ (nI_nle hn0w (by omega))) (fun _ => ?_)
          exact tc_wish hst S hml hK hZ hT ht h1t hka hkb hkc hkd hn0w (by show k0 ≤ _; omega) (by show n0 ≤ _; omega) E (lv_sub hl [0, 1, 2, 3, 6, 7, 8, 9, 10, 11, 12, 13] rfl) K
        · have hz0 : cnt σ = 0 := by omega
          refine lv_iload hx hb dL_law_106 (lv_at hl 4 rfl) ?_
          refine lv_if_eq (tgt := 117) hx hb dL_law_108 (by decide) (fun c_ => absurd c_ (show ¬ ((nI 7) = 0) by decide)) (fun _ => ?_)
          refine lv_iload hx hb dL_law_111 (lv_at hl 6 rfl) ?_
          refine lv_iconst (v := 3) hx hb dL_law_113 (by decide) ?_
          refine lv_icmp_ge (tgt := 216) hx hb dL_law_114 (by decide) (fun _ => ?_) (fun c_ => absurd (nI_le (a := 3) (b := t) (by omega) (by omega)) c_)
          refine lv_iload hx hb dL_law_216 (lv_at hl 4 rfl) ?_
          refine lv_iconst (v := 1) hx hb dL_law_218 (by decide) ?_
          refine lv_icmp_ne (tgt := 265) hx hb dL_law_219 (by decide) (fun _ => ?_) (fun c_ => absurd c_ (show ¬ ((nI 7) = 1) by decide))
          refine lv_iload hx hb dL_law_265 (lv_at hl 4 rfl) ?_
          refine lv_iconst (v := 2) hx hb dL_law_267 (by decide) ?_
          refine lv_icmp_ne (tgt := 333) hx hb dL_law_268 (by decide) (fun _ => ?_) (fun c_ => absurd c_ (show ¬ ((nI 7) = 2) by decide))
          refine lv_iload hx hb dL_law_333 (lv_at hl 4 rfl) ?_
          refine lv_iconst (v := 3) hx hb dL_law_335 (by decide) ?_
          refine lv_icmp_ne (tgt := 387) hx hb dL_law_336 (by decide) (fun _ => ?_) (fun c_ => absurd c_ (show ¬ ((nI 7) = 3) by decide))
          refine lv_iload hx hb dL_law_387 (lv_at hl 4 rfl) ?_
          refine lv_iconst (v := 4) hx hb dL_law_389 (by decide) ?_
          refine lv_icmp_ne (tgt := 457) hx hb dL_law_390 (by decide) (fun _ => ?_) (fun c_ => absurd c_ (show ¬ ((nI 7) = 4) by decide))
          refine lv_iload hx hb dL_law_457 (lv_at hl 4 rfl) ?_
          refine lv_bipush (v := 7) hx hb dL_law_459 (by decide) ?_
          refine lv_icmp_ge (tgt := 538) hx hb dL_law_461 (by decide) (fun _ => ?_) (fun c_ => absurd (show 7 ≤ (nI 7) by decide) c_)
          refine lv_iload hx hb dL_law_538 (lv_at hl 4 rfl) ?_
          refine lv_bipush (v := 7) hx hb dL_law_540 (by decide) ?_
          refine lv_icmp_ne (tgt := 601) hx hb dL_law_542 (by decide) (fun c_ => absurd (show (nI 7) = 7 by decide) c_) (fun _ => ?_)
          refine lv_iload_n hx hb dL_law_545 rfl (lv_at hl 10 rfl) ?_
          refine lv_if_le (tgt := 601) hx hb dL_law_546 (by decide) (fun _ => ?_) (fun c_ => absurd (by rw [hz0]; decide) c_)
          refine lv_iload hx hb dL_law_601 (lv_at hl 4 rfl) ?_
          refine lv_bipush (v := 8) hx hb dL_law_603 (by decide) ?_
          refine lv_icmp_ne (tgt := 756) hx hb dL_law_605 (by decide) (fun _ => ?_) (fun c_ => absurd c_ (show ¬ ((nI 7) = 8) by decide))
          by_cases hm6 : M + (1 + kc % 14) ≤ 600
          · exact tc_pass hst S hml hK hZ hT ht h1t hka hkb hkc hkd hm6 (by show k0 ≤ _; omega) (by show n0 ≤ _; omega) E (lv_sub hl [0, 1, 2, 3, 6, 7, 8, 9, 10, 11, 12, 13] rfl) K
          · exact tc_passN hst S hml hK hZ hT ht h1t hka hkb hkc hkd (by omega) (by show k0 ≤ _; omega) (by show n0 ≤ _; omega) E (lv_sub hl [0, 1, 2, 3, 6, 7, 8, 9, 10, 11, 12, 13] rfl) K2
      · by_cases hn0w : 0 < cnt σ
        · skip
          refine lv_iload hx hb dL_law_106 (lv_at hl 4 rfl) ?_
          refine lv_if_eq (tgt := 117) hx hb dL_law_108 (by decide) (fun c_ => absurd c_ (show ¬ ((nI 8) = 0) by decide)) (fun _ => ?_)
          refine lv_iload hx hb dL_law_111 (lv_at hl 6 rfl) ?_
          refine lv_iconst (v := 3) hx hb dL_law_113 (by decide) ?_
          refine lv_icmp_ge (tgt := 216) hx hb dL_law_114 (by decide) (fun _ => ?_) (fun c_ => absurd (nI_le (a := 3) (b := t) (by omega) (by omega)) c_)
          refine lv_iload hx hb dL_law_216 (lv_at hl 4 rfl) ?_
          refine lv_iconst (v := 1) hx hb dL_law_218 (by decide) ?_
          refine lv_icmp_ne (tgt := 265) hx hb dL_law_219 (by decide) (fun _ => ?_) (fun c_ => absurd c_ (show ¬ ((nI 8) = 1) by decide))
          refine lv_iload hx hb dL_law_265 (lv_at hl 4 rfl) ?_
          refine lv_iconst (v := 2) hx hb dL_law_267 (by decide) ?_
          refine lv_icmp_ne (tgt := 333) hx hb dL_law_268 (by decide) (fun _ => ?_) (fun c_ => absurd c_ (show ¬ ((nI 8) = 2) by decide))
          refine lv_iload hx hb dL_law_333 (lv_at hl 4 rfl) ?_
          refine lv_iconst (v := 3) hx hb dL_law_335 (by decide) ?_
          refine lv_icmp_ne (tgt := 387) hx hb dL_law_336 (by decide) (fun _ => ?_) (fun c_ => absurd c_ (show ¬ ((nI 8) = 3) by decide))
          refine lv_iload hx hb dL_law_387 (lv_at hl 4 rfl) ?_
          refine lv_iconst (v := 4) hx hb dL_law_389 (by decide) ?_
          refine lv_icmp_ne (tgt := 457) hx hb dL_law_390 (by decide) (fun _ => ?_) (fun c_ => absurd c_ (show ¬ ((nI 8) = 4) by decide))
          refine lv_iload hx hb dL_law_457 (lv_at hl 4 rfl) ?_
          refine lv_bipush (v := 7) hx hb dL_law_459 (by decide) ?_
          refine lv_icmp_ge (tgt := 538) hx hb dL_law_461 (by decide) (fun _ => ?_) (fun c_ => absurd (show 7 ≤ (nI 8) by decide) c_)
          refine lv_iload hx hb dL_law_538 (lv_at hl 4 rfl) ?_
          refine lv_bipush (v := 7) hx hb dL_law_540 (by decide) ?_
          refine lv_icmp_ne (tgt := 601) hx hb dL_law_542 (by decide) (fun _ => ?_) (fun c_ => absurd c_ (show ¬ ((nI 8) = 7) by decide))
          refine lv_iload hx hb dL_law_601 (lv_at hl 4 rfl) ?_
          refine lv_bipush (v := 8) hx hb dL_law_603 (by decide) ?_
          refine lv_icmp_ne (tgt := 756) hx hb dL_law_605 (by decide) (fun c_ => absurd (show (nI 8) = 8 by decide) c_) (fun _ => ?_)
          refine lv_iload_n hx hb dL_law_608 rfl (lv_at hl 10 rfl) ?_
          refine lv_if_le (tgt := 756) hx hb dL_law_609 (by decide) (fun c_ => absurd c_ (nI_nle hn0w (by omega))) (fun _ => ?_)
          by_cases hg : f_X4_canGive σ (nI (ka % cnt σ)) (nI (kb % cnt σ)) (nI (1 + kc)) = 0
          · exact tc_transferN hst S hml hK hZ hT ht h1t hn0w hka hkb hkc hkd hg (by show k0 ≤ _; omega) (by show n0 ≤ _; omega) E (lv_sub hl [0, 1, 2, 3, 6, 7, 8, 9, 10, 11, 12, 13] rfl) K
          · exact tc_transfer hst S hml hK hZ hT ht h1t hn0w hka hkb hkc hkd hg (by show k0 ≤ _; omega) (by show n0 ≤ _; omega) E (lv_sub hl [0, 1, 2, 3, 6, 7, 8, 9, 10, 11, 12, 13] rfl) K
        · have hz0 : cnt σ = 0 := by omega
          refine lv_iload hx hb dL_law_106 (lv_at hl 4 rfl) ?_
          refine lv_if_eq (tgt := 117) hx hb dL_law_108 (by decide) (fun c_ => absurd c_ (show ¬ ((nI 8) = 0) by decide)) (fun _ => ?_)
          refine lv_iload hx hb dL_law_111 (lv_at hl 6 rfl) ?_
          refine lv_iconst (v := 3) hx hb dL_law_113 (by decide) ?_
          refine lv_icmp_ge (tgt := 216) hx hb dL_law_114 (by decide) (fun _ => ?_) (fun c_ => absurd (nI_le (a := 3) (b := t) (by omega) (by omega)) c_)
          refine lv_iload hx hb dL_law_216 (lv_at hl 4 rfl) ?_
          refine lv_iconst (v := 1) hx hb dL_law_218 (by decide) ?_
          refine lv_icmp_ne (tgt := 265) hx hb dL_law_219 (by decide) (fun _ => ?_) (fun c_ => absurd c_ (show ¬ ((nI 8) = 1) by decide))
          refine lv_iload hx hb dL_law_265 (lv_at hl 4 rfl) ?_
          refine lv_iconst (v := 2) hx hb dL_law_267 (by decide) ?_
          refine lv_icmp_ne (tgt := 333) hx hb dL_law_268 (by decide) (fun _ => ?_) (fun c_ => absurd c_ (show ¬ ((nI 8) = 2) by decide))
          refine lv_iload hx hb dL_law_333 (lv_at hl 4 rfl) ?_
          refine lv_iconst (v := 3) hx hb dL_law_335 (by decide) ?_
          refine lv_icmp_ne (tgt := 387) hx hb dL_law_336 (by decide) (fun _ => ?_) (fun c_ => absurd c_ (show ¬ ((nI 8) = 3) by decide))
          refine lv_iload hx hb dL_law_387 (lv_at hl 4 rfl) ?_
          refine lv_iconst (v := 4) hx hb dL_law_389 (by decide) ?_
          refine lv_icmp_ne (tgt := 457) hx hb dL_law_390 (by decide) (fun _ => ?_) (fun c_ => absurd c_ (show ¬ ((nI 8) = 4) by decide))
          refine lv_iload hx hb dL_law_457 (lv_at hl 4 rfl) ?_
          refine lv_bipush (v := 7) hx hb dL_law_459 (by decide) ?_
          refine lv_icmp_ge (tgt := 538) hx hb dL_law_461 (by decide) (fun _ => ?_) (fun c_ => absurd (show 7 ≤ (nI 8) by decide) c_)
          refine lv_iload hx hb dL_law_538 (lv_at hl 4 rfl) ?_
          refine lv_bipush (v := 7) hx hb dL_law_540 (by decide) ?_
          refine lv_icmp_ne (tgt := 601) hx hb dL_law_542 (by decide) (fun _ => ?_) (fun c_ => absurd c_ (show ¬ ((nI 8) = 7) by decide))
          refine lv_iload hx hb dL_law_601 (lv_at hl 4 rfl) ?_
          refine lv_bipush (v := 8) hx hb dL_law_603 (by decide) ?_
          refine lv_icmp_ne (tgt := 756) hx hb dL_law_605 (by decide) (fun c_ => absurd (show (nI 8) = 8 by decide) c_) (fun _ => ?_)
          refine lv_iload_n hx hb dL_law_608 rfl (lv_at hl 10 rfl) ?_
          refine lv_if_le (tgt := 756) hx hb dL_law_609 (by decide) (fun _ => ?_) (fun c_ => absurd (by rw [hz0]; decide) c_)
          by_cases hm6 : M + (1 + kc % 14) ≤ 600
          · exact tc_pass hst S hml hK hZ hT ht h1t hka hkb hkc hkd hm6 (by show k0 ≤ _; omega) (by show n0 ≤ _; omega) E (lv_sub hl [0, 1, 2, 3, 6, 7, 8, 9, 10, 11, 12, 13] rfl) K
          · exact tc_passN hst S hml hK hZ hT ht h1t hka hkb hkc hkd (by omega) (by show k0 ≤ _; omega) (by show n0 ≤ _; omega) E (lv_sub hl [0, 1, 2, 3, 6, 7, 8, 9, 10, 11, 12, 13] rfl) K2
      · skip
        refine lv_iload hx hb dL_law_106 (lv_at hl 4 rfl) ?_
        refine lv_if_eq (tgt := 117) hx hb dL_law_108 (by decide) (fun c_ => absurd c_ (show ¬ ((nI 9) = 0) by decide)) (fun _ => ?_)
        refine lv_iload hx hb dL_law_111 (lv_at hl 6 rfl) ?_
        refine lv_iconst (v := 3) hx hb dL_law_113 (by decide) ?_
        refine lv_icmp_ge (tgt := 216) hx hb dL_law_114 (by decide) (fun _ => ?_) (fun c_ => absurd (nI_le (a := 3) (b := t) (by omega) (by omega)) c_)
        refine lv_iload hx hb dL_law_216 (lv_at hl 4 rfl) ?_
        refine lv_iconst (v := 1) hx hb dL_law_218 (by decide) ?_
        refine lv_icmp_ne (tgt := 265) hx hb dL_law_219 (by decide) (fun _ => ?_) (fun c_ => absurd c_ (show ¬ ((nI 9) = 1) by decide))
        refine lv_iload hx hb dL_law_265 (lv_at hl 4 rfl) ?_
        refine lv_iconst (v := 2) hx hb dL_law_267 (by decide) ?_
        refine lv_icmp_ne (tgt := 333) hx hb dL_law_268 (by decide) (fun _ => ?_) (fun c_ => absurd c_ (show ¬ ((nI 9) = 2) by decide))
        refine lv_iload hx hb dL_law_333 (lv_at hl 4 rfl) ?_
        refine lv_iconst (v := 3) hx hb dL_law_335 (by decide) ?_
        refine lv_icmp_ne (tgt := 387) hx hb dL_law_336 (by decide) (fun _ => ?_) (fun c_ => absurd c_ (show ¬ ((nI 9) = 3) by decide))
        refine lv_iload hx hb dL_law_387 (lv_at hl 4 rfl) ?_
        refine lv_iconst (v := 4) hx hb dL_law_389 (by decide) ?_
        refine lv_icmp_ne (tgt := 457) hx hb dL_law_390 (by decide) (fun _ => ?_) (fun c_ => absurd c_ (show ¬ ((nI 9) = 4) by decide))
        refine lv_iload hx hb dL_law_457 (lv_at hl 4 rfl) ?_
        refine lv_bipush (v := 7) hx hb dL_law_459 (by decide) ?_
        refine lv_icmp_ge (tgt := 538) hx hb dL_law_461 (by decide) (fun _ => ?_) (fun c_ => absurd (show 7 ≤ (nI 9) by decide) c_)
        refine lv_iload hx hb dL_law_538 (lv_at hl 4 rfl) ?_
        refine lv_bipush (v := 7) hx hb dL_law_540 (by decide) ?_
        refine lv_icmp_ne (tgt := 601) hx hb dL_law_542 (by decide) (fun _ => ?_) (fun c_ => absurd c_ (show ¬ ((nI 9) = 7) by decide))
        refine lv_iload hx hb dL_law_601 (lv_at hl 4 rfl) ?_
        refine lv_bipush (v := 8) hx hb dL_law_603 (by decide) ?_
        refine lv_icmp_ne (tgt := 756) hx hb dL_law_605 (by decide) (fun _ => ?_) (fun c_ => absurd c_ (show ¬ ((nI 9) = 8) by decide))
        by_cases hm6 : M + (1 + kc % 14) ≤ 600
        · exact tc_pass hst S hml hK hZ hT ht h1t hka hkb hkc hkd hm6 (by show k0 ≤ _; omega) (by show n0 ≤ _; omega) E (lv_sub hl [0, 1, 2, 3, 6, 7, 8, 9, 10, 11, 12, 13] rfl) K
        · exact tc_passN hst S hml hK hZ hT ht h1t hka hkb hkc hkd (by omega) (by show k0 ≤ _; omega) (by show n0 ≤ _; omega) E (lv_sub hl [0, 1, 2, 3, 6, 7, 8, 9, 10, 11, 12, 13] rfl) K2
      · skip
        refine lv_iload hx hb dL_law_106 (lv_at hl 4 rfl) ?_
        refine lv_if_eq (tgt := 117) hx hb dL_law_108 (by decide) (fun c_ => absurd c_ (show ¬ ((nI 10) = 0) by decide)) (fun _ => ?_)
        refine lv_iload hx hb dL_law_111 (lv_at hl 6 rfl) ?_
        refine lv_iconst (v := 3) hx hb dL_law_113 (by decide) ?_
        refine lv_icmp_ge (tgt := 216) hx hb dL_law_114 (by decide) (fun _ => ?_) (fun c_ => absurd (nI_le (a := 3) (b := t) (by omega) (by omega)) c_)
        refine lv_iload hx hb dL_law_216 (lv_at hl 4 rfl) ?_
        refine lv_iconst (v := 1) hx hb dL_law_218 (by decide) ?_
        refine lv_icmp_ne (tgt := 265) hx hb dL_law_219 (by decide) (fun _ => ?_) (fun c_ => absurd c_ (show ¬ ((nI 10) = 1) by decide))
        refine lv_iload hx hb dL_law_265 (lv_at hl 4 rfl) ?_
        refine lv_iconst (v := 2) hx hb dL_law_267 (by decide) ?_
        refine lv_icmp_ne (tgt := 333) hx hb dL_law_268 (by decide) (fun _ => ?_) (fun c_ => absurd c_ (show ¬ ((nI 10) = 2) by decide))
        refine lv_iload hx hb dL_law_333 (lv_at hl 4 rfl) ?_
        refine lv_iconst (v := 3) hx hb dL_law_335 (by decide) ?_
        refine lv_icmp_ne (tgt := 387) hx hb dL_law_336 (by decide) (fun _ => ?_) (fun c_ => absurd c_ (show ¬ ((nI 10) = 3) by decide))
        refine lv_iload hx hb dL_law_387 (lv_at hl 4 rfl) ?_
        refine lv_iconst (v := 4) hx hb dL_law_389 (by decide) ?_
        refine lv_icmp_ne (tgt := 457) hx hb dL_law_390 (by decide) (fun _ => ?_) (fun c_ => absurd c_ (show ¬ ((nI 10) = 4) by decide))
        refine lv_iload hx hb dL_law_457 (lv_at hl 4 rfl) ?_
        refine lv_bipush (v := 7) hx hb dL_law_459 (by decide) ?_
        refine lv_icmp_ge (tgt := 538) hx hb dL_law_461 (by decide) (fun _ => ?_) (fun c_ => absurd (show 7 ≤ (nI 10) by decide) c_)
        refine lv_iload hx hb dL_law_538 (lv_at hl 4 rfl) ?_
        refine lv_bipush (v := 7) hx hb dL_law_540 (by decide) ?_
        refine lv_icmp_ne (tgt := 601) hx hb dL_law_542 (by decide) (fun _ => ?_) (fun c_ => absurd c_ (show ¬ ((nI 10) = 7) by decide))
        refine lv_iload hx hb dL_law_601 (lv_at hl 4 rfl) ?_
        refine lv_bipush (v := 8) hx hb dL_law_603 (by decide) ?_
        refine lv_icmp_ne (tgt := 756) hx hb dL_law_605 (by decide) (fun _ => ?_) (fun c_ => absurd c_ (show ¬ ((nI 10) = 8) by decide))
        by_cases hm6 : M + (1 + kc % 14) ≤ 600
        · exact tc_pass hst S hml hK hZ hT ht h1t hka hkb hkc hkd hm6 (by show k0 ≤ _; omega) (by show n0 ≤ _; omega) E (lv_sub hl [0, 1, 2, 3, 6, 7, 8, 9, 10, 11, 12, 13] rfl) K
        · exact tc_passN hst S hml hK hZ hT ht h1t hka hkb hkc hkd (by omega) (by show k0 ≤ _; omega) (by show n0 ≤ _; omega) E (lv_sub hl [0, 1, 2, 3, 6, 7, 8, 9, 10, 11, 12, 13] rfl) K2
      · skip
        refine lv_iload hx hb dL_law_106 (lv_at hl 4 rfl) ?_
        refine lv_if_eq (tgt := 117) hx hb dL_law_108 (by decide) (fun c_ => absurd c_ (show ¬ ((nI 11) = 0) by decide)) (fun _ => ?_)
        refine lv_iload hx hb dL_law_111 (lv_at hl 6 rfl) ?_
        refine lv_iconst (v := 3) hx hb dL_law_113 (by decide) ?_
        refine lv_icmp_ge (tgt := 216) hx hb dL_law_114 (by decide) (fun _ => ?_) (fun c_ => absurd (nI_le (a := 3) (b := t) (by omega) (by omega)) c_)
        refine lv_iload hx hb dL_law_216 (lv_at hl 4 rfl) ?_
        refine lv_iconst (v := 1) hx hb dL_law_218 (by decide) ?_
        refine lv_icmp_ne (tgt := 265) hx hb dL_law_219 (by decide) (fun _ => ?_) (fun c_ => absurd c_ (show ¬ ((nI 11) = 1) by decide))
        refine lv_iload hx hb dL_law_265 (lv_at hl 4 rfl) ?_
        refine lv_iconst (v := 2) hx hb dL_law_267 (by decide) ?_
        refine lv_icmp_ne (tgt := 333) hx hb dL_law_268 (by decide) (fun _ => ?_) (fun c_ => absurd c_ (show ¬ ((nI 11) = 2) by decide))
        refine lv_iload hx hb dL_law_333 (lv_at hl 4 rfl) ?_
        refine lv_iconst (v := 3) hx hb dL_law_335 (by decide) ?_
        refine lv_icmp_ne (tgt := 387) hx hb dL_law_336 (by decide) (fun _ => ?_) (fun c_ => absurd c_ (show ¬ ((nI 11) = 3) by decide))
        refine lv_iload hx hb dL_law_387 (lv_at hl 4 rfl) ?_
        refine lv_iconst (v := 4) hx hb dL_law_389 (by decide) ?_
        refine lv_icmp_ne (tgt := 457) hx hb dL_law_390 (by decide) (fun _ => ?_) (fun c_ => absurd c_ (show ¬ ((nI 11) = 4) by decide))
        refine lv_iload hx hb dL_law_457 (lv_at hl 4 rfl) ?_
        refine lv_bipush (v := 7) hx hb dL_law_459 (by decide) ?_
        refine lv_icmp_ge (tgt := 538) hx hb dL_law_461 (by decide) (fun _ => ?_) (fun c_ => absurd (show 7 ≤ (nI 11) by decide) c_)
        refine lv_iload hx hb dL_law_538 (lv_at hl 4 rfl) ?_
        refine lv_bipush (v := 7) hx hb dL_law_540 (by decide) ?_
        refine lv_icmp_ne (tgt := 601) hx hb dL_law_542 (by decide) (fun _ => ?_) (fun c_ => absurd c_ (show ¬ ((nI 11) = 7) by decide))
        refine lv_iload hx hb dL_law_601 (lv_at hl 4 rfl) ?_
        refine lv_bipush (v := 8) hx hb dL_law_603 (by decide) ?_
        refine lv_icmp_ne (tgt := 756) hx hb dL_law_605 (by decide) (fun _ => ?_) (fun c_ => absurd c_ (show ¬ ((nI 11) = 8) by decide))
        by_cases hm6 : M + (1 + kc % 14) ≤ 600
        · exact tc_pass hst S hml hK hZ hT ht h1t hka hkb hkc hkd hm6 (by show k0 ≤ _; omega) (by show n0 ≤ _; omega) E (lv_sub hl [0, 1, 2, 3, 6, 7, 8, 9, 10, 11, 12, 13] rfl) K
        · exact tc_passN hst S hml hK hZ hT ht h1t hka hkb hkc hkd (by omega) (by show k0 ≤ _; omega) (by show n0 ≤ _; omega) E (lv_sub hl [0, 1, 2, 3, 6, 7, 8, 9, 10, 11, 12, 13] rfl) K2
      · skip
        refine lv_iload hx hb dL_law_106 (lv_at hl 4 rfl) ?_
        refine lv_if_eq (tgt := 117) hx hb dL_law_108 (by decide) (fun c_ => absurd c_ (show ¬ ((nI 12) = 0) by decide)) (fun _ => ?_)
        refine lv_iload hx hb dL_law_111 (lv_at hl 6 rfl) ?_
        refine lv_iconst (v := 3) hx hb dL_law_113 (by decide) ?_
        refine lv_icmp_ge (tgt := 216) hx hb dL_law_114 (by decide) (fun _ => ?_) (fun c_ => absurd (nI_le (a := 3) (b := t) (by omega) (by omega)) c_)
        refine lv_iload hx hb dL_law_216 (lv_at hl 4 rfl) ?_
        refine lv_iconst (v := 1) hx hb dL_law_218 (by decide) ?_
        refine lv_icmp_ne (tgt := 265) hx hb dL_law_219 (by decide) (fun _ => ?_) (fun c_ => absurd c_ (show ¬ ((nI 12) = 1) by decide))
        refine lv_iload hx hb dL_law_265 (lv_at hl 4 rfl) ?_
        refine lv_iconst (v := 2) hx hb dL_law_267 (by decide) ?_
        refine lv_icmp_ne (tgt := 333) hx hb dL_law_268 (by decide) (fun _ => ?_) (fun c_ => absurd c_ (show ¬ ((nI 12) = 2) by decide))
        refine lv_iload hx hb dL_law_333 (lv_at hl 4 rfl) ?_
        refine lv_iconst (v := 3) hx hb dL_law_335 (by decide) ?_
        refine lv_icmp_ne (tgt := 387) hx hb dL_law_336 (by decide) (fun _ => ?_) (fun c_ => absurd c_ (show ¬ ((nI 12) = 3) by decide))
        refine lv_iload hx hb dL_law_387 (lv_at hl 4 rfl) ?_
        refine lv_iconst (v := 4) hx hb dL_law_389 (by decide) ?_
        refine lv_icmp_ne (tgt := 457) hx hb dL_law_390 (by decide) (fun _ => ?_) (fun c_ => absurd c_ (show ¬ ((nI 12) = 4) by decide))
        refine lv_iload hx hb dL_law_457 (lv_at hl 4 rfl) ?_
        refine lv_bipush (v := 7) hx hb dL_law_459 (by decide) ?_
        refine lv_icmp_ge (tgt := 538) hx hb dL_law_461 (by decide) (fun _ => ?_) (fun c_ => absurd (show 7 ≤ (nI 12) by decide) c_)
        refine lv_iload hx hb dL_law_538 (lv_at hl 4 rfl) ?_
        refine lv_bipush (v := 7) hx hb dL_law_540 (by decide) ?_
        refine lv_icmp_ne (tgt := 601) hx hb dL_law_542 (by decide) (fun _ => ?_) (fun c_ => absurd c_ (show ¬ ((nI 12) = 7) by decide))
        refine lv_iload hx hb dL_law_601 (lv_at hl 4 rfl) ?_
        refine lv_bipush (v := 8) hx hb dL_law_603 (by decide) ?_
        refine lv_icmp_ne (tgt := 756) hx hb dL_law_605 (by decide) (fun _ => ?_) (fun c_ => absurd c_ (show ¬ ((nI 12) = 8) by decide))
        by_cases hm6 : M + (1 + kc % 14) ≤ 600
        · exact tc_pass hst S hml hK hZ hT ht h1t hka hkb hkc hkd hm6 (by show k0 ≤ _; omega) (by show n0 ≤ _; omega) E (lv_sub hl [0, 1, 2, 3, 6, 7, 8, 9, 10, 11, 12, 13] rfl) K
        · exact tc_passN hst S hml hK hZ hT ht h1t hka hkb hkc hkd (by omega) (by show k0 ≤ _; omega) (by show n0 ≤ _; omega) E (lv_sub hl [0, 1, 2, 3, 6, 7, 8, 9, 10, 11, 12, 13] rfl) K2
