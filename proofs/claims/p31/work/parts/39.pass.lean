set_option maxHeartbeats 2000000 in
set_option maxRecDepth 100000 in
/-- the events, letter by letter -/
theorem tp_ev {p : Program} {l : Launch} {e : Env} {s : State} {m : MethodId} {below : List Frame} {meth : Method} {c : Code} {sb : Nat} {g : Gm} {yr : Nat} {qo qp : Fx} (hst : l.stackTraces = false) (S : Sta p c cL_law s #[.ref sb] RL m) (hml : c.maxLocals = 20) (hK : va_K g.1 vwC (tysG g) s) (hZ : Zs g (fun q => s.heap.size ≤ q) s s.heap) {yf : Nat → Int32} {uo up : SOB} {t C M A : Nat} {σ : Sg} {mm : Nat} (hI : Inv C M σ) (hm0 : 0 < mm) (hm6 : M + mm ≤ 600) (hUo : OkU uo) (hno : uo.2.2.2.2 ≠ [])  (hUp : OkU up) (hnp : up.2.2.2.2 ≠ []) {k0 n0 : Nat} (hk0 : k0 ≤ 500000) (hn0 : n0 ≤ 6000000) (K : ∀ (H : Heap) (locs : List Loc) (ls : Array Slot), Ev g (fun q => s.heap.size ≤ q) s.heap H locs (LW g yr yf qo qp uo up (f_months mm σ) (f_months mm σ)) → lv_has ls 20 [(7, .int (nI t)), (6, .ref yr), (5, .int (nI A)), (4, .int (nI (M + mm))), (3, .int (nI (cnt σ))), (2, .ref qp.1), (1, .ref qo.1), (0, .ref sb)] → W p l e room_1 s m #[.ref sb] below meth c H locs k0 n0 (lw_Z below #[.ref sb] s) (F0 m 1101 ls [])) : ∀ (r i : Nat), i + r = en (f_months mm σ) → ∀ (H : Heap) (locs : List Loc) (ls : Array Slot), Ev g (fun q => s.heap.size ≤ q) s.heap H locs (LW g yr yf qo qp uo up (f_months mm σ) (f_months mm σ)) → lv_has ls 20 [(19, .int (nI i)), (7, .int (nI t)), (6, .ref yr), (5, .int (nI A)), (4, .int (nI (M + mm))), (3, .int (nI (cnt σ))), (2, .ref qp.1), (1, .ref qo.1), (0, .ref sb)] → W p l e room_1 s m #[.ref sb] below meth c H locs k0 n0 (lw_Z below #[.ref sb] s) (F0 m 1036 ls []) := by
  have hx := S.1
  have hb := S.2.1
  have hA : ∀ q : Nat, s.heap.size ≤ q → s.heap.size ≤ q := fun _ h => h
  have iT := (inv_months mm M σ hI hm6).1
  have hcn := ps_c hI hm6
  have h6 := hI.wf.le
  have hEn := iT.en
  intro r
  induction r with
  | zero =>
    intro i hi H locs ls E hl
    have hie : i = en (f_months mm σ) := by omega
    subst hie
    refine lv_iload hx hb dL_law_1036 (lv_at hl 0 rfl) ?_
    refine lv_aload_n hx hb dL_law_1038 rfl (lv_at hl 7 rfl) ?_
    have E1 : Ev g _ s.heap H locs ((([(yr, .inl (g.2.1 0, 6, .inl yf))] ++ OB g qp up (f_months mm σ)) ++ (OR g qo ++ DL g qo uo)) ++ OX g qo uo.1 (f_months mm σ)) := E.perm pm_xo
    refine w_reti (runV_X (As := []) (rest := [.int (nI (en (f_months mm σ)))]) (q0 := 0) (n := 0) S hml hK (hZ.at E) (Cut.app E1 hA) (c_G_events l g qo uo.1 (f_months mm σ) _ _) (gi_wsV ml_L_167 im_X6_events sl_X6_events in_X6 co_X6_events) ⟨rfl, by decide +kernel, by decide +kernel, by decide +kernel⟩ ⟨Nat.le_of_ble_eq_true rfl, Nat.le_of_ble_eq_true rfl⟩ rfl rfl rfl hl.1 rfl (Nat.le_of_ble_eq_true rfl) dL_law_1039 ⟨by show k0 + 0 ≤ 600312; omega, by show n0 + 0 ≤ 7292162; omega⟩) (Cut.app E1 hA) E1 (fun r1 u1 H locs hp E2 => ?_)
    have hr := hp
    have hr := hr.trans (ps_n iT)
    subst hr
    have E : Ev g _ s.heap H locs (LW g yr yf qo qp uo up (f_months mm σ) (f_months mm σ)) := E2.perm pm_xo.symm
    refine lv_icmp_ge (tgt := 1101) hx hb dL_law_1042 (by decide) (fun _ => ?_) (fun c_ => absurd (nI_le (Nat.le_refl _) (by omega)) c_)
    exact K H locs ls E (lv_sub hl [1, 2, 3, 4, 5, 6, 7, 8] rfl)
  | succ r ih =>
    intro i hi H locs ls E hl
    rcases ps_ch (k := i) hI hm6 (by omega) with hv | hv | hv
    · skip
      refine lv_iload hx hb dL_law_1036 (lv_at hl 0 rfl) ?_
      refine lv_aload_n hx hb dL_law_1038 rfl (lv_at hl 7 rfl) ?_
      have E1 : Ev g _ s.heap H locs ((([(yr, .inl (g.2.1 0, 6, .inl yf))] ++ OB g qp up (f_months mm σ)) ++ (OR g qo ++ DL g qo uo)) ++ OX g qo uo.1 (f_months mm σ)) := E.perm pm_xo
      refine w_reti (runV_X (As := []) (rest := [.int (nI i)]) (q0 := 0) (n := 0) S hml hK (hZ.at E) (Cut.app E1 hA) (c_G_events l g qo uo.1 (f_months mm σ) _ _) (gi_wsV ml_L_167 im_X6_events sl_X6_events in_X6 co_X6_events) ⟨rfl, by decide +kernel, by decide +kernel, by decide +kernel⟩ ⟨Nat.le_of_ble_eq_true rfl, Nat.le_of_ble_eq_true rfl⟩ rfl rfl rfl hl.1 rfl (Nat.le_of_ble_eq_true rfl) dL_law_1039 ⟨by show k0 + 0 ≤ 600312; omega, by show n0 + 0 ≤ 7292162; omega⟩) (Cut.app E1 hA) E1 (fun r2 u2 H locs hp E2 => ?_)
      have hr := hp
      have hr := hr.trans (ps_n iT)
      subst hr
      have E : Ev g _ s.heap H locs (LW g yr yf qo qp uo up (f_months mm σ) (f_months mm σ)) := E2.perm pm_xo.symm
      refine lv_icmp_ge (tgt := 1101) hx hb dL_law_1042 (by decide) (fun c_ => absurd c_ (nI_ge (a := i) (b := (en (f_months mm σ))) (by omega) (by omega))) (fun _ => ?_)
      refine lv_aload_n hx hb dL_law_1045 rfl (lv_at hl 7 rfl) ?_
      refine lv_iload hx hb dL_law_1046 (lv_at hl 0 rfl) ?_
      have E1 : Ev g _ s.heap H locs (([(yr, .inl (g.2.1 0, 6, .inl yf))] ++ OB g qp up (f_months mm σ)) ++ OB g qo uo (f_months mm σ)) := E.perm pm_lo
      refine y_reti (yrunH (As := [.ref qo.1, .int (nI i)]) (rest := []) (n := 2) S hml hK (hZ.at E) (Cut.app E1 hA) (c_L_eventAt l g hst qo uo (f_months mm σ) i (by omega) iT.ev (by omega) _ _) ml_L_177 st_L_eventAt in_L rfl co_L_eventAt ⟨by decide +kernel, by decide +kernel, by decide +kernel⟩ ⟨Nat.le_of_ble_eq_true rfl, Nat.le_of_ble_eq_true rfl⟩ rfl hl.1 rfl (Nat.le_of_ble_eq_true rfl) dL_law_1048 ⟨by show k0 + 10 ≤ 600312; omega, by show n0 + 100 ≤ 7292162; omega⟩) (Cut.app E1 hA) E1 (fun En ce q9 H locs hp E hce hcv hcl => (False.elim hp)) (fun r3 u3 H locs hp E2 => ?_)
      have hr := hp
      have hr := hr.trans hv
      subst hr
      have E : Ev g _ s.heap H locs (LW g yr yf qo qp uo up (f_months mm σ) (f_months mm σ)) := E2.perm pm_lo.symm
      refine lv_aload_n hx hb dL_law_1051 rfl (lv_at hl 6 rfl) ?_
      refine lv_iload hx hb dL_law_1052 (lv_at hl 0 rfl) ?_
      have E1 : Ev g _ s.heap H locs (([(yr, .inl (g.2.1 0, 6, .inl yf))] ++ OB g qo uo (f_months mm σ)) ++ OB g qp up (f_months mm σ)) := E.perm pm_lp
      refine y_reti (yrunH (As := [.ref qp.1, .int (nI i)]) (rest := [.int 99]) (n := 2) S hml hK (hZ.at E) (Cut.app E1 hA) (c_L_eventAt l g hst qp up (f_months mm σ) i (by omega) iT.ev (by omega) _ _) ml_L_177 st_L_eventAt in_L rfl co_L_eventAt ⟨by decide +kernel, by decide +kernel, by decide +kernel⟩ ⟨Nat.le_of_ble_eq_true rfl, Nat.le_of_ble_eq_true rfl⟩ rfl hl.1 rfl (Nat.le_of_ble_eq_true rfl) dL_law_1054 ⟨by show k0 + 10 ≤ 600312; omega, by show n0 + 100 ≤ 7292162; omega⟩) (Cut.app E1 hA) E1 (fun En ce q9 H locs hp E hce hcv hcl => (False.elim hp)) (fun r4 u4 H locs hp E2 => ?_)
      have hr := hp
      have hr := hr.trans hv
      subst hr
      have E : Ev g _ s.heap H locs (LW g yr yf qo qp uo up (f_months mm σ) (f_months mm σ)) := E2.perm pm_lp.symm
      refine lv_icmp_ne (tgt := 1093) hx hb dL_law_1057 (by decide) (fun c_ => absurd rfl c_) (fun _ => ?_)
      refine lv_aload_n hx hb dL_law_1060 rfl (lv_at hl 7 rfl) ?_
      refine lv_iload hx hb dL_law_1061 (lv_at hl 0 rfl) ?_
      have E1 : Ev g _ s.heap H locs (([(yr, .inl (g.2.1 0, 6, .inl yf))] ++ OB g qp up (f_months mm σ)) ++ OB g qo uo (f_months mm σ)) := E.perm pm_lo
      refine y_reti (yrunH (As := [.ref qo.1, .int (nI i)]) (rest := []) (n := 2) S hml hK (hZ.at E) (Cut.app E1 hA) (c_L_eventAt l g hst qo uo (f_months mm σ) i (by omega) iT.ev (by omega) _ _) ml_L_177 st_L_eventAt in_L rfl co_L_eventAt ⟨by decide +kernel, by decide +kernel, by decide +kernel⟩ ⟨Nat.le_of_ble_eq_true rfl, Nat.le_of_ble_eq_true rfl⟩ rfl hl.1 rfl (Nat.le_of_ble_eq_true rfl) dL_law_1063 ⟨by show k0 + 10 ≤ 600312; omega, by show n0 + 100 ≤ 7292162; omega⟩) (Cut.app E1 hA) E1 (fun En ce q9 H locs hp E hce hcv hcl => (False.elim hp)) (fun r5 u5 H locs hp E2 => ?_)
      have hr := hp
      have hr := hr.trans hv
      subst hr
      have E : Ev g _ s.heap H locs (LW g yr yf qo qp uo up (f_months mm σ) (f_months mm σ)) := E2.perm pm_lo.symm
      refine lv_bipush (v := 99) hx hb dL_law_1066 (by decide) ?_
      refine lv_icmp_eq (tgt := 1095) hx hb dL_law_1068 (by decide) (fun _ => ?_) (fun c_ => absurd rfl c_)
      refine lv_iinc (v := (nI (i + 1))) (lv' := [(19, .int (nI (i + 1))), (7, .int (nI t)), (6, .ref yr), (5, .int (nI A)), (4, .int (nI (M + mm))), (3, .int (nI (cnt σ))), (2, .ref qp.1), (1, .ref qo.1), (0, .ref sb)]) hx hb dL_law_1095 hl (k := 0) rfl (nI_1 i) (by decide) rfl (fun ls hl => ?_)
      refine lv_goto (tgt := 1036) hx hb dL_law_1098 (by decide) ?_
      exact ih (i + 1) (by omega) H locs ls E (lv_sub hl [0, 1, 2, 3, 4, 5, 6, 7, 8] rfl)
    · skip
      refine lv_iload hx hb dL_law_1036 (lv_at hl 0 rfl) ?_
      refine lv_aload_n hx hb dL_law_1038 rfl (lv_at hl 7 rfl) ?_
      have E1 : Ev g _ s.heap H locs ((([(yr, .inl (g.2.1 0, 6, .inl yf))] ++ OB g qp up (f_months mm σ)) ++ (OR g qo ++ DL g qo uo)) ++ OX g qo uo.1 (f_months mm σ)) := E.perm pm_xo
      refine w_reti (runV_X (As := []) (rest := [.int (nI i)]) (q0 := 0) (n := 0) S hml hK (hZ.at E) (Cut.app E1 hA) (c_G_events l g qo uo.1 (f_months mm σ) _ _) (gi_wsV ml_L_167 im_X6_events sl_X6_events in_X6 co_X6_events) ⟨rfl, by decide +kernel, by decide +kernel, by decide +kernel⟩ ⟨Nat.le_of_ble_eq_true rfl, Nat.le_of_ble_eq_true rfl⟩ rfl rfl rfl hl.1 rfl (Nat.le_of_ble_eq_true rfl) dL_law_1039 ⟨by show k0 + 0 ≤ 600312; omega, by show n0 + 0 ≤ 7292162; omega⟩) (Cut.app E1 hA) E1 (fun r6 u6 H locs hp E2 => ?_)
      have hr := hp
      have hr := hr.trans (ps_n iT)
      subst hr
      have E : Ev g _ s.heap H locs (LW g yr yf qo qp uo up (f_months mm σ) (f_months mm σ)) := E2.perm pm_xo.symm
      refine lv_icmp_ge (tgt := 1101) hx hb dL_law_1042 (by decide) (fun c_ => absurd c_ (nI_ge (a := i) (b := (en (f_months mm σ))) (by omega) (by omega))) (fun _ => ?_)
      refine lv_aload_n hx hb dL_law_1045 rfl (lv_at hl 7 rfl) ?_
      refine lv_iload hx hb dL_law_1046 (lv_at hl 0 rfl) ?_
      have E1 : Ev g _ s.heap H locs (([(yr, .inl (g.2.1 0, 6, .inl yf))] ++ OB g qp up (f_months mm σ)) ++ OB g qo uo (f_months mm σ)) := E.perm pm_lo
      refine y_reti (yrunH (As := [.ref qo.1, .int (nI i)]) (rest := []) (n := 2) S hml hK (hZ.at E) (Cut.app E1 hA) (c_L_eventAt l g hst qo uo (f_months mm σ) i (by omega) iT.ev (by omega) _ _) ml_L_177 st_L_eventAt in_L rfl co_L_eventAt ⟨by decide +kernel, by decide +kernel, by decide +kernel⟩ ⟨Nat.le_of_ble_eq_true rfl, Nat.le_of_ble_eq_true rfl⟩ rfl hl.1 rfl (Nat.le_of_ble_eq_true rfl) dL_law_1048 ⟨by show k0 + 10 ≤ 600312; omega, by show n0 + 100 ≤ 7292162; omega⟩) (Cut.app E1 hA) E1 (fun En ce q9 H locs hp E hce hcv hcl => (False.elim hp)) (fun r7 u7 H locs hp E2 => ?_)
      have hr := hp
      have hr := hr.trans hv
      subst hr
      have E : Ev g _ s.heap H locs (LW g yr yf qo qp uo up (f_months mm σ) (f_months mm σ)) := E2.perm pm_lo.symm
      refine lv_aload_n hx hb dL_law_1051 rfl (lv_at hl 6 rfl) ?_
      refine lv_iload hx hb dL_law_1052 (lv_at hl 0 rfl) ?_
      have E1 : Ev g _ s.heap H locs (([(yr, .inl (g.2.1 0, 6, .inl yf))] ++ OB g qo uo (f_months mm σ)) ++ OB g qp up (f_months mm σ)) := E.perm pm_lp
      refine y_reti (yrunH (As := [.ref qp.1, .int (nI i)]) (rest := [.int 100]) (n := 2) S hml hK (hZ.at E) (Cut.app E1 hA) (c_L_eventAt l g hst qp up (f_months mm σ) i (by omega) iT.ev (by omega) _ _) ml_L_177 st_L_eventAt in_L rfl co_L_eventAt ⟨by decide +kernel, by decide +kernel, by decide +kernel⟩ ⟨Nat.le_of_ble_eq_true rfl, Nat.le_of_ble_eq_true rfl⟩ rfl hl.1 rfl (Nat.le_of_ble_eq_true rfl) dL_law_1054 ⟨by show k0 + 10 ≤ 600312; omega, by show n0 + 100 ≤ 7292162; omega⟩) (Cut.app E1 hA) E1 (fun En ce q9 H locs hp E hce hcv hcl => (False.elim hp)) (fun r8 u8 H locs hp E2 => ?_)
      have hr := hp
      have hr := hr.trans hv
      subst hr
      have E : Ev g _ s.heap H locs (LW g yr yf qo qp uo up (f_months mm σ) (f_months mm σ)) := E2.perm pm_lp.symm
      refine lv_icmp_ne (tgt := 1093) hx hb dL_law_1057 (by decide) (fun c_ => absurd rfl c_) (fun _ => ?_)
      refine lv_aload_n hx hb dL_law_1060 rfl (lv_at hl 7 rfl) ?_
      refine lv_iload hx hb dL_law_1061 (lv_at hl 0 rfl) ?_
      have E1 : Ev g _ s.heap H locs (([(yr, .inl (g.2.1 0, 6, .inl yf))] ++ OB g qp up (f_months mm σ)) ++ OB g qo uo (f_months mm σ)) := E.perm pm_lo
      refine y_reti (yrunH (As := [.ref qo.1, .int (nI i)]) (rest := []) (n := 2) S hml hK (hZ.at E) (Cut.app E1 hA) (c_L_eventAt l g hst qo uo (f_months mm σ) i (by omega) iT.ev (by omega) _ _) ml_L_177 st_L_eventAt in_L rfl co_L_eventAt ⟨by decide +kernel, by decide +kernel, by decide +kernel⟩ ⟨Nat.le_of_ble_eq_true rfl, Nat.le_of_ble_eq_true rfl⟩ rfl hl.1 rfl (Nat.le_of_ble_eq_true rfl) dL_law_1063 ⟨by show k0 + 10 ≤ 600312; omega, by show n0 + 100 ≤ 7292162; omega⟩) (Cut.app E1 hA) E1 (fun En ce q9 H locs hp E hce hcv hcl => (False.elim hp)) (fun r9 u9 H locs hp E2 => ?_)
      have hr := hp
      have hr := hr.trans hv
      subst hr
      have E : Ev g _ s.heap H locs (LW g yr yf qo qp uo up (f_months mm σ) (f_months mm σ)) := E2.perm pm_lo.symm
      refine lv_bipush (v := 99) hx hb dL_law_1066 (by decide) ?_
      refine lv_icmp_eq (tgt := 1095) hx hb dL_law_1068 (by decide) (fun c_ => absurd c_ (show ¬ ((100 : Int32) = (99 : Int32)) by decide)) (fun _ => ?_)
      refine lv_aload_n hx hb dL_law_1071 rfl (lv_at hl 7 rfl) ?_
      refine lv_iload hx hb dL_law_1072 (lv_at hl 0 rfl) ?_
      have E1 : Ev g _ s.heap H locs (([(yr, .inl (g.2.1 0, 6, .inl yf))] ++ OB g qp up (f_months mm σ)) ++ OB g qo uo (f_months mm σ)) := E.perm pm_lo
      refine y_reti (yrunH (As := [.ref qo.1, .int (nI i)]) (rest := []) (n := 2) S hml hK (hZ.at E) (Cut.app E1 hA) (c_L_eventAt l g hst qo uo (f_months mm σ) i (by omega) iT.ev (by omega) _ _) ml_L_177 st_L_eventAt in_L rfl co_L_eventAt ⟨by decide +kernel, by decide +kernel, by decide +kernel⟩ ⟨Nat.le_of_ble_eq_true rfl, Nat.le_of_ble_eq_true rfl⟩ rfl hl.1 rfl (Nat.le_of_ble_eq_true rfl) dL_law_1074 ⟨by show k0 + 10 ≤ 600312; omega, by show n0 + 100 ≤ 7292162; omega⟩) (Cut.app E1 hA) E1 (fun En ce q9 H locs hp E hce hcv hcl => (False.elim hp)) (fun r10 u10 H locs hp E2 => ?_)
      have hr := hp
      have hr := hr.trans hv
      subst hr
      have E : Ev g _ s.heap H locs (LW g yr yf qo qp uo up (f_months mm σ) (f_months mm σ)) := E2.perm pm_lo.symm
      refine lv_bipush (v := 100) hx hb dL_law_1077 (by decide) ?_
      refine lv_icmp_eq (tgt := 1095) hx hb dL_law_1079 (by decide) (fun _ => ?_) (fun c_ => absurd rfl c_)
      refine lv_iinc (v := (nI (i + 1))) (lv' := [(19, .int (nI (i + 1))), (7, .int (nI t)), (6, .ref yr), (5, .int (nI A)), (4, .int (nI (M + mm))), (3, .int (nI (cnt σ))), (2, .ref qp.1), (1, .ref qo.1), (0, .ref sb)]) hx hb dL_law_1095 hl (k := 0) rfl (nI_1 i) (by decide) rfl (fun ls hl => ?_)
      refine lv_goto (tgt := 1036) hx hb dL_law_1098 (by decide) ?_
      exact ih (i + 1) (by omega) H locs ls E (lv_sub hl [0, 1, 2, 3, 4, 5, 6, 7, 8] rfl)
    · skip
      refine lv_iload hx hb dL_law_1036 (lv_at hl 0 rfl) ?_
      refine lv_aload_n hx hb dL_law_1038 rfl (lv_at hl 7 rfl) ?_
      have E1 : Ev g _ s.heap H locs ((([(yr, .inl (g.2.1 0, 6, .inl yf))] ++ OB g qp up (f_months mm σ)) ++ (OR g qo ++ DL g qo uo)) ++ OX g qo uo.1 (f_months mm σ)) := E.perm pm_xo
      refine w_reti (runV_X (As := []) (rest := [.int (nI i)]) (q0 := 0) (n := 0) S hml hK (hZ.at E) (Cut.app E1 hA) (c_G_events l g qo uo.1 (f_months mm σ) _ _) (gi_wsV ml_L_167 im_X6_events sl_X6_events in_X6 co_X6_events) ⟨rfl, by decide +kernel, by decide +kernel, by decide +kernel⟩ ⟨Nat.le_of_ble_eq_true rfl, Nat.le_of_ble_eq_true rfl⟩ rfl rfl rfl hl.1 rfl (Nat.le_of_ble_eq_true rfl) dL_law_1039 ⟨by show k0 + 0 ≤ 600312; omega, by show n0 + 0 ≤ 7292162; omega⟩) (Cut.app E1 hA) E1 (fun r11 u11 H locs hp E2 => ?_)
      have hr := hp
      have hr := hr.trans (ps_n iT)
      subst hr
      have E : Ev g _ s.heap H locs (LW g yr yf qo qp uo up (f_months mm σ) (f_months mm σ)) := E2.perm pm_xo.symm
      refine lv_icmp_ge (tgt := 1101) hx hb dL_law_1042 (by decide) (fun c_ => absurd c_ (nI_ge (a := i) (b := (en (f_months mm σ))) (by omega) (by omega))) (fun _ => ?_)
      refine lv_aload_n hx hb dL_law_1045 rfl (lv_at hl 7 rfl) ?_
      refine lv_iload hx hb dL_law_1046 (lv_at hl 0 rfl) ?_
      have E1 : Ev g _ s.heap H locs (([(yr, .inl (g.2.1 0, 6, .inl yf))] ++ OB g qp up (f_months mm σ)) ++ OB g qo uo (f_months mm σ)) := E.perm pm_lo
      refine y_reti (yrunH (As := [.ref qo.1, .int (nI i)]) (rest := []) (n := 2) S hml hK (hZ.at E) (Cut.app E1 hA) (c_L_eventAt l g hst qo uo (f_months mm σ) i (by omega) iT.ev (by omega) _ _) ml_L_177 st_L_eventAt in_L rfl co_L_eventAt ⟨by decide +kernel, by decide +kernel, by decide +kernel⟩ ⟨Nat.le_of_ble_eq_true rfl, Nat.le_of_ble_eq_true rfl⟩ rfl hl.1 rfl (Nat.le_of_ble_eq_true rfl) dL_law_1048 ⟨by show k0 + 10 ≤ 600312; omega, by show n0 + 100 ≤ 7292162; omega⟩) (Cut.app E1 hA) E1 (fun En ce q9 H locs hp E hce hcv hcl => (False.elim hp)) (fun r12 u12 H locs hp E2 => ?_)
      have hr := hp
      have hr := hr.trans hv
      subst hr
      have E : Ev g _ s.heap H locs (LW g yr yf qo qp uo up (f_months mm σ) (f_months mm σ)) := E2.perm pm_lo.symm
      refine lv_aload_n hx hb dL_law_1051 rfl (lv_at hl 6 rfl) ?_
      refine lv_iload hx hb dL_law_1052 (lv_at hl 0 rfl) ?_
      have E1 : Ev g _ s.heap H locs (([(yr, .inl (g.2.1 0, 6, .inl yf))] ++ OB g qo uo (f_months mm σ)) ++ OB g qp up (f_months mm σ)) := E.perm pm_lp
      refine y_reti (yrunH (As := [.ref qp.1, .int (nI i)]) (rest := [.int 102]) (n := 2) S hml hK (hZ.at E) (Cut.app E1 hA) (c_L_eventAt l g hst qp up (f_months mm σ) i (by omega) iT.ev (by omega) _ _) ml_L_177 st_L_eventAt in_L rfl co_L_eventAt ⟨by decide +kernel, by decide +kernel, by decide +kernel⟩ ⟨Nat.le_of_ble_eq_true rfl, Nat.le_of_ble_eq_true rfl⟩ rfl hl.1 rfl (Nat.le_of_ble_eq_true rfl) dL_law_1054 ⟨by show k0 + 10 ≤ 600312; omega, by show n0 + 100 ≤ 7292162; omega⟩) (Cut.app E1 hA) E1 (fun En ce q9 H locs hp E hce hcv hcl => (False.elim hp)) (fun r13 u13 H locs hp E2 => ?_)
      have hr := hp
      have hr := hr.trans hv
      subst hr
      have E : Ev g _ s.heap H locs (LW g yr yf qo qp uo up (f_months mm σ) (f_months mm σ)) := E2.perm pm_lp.symm
      refine lv_icmp_ne (tgt := 1093) hx hb dL_law_1057 (by decide) (fun c_ => absurd rfl c_) (fun _ => ?_)
      refine lv_aload_n hx hb dL_law_1060 rfl (lv_at hl 7 rfl) ?_
      refine lv_iload hx hb dL_law_1061 (lv_at hl 0 rfl) ?_
      have E1 : Ev g _ s.heap H locs (([(yr, .inl (g.2.1 0, 6, .inl yf))] ++ OB g qp up (f_months mm σ)) ++ OB g qo uo (f_months mm σ)) := E.perm pm_lo
      refine y_reti (yrunH (As := [.ref qo.1, .int (nI i)]) (rest := []) (n := 2) S hml hK (hZ.at E) (Cut.app E1 hA) (c_L_eventAt l g hst qo uo (f_months mm σ) i (by omega) iT.ev (by omega) _ _) ml_L_177 st_L_eventAt in_L rfl co_L_eventAt ⟨by decide +kernel, by decide +kernel, by decide +kernel⟩ ⟨Nat.le_of_ble_eq_true rfl, Nat.le_of_ble_eq_true rfl⟩ rfl hl.1 rfl (Nat.le_of_ble_eq_true rfl) dL_law_1063 ⟨by show k0 + 10 ≤ 600312; omega, by show n0 + 100 ≤ 7292162; omega⟩) (Cut.app E1 hA) E1 (fun En ce q9 H locs hp E hce hcv hcl => (False.elim hp)) (fun r14 u14 H locs hp E2 => ?_)
      have hr := hp
      have hr := hr.trans hv
      subst hr
      have E : Ev g _ s.heap H locs (LW g yr yf qo qp uo up (f_months mm σ) (f_months mm σ)) := E2.perm pm_lo.symm
      refine lv_bipush (v := 99) hx hb dL_law_1066 (by decide) ?_
      refine lv_icmp_eq (tgt := 1095) hx hb dL_law_1068 (by decide) (fun c_ => absurd c_ (show ¬ ((102 : Int32) = (99 : Int32)) by decide)) (fun _ => ?_)
      refine lv_aload_n hx hb dL_law_1071 rfl (lv_at hl 7 rfl) ?_
      refine lv_iload hx hb dL_law_1072 (lv_at hl 0 rfl) ?_
      have E1 : Ev g _ s.heap H locs (([(yr, .inl (g.2.1 0, 6, .inl yf))] ++ OB g qp up (f_months mm σ)) ++ OB g qo uo (f_months mm σ)) := E.perm pm_lo
      refine y_reti (yrunH (As := [.ref qo.1, .int (nI i)]) (rest := []) (n := 2) S hml hK (hZ.at E) (Cut.app E1 hA) (c_L_eventAt l g hst qo uo (f_months mm σ) i (by omega) iT.ev (by omega) _ _) ml_L_177 st_L_eventAt in_L rfl co_L_eventAt ⟨by decide +kernel, by decide +kernel, by decide +kernel⟩ ⟨Nat.le_of_ble_eq_true rfl, Nat.le_of_ble_eq_true rfl⟩ rfl hl.1 rfl (Nat.le_of_ble_eq_true rfl) dL_law_1074 ⟨by show k0 + 10 ≤ 600312; omega, by show n0 + 100 ≤ 7292162; omega⟩) (Cut.app E1 hA) E1 (fun En ce q9 H locs hp E hce hcv hcl => (False.elim hp)) (fun r15 u15 H locs hp E2 => ?_)
      have hr := hp
      have hr := hr.trans hv
      subst hr
      have E : Ev g _ s.heap H locs (LW g yr yf qo qp uo up (f_months mm σ) (f_months mm σ)) := E2.perm pm_lo.symm
      refine lv_bipush (v := 100) hx hb dL_law_1077 (by decide) ?_
      refine lv_icmp_eq (tgt := 1095) hx hb dL_law_1079 (by decide) (fun c_ => absurd c_ (show ¬ ((102 : Int32) = (100 : Int32)) by decide)) (fun _ => ?_)
      refine lv_aload_n hx hb dL_law_1082 rfl (lv_at hl 7 rfl) ?_
      refine lv_iload hx hb dL_law_1083 (lv_at hl 0 rfl) ?_
      have E1 : Ev g _ s.heap H locs (([(yr, .inl (g.2.1 0, 6, .inl yf))] ++ OB g qp up (f_months mm σ)) ++ OB g qo uo (f_months mm σ)) := E.perm pm_lo
      refine y_reti (yrunH (As := [.ref qo.1, .int (nI i)]) (rest := []) (n := 2) S hml hK (hZ.at E) (Cut.app E1 hA) (c_L_eventAt l g hst qo uo (f_months mm σ) i (by omega) iT.ev (by omega) _ _) ml_L_177 st_L_eventAt in_L rfl co_L_eventAt ⟨by decide +kernel, by decide +kernel, by decide +kernel⟩ ⟨Nat.le_of_ble_eq_true rfl, Nat.le_of_ble_eq_true rfl⟩ rfl hl.1 rfl (Nat.le_of_ble_eq_true rfl) dL_law_1085 ⟨by show k0 + 10 ≤ 600312; omega, by show n0 + 100 ≤ 7292162; omega⟩) (Cut.app E1 hA) E1 (fun En ce q9 H locs hp E hce hcv hcl => (False.elim hp)) (fun r16 u16 H locs hp E2 => ?_)
      have hr := hp
      have hr := hr.trans hv
      subst hr
      have E : Ev g _ s.heap H locs (LW g yr yf qo qp uo up (f_months mm σ) (f_months mm σ)) := E2.perm pm_lo.symm
      refine lv_bipush (v := 102) hx hb dL_law_1088 (by decide) ?_
      refine lv_icmp_eq (tgt := 1095) hx hb dL_law_1090 (by decide) (fun _ => ?_) (fun c_ => absurd rfl c_)
      refine lv_iinc (v := (nI (i + 1))) (lv' := [(19, .int (nI (i + 1))), (7, .int (nI t)), (6, .ref yr), (5, .int (nI A)), (4, .int (nI (M + mm))), (3, .int (nI (cnt σ))), (2, .ref qp.1), (1, .ref qo.1), (0, .ref sb)]) hx hb dL_law_1095 hl (k := 0) rfl (nI_1 i) (by decide) rfl (fun ls hl => ?_)
      refine lv_goto (tgt := 1036) hx hb dL_law_1098 (by decide) ?_
      exact ih (i + 1) (by omega) H locs ls E (lv_sub hl [0, 1, 2, 3, 4, 5, 6, 7, 8] rfl)
set_option maxHeartbeats 2000000 in
set_option maxRecDepth 100000 in
/-- the wells behind the months -/
theorem tp_we {p : Program} {l : Launch} {e : Env} {s : State} {m : MethodId} {below : List Frame} {meth : Method} {c : Code} {sb : Nat} {g : Gm} {yr : Nat} {qo qp : Fx} (hst : l.stackTraces = false) (S : Sta p c cL_law s #[.ref sb] RL m) (hml : c.maxLocals = 20) (hK : va_K g.1 vwC (tysG g) s) (hZ : Zs g (fun q => s.heap.size ≤ q) s s.heap) {yf : Nat → Int32} {uo up : SOB} {t C M A : Nat} {σ : Sg} {mm : Nat} (hI : Inv C M σ) (hm0 : 0 < mm) (hm6 : M + mm ≤ 600) (hUo : OkU uo) (hno : uo.2.2.2.2 ≠ [])  (hUp : OkU up) (hnp : up.2.2.2.2 ≠ []) {k0 n0 : Nat} (hk0 : k0 ≤ 500000) (hn0 : n0 ≤ 6000000) (K : ∀ (H : Heap) (locs : List Loc) (ls : Array Slot), Ev g (fun q => s.heap.size ≤ q) s.heap H locs (LW g yr yf qo qp uo up (f_months mm σ) (f_months mm σ)) → lv_has ls 20 [(19, .int (nI (cnt σ))), (18, .int (sA σ (cnt σ))), (17, .int (sA (f_months mm σ) (cnt σ))), (15, .int (nI (en σ))), (7, .int (nI t)), (6, .ref yr), (5, .int (nI A)), (4, .int (nI (M + mm))), (3, .int (nI (cnt σ))), (2, .ref qp.1), (1, .ref qo.1), (0, .ref sb)] → W p l e room_1 s m #[.ref sb] below meth c H locs k0 n0 (lw_Z below #[.ref sb] s) (F0 m 1016 ls [])) : ∀ (r i : Nat), i + r = cnt σ → ∀ (H : Heap) (locs : List Loc) (ls : Array Slot), Ev g (fun q => s.heap.size ≤ q) s.heap H locs (LW g yr yf qo qp uo up (f_months mm σ) (f_months mm σ)) → lv_has ls 20 [(19, .int (nI i)), (18, .int (sA σ (cnt σ))), (17, .int (sA (f_months mm σ) i)), (15, .int (nI (en σ))), (7, .int (nI t)), (6, .ref yr), (5, .int (nI A)), (4, .int (nI (M + mm))), (3, .int (nI (cnt σ))), (2, .ref qp.1), (1, .ref qo.1), (0, .ref sb)] → W p l e room_1 s m #[.ref sb] below meth c H locs k0 n0 (lw_Z below #[.ref sb] s) (F0 m 934 ls []) := by
  have hx := S.1
  have hb := S.2.1
  have hA : ∀ q : Nat, s.heap.size ≤ q → s.heap.size ≤ q := fun _ h => h
  have iT := (inv_months mm M σ hI hm6).1
  have hcn := ps_c hI hm6
  have h6 := hI.wf.le
  have hEn := iT.en
  intro r
  induction r with
  | zero =>
    intro i hi H locs ls E hl
    have hie : i = cnt σ := by omega
    subst hie
    refine lv_iload hx hb dL_law_934 (lv_at hl 0 rfl) ?_
    refine lv_iload_n hx hb dL_law_936 rfl (lv_at hl 8 rfl) ?_
    refine lv_icmp_ge (tgt := 1016) hx hb dL_law_937 (by decide) (fun _ => ?_) (fun c_ => absurd (nI_le (Nat.le_refl _) (by omega)) c_)
    exact K H locs ls E (lv_sub hl [0, 1, 2, 3, 4, 5, 6, 7, 8, 9, 10, 11] rfl)
  | succ r ih =>
    intro i hi H locs ls E hl
    refine lv_iload hx hb dL_law_934 (lv_at hl 0 rfl) ?_
    refine lv_iload_n hx hb dL_law_936 rfl (lv_at hl 8 rfl) ?_
    refine lv_icmp_ge (tgt := 1016) hx hb dL_law_937 (by decide) (fun c_ => absurd c_ (nI_ge (a := i) (b := cnt σ) (by omega) (by omega))) (fun _ => ?_)
    refine lv_iload hx hb dL_law_940 (lv_at hl 2 rfl) ?_
    refine lv_aload_n hx hb dL_law_942 rfl (lv_at hl 10 rfl) ?_
    refine lv_iload hx hb dL_law_943 (lv_at hl 0 rfl) ?_
    have E1 : Ev g _ s.heap H locs (([(yr, .inl (g.2.1 0, 6, .inl yf))] ++ OB g qp up (f_months mm σ)) ++ OB g qo uo (f_months mm σ)) := E.perm pm_lo
    refine y_reti (yrunH (As := [.ref qo.1, .int (nI i)]) (rest := [.int (sA (f_months mm σ) i)]) (n := 2) S hml hK (hZ.at E) (Cut.app E1 hA) (c_L_amount l g hst qo uo (f_months mm σ) (nI i) iT.wf (ixN (k := i) iT.wf (by omega)) _ _) ml_L_131 st_L_amount in_L rfl co_L_amount ⟨by decide +kernel, by decide +kernel, by decide +kernel⟩ ⟨Nat.le_of_ble_eq_true rfl, Nat.le_of_ble_eq_true rfl⟩ rfl hl.1 rfl (Nat.le_of_ble_eq_true rfl) dL_law_945 ⟨by show k0 + 1 ≤ 600312; omega, by show n0 + 6 ≤ 7292162; omega⟩) (Cut.app E1 hA) E1 (fun En ce q9 H locs hp E hce hcv hcl => (False.elim hp)) (fun r1 u1 H locs hp E2 => ?_)
    have hr := hp
    subst hr
    have E : Ev g _ s.heap H locs (LW g yr yf qo qp uo up (f_months mm σ) (f_months mm σ)) := E2.perm pm_lo.symm
    refine k_iadd (v := (sA (f_months mm σ) (i + 1))) hx hb rfl dL_law_948 ?_
    refine lv_istore (lv' := [(17, .int (sA (f_months mm σ) (i + 1))), (19, .int (nI i)), (18, .int (sA σ (cnt σ))), (15, .int (nI (en σ))), (7, .int (nI t)), (6, .ref yr), (5, .int (nI A)), (4, .int (nI (M + mm))), (3, .int (nI (cnt σ))), (2, .ref qp.1), (1, .ref qo.1), (0, .ref sb)]) hx hb dL_law_949 hl (by decide) rfl (fun ls hl => ?_)
    refine lv_iload hx hb dL_law_951 (lv_at hl 7 rfl) ?_
    refine lv_bipush (v := 12) hx hb dL_law_953 (by decide) ?_
    refine k_irem (v := (nI ((M + mm) % 12))) hx hb (by decide) (pk_rem (a := (M + mm)) (d := 12) (by omega) (by decide) (by decide)) dL_law_955 ?_
    refine lv_if_ne (tgt := 977) hx hb dL_law_956 (by decide) (fun c2 => ?_) (fun c2 => ?_)
    · have c2 : ¬ ((nI ((M + mm) % 12)) = 0) := c2
      refine lv_aload_n hx hb dL_law_977 rfl (lv_at hl 10 rfl) ?_
      refine lv_iload hx hb dL_law_978 (lv_at hl 1 rfl) ?_
      have E1 : Ev g _ s.heap H locs (([(yr, .inl (g.2.1 0, 6, .inl yf))] ++ OB g qp up (f_months mm σ)) ++ OB g qo uo (f_months mm σ)) := E.perm pm_lo
      refine y_retl (yrunH (As := [.ref qo.1, .int (nI i)]) (rest := []) (n := 2) S hml hK (hZ.at E) (Cut.app E1 hA) (c_L_pumped l g hst qo uo (f_months mm σ) (nI i) iT.wf (ixN (k := i) iT.wf (by omega)) _ _) ml_L_126 st_L_pumped in_L rfl co_L_pumped ⟨by decide +kernel, by decide +kernel, by decide +kernel⟩ ⟨Nat.le_of_ble_eq_true rfl, Nat.le_of_ble_eq_true rfl⟩ rfl hl.1 rfl (Nat.le_of_ble_eq_true rfl) dL_law_980 ⟨by show k0 + 1 ≤ 600312; omega, by show n0 + 6 ≤ 7292162; omega⟩) (Cut.app E1 hA) E1 (fun En ce q9 H locs hp E hce hcv hcl => (False.elim hp)) (fun r3 u3 H locs hp E2 => ?_)
      have hr := hp
      subst hr
      have E : Ev g _ s.heap H locs (LW g yr yf qo qp uo up (f_months mm σ) (f_months mm σ)) := E2.perm pm_lo.symm
      refine lv_aload_n hx hb dL_law_983 rfl (lv_at hl 9 rfl) ?_
      refine lv_iload hx hb dL_law_984 (lv_at hl 1 rfl) ?_
      have E1 : Ev g _ s.heap H locs (([(yr, .inl (g.2.1 0, 6, .inl yf))] ++ OB g qo uo (f_months mm σ)) ++ OB g qp up (f_months mm σ)) := E.perm pm_lp
      refine y_retl (yrunH (As := [.ref qp.1, .int (nI i)]) (rest := [.long (gl (f_months mm σ) 23 (nI i))]) (n := 2) S hml hK (hZ.at E) (Cut.app E1 hA) (c_L_pumped l g hst qp up (f_months mm σ) (nI i) iT.wf (ixN (k := i) iT.wf (by omega)) _ _) ml_L_126 st_L_pumped in_L rfl co_L_pumped ⟨by decide +kernel, by decide +kernel, by decide +kernel⟩ ⟨Nat.le_of_ble_eq_true rfl, Nat.le_of_ble_eq_true rfl⟩ rfl hl.1 rfl (Nat.le_of_ble_eq_true rfl) dL_law_986 ⟨by show k0 + 1 ≤ 600312; omega, by show n0 + 6 ≤ 7292162; omega⟩) (Cut.app E1 hA) E1 (fun En ce q9 H locs hp E hce hcv hcl => (False.elim hp)) (fun r4 u4 H locs hp E2 => ?_)
      have hr := hp
      subst hr
      have E : Ev g _ s.heap H locs (LW g yr yf qo qp uo up (f_months mm σ) (f_months mm σ)) := E2.perm pm_lp.symm
      refine k_lcmp (v := (lg_cmp (gl (f_months mm σ) 23 (nI i)) (gl (f_months mm σ) 23 (nI i)))) hx hb rfl dL_law_989 ?_
      refine lv_if_ne (tgt := 1008) hx hb dL_law_990 (by decide) (fun c_ => absurd (lg_self _) c_) (fun _ => ?_)
      refine lv_aload_n hx hb dL_law_993 rfl (lv_at hl 10 rfl) ?_
      refine lv_iload hx hb dL_law_994 (lv_at hl 1 rfl) ?_
      have E1 : Ev g _ s.heap H locs (([(yr, .inl (g.2.1 0, 6, .inl yf))] ++ OB g qp up (f_months mm σ)) ++ OB g qo uo (f_months mm σ)) := E.perm pm_lo
      refine y_reti (yrunH (As := [.ref qo.1, .int (nI i)]) (rest := []) (n := 2) S hml hK (hZ.at E) (Cut.app E1 hA) (c_L_amount l g hst qo uo (f_months mm σ) (nI i) iT.wf (ixN (k := i) iT.wf (by omega)) _ _) ml_L_131 st_L_amount in_L rfl co_L_amount ⟨by decide +kernel, by decide +kernel, by decide +kernel⟩ ⟨Nat.le_of_ble_eq_true rfl, Nat.le_of_ble_eq_true rfl⟩ rfl hl.1 rfl (Nat.le_of_ble_eq_true rfl) dL_law_996 ⟨by show k0 + 1 ≤ 600312; omega, by show n0 + 6 ≤ 7292162; omega⟩) (Cut.app E1 hA) E1 (fun En ce q9 H locs hp E hce hcv hcl => (False.elim hp)) (fun r5 u5 H locs hp E2 => ?_)
      have hr := hp
      subst hr
      have E : Ev g _ s.heap H locs (LW g yr yf qo qp uo up (f_months mm σ) (f_months mm σ)) := E2.perm pm_lo.symm
      refine lv_aload_n hx hb dL_law_999 rfl (lv_at hl 9 rfl) ?_
      refine lv_iload hx hb dL_law_1000 (lv_at hl 1 rfl) ?_
      have E1 : Ev g _ s.heap H locs (([(yr, .inl (g.2.1 0, 6, .inl yf))] ++ OB g qo uo (f_months mm σ)) ++ OB g qp up (f_months mm σ)) := E.perm pm_lp
      refine y_reti (yrunH (As := [.ref qp.1, .int (nI i)]) (rest := [.int (gi (f_months mm σ) 20 (nI i))]) (n := 2) S hml hK (hZ.at E) (Cut.app E1 hA) (c_L_amount l g hst qp up (f_months mm σ) (nI i) iT.wf (ixN (k := i) iT.wf (by omega)) _ _) ml_L_131 st_L_amount in_L rfl co_L_amount ⟨by decide +kernel, by decide +kernel, by decide +kernel⟩ ⟨Nat.le_of_ble_eq_true rfl, Nat.le_of_ble_eq_true rfl⟩ rfl hl.1 rfl (Nat.le_of_ble_eq_true rfl) dL_law_1002 ⟨by show k0 + 1 ≤ 600312; omega, by show n0 + 6 ≤ 7292162; omega⟩) (Cut.app E1 hA) E1 (fun En ce q9 H locs hp E hce hcv hcl => (False.elim hp)) (fun r6 u6 H locs hp E2 => ?_)
      have hr := hp
      subst hr
      have E : Ev g _ s.heap H locs (LW g yr yf qo qp uo up (f_months mm σ) (f_months mm σ)) := E2.perm pm_lp.symm
      refine lv_icmp_eq (tgt := 1010) hx hb dL_law_1005 (by decide) (fun _ => ?_) (fun c_ => absurd rfl c_)
      refine lv_iinc (v := (nI (i + 1))) (lv' := [(19, .int (nI (i + 1))), (17, .int (sA (f_months mm σ) (i + 1))), (18, .int (sA σ (cnt σ))), (15, .int (nI (en σ))), (7, .int (nI t)), (6, .ref yr), (5, .int (nI A)), (4, .int (nI (M + mm))), (3, .int (nI (cnt σ))), (2, .ref qp.1), (1, .ref qo.1), (0, .ref sb)]) hx hb dL_law_1010 hl (k := 1) rfl (nI_1 i) (by decide) rfl (fun ls hl => ?_)
      refine lv_goto (tgt := 934) hx hb dL_law_1013 (by decide) ?_
      exact ih (i + 1) (by omega) H locs ls E (lv_sub hl [0, 2, 1, 3, 4, 5, 6, 7, 8, 9, 10, 11] rfl)
    · have c2 : (nI ((M + mm) % 12)) = 0 := c2
      refine lv_aload_n hx hb dL_law_959 rfl (lv_at hl 10 rfl) ?_
      refine lv_iload hx hb dL_law_960 (lv_at hl 1 rfl) ?_
      have E1 : Ev g _ s.heap H locs (([(yr, .inl (g.2.1 0, 6, .inl yf))] ++ OB g qp up (f_months mm σ)) ++ OB g qo uo (f_months mm σ)) := E.perm pm_lo
      refine y_reti (yrunH (As := [.ref qo.1, .int (nI i)]) (rest := []) (n := 2) S hml hK (hZ.at E) (Cut.app E1 hA) (c_L_isShut l g hst qo uo (f_months mm σ) (nI i) iT.wf (ixN (k := i) iT.wf (by omega)) (ps_y hI hm6 hm0 ((nI_eq (a := (M + mm) % 12) (b := 0) (by omega) (by omega)).mp c2) (by omega)).2 _ _) ml_L_133 st_L_isShut in_L rfl co_L_isShut ⟨by decide +kernel, by decide +kernel, by decide +kernel⟩ ⟨Nat.le_of_ble_eq_true rfl, Nat.le_of_ble_eq_true rfl⟩ rfl hl.1 rfl (Nat.le_of_ble_eq_true rfl) dL_law_962 ⟨by show k0 + 1 ≤ 600312; omega, by show n0 + 6 ≤ 7292162; omega⟩) (Cut.app E1 hA) E1 (fun En ce q9 H locs hp E hce hcv hcl => (False.elim hp)) (fun r7 u7 H locs hp E2 => ?_)
      have hr := hp
      subst hr
      have E : Ev g _ s.heap H locs (LW g yr yf qo qp uo up (f_months mm σ) (f_months mm σ)) := E2.perm pm_lo.symm
      refine lv_if_ne (tgt := 1008) hx hb dL_law_965 (by decide) (fun c_ => absurd (show (0 : Int32) = 0 by decide) c_) (fun _ => ?_)
      refine lv_aload_n hx hb dL_law_968 rfl (lv_at hl 10 rfl) ?_
      refine lv_iload hx hb dL_law_969 (lv_at hl 1 rfl) ?_
      have E1 : Ev g _ s.heap H locs (([(yr, .inl (g.2.1 0, 6, .inl yf))] ++ OB g qp up (f_months mm σ)) ++ OB g qo uo (f_months mm σ)) := E.perm pm_lo
      refine y_reti (yrunH (As := [.ref qo.1, .int (nI i)]) (rest := []) (n := 2) S hml hK (hZ.at E) (Cut.app E1 hA) (c_L_yearly l g hst qo uo (f_months mm σ) (nI i) iT.wf (ixN (k := i) iT.wf (by omega)) _ _) ml_L_129 st_L_yearly in_L rfl co_L_yearly ⟨by decide +kernel, by decide +kernel, by decide +kernel⟩ ⟨Nat.le_of_ble_eq_true rfl, Nat.le_of_ble_eq_true rfl⟩ rfl hl.1 rfl (Nat.le_of_ble_eq_true rfl) dL_law_971 ⟨by show k0 + 1 ≤ 600312; omega, by show n0 + 6 ≤ 7292162; omega⟩) (Cut.app E1 hA) E1 (fun En ce q9 H locs hp E hce hcv hcl => (False.elim hp)) (fun r8 u8 H locs hp E2 => ?_)
      have hr := hp
      subst hr
      have E : Ev g _ s.heap H locs (LW g yr yf qo qp uo up (f_months mm σ) (f_months mm σ)) := E2.perm pm_lo.symm
      refine lv_if_ne (tgt := 1008) hx hb dL_law_974 (by decide) (fun c_ => absurd (ps_y hI hm6 hm0 ((nI_eq (a := (M + mm) % 12) (b := 0) (by omega) (by omega)).mp c2) (by omega)).1 c_) (fun _ => ?_)
      refine lv_aload_n hx hb dL_law_977 rfl (lv_at hl 10 rfl) ?_
      refine lv_iload hx hb dL_law_978 (lv_at hl 1 rfl) ?_
      have E1 : Ev g _ s.heap H locs (([(yr, .inl (g.2.1 0, 6, .inl yf))] ++ OB g qp up (f_months mm σ)) ++ OB g qo uo (f_months mm σ)) := E.perm pm_lo
      refine y_retl (yrunH (As := [.ref qo.1, .int (nI i)]) (rest := []) (n := 2) S hml hK (hZ.at E) (Cut.app E1 hA) (c_L_pumped l g hst qo uo (f_months mm σ) (nI i) iT.wf (ixN (k := i) iT.wf (by omega)) _ _) ml_L_126 st_L_pumped in_L rfl co_L_pumped ⟨by decide +kernel, by decide +kernel, by decide +kernel⟩ ⟨Nat.le_of_ble_eq_true rfl, Nat.le_of_ble_eq_true rfl⟩ rfl hl.1 rfl (Nat.le_of_ble_eq_true rfl) dL_law_980 ⟨by show k0 + 1 ≤ 600312; omega, by show n0 + 6 ≤ 7292162; omega⟩) (Cut.app E1 hA) E1 (fun En ce q9 H locs hp E hce hcv hcl => (False.elim hp)) (fun r9 u9 H locs hp E2 => ?_)
      have hr := hp
      subst hr
      have E : Ev g _ s.heap H locs (LW g yr yf qo qp uo up (f_months mm σ) (f_months mm σ)) := E2.perm pm_lo.symm
      refine lv_aload_n hx hb dL_law_983 rfl (lv_at hl 9 rfl) ?_
      refine lv_iload hx hb dL_law_984 (lv_at hl 1 rfl) ?_
      have E1 : Ev g _ s.heap H locs (([(yr, .inl (g.2.1 0, 6, .inl yf))] ++ OB g qo uo (f_months mm σ)) ++ OB g qp up (f_months mm σ)) := E.perm pm_lp
      refine y_retl (yrunH (As := [.ref qp.1, .int (nI i)]) (rest := [.long (gl (f_months mm σ) 23 (nI i))]) (n := 2) S hml hK (hZ.at E) (Cut.app E1 hA) (c_L_pumped l g hst qp up (f_months mm σ) (nI i) iT.wf (ixN (k := i) iT.wf (by omega)) _ _) ml_L_126 st_L_pumped in_L rfl co_L_pumped ⟨by decide +kernel, by decide +kernel, by decide +kernel⟩ ⟨Nat.le_of_ble_eq_true rfl, Nat.le_of_ble_eq_true rfl⟩ rfl hl.1 rfl (Nat.le_of_ble_eq_true rfl) dL_law_986 ⟨by show k0 + 1 ≤ 600312; omega, by show n0 + 6 ≤ 7292162; omega⟩) (Cut.app E1 hA) E1 (fun En ce q9 H locs hp E hce hcv hcl => (False.elim hp)) (fun r10 u10 H locs hp E2 => ?_)
      have hr := hp
      subst hr
      have E : Ev g _ s.heap H locs (LW g yr yf qo qp uo up (f_months mm σ) (f_months mm σ)) := E2.perm pm_lp.symm
      refine k_lcmp (v := (lg_cmp (gl (f_months mm σ) 23 (nI i)) (gl (f_months mm σ) 23 (nI i)))) hx hb rfl dL_law_989 ?_
      refine lv_if_ne (tgt := 1008) hx hb dL_law_990 (by decide) (fun c_ => absurd (lg_self _) c_) (fun _ => ?_)
      refine lv_aload_n hx hb dL_law_993 rfl (lv_at hl 10 rfl) ?_
      refine lv_iload hx hb dL_law_994 (lv_at hl 1 rfl) ?_
      have E1 : Ev g _ s.heap H locs (([(yr, .inl (g.2.1 0, 6, .inl yf))] ++ OB g qp up (f_months mm σ)) ++ OB g qo uo (f_months mm σ)) := E.perm pm_lo
      refine y_reti (yrunH (As := [.ref qo.1, .int (nI i)]) (rest := []) (n := 2) S hml hK (hZ.at E) (Cut.app E1 hA) (c_L_amount l g hst qo uo (f_months mm σ) (nI i) iT.wf (ixN (k := i) iT.wf (by omega)) _ _) ml_L_131 st_L_amount in_L rfl co_L_amount ⟨by decide +kernel, by decide +kernel, by decide +kernel⟩ ⟨Nat.le_of_ble_eq_true rfl, Nat.le_of_ble_eq_true rfl⟩ rfl hl.1 rfl (Nat.le_of_ble_eq_true rfl) dL_law_996 ⟨by show k0 + 1 ≤ 600312; omega, by show n0 + 6 ≤ 7292162; omega⟩) (Cut.app E1 hA) E1 (fun En ce q9 H locs hp E hce hcv hcl => (False.elim hp)) (fun r11 u11 H locs hp E2 => ?_)
      have hr := hp
      subst hr
      have E : Ev g _ s.heap H locs (LW g yr yf qo qp uo up (f_months mm σ) (f_months mm σ)) := E2.perm pm_lo.symm
      refine lv_aload_n hx hb dL_law_999 rfl (lv_at hl 9 rfl) ?_
      refine lv_iload hx hb dL_law_1000 (lv_at hl 1 rfl) ?_
      have E1 : Ev g _ s.heap H locs (([(yr, .inl (g.2.1 0, 6, .inl yf))] ++ OB g qo uo (f_months mm σ)) ++ OB g qp up (f_months mm σ)) := E.perm pm_lp
      refine y_reti (yrunH (As := [.ref qp.1, .int (nI i)]) (rest := [.int (gi (f_months mm σ) 20 (nI i))]) (n := 2) S hml hK (hZ.at E) (Cut.app E1 hA) (c_L_amount l g hst qp up (f_months mm σ) (nI i) iT.wf (ixN (k := i) iT.wf (by omega)) _ _) ml_L_131 st_L_amount in_L rfl co_L_amount ⟨by decide +kernel, by decide +kernel, by decide +kernel⟩ ⟨Nat.le_of_ble_eq_true rfl, Nat.le_of_ble_eq_true rfl⟩ rfl hl.1 rfl (Nat.le_of_ble_eq_true rfl) dL_law_1002 ⟨by show k0 + 1 ≤ 600312; omega, by show n0 + 6 ≤ 7292162; omega⟩) (Cut.app E1 hA) E1 (fun En ce q9 H locs hp E hce hcv hcl => (False.elim hp)) (fun r12 u12 H locs hp E2 => ?_)
      have hr := hp
      subst hr
      have E : Ev g _ s.heap H locs (LW g yr yf qo qp uo up (f_months mm σ) (f_months mm σ)) := E2.perm pm_lp.symm
      refine lv_icmp_eq (tgt := 1010) hx hb dL_law_1005 (by decide) (fun _ => ?_) (fun c_ => absurd rfl c_)
      refine lv_iinc (v := (nI (i + 1))) (lv' := [(19, .int (nI (i + 1))), (17, .int (sA (f_months mm σ) (i + 1))), (18, .int (sA σ (cnt σ))), (15, .int (nI (en σ))), (7, .int (nI t)), (6, .ref yr), (5, .int (nI A)), (4, .int (nI (M + mm))), (3, .int (nI (cnt σ))), (2, .ref qp.1), (1, .ref qo.1), (0, .ref sb)]) hx hb dL_law_1010 hl (k := 1) rfl (nI_1 i) (by decide) rfl (fun ls hl => ?_)
      refine lv_goto (tgt := 934) hx hb dL_law_1013 (by decide) ?_
      exact ih (i + 1) (by omega) H locs ls E (lv_sub hl [0, 2, 1, 3, 4, 5, 6, 7, 8, 9, 10, 11] rfl)
set_option maxHeartbeats 2000000 in
set_option maxRecDepth 100000 in
/-- the same months, one by one -/
theorem tp_mo {p : Program} {l : Launch} {e : Env} {s : State} {m : MethodId} {below : List Frame} {meth : Method} {c : Code} {sb : Nat} {g : Gm} {yr : Nat} {qo qp : Fx} (hst : l.stackTraces = false) (S : Sta p c cL_law s #[.ref sb] RL m) (hml : c.maxLocals = 20) (hK : va_K g.1 vwC (tysG g) s) (hZ : Zs g (fun q => s.heap.size ≤ q) s s.heap) {yf : Nat → Int32} {uo : SOB} {t C M A : Nat} {σ : Sg} {mm : Nat} (hI : Inv C M σ) (hm0 : 0 < mm) (hm6 : M + mm ≤ 600) (hUo : OkU uo) (hno : uo.2.2.2.2 ≠ [])  (hm24 : mm ≤ 24) (hC9 : C + 1 ≤ 1000) {k0 n0 : Nat} (hk0 : k0 ≤ 500000) (hn0 : n0 ≤ 6000000) (K : ∀ (u2 : SOB) (k n : Nat) (H : Heap) (locs : List Loc) (ls : Array Slot), OkU u2 → u2.2.2.2.2 ≠ [] → k + eg σ ≤ k0 + 3 * mm + eg (f_months mm σ) → n + 2 * ec σ ≤ n0 + 815 * mm + 2 * ec (f_months mm σ) → Ev g (fun q => s.heap.size ≤ q) s.heap H locs (LW g yr yf qo qp uo u2 (f_months mm σ) (f_months mm σ)) → lv_has ls 20 [(19, .int (nI mm)), (18, .int (sA σ (cnt σ))), (17, .int 0), (16, .int (nI (M + mm))), (15, .int (nI (en σ))), (14, .int (nI mm)), (7, .int (nI t)), (6, .ref yr), (5, .int (nI A)), (4, .int (nI M)), (3, .int (nI (cnt σ))), (2, .ref qp.1), (1, .ref qo.1), (0, .ref sb)] → W p l e room_1 s m #[.ref sb] below meth c H locs k n (lw_Z below #[.ref sb] s) (F0 m 880 ls [])) : ∀ (r j : Nat), j + r = mm → ∀ (up : SOB) (k n : Nat) (H : Heap) (locs : List Loc) (ls : Array Slot), OkU up → up.2.2.2.2 ≠ [] → k + eg σ ≤ k0 + 3 * j + eg (f_months j σ) → n + 2 * ec σ ≤ n0 + 815 * j + 2 * ec (f_months j σ) → Ev g (fun q => s.heap.size ≤ q) s.heap H locs (LW g yr yf qo qp uo up (f_months mm σ) (f_months j σ)) → lv_has ls 20 [(19, .int (nI j)), (18, .int (sA σ (cnt σ))), (17, .int 0), (16, .int (nI (M + mm))), (15, .int (nI (en σ))), (14, .int (nI mm)), (7, .int (nI t)), (6, .ref yr), (5, .int (nI A)), (4, .int (nI M)), (3, .int (nI (cnt σ))), (2, .ref qp.1), (1, .ref qo.1), (0, .ref sb)] → W p l e room_1 s m #[.ref sb] below meth c H locs k n (lw_Z below #[.ref sb] s) (F0 m 845 ls []) := by
  have hx := S.1
  have hb := S.2.1
  have hA : ∀ q : Nat, s.heap.size ≤ q → s.heap.size ≤ q := fun _ h => h
  have iT := (inv_months mm M σ hI hm6).1
  have hcn := ps_c hI hm6
  have h6 := hI.wf.le
  have hEn := iT.en
  obtain ⟨gz1, gz2⟩ := nt_c hI.ev (Nat.le_trans hI.en (by decide))
  intro r
  induction r with
  | zero =>
    intro j hj up k n H locs ls hUp hnp hkk hnn E hl
    have hie : j = mm := by omega
    subst hie
    refine lv_iload hx hb dL_law_845 (lv_at hl 0 rfl) ?_
    refine lv_iload hx hb dL_law_847 (lv_at hl 5 rfl) ?_
    refine lv_icmp_ge (tgt := 880) hx hb dL_law_849 (by decide) (fun _ => ?_) (fun c_ => absurd (nI_le (Nat.le_refl _) (by omega)) c_)
    exact K up k n H locs ls hUp hnp hkk hnn E (lv_sub hl [0, 1, 2, 3, 4, 5, 6, 7, 8, 9, 10, 11, 12, 13] rfl)
  | succ r ih =>
    intro j hj up k n H locs ls hUp hnp hkk hnn E hl
    obtain ⟨ij, hmj, -, hej⟩ := inv_months j M σ hI (by omega)
    obtain ⟨ij2, -, -, hej2⟩ := inv_months (j + 1) M σ hI (by omega)
    obtain ⟨gj1, gj2⟩ := nt_c ij.ev (Nat.le_trans ij.en (by decide))
    obtain ⟨gk1, gk2⟩ := nt_c ij2.ev (Nat.le_trans ij2.en (by decide))
    have hvj : okN (11, nI 1, 0, 0, 0) (cnt (f_months j σ)) (M + j) := show ∃ m2 : Nat, nI 1 = nI m2 ∧ 1 ≤ m2 ∧ m2 ≤ 24 ∧ M + j + m2 ≤ 600 from ⟨1, rfl, by omega, by omega, by omega⟩
    have hev := (inv_fo1 (lo := -1) (v := (11, nI 1, 0, 0, 0)) ij hC9 hvj).2.2
    have em : fo1 (-1) (11, nI 1, 0, 0, 0) (f_months j σ) = f_months (j + 1) σ := (fo1_m (by decide)).trans ps_1
    rw [em] at hev
    obtain ⟨he1, he2, he3⟩ := hev
    have ee1 : eg (fo1 (-1) (11, nI 1, 0, 0, 0) (f_months j σ)) = eg (f_months (j + 1) σ) := by rw [em]
    have ee2 : ec (fo1 (-1) (11, nI 1, 0, 0, 0) (f_months j σ)) = ec (f_months (j + 1) σ) := by rw [em]
    refine lv_iload hx hb dL_law_845 (lv_at hl 0 rfl) ?_
    refine lv_iload hx hb dL_law_847 (lv_at hl 5 rfl) ?_
    refine lv_icmp_ge (tgt := 880) hx hb dL_law_849 (by decide) (fun c_ => absurd c_ (nI_ge (a := j) (b := mm) (by omega) (by omega))) (fun _ => ?_)
    refine lv_iload hx hb dL_law_852 (lv_at hl 3 rfl) ?_
    refine lv_if_le (tgt := 880) hx hb dL_law_854 (by decide) (fun c_ => absurd c_ (nI_nle (by omega) (by omega))) (fun _ => ?_)
    refine lv_aload_n hx hb dL_law_857 rfl (lv_at hl 11 rfl) ?_
    refine lv_iconst (v := 1) hx hb dL_law_858 (by decide) ?_
    have E1 : Ev g _ s.heap H locs (([(yr, .inl (g.2.1 0, 6, .inl yf))] ++ OB g qo uo (f_months mm σ)) ++ OB g qp up (f_months j σ)) := E.perm pm_lp
    refine y_reti (yrunH (As := [.ref qp.1, .int 1]) (rest := []) (n := 2) S hml hK (hZ.at E) (Cut.app E1 hA) (c_L_pass l g hst qp up (f_months j σ) 1 hUp hnp ij hC9 (by omega) (by omega) (by omega) (by decide) (by rw [ij.2.1, nI_add]; exact nI_le (a := M + j + 1) (b := 600) (by omega) (by omega)) _ _) ml_L_171 st_L_pass in_L rfl co_L_pass ⟨by decide +kernel, by decide +kernel, by decide +kernel⟩ ⟨Nat.le_of_ble_eq_true rfl, Nat.le_of_ble_eq_true rfl⟩ rfl hl.1 rfl (Nat.le_of_ble_eq_true rfl) dL_law_859 ⟨by show k + 61 ≤ 600312; omega, by show n + 600005 ≤ 7292162; omega⟩) (Cut.app E1 hA) E1 (fun En ce q9 H locs hp E hce hcv hcl => (False.elim hp)) (fun r1 u1 H locs hp E2 => ?_)
    obtain ⟨hr, hn1⟩ := hp
    have hr := hr.trans (show gs (fo1 (-1) (11, nI 1, 0, 0, 0) (f_months j σ)) 0 = nI ((M + j) + 1) by rw [em]; exact ij2.2.1)
    subst hr
    have E : Ev g _ s.heap H locs (LW g yr yf qo qp uo u1 (f_months mm σ) (fo1 (-1) (11, nI 1, 0, 0, 0) (f_months j σ))) := E2.perm pm_lp.symm
    rw [em] at E
    have E : Ev g _ s.heap H locs (LW g yr yf qo qp uo u1 (f_months mm σ) (f_months (j + 1) σ)) := E
    refine lv_iload hx hb dL_law_862 (lv_at hl 9 rfl) ?_
    refine lv_iload hx hb dL_law_864 (lv_at hl 0 rfl) ?_
    refine k_iadd (v := (nI (M + j))) hx hb (nI_add M j) dL_law_866 ?_
    refine lv_iconst (v := 1) hx hb dL_law_867 (by decide) ?_
    refine k_iadd (v := (nI ((M + j) + 1))) hx hb (nI_1 (M + j)) dL_law_868 ?_
    refine lv_icmp_eq (tgt := 874) hx hb dL_law_869 (by decide) (fun _ => ?_) (fun c_ => absurd rfl c_)
    refine lv_iinc (v := (nI (j + 1))) (lv' := [(19, .int (nI (j + 1))), (18, .int (sA σ (cnt σ))), (17, .int 0), (16, .int (nI (M + mm))), (15, .int (nI (en σ))), (14, .int (nI mm)), (7, .int (nI t)), (6, .ref yr), (5, .int (nI A)), (4, .int (nI M)), (3, .int (nI (cnt σ))), (2, .ref qp.1), (1, .ref qo.1), (0, .ref sb)]) hx hb dL_law_874 hl (k := 0) rfl (nI_1 j) (by decide) rfl (fun ls hl => ?_)
    refine lv_goto (tgt := 845) hx hb dL_law_877 (by decide) ?_
    exact ih (j + 1) (by omega) u1 _ _ H locs ls hn1.1 hn1.2.1 (by show k + (eg (fo1 (-1) (11, nI 1, 0, 0, 0) (f_months j σ)) - eg (f_months j σ) + 3) + eg σ ≤ _; omega) (by show n + (2 * ec (fo1 (-1) (11, nI 1, 0, 0, 0) (f_months j σ)) - 2 * ec (f_months j σ) + 815) + 2 * ec σ ≤ _; omega) E (lv_sub hl [0, 1, 2, 3, 4, 5, 6, 7, 8, 9, 10, 11, 12, 13] rfl)
set_option maxHeartbeats 2000000 in
set_option maxRecDepth 100000 in
/-- the rights ahead of the months -/
theorem tp_wa {p : Program} {l : Launch} {e : Env} {s : State} {m : MethodId} {below : List Frame} {meth : Method} {c : Code} {sb : Nat} {g : Gm} {yr : Nat} {qo qp : Fx} (hst : l.stackTraces = false) (S : Sta p c cL_law s #[.ref sb] RL m) (hml : c.maxLocals = 20) (hK : va_K g.1 vwC (tysG g) s) (hZ : Zs g (fun q => s.heap.size ≤ q) s s.heap) {yf : Nat → Int32} {uo up : SOB} {t C M A : Nat} {σ : Sg} {mm : Nat} (hI : Inv C M σ) (hm0 : 0 < mm) (hm6 : M + mm ≤ 600) (hUo : OkU uo) (hno : uo.2.2.2.2 ≠ [])  (hUp : OkU up) (hnp : up.2.2.2.2 ≠ []) {k0 n0 : Nat} (hk0 : k0 ≤ 500000) (hn0 : n0 ≤ 6000000) (K : ∀ (H : Heap) (locs : List Loc) (ls : Array Slot), Ev g (fun q => s.heap.size ≤ q) s.heap H locs (LW g yr yf qo qp uo up (f_months mm σ) σ) → lv_has ls 20 [(19, .int (nI (cnt σ))), (18, .int (sA σ (cnt σ))), (17, .int 0), (16, .int (nI (M + mm))), (15, .int (nI (en σ))), (14, .int (nI mm)), (7, .int (nI t)), (6, .ref yr), (5, .int (nI A)), (4, .int (nI M)), (3, .int (nI (cnt σ))), (2, .ref qp.1), (1, .ref qo.1), (0, .ref sb)] → W p l e room_1 s m #[.ref sb] below meth c H locs k0 n0 (lw_Z below #[.ref sb] s) (F0 m 842 ls [])) : ∀ (r i : Nat), i + r = cnt σ → ∀ (H : Heap) (locs : List Loc) (ls : Array Slot), Ev g (fun q => s.heap.size ≤ q) s.heap H locs (LW g yr yf qo qp uo up (f_months mm σ) σ) → lv_has ls 20 [(19, .int (nI i)), (18, .int (sA σ i)), (17, .int 0), (16, .int (nI (M + mm))), (15, .int (nI (en σ))), (14, .int (nI mm)), (7, .int (nI t)), (6, .ref yr), (5, .int (nI A)), (4, .int (nI M)), (3, .int (nI (cnt σ))), (2, .ref qp.1), (1, .ref qo.1), (0, .ref sb)] → W p l e room_1 s m #[.ref sb] below meth c H locs k0 n0 (lw_Z below #[.ref sb] s) (F0 m 819 ls []) := by
  have hx := S.1
  have hb := S.2.1
  have hA : ∀ q : Nat, s.heap.size ≤ q → s.heap.size ≤ q := fun _ h => h
  have iT := (inv_months mm M σ hI hm6).1
  have hcn := ps_c hI hm6
  have h6 := hI.wf.le
  have hEn := iT.en
  intro r
  induction r with
  | zero =>
    intro i hi H locs ls E hl
    have hie : i = cnt σ := by omega
    subst hie
    refine lv_iload hx hb dL_law_819 (lv_at hl 0 rfl) ?_
    refine lv_iload_n hx hb dL_law_821 rfl (lv_at hl 10 rfl) ?_
    refine lv_icmp_ge (tgt := 842) hx hb dL_law_822 (by decide) (fun _ => ?_) (fun c_ => absurd (nI_le (Nat.le_refl _) (by omega)) c_)
    exact K H locs ls E (lv_sub hl [0, 1, 2, 3, 4, 5, 6, 7, 8, 9, 10, 11, 12, 13] rfl)
  | succ r ih =>
    intro i hi H locs ls E hl
    refine lv_iload hx hb dL_law_819 (lv_at hl 0 rfl) ?_
    refine lv_iload_n hx hb dL_law_821 rfl (lv_at hl 10 rfl) ?_
    refine lv_icmp_ge (tgt := 842) hx hb dL_law_822 (by decide) (fun c_ => absurd c_ (nI_ge (a := i) (b := cnt σ) (by omega) (by omega))) (fun _ => ?_)
    refine lv_iload hx hb dL_law_825 (lv_at hl 1 rfl) ?_
    refine lv_aload_n hx hb dL_law_827 rfl (lv_at hl 11 rfl) ?_
    refine lv_iload hx hb dL_law_828 (lv_at hl 0 rfl) ?_
    have E1 : Ev g _ s.heap H locs (([(yr, .inl (g.2.1 0, 6, .inl yf))] ++ OB g qo uo (f_months mm σ)) ++ OB g qp up σ) := E.perm pm_lp
    refine y_reti (yrunH (As := [.ref qp.1, .int (nI i)]) (rest := [.int (sA σ i)]) (n := 2) S hml hK (hZ.at E) (Cut.app E1 hA) (c_L_amount l g hst qp up σ (nI i) hI.wf (ixN (k := i) hI.wf (by omega)) _ _) ml_L_131 st_L_amount in_L rfl co_L_amount ⟨by decide +kernel, by decide +kernel, by decide +kernel⟩ ⟨Nat.le_of_ble_eq_true rfl, Nat.le_of_ble_eq_true rfl⟩ rfl hl.1 rfl (Nat.le_of_ble_eq_true rfl) dL_law_830 ⟨by show k0 + 1 ≤ 600312; omega, by show n0 + 6 ≤ 7292162; omega⟩) (Cut.app E1 hA) E1 (fun En ce q9 H locs hp E hce hcv hcl => (False.elim hp)) (fun r1 u1 H locs hp E2 => ?_)
    have hr := hp
    subst hr
    have E : Ev g _ s.heap H locs (LW g yr yf qo qp uo up (f_months mm σ) σ) := E2.perm pm_lp.symm
    refine k_iadd (v := (sA σ (i + 1))) hx hb rfl dL_law_833 ?_
    refine lv_istore (lv' := [(18, .int (sA σ (i + 1))), (19, .int (nI i)), (17, .int 0), (16, .int (nI (M + mm))), (15, .int (nI (en σ))), (14, .int (nI mm)), (7, .int (nI t)), (6, .ref yr), (5, .int (nI A)), (4, .int (nI M)), (3, .int (nI (cnt σ))), (2, .ref qp.1), (1, .ref qo.1), (0, .ref sb)]) hx hb dL_law_834 hl (by decide) rfl (fun ls hl => ?_)
    refine lv_iinc (v := (nI (i + 1))) (lv' := [(19, .int (nI (i + 1))), (18, .int (sA σ (i + 1))), (17, .int 0), (16, .int (nI (M + mm))), (15, .int (nI (en σ))), (14, .int (nI mm)), (7, .int (nI t)), (6, .ref yr), (5, .int (nI A)), (4, .int (nI M)), (3, .int (nI (cnt σ))), (2, .ref qp.1), (1, .ref qo.1), (0, .ref sb)]) hx hb dL_law_836 hl (k := 1) rfl (nI_1 i) (by decide) rfl (fun ls hl => ?_)
    refine lv_goto (tgt := 819) hx hb dL_law_839 (by decide) ?_
    exact ih (i + 1) (by omega) H locs ls E (lv_sub hl [0, 1, 2, 3, 4, 5, 6, 7, 8, 9, 10, 11, 12, 13] rfl)
set_option maxHeartbeats 4000000 in
set_option maxRecDepth 100000 in
/-- months that are too many -/
theorem tc_passN {p : Program} {l : Launch} {e : Env} {s : State} {m : MethodId} {below : List Frame} {meth : Method} {c : Code} {sb : Nat} {g : Gm} {yr : Nat} {qo qp : Fx} (hst : l.stackTraces = false) (S : Sta p c cL_law s #[.ref sb] RL m) (hml : c.maxLocals = 20) (hK : va_K g.1 vwC (tysG g) s) (hZ : Zs g (fun q => s.heap.size ≤ q) s s.heap) {t C M A : Nat} {yf : Nat → Int32} {uo up : SOB} {σ : Sg} {cvs : List CV} (hT : TI t C M A yf uo up σ cvs) (ht : t < 60) (h1t : 1 ≤ t) {ka kb kc kd : Nat} (hka : ka < 16) (hkb : kb < 200) (hkc : kc < 50) (hkd : kd < 1000) (hm6 : 600 < M + (1 + kc % 14)) {H : Heap} {locs : List Loc} {ls : Array Slot} {k0 n0 : Nat} (hk0 : k0 ≤ 100 * t + 2 * eg σ + 400) (hn0 : n0 ≤ 20000 * t + 4 * ec σ + 5000) (E : Ev g (fun q => s.heap.size ≤ q) s.heap H locs (LW g yr yf qo qp uo up σ σ)) (hl : lv_has ls 20 [(13, .int (nI kd)), (12, .int (nI kc)), (11, .int (nI kb)), (10, .int (nI ka)), (7, .int (nI t)), (6, .ref yr), (5, .int (nI A)), (4, .int (nI M)), (3, .int (nI (cnt σ))), (2, .ref qp.1), (1, .ref qo.1), (0, .ref sb)]) (K : KT p l e s m below meth c sb g yr qo qp t 1179 90 19000) : W p l e room_1 s m #[.ref sb] below meth c H locs k0 n0 (lw_Z below #[.ref sb] s) (F0 m 756 ls []) := by
  have hx := S.1
  have hb := S.2.1
  have hA : ∀ q : Nat, s.heap.size ≤ q → s.heap.size ≤ q := fun _ h => h
  have hI := hT.1.1
  have h6 := hI.wf.le
  have hCt := hT.2.1
  have hAt := hT.2.2.2.2.2.1
  obtain ⟨g1, g2⟩ := nt_c hI.ev (Nat.le_trans hI.en (by decide))
  obtain ⟨mm, hmm⟩ : ∃ mm : Nat, mm = 1 + kc % 14 := ⟨_, rfl⟩
  have hm1 : 1 ≤ mm := by omega
  have hm2 : mm ≤ 14 := by omega
  have hM6 := hI.2.2.2.2
  have hN6 : ¬ gs σ 0 + nI mm ≤ 600 := by rw [hI.2.1, nI_add]; exact nI_ge (a := 600) (b := M + mm) (by omega) (by omega)
  refine lv_iconst (v := 1) hx hb dL_law_756 (by decide) ?_
  refine lv_iload hx hb dL_law_757 (lv_at hl 1 rfl) ?_
  refine lv_bipush (v := 14) hx hb dL_law_759 (by decide) ?_
  refine k_irem (v := (nI (kc % 14))) hx hb (by decide) (pk_rem (a := kc) (d := 14) (by omega) (by decide) (by decide)) dL_law_761 ?_
  refine k_iadd (v := (nI mm)) hx hb (by rw [hmm]; exact nI_add 1 (kc % 14)) dL_law_762 ?_
  refine lv_istore (lv' := [(14, .int (nI mm)), (13, .int (nI kd)), (12, .int (nI kc)), (11, .int (nI kb)), (10, .int (nI ka)), (7, .int (nI t)), (6, .ref yr), (5, .int (nI A)), (4, .int (nI M)), (3, .int (nI (cnt σ))), (2, .ref qp.1), (1, .ref qo.1), (0, .ref sb)]) hx hb dL_law_763 hl (by decide) rfl (fun ls hl => ?_)
  refine lv_aload_n hx hb dL_law_765 rfl (lv_at hl 11 rfl) ?_
  have E1 : Ev g _ s.heap H locs ((([(yr, .inl (g.2.1 0, 6, .inl yf))] ++ OB g qp up σ) ++ (OR g qo ++ DL g qo uo)) ++ OX g qo uo.1 σ) := E.perm pm_xo
  refine w_reti (runV_X (As := []) (rest := []) (q0 := 0) (n := 0) S hml hK (hZ.at E) (Cut.app E1 hA) (c_G_events l g qo uo.1 σ _ _) (gi_wsV ml_L_167 im_X6_events sl_X6_events in_X6 co_X6_events) ⟨rfl, by decide +kernel, by decide +kernel, by decide +kernel⟩ ⟨Nat.le_of_ble_eq_true rfl, Nat.le_of_ble_eq_true rfl⟩ rfl rfl rfl hl.1 rfl (Nat.le_of_ble_eq_true rfl) dL_law_766 ⟨by show k0 + 0 ≤ 600312; omega, by show n0 + 0 ≤ 7292162; omega⟩) (Cut.app E1 hA) E1 (fun r1 u1 H locs hp E2 => ?_)
  have hr := hp
  have hr := hr.trans (ps_n hI)
  subst hr
  have E : Ev g _ s.heap H locs (LW g yr yf qo qp uo up σ σ) := E2.perm pm_xo.symm
  refine lv_istore (lv' := [(15, .int (nI (en σ))), (14, .int (nI mm)), (13, .int (nI kd)), (12, .int (nI kc)), (11, .int (nI kb)), (10, .int (nI ka)), (7, .int (nI t)), (6, .ref yr), (5, .int (nI A)), (4, .int (nI M)), (3, .int (nI (cnt σ))), (2, .ref qp.1), (1, .ref qo.1), (0, .ref sb)]) hx hb dL_law_769 hl (by decide) rfl (fun ls hl => ?_)
  refine lv_aload_n hx hb dL_law_771 rfl (lv_at hl 12 rfl) ?_
  refine lv_iload hx hb dL_law_772 (lv_at hl 1 rfl) ?_
  have E1 : Ev g _ s.heap H locs (([(yr, .inl (g.2.1 0, 6, .inl yf))] ++ OB g qp up σ) ++ OB g qo uo σ) := E.perm pm_lo
  refine y_reti (yrunH (As := [.ref qo.1, .int (nI mm)]) (rest := []) (n := 2) S hml hK (hZ.at E) (Cut.app E1 hA) (c_L_passN l g hst qo uo σ mm hN6 ⟨nI_le (a := 1) hm1 (by omega), nI_le (b := 24) (by omega) (by decide)⟩ _ _) ml_L_171 st_L_pass in_L rfl co_L_pass ⟨by decide +kernel, by decide +kernel, by decide +kernel⟩ ⟨Nat.le_of_ble_eq_true rfl, Nat.le_of_ble_eq_true rfl⟩ rfl hl.1 rfl (Nat.le_of_ble_eq_true rfl) dL_law_774 ⟨by show k0 + 1 ≤ 600312; omega, by show n0 + 6 ≤ 7292162; omega⟩) (Cut.app E1 hA) E1 (fun En ce q9 H locs hp E hce hcv hcl => (False.elim hp)) (fun r2 u2 H locs hp E2 => ?_)
  have hr := hp
  subst hr
  have E : Ev g _ s.heap H locs (LW g yr yf qo qp uo up σ σ) := E2.perm pm_lo.symm
  refine lv_istore (lv' := [(16, .int (-1500000)), (15, .int (nI (en σ))), (14, .int (nI mm)), (13, .int (nI kd)), (12, .int (nI kc)), (11, .int (nI kb)), (10, .int (nI ka)), (7, .int (nI t)), (6, .ref yr), (5, .int (nI A)), (4, .int (nI M)), (3, .int (nI (cnt σ))), (2, .ref qp.1), (1, .ref qo.1), (0, .ref sb)]) hx hb dL_law_777 hl (by decide) rfl (fun ls hl => ?_)
  refine lv_iconst (v := 0) hx hb dL_law_779 (by decide) ?_
  refine lv_istore (lv' := [(17, .int 0), (16, .int (-1500000)), (15, .int (nI (en σ))), (14, .int (nI mm)), (13, .int (nI kd)), (12, .int (nI kc)), (11, .int (nI kb)), (10, .int (nI ka)), (7, .int (nI t)), (6, .ref yr), (5, .int (nI A)), (4, .int (nI M)), (3, .int (nI (cnt σ))), (2, .ref qp.1), (1, .ref qo.1), (0, .ref sb)]) hx hb dL_law_780 hl (by decide) rfl (fun ls hl => ?_)
  refine lv_iconst (v := 0) hx hb dL_law_782 (by decide) ?_
  refine lv_istore (lv' := [(18, .int 0), (17, .int 0), (16, .int (-1500000)), (15, .int (nI (en σ))), (14, .int (nI mm)), (13, .int (nI kd)), (12, .int (nI kc)), (11, .int (nI kb)), (10, .int (nI ka)), (7, .int (nI t)), (6, .ref yr), (5, .int (nI A)), (4, .int (nI M)), (3, .int (nI (cnt σ))), (2, .ref qp.1), (1, .ref qo.1), (0, .ref sb)]) hx hb dL_law_783 hl (by decide) rfl (fun ls hl => ?_)
  refine lv_iload hx hb dL_law_785 (lv_at hl 12 rfl) ?_
  refine lv_iload hx hb dL_law_787 (lv_at hl 4 rfl) ?_
  refine k_iadd (v := (nI (M + mm))) hx hb (nI_add M mm) dL_law_789 ?_
  refine lv_sipush (v := 600) hx hb dL_law_790 (by decide) ?_
  refine lv_icmp_le (tgt := 816) hx hb dL_law_793 (by decide) (fun c_ => absurd c_ (nI_ge (a := 600) (b := M + mm) (by omega) (by omega))) (fun _ => ?_)
  refine lv_iload hx hb dL_law_796 (lv_at hl 2 rfl) ?_
  refine lv_ldc (v := (-1500000)) hx hb S.2.2.2 (S.2.2.1 _ cn_L_63) dL_law_798 ?_
  refine lv_icmp_ne (tgt := 814) hx hb dL_law_800 (by decide) (fun c_ => absurd rfl c_) (fun _ => ?_)
  refine lv_aload_n hx hb dL_law_803 rfl (lv_at hl 14 rfl) ?_
  refine lv_iload hx hb dL_law_804 (lv_at hl 4 rfl) ?_
  have E1 : Ev g _ s.heap H locs (([(yr, .inl (g.2.1 0, 6, .inl yf))] ++ OB g qo uo σ) ++ OB g qp up σ) := E.perm pm_lp
  refine y_reti (yrunH (As := [.ref qp.1, .int (nI mm)]) (rest := []) (n := 2) S hml hK (hZ.at E) (Cut.app E1 hA) (c_L_passN l g hst qp up σ mm hN6 ⟨nI_le (a := 1) hm1 (by omega), nI_le (b := 24) (by omega) (by decide)⟩ _ _) ml_L_171 st_L_pass in_L rfl co_L_pass ⟨by decide +kernel, by decide +kernel, by decide +kernel⟩ ⟨Nat.le_of_ble_eq_true rfl, Nat.le_of_ble_eq_true rfl⟩ rfl hl.1 rfl (Nat.le_of_ble_eq_true rfl) dL_law_806 ⟨by show k0 + 1 + 1 ≤ 600312; omega, by show n0 + 6 + 6 ≤ 7292162; omega⟩) (Cut.app E1 hA) E1 (fun En ce q9 H locs hp E hce hcv hcl => (False.elim hp)) (fun r3 u3 H locs hp E2 => ?_)
  have hr := hp
  subst hr
  have E : Ev g _ s.heap H locs (LW g yr yf qo qp uo up σ σ) := E2.perm pm_lp.symm
  refine lv_ldc (v := (-1500000)) hx hb S.2.2.2 (S.2.2.1 _ cn_L_63) dL_law_809 ?_
  refine lv_icmp_eq (tgt := 1179) hx hb dL_law_811 (by decide) (fun _ => ?_) (fun c_ => absurd rfl c_)
  have hl := (lv_sub hl [9, 10, 11, 12, 13, 14, 15, 16] rfl)
  exact K _ _ _ _ _ _ _ _ H locs ls _ _ (TI.none hT h1t) (by show k0 + 1 + 1 ≤ _; omega) (by show n0 + 6 + 6 ≤ _; omega) E hl
set_option maxHeartbeats 4000000 in
set_option maxRecDepth 100000 in
/-- months pass -/
theorem tc_pass {p : Program} {l : Launch} {e : Env} {s : State} {m : MethodId} {below : List Frame} {meth : Method} {c : Code} {sb : Nat} {g : Gm} {yr : Nat} {qo qp : Fx} (hst : l.stackTraces = false) (S : Sta p c cL_law s #[.ref sb] RL m) (hml : c.maxLocals = 20) (hK : va_K g.1 vwC (tysG g) s) (hZ : Zs g (fun q => s.heap.size ≤ q) s s.heap) {t C M A : Nat} {yf : Nat → Int32} {uo up : SOB} {σ : Sg} {cvs : List CV} (hT : TI t C M A yf uo up σ cvs) (ht : t < 60) (h1t : 1 ≤ t) {ka kb kc kd : Nat} (hka : ka < 16) (hkb : kb < 200) (hkc : kc < 50) (hkd : kd < 1000) (hm6 : M + (1 + kc % 14) ≤ 600) {H : Heap} {locs : List Loc} {ls : Array Slot} {k0 n0 : Nat} (hk0 : k0 ≤ 100 * t + 2 * eg σ + 400) (hn0 : n0 ≤ 20000 * t + 4 * ec σ + 5000) (E : Ev g (fun q => s.heap.size ≤ q) s.heap H locs (LW g yr yf qo qp uo up σ σ)) (hl : lv_has ls 20 [(13, .int (nI kd)), (12, .int (nI kc)), (11, .int (nI kb)), (10, .int (nI ka)), (7, .int (nI t)), (6, .ref yr), (5, .int (nI A)), (4, .int (nI M)), (3, .int (nI (cnt σ))), (2, .ref qp.1), (1, .ref qo.1), (0, .ref sb)]) (K : KT p l e s m below meth c sb g yr qo qp t 1101 90 19000) : W p l e room_1 s m #[.ref sb] below meth c H locs k0 n0 (lw_Z below #[.ref sb] s) (F0 m 756 ls []) := by
  have hx := S.1
  have hb := S.2.1
  have hA : ∀ q : Nat, s.heap.size ≤ q → s.heap.size ≤ q := fun _ h => h
  have hI := hT.1.1
  have h6 := hI.wf.le
  have hCt := hT.2.1
  have hAt := hT.2.2.2.2.2.1
  obtain ⟨g1, g2⟩ := nt_c hI.ev (Nat.le_trans hI.en (by decide))
  obtain ⟨mm, hmm⟩ : ∃ mm : Nat, mm = 1 + kc % 14 := ⟨_, rfl⟩
  have hm1 : 1 ≤ mm := by omega
  have hm2 : mm ≤ 14 := by omega
  rw [← hmm] at hm6
  have hv1 : okN (11, nI mm, 0, 0, 0) (cnt σ) M := show ∃ m2 : Nat, nI mm = nI m2 ∧ 1 ≤ m2 ∧ m2 ≤ 24 ∧ M + m2 ≤ 600 from ⟨mm, rfl, hm1, by omega, hm6⟩
  have em : (fo1 (-1) (11, nI mm, 0, 0, 0) σ) = (f_months mm σ) := fo1_m (by omega)
  have hev := (inv_fo1 (lo := -1) (v := (11, nI mm, 0, 0, 0)) hI (by omega) hv1).2.2
  rw [em] at hev
  obtain ⟨he1, he2, he3⟩ := hev
  have iT := (inv_months mm M σ hI hm6).1
  obtain ⟨gt1, gt2⟩ := nt_c iT.ev (Nat.le_trans iT.en (by decide))
  have ee1 : eg (fo1 (-1) (11, nI mm, 0, 0, 0) σ) = eg (f_months mm σ) := by rw [em]
  have ee2 : ec (fo1 (-1) (11, nI mm, 0, 0, 0) σ) = ec (f_months mm σ) := by rw [em]
  have hcn := ps_c hI hm6
  have eis : isM (11, nI mm, 0, 0, 0) = mm := nI_clamp (by omega)
  have hUp : OkU up := hT.2.2.1
  have hnp := (hT.2.2.2.2.2.2 h1t).2
  refine lv_iconst (v := 1) hx hb dL_law_756 (by decide) ?_
  refine lv_iload hx hb dL_law_757 (lv_at hl 1 rfl) ?_
  refine lv_bipush (v := 14) hx hb dL_law_759 (by decide) ?_
  refine k_irem (v := (nI (kc % 14))) hx hb (by decide) (pk_rem (a := kc) (d := 14) (by omega) (by decide) (by decide)) dL_law_761 ?_
  refine k_iadd (v := (nI mm)) hx hb (by rw [hmm]; exact nI_add 1 (kc % 14)) dL_law_762 ?_
  refine lv_istore (lv' := [(14, .int (nI mm)), (13, .int (nI kd)), (12, .int (nI kc)), (11, .int (nI kb)), (10, .int (nI ka)), (7, .int (nI t)), (6, .ref yr), (5, .int (nI A)), (4, .int (nI M)), (3, .int (nI (cnt σ))), (2, .ref qp.1), (1, .ref qo.1), (0, .ref sb)]) hx hb dL_law_763 hl (by decide) rfl (fun ls hl => ?_)
  refine lv_aload_n hx hb dL_law_765 rfl (lv_at hl 11 rfl) ?_
  have E1 : Ev g _ s.heap H locs ((([(yr, .inl (g.2.1 0, 6, .inl yf))] ++ OB g qp up σ) ++ (OR g qo ++ DL g qo uo)) ++ OX g qo uo.1 σ) := E.perm pm_xo
  refine w_reti (runV_X (As := []) (rest := []) (q0 := 0) (n := 0) S hml hK (hZ.at E) (Cut.app E1 hA) (c_G_events l g qo uo.1 σ _ _) (gi_wsV ml_L_167 im_X6_events sl_X6_events in_X6 co_X6_events) ⟨rfl, by decide +kernel, by decide +kernel, by decide +kernel⟩ ⟨Nat.le_of_ble_eq_true rfl, Nat.le_of_ble_eq_true rfl⟩ rfl rfl rfl hl.1 rfl (Nat.le_of_ble_eq_true rfl) dL_law_766 ⟨by show k0 + 0 ≤ 600312; omega, by show n0 + 0 ≤ 7292162; omega⟩) (Cut.app E1 hA) E1 (fun r1 u1 H locs hp E2 => ?_)
  have hr := hp
  have hr := hr.trans (ps_n hI)
  subst hr
  have E : Ev g _ s.heap H locs (LW g yr yf qo qp uo up σ σ) := E2.perm pm_xo.symm
  refine lv_istore (lv' := [(15, .int (nI (en σ))), (14, .int (nI mm)), (13, .int (nI kd)), (12, .int (nI kc)), (11, .int (nI kb)), (10, .int (nI ka)), (7, .int (nI t)), (6, .ref yr), (5, .int (nI A)), (4, .int (nI M)), (3, .int (nI (cnt σ))), (2, .ref qp.1), (1, .ref qo.1), (0, .ref sb)]) hx hb dL_law_769 hl (by decide) rfl (fun ls hl => ?_)
  refine lv_aload_n hx hb dL_law_771 rfl (lv_at hl 12 rfl) ?_
  refine lv_iload hx hb dL_law_772 (lv_at hl 1 rfl) ?_
  have E1 : Ev g _ s.heap H locs (([(yr, .inl (g.2.1 0, 6, .inl yf))] ++ OB g qp up σ) ++ OB g qo uo σ) := E.perm pm_lo
  refine y_reti (yrunH (As := [.ref qo.1, .int (nI mm)]) (rest := []) (n := 2) S hml hK (hZ.at E) (Cut.app E1 hA) (c_L_pass l g hst qo uo σ mm hT.1.2.1 (hT.2.2.2.2.2.2 h1t).1 hI (by omega) hm1 (by omega) hm6 ⟨nI_le (a := 1) hm1 (by omega), nI_le (b := 24) (by omega) (by decide)⟩ (by rw [hI.2.1, nI_add]; exact nI_le (b := 600) hm6 (by decide)) _ _) ml_L_171 st_L_pass in_L rfl co_L_pass ⟨by decide +kernel, by decide +kernel, by decide +kernel⟩ ⟨Nat.le_of_ble_eq_true rfl, Nat.le_of_ble_eq_true rfl⟩ rfl hl.1 rfl (Nat.le_of_ble_eq_true rfl) dL_law_774 ⟨by show k0 + 61 ≤ 600312; omega, by show n0 + 600005 ≤ 7292162; omega⟩) (Cut.app E1 hA) E1 (fun En ce q9 H locs hp E hce hcv hcl => (False.elim hp)) (fun r2 u2 H locs hp E2 => ?_)
  obtain ⟨hr, hn2⟩ := hp
  have hr := hr.trans (show gs (fo1 (-1) (11, nI mm, 0, 0, 0) σ) 0 = nI (M + mm) by rw [em]; exact iT.2.1)
  subst hr
  have E : Ev g _ s.heap H locs (LW g yr yf qo qp u2 up (fo1 (-1) (11, nI mm, 0, 0, 0) σ) σ) := E2.perm pm_lo.symm
  rw [em] at E
  have E : Ev g _ s.heap H locs (LW g yr yf qo qp u2 up (f_months mm σ) σ) := E
  refine lv_istore (lv' := [(16, .int (nI (M + mm))), (15, .int (nI (en σ))), (14, .int (nI mm)), (13, .int (nI kd)), (12, .int (nI kc)), (11, .int (nI kb)), (10, .int (nI ka)), (7, .int (nI t)), (6, .ref yr), (5, .int (nI A)), (4, .int (nI M)), (3, .int (nI (cnt σ))), (2, .ref qp.1), (1, .ref qo.1), (0, .ref sb)]) hx hb dL_law_777 hl (by decide) rfl (fun ls hl => ?_)
  refine lv_iconst (v := 0) hx hb dL_law_779 (by decide) ?_
  refine lv_istore (lv' := [(17, .int 0), (16, .int (nI (M + mm))), (15, .int (nI (en σ))), (14, .int (nI mm)), (13, .int (nI kd)), (12, .int (nI kc)), (11, .int (nI kb)), (10, .int (nI ka)), (7, .int (nI t)), (6, .ref yr), (5, .int (nI A)), (4, .int (nI M)), (3, .int (nI (cnt σ))), (2, .ref qp.1), (1, .ref qo.1), (0, .ref sb)]) hx hb dL_law_780 hl (by decide) rfl (fun ls hl => ?_)
  refine lv_iconst (v := 0) hx hb dL_law_782 (by decide) ?_
  refine lv_istore (lv' := [(18, .int 0), (17, .int 0), (16, .int (nI (M + mm))), (15, .int (nI (en σ))), (14, .int (nI mm)), (13, .int (nI kd)), (12, .int (nI kc)), (11, .int (nI kb)), (10, .int (nI ka)), (7, .int (nI t)), (6, .ref yr), (5, .int (nI A)), (4, .int (nI M)), (3, .int (nI (cnt σ))), (2, .ref qp.1), (1, .ref qo.1), (0, .ref sb)]) hx hb dL_law_783 hl (by decide) rfl (fun ls hl => ?_)
  refine lv_iload hx hb dL_law_785 (lv_at hl 12 rfl) ?_
  refine lv_iload hx hb dL_law_787 (lv_at hl 4 rfl) ?_
  refine k_iadd (v := (nI (M + mm))) hx hb (nI_add M mm) dL_law_789 ?_
  refine lv_sipush (v := 600) hx hb dL_law_790 (by decide) ?_
  refine lv_icmp_le (tgt := 816) hx hb dL_law_793 (by decide) (fun _ => ?_) (fun c_ => absurd (nI_le (b := 600) hm6 (by decide)) c_)
  refine lv_iconst (v := 0) hx hb dL_law_816 (by decide) ?_
  refine lv_istore (lv' := [(19, .int 0), (18, .int 0), (17, .int 0), (16, .int (nI (M + mm))), (15, .int (nI (en σ))), (14, .int (nI mm)), (13, .int (nI kd)), (12, .int (nI kc)), (11, .int (nI kb)), (10, .int (nI ka)), (7, .int (nI t)), (6, .ref yr), (5, .int (nI A)), (4, .int (nI M)), (3, .int (nI (cnt σ))), (2, .ref qp.1), (1, .ref qo.1), (0, .ref sb)]) hx hb dL_law_817 hl (by decide) rfl (fun ls hl => ?_)
  have hUo : OkU u2 := hn2.1
  have hno : u2.2.2.2.2 ≠ [] := hn2.2.1
  obtain ⟨kb, hkb0⟩ : ∃ kb : Nat, kb = k0 + (eg (fo1 (-1) (11, nI mm, 0, 0, 0) σ) - eg σ + 3) := ⟨_, rfl⟩
  obtain ⟨nb, hnb0⟩ : ∃ nb : Nat, nb = n0 + (2 * ec (fo1 (-1) (11, nI mm, 0, 0, 0) σ) - 2 * ec σ + 815) := ⟨_, rfl⟩
  refine W.widen (k := kb) (n := nb) (by show k0 + (eg (fo1 (-1) (11, nI mm, 0, 0, 0) σ) - eg σ + 3) ≤ kb; omega) (by show n0 + (2 * ec (fo1 (-1) (11, nI mm, 0, 0, 0) σ) - 2 * ec σ + 815) ≤ nb; omega) ?_
  refine tp_wa hst S hml hK hZ hI (by omega) hm6 hUo hno hUp hnp (by omega) (by omega) (fun H locs ls E hl => ?_) (cnt σ) 0 (Nat.zero_add _) H locs ls E (lv_sub hl [0, 1, 2, 3, 4, 5, 10, 11, 12, 13, 14, 15, 16, 17] rfl)
  refine lv_iconst (v := 0) hx hb dL_law_842 (by decide) ?_
  refine lv_istore (lv' := [(19, .int 0), (18, .int (sA σ (cnt σ))), (17, .int 0), (16, .int (nI (M + mm))), (15, .int (nI (en σ))), (14, .int (nI mm)), (7, .int (nI t)), (6, .ref yr), (5, .int (nI A)), (4, .int (nI M)), (3, .int (nI (cnt σ))), (2, .ref qp.1), (1, .ref qo.1), (0, .ref sb)]) hx hb dL_law_843 hl (by decide) rfl (fun ls hl => ?_)
  refine tp_mo hst S hml hK hZ hI (by omega) hm6 hUo hno (by omega) (by omega) (k0 := kb) (n0 := nb) (by omega) (by omega) (fun w2 k n H locs ls hU2 hW2 hk2 hnn2 E hl => ?_) mm 0 (Nat.zero_add _) up kb nb H locs ls hUp hnp (by show kb + eg σ ≤ kb + 3 * 0 + eg σ; omega) (by show nb + 2 * ec σ ≤ nb + 815 * 0 + 2 * ec σ; omega) E (lv_sub hl [0, 1, 2, 3, 4, 5, 6, 7, 8, 9, 10, 11, 12, 13] rfl)
  refine lv_iload hx hb dL_law_880 (lv_at hl 3 rfl) ?_
  refine lv_iload hx hb dL_law_882 (lv_at hl 9 rfl) ?_
  refine lv_iload hx hb dL_law_884 (lv_at hl 5 rfl) ?_
  refine k_iadd (v := (nI (M + mm))) hx hb (nI_add M mm) dL_law_886 ?_
  refine lv_icmp_ne (tgt := 922) hx hb dL_law_887 (by decide) (fun c_ => absurd rfl c_) (fun _ => ?_)
  refine lv_aload_n hx hb dL_law_890 rfl (lv_at hl 12 rfl) ?_
  have E1 : Ev g _ s.heap H locs ((([(yr, .inl (g.2.1 0, 6, .inl yf))] ++ OB g qp w2 (f_months mm σ)) ++ (OR g qo ++ DL g qo u2)) ++ OX g qo u2.1 (f_months mm σ)) := E.perm pm_xo
  refine w_retl (runV_X (As := []) (rest := []) (q0 := 0) (n := 0) S hml hK (hZ.at E) (Cut.app E1 hA) (c_G_checksum l g qo.1 (qo.2.2.2.2.1 0) qo.2.1 qo.2.2.1 qo.2.2.2.1 u2.1 (f_months mm σ) _ _) (gi_wsV ml_L_173 im_X6_checksum sl_X6_checksum in_X6 co_X6_checksum) ⟨rfl, by decide +kernel, by decide +kernel, by decide +kernel⟩ ⟨Nat.le_of_ble_eq_true rfl, Nat.le_of_ble_eq_true rfl⟩ rfl rfl rfl hl.1 rfl (Nat.le_of_ble_eq_true rfl) dL_law_891 ⟨by show k + 0 ≤ 600312; omega, by show n + 0 ≤ 7292162; omega⟩) (Cut.app E1 hA) E1 (fun r3 u3 H locs hp E2 => ?_)
  have hr := hp
  subst hr
  have E : Ev g _ s.heap H locs (LW g yr yf qo qp u2 w2 (f_months mm σ) (f_months mm σ)) := E2.perm pm_xo.symm
  refine lv_aload_n hx hb dL_law_894 rfl (lv_at hl 11 rfl) ?_
  have E1 : Ev g _ s.heap H locs ((([(yr, .inl (g.2.1 0, 6, .inl yf))] ++ OB g qo u2 (f_months mm σ)) ++ (OR g qp ++ DL g qp w2)) ++ OX g qp w2.1 (f_months mm σ)) := E.perm pm_xp
  refine w_retl (runV_X (As := []) (rest := [.long (f_check (f_months mm σ) 16 0 0)]) (q0 := 0) (n := 0) S hml hK (hZ.at E) (Cut.app E1 hA) (c_G_checksum l g qp.1 (qp.2.2.2.2.1 0) qp.2.1 qp.2.2.1 qp.2.2.2.1 w2.1 (f_months mm σ) _ _) (gi_wsV ml_L_173 im_X6_checksum sl_X6_checksum in_X6 co_X6_checksum) ⟨rfl, by decide +kernel, by decide +kernel, by decide +kernel⟩ ⟨Nat.le_of_ble_eq_true rfl, Nat.le_of_ble_eq_true rfl⟩ rfl rfl rfl hl.1 rfl (Nat.le_of_ble_eq_true rfl) dL_law_895 ⟨by show k + 0 ≤ 600312; omega, by show n + 0 ≤ 7292162; omega⟩) (Cut.app E1 hA) E1 (fun r4 u4 H locs hp E2 => ?_)
  have hr := hp
  subst hr
  have E : Ev g _ s.heap H locs (LW g yr yf qo qp u2 w2 (f_months mm σ) (f_months mm σ)) := E2.perm pm_xp.symm
  refine k_lcmp (v := (lg_cmp (f_check (f_months mm σ) 16 0 0) (f_check (f_months mm σ) 16 0 0))) hx hb rfl dL_law_898 ?_
  refine lv_if_ne (tgt := 922) hx hb dL_law_899 (by decide) (fun c_ => absurd (lg_self _) c_) (fun _ => ?_)
  refine lv_aload_n hx hb dL_law_902 rfl (lv_at hl 12 rfl) ?_
  have E1 : Ev g _ s.heap H locs ((([(yr, .inl (g.2.1 0, 6, .inl yf))] ++ OB g qp w2 (f_months mm σ)) ++ (OR g qo ++ DL g qo u2)) ++ OX g qo u2.1 (f_months mm σ)) := E.perm pm_xo
  refine w_reti (runV_X (As := []) (rest := []) (q0 := 0) (n := 0) S hml hK (hZ.at E) (Cut.app E1 hA) (c_G_events l g qo u2.1 (f_months mm σ) _ _) (gi_wsV ml_L_167 im_X6_events sl_X6_events in_X6 co_X6_events) ⟨rfl, by decide +kernel, by decide +kernel, by decide +kernel⟩ ⟨Nat.le_of_ble_eq_true rfl, Nat.le_of_ble_eq_true rfl⟩ rfl rfl rfl hl.1 rfl (Nat.le_of_ble_eq_true rfl) dL_law_903 ⟨by show k + 0 ≤ 600312; omega, by show n + 0 ≤ 7292162; omega⟩) (Cut.app E1 hA) E1 (fun r5 u5 H locs hp E2 => ?_)
  have hr := hp
  have hr := hr.trans (ps_n iT)
  subst hr
  have E : Ev g _ s.heap H locs (LW g yr yf qo qp u2 w2 (f_months mm σ) (f_months mm σ)) := E2.perm pm_xo.symm
  refine lv_aload_n hx hb dL_law_906 rfl (lv_at hl 11 rfl) ?_
  have E1 : Ev g _ s.heap H locs ((([(yr, .inl (g.2.1 0, 6, .inl yf))] ++ OB g qo u2 (f_months mm σ)) ++ (OR g qp ++ DL g qp w2)) ++ OX g qp w2.1 (f_months mm σ)) := E.perm pm_xp
  refine w_reti (runV_X (As := []) (rest := [.int (nI (en (f_months mm σ)))]) (q0 := 0) (n := 0) S hml hK (hZ.at E) (Cut.app E1 hA) (c_G_events l g qp w2.1 (f_months mm σ) _ _) (gi_wsV ml_L_167 im_X6_events sl_X6_events in_X6 co_X6_events) ⟨rfl, by decide +kernel, by decide +kernel, by decide +kernel⟩ ⟨Nat.le_of_ble_eq_true rfl, Nat.le_of_ble_eq_true rfl⟩ rfl rfl rfl hl.1 rfl (Nat.le_of_ble_eq_true rfl) dL_law_907 ⟨by show k + 0 ≤ 600312; omega, by show n + 0 ≤ 7292162; omega⟩) (Cut.app E1 hA) E1 (fun r6 u6 H locs hp E2 => ?_)
  have hr := hp
  have hr := hr.trans (ps_n iT)
  subst hr
  have E : Ev g _ s.heap H locs (LW g yr yf qo qp u2 w2 (f_months mm σ) (f_months mm σ)) := E2.perm pm_xp.symm
  refine lv_icmp_ne (tgt := 922) hx hb dL_law_910 (by decide) (fun c_ => absurd rfl c_) (fun _ => ?_)
  refine lv_aload_n hx hb dL_law_913 rfl (lv_at hl 12 rfl) ?_
  have E1 : Ev g _ s.heap H locs ((([(yr, .inl (g.2.1 0, 6, .inl yf))] ++ OB g qp w2 (f_months mm σ)) ++ (OR g qo ++ DL g qo u2)) ++ OX g qo u2.1 (f_months mm σ)) := E.perm pm_xo
  refine w_reti (runV_X (As := []) (rest := []) (q0 := 0) (n := 0) S hml hK (hZ.at E) (Cut.app E1 hA) (c_G_events l g qo u2.1 (f_months mm σ) _ _) (gi_wsV ml_L_167 im_X6_events sl_X6_events in_X6 co_X6_events) ⟨rfl, by decide +kernel, by decide +kernel, by decide +kernel⟩ ⟨Nat.le_of_ble_eq_true rfl, Nat.le_of_ble_eq_true rfl⟩ rfl rfl rfl hl.1 rfl (Nat.le_of_ble_eq_true rfl) dL_law_914 ⟨by show k + 0 ≤ 600312; omega, by show n + 0 ≤ 7292162; omega⟩) (Cut.app E1 hA) E1 (fun r7 u7 H locs hp E2 => ?_)
  have hr := hp
  have hr := hr.trans (ps_n iT)
  subst hr
  have E : Ev g _ s.heap H locs (LW g yr yf qo qp u2 w2 (f_months mm σ) (f_months mm σ)) := E2.perm pm_xo.symm
  refine lv_iload hx hb dL_law_917 (lv_at hl 4 rfl) ?_
  refine lv_icmp_ge (tgt := 924) hx hb dL_law_919 (by decide) (fun _ => ?_) (fun c_ => absurd (nI_le (by omega) (by have := iT.en; omega)) c_)
  refine lv_iload hx hb dL_law_924 (lv_at hl 9 rfl) ?_
  refine lv_iload hx hb dL_law_926 (lv_at hl 5 rfl) ?_
  refine k_iadd (v := (nI (M + mm))) hx hb (nI_add M mm) dL_law_928 ?_
  refine lv_istore (lv' := [(4, .int (nI (M + mm))), (19, .int (nI mm)), (18, .int (sA σ (cnt σ))), (17, .int 0), (16, .int (nI (M + mm))), (15, .int (nI (en σ))), (14, .int (nI mm)), (7, .int (nI t)), (6, .ref yr), (5, .int (nI A)), (3, .int (nI (cnt σ))), (2, .ref qp.1), (1, .ref qo.1), (0, .ref sb)]) hx hb dL_law_929 hl (by decide) rfl (fun ls hl => ?_)
  refine lv_iconst (v := 0) hx hb dL_law_931 (by decide) ?_
  refine lv_istore (lv' := [(19, .int 0), (4, .int (nI (M + mm))), (18, .int (sA σ (cnt σ))), (17, .int 0), (16, .int (nI (M + mm))), (15, .int (nI (en σ))), (14, .int (nI mm)), (7, .int (nI t)), (6, .ref yr), (5, .int (nI A)), (3, .int (nI (cnt σ))), (2, .ref qp.1), (1, .ref qo.1), (0, .ref sb)]) hx hb dL_law_932 hl (by decide) rfl (fun ls hl => ?_)
  refine tp_we hst S hml hK hZ hI (by omega) hm6 hUo hno hU2 hW2 (by omega) (by omega) (fun H locs ls E hl => ?_) (cnt σ) 0 (Nat.zero_add _) H locs ls E (lv_sub hl [0, 2, 3, 5, 7, 8, 9, 1, 10, 11, 12, 13] rfl)
  refine lv_iload hx hb dL_law_1016 (lv_at hl 2 rfl) ?_
  refine lv_iload hx hb dL_law_1018 (lv_at hl 1 rfl) ?_
  refine lv_icmp_gt (tgt := 1030) hx hb dL_law_1020 (by decide) (fun c_ => absurd c_ (ps_s hI hm6 hT.2.2.2.2.1 (by omega)).1) (fun _ => ?_)
  refine lv_iload hx hb dL_law_1023 (lv_at hl 2 rfl) ?_
  refine lv_iload hx hb dL_law_1025 (lv_at hl 6 rfl) ?_
  refine lv_icmp_le (tgt := 1032) hx hb dL_law_1027 (by decide) (fun _ => ?_) (fun c_ => absurd (ps_s hI hm6 hT.2.2.2.2.1 (by omega)).2 c_)
  refine lv_iload hx hb dL_law_1032 (lv_at hl 3 rfl) ?_
  refine lv_istore (lv' := [(19, .int (nI (en σ))), (18, .int (sA σ (cnt σ))), (17, .int (sA (f_months mm σ) (cnt σ))), (15, .int (nI (en σ))), (7, .int (nI t)), (6, .ref yr), (5, .int (nI A)), (4, .int (nI (M + mm))), (3, .int (nI (cnt σ))), (2, .ref qp.1), (1, .ref qo.1), (0, .ref sb)]) hx hb dL_law_1034 hl (by decide) rfl (fun ls hl => ?_)
  refine tp_ev hst S hml hK hZ hI (by omega) hm6 hUo hno hU2 hW2 (by omega) (by omega) (fun H locs ls E hl => ?_) (en (f_months mm σ) - en σ) (en σ) (by omega) H locs ls E (lv_sub hl [0, 4, 5, 6, 7, 8, 9, 10, 11] rfl)
  have hTT := TI.one hT ht hv1 (show (11 : Nat) ≠ 8 by decide) hn2 ⟨hU2, hW2⟩
  rw [em, eis] at hTT
  exact K _ _ _ _ _ _ _ _ H locs ls k n hTT (by omega) (by omega) E (by rw [hcn]; exact hl)
