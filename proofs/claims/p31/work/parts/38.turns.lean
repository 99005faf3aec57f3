section PERMX
variable {Y P O R X D : va_W}
theorem pm_xo : (((Y ++ P) ++ (R ++ D)) ++ X).Perm (Y ++ (P ++ (R ++ (X ++ D)))) := by
  have h := perm_ix [Y, P, R, X, D] (is := [0, 1, 2, 4, 3]) (js := [0, 1, 2, 3, 4]) (by decide)
  simpa [cat] using h
theorem pm_xp : (((Y ++ O) ++ (R ++ D)) ++ X).Perm (Y ++ ((R ++ (X ++ D)) ++ O)) := by
  have h := perm_ix [Y, R, X, D, O] (is := [0, 4, 1, 3, 2]) (js := [0, 1, 2, 3, 4]) (by decide)
  simpa [cat] using h
end PERMX
set_option maxHeartbeats 4000000 in
set_option maxRecDepth 100000 in
/-- a cell is set -/
theorem tc_cell {p : Program} {l : Launch} {e : Env} {s : State} {m : MethodId} {below : List Frame} {meth : Method} {c : Code} {sb : Nat} {g : Gm} {yr : Nat} {qo qp : Fx} (hst : l.stackTraces = false) (S : Sta p c cL_law s #[.ref sb] RL m) (hml : c.maxLocals = 20) (hK : va_K g.1 vwC (tysG g) s) (hZ : Zs g (fun q => s.heap.size ≤ q) s s.heap) {t C M A : Nat} {yf : Nat → Int32} {uo up : SOB} {σ : Sg} {cvs : List CV} (hT : TI t C M A yf uo up σ cvs) (ht : t < 60)  {ka kb kc kd : Nat} (hka : ka < 16) (hkb : kb < 200) (hkc : kc < 50) (hkd : kd < 1000)  {H : Heap} {locs : List Loc} {ls : Array Slot} {k0 n0 : Nat} (hk0 : k0 ≤ 100 * t + 2 * eg σ + 400) (hn0 : n0 ≤ 20000 * t + 4 * ec σ + 5000) (E : Ev g (fun q => s.heap.size ≤ q) s.heap H locs (LW g yr yf qo qp uo up σ σ)) (hl : lv_has ls 20 [(13, .int (nI kd)), (12, .int (nI kc)), (11, .int (nI kb)), (10, .int (nI ka)), (7, .int (nI t)), (6, .ref yr), (5, .int (nI A)), (4, .int (nI M)), (3, .int (nI (cnt σ))), (2, .ref qp.1), (1, .ref qo.1), (0, .ref sb)]) (K : KT p l e s m below meth c sb g yr qo qp t 1101 90 19000) : W p l e room_1 s m #[.ref sb] below meth c H locs k0 n0 (lw_Z below #[.ref sb] s) (F0 m 117 ls []) := by
  have hx := S.1
  have hb := S.2.1
  have hA : ∀ q : Nat, s.heap.size ≤ q → s.heap.size ≤ q := fun _ h => h
  have hI := hT.1.1
  have h6 := hI.wf.le
  have hCt := hT.2.1
  have hAt := hT.2.2.2.2.2.1
  obtain ⟨g1, g2⟩ := nt_c hI.ev (Nat.le_trans hI.en (by decide))
  refine lv_aload_n hx hb dL_law_117 rfl (lv_at hl 10 rfl) ?_
  refine lv_iload hx hb dL_law_118 (lv_at hl 3 rfl) ?_
  have E1 : Ev g _ s.heap H locs (([(yr, .inl (g.2.1 0, 6, .inl yf))] ++ OB g qp up σ) ++ OB g qo uo σ) := E.perm pm_lo
  refine y_reti (yrunH (As := [.ref qo.1, .int (nI ka)]) (rest := []) (n := 2) S hml hK (hZ.at E) (Cut.app E1 hA) (c_L_water l g hst qo uo σ (nI ka) (rgN (k := ka) (m := 15) (by omega) (by decide)) _ _) ml_L_116 st_L_water in_L rfl co_L_water ⟨by decide +kernel, by decide +kernel, by decide +kernel⟩ ⟨Nat.le_of_ble_eq_true rfl, Nat.le_of_ble_eq_true rfl⟩ rfl hl.1 rfl (Nat.le_of_ble_eq_true rfl) dL_law_120 ⟨by show k0 + 1 ≤ 600312; omega, by show n0 + 6 ≤ 7292162; omega⟩) (Cut.app E1 hA) E1 (fun En ce q9 H locs hp E hce hcv hcl => (False.elim hp)) (fun r1 u1 H locs hp E2 => ?_)
  have hr := hp
  subst hr
  have E : Ev g _ s.heap H locs (LW g yr yf qo qp uo up σ σ) := E2.perm pm_lo.symm
  refine lv_istore (lv' := [(14, .int (gi σ 10 (nI ka))), (13, .int (nI kd)), (12, .int (nI kc)), (11, .int (nI kb)), (10, .int (nI ka)), (7, .int (nI t)), (6, .ref yr), (5, .int (nI A)), (4, .int (nI M)), (3, .int (nI (cnt σ))), (2, .ref qp.1), (1, .ref qo.1), (0, .ref sb)]) hx hb dL_law_123 hl (by decide) rfl (fun ls hl => ?_)
  refine lv_aload_n hx hb dL_law_125 rfl (lv_at hl 11 rfl) ?_
  refine lv_iload hx hb dL_law_126 (lv_at hl 4 rfl) ?_
  refine lv_iload hx hb dL_law_128 (lv_at hl 3 rfl) ?_
  refine lv_bipush (v := 100) hx hb dL_law_130 (by decide) ?_
  refine k_isub (v := ((nI kb) - 100)) hx hb rfl dL_law_132 ?_
  refine lv_iconst (v := 1) hx hb dL_law_133 (by decide) ?_
  refine lv_iload hx hb dL_law_134 (lv_at hl 2 rfl) ?_
  refine k_iadd (v := (nI (1 + kc))) hx hb (nI_add 1 kc) dL_law_136 ?_
  refine lv_iload hx hb dL_law_137 (lv_at hl 1 rfl) ?_
  have hv1 : okN (0, (nI ka), ((nI kb) - 100), (nI (1 + kc)), (nI kd)) (cnt σ) M := show _ ∧ _ from ⟨(rgN (k := ka) (m := 15) (by omega) (by decide)), (rg_m (by omega)), (rg_1 (k := kc) (m := 50) (by omega) (by decide)), (rgN (k := kd) (m := 5000) (by omega) (by decide))⟩
  have jv1 := inv_fo1 (lo := -1) (v := (0, (nI ka), ((nI kb) - 100), (nI (1 + kc)), (nI kd))) hI (by omega) hv1
  have i1 : Inv (C + 1) M (fo1 (-1) (0, (nI ka), ((nI kb) - 100), (nI (1 + kc)), (nI kd)) σ) := jv1.1
  obtain ⟨ma1, mb1, mc1⟩ := jv1.2.2
  obtain ⟨md1, me1⟩ := nt_c i1.ev (Nat.le_trans i1.en (by decide))
  have hq1 : cnt (fo1 (-1) (0, (nI ka), ((nI kb) - 100), (nI (1 + kc)), (nI kd)) σ) = cnt σ := (kw_of hI (by omega) hv1 (show (0 : Nat) ≠ 8 by decide)).1
  have E1 : Ev g _ s.heap H locs (([(yr, .inl (g.2.1 0, 6, .inl yf))] ++ OB g qp up σ) ++ OB g qo uo σ) := E.perm pm_lo
  refine y_reti (yrunH (As := [.ref qo.1, .int (nI ka), .int ((nI kb) - 100), .int (nI (1 + kc)), .int (nI kd)]) (rest := []) (n := 5) S hml hK (hZ.at E) (Cut.app E1 hA) (c_L_setCell l g hst qo uo σ (nI ka) ((nI kb) - 100) (nI (1 + kc)) (nI kd) hT.1.2.1 hI (by omega) (rgN (k := ka) (m := 15) (by omega) (by decide)) (rg_m (by omega)) (rg_1 (k := kc) (m := 50) (by omega) (by decide)) (rgN (k := kd) (m := 5000) (by omega) (by decide)) _ _) ml_L_140 st_L_setCell in_L rfl co_L_setCell ⟨by decide +kernel, by decide +kernel, by decide +kernel⟩ ⟨Nat.le_of_ble_eq_true rfl, Nat.le_of_ble_eq_true rfl⟩ rfl hl.1 rfl (Nat.le_of_ble_eq_true rfl) dL_law_139 ⟨by show k0 + 61 ≤ 600312; omega, by show n0 + 600005 ≤ 7292162; omega⟩) (Cut.app E1 hA) E1 (fun En ce q9 H locs hp E hce hcv hcl => (False.elim hp)) (fun r2 u2 H locs hp E2 => ?_)
  obtain ⟨hr, hn2⟩ := hp
  subst hr
  have E : Ev g _ s.heap H locs (LW g yr yf qo qp u2 up (fo1 (-1) (0, (nI ka), ((nI kb) - 100), (nI (1 + kc)), (nI kd)) σ) σ) := E2.perm pm_lo.symm
  refine lv_iload hx hb dL_law_142 (lv_at hl 0 rfl) ?_
  refine lv_icmp_ne (tgt := 211) hx hb dL_law_144 (by decide) (fun c_ => absurd rfl c_) (fun _ => ?_)
  refine lv_aload_n hx hb dL_law_147 rfl (lv_at hl 10 rfl) ?_
  refine lv_iload hx hb dL_law_148 (lv_at hl 4 rfl) ?_
  refine lv_iload hx hb dL_law_150 (lv_at hl 3 rfl) ?_
  refine lv_bipush (v := 100) hx hb dL_law_152 (by decide) ?_
  refine k_isub (v := ((nI kb) - 100)) hx hb rfl dL_law_154 ?_
  refine lv_iconst (v := 1) hx hb dL_law_155 (by decide) ?_
  refine lv_iload hx hb dL_law_156 (lv_at hl 2 rfl) ?_
  refine k_iadd (v := (nI (1 + kc))) hx hb (nI_add 1 kc) dL_law_158 ?_
  refine lv_iload hx hb dL_law_159 (lv_at hl 1 rfl) ?_
  have E1 : Ev g _ s.heap H locs (([(yr, .inl (g.2.1 0, 6, .inl yf))] ++ OB g qo u2 (fo1 (-1) (0, (nI ka), ((nI kb) - 100), (nI (1 + kc)), (nI kd)) σ)) ++ OB g qp up σ) := E.perm pm_lp
  refine y_reti (yrunH (As := [.ref qp.1, .int (nI ka), .int ((nI kb) - 100), .int (nI (1 + kc)), .int (nI kd)]) (rest := []) (n := 5) S hml hK (hZ.at E) (Cut.app E1 hA) (c_L_setCell l g hst qp up σ (nI ka) ((nI kb) - 100) (nI (1 + kc)) (nI kd) hT.2.2.1 hI (by omega) (rgN (k := ka) (m := 15) (by omega) (by decide)) (rg_m (by omega)) (rg_1 (k := kc) (m := 50) (by omega) (by decide)) (rgN (k := kd) (m := 5000) (by omega) (by decide)) _ _) ml_L_140 st_L_setCell in_L rfl co_L_setCell ⟨by decide +kernel, by decide +kernel, by decide +kernel⟩ ⟨Nat.le_of_ble_eq_true rfl, Nat.le_of_ble_eq_true rfl⟩ rfl hl.1 rfl (Nat.le_of_ble_eq_true rfl) dL_law_161 ⟨by show k0 + (eg (fo1 (-1) (0, (nI ka), ((nI kb) - 100), (nI (1 + kc)), (nI kd)) σ) - eg σ + 3) + 61 ≤ 600312; omega, by show n0 + (2 * ec (fo1 (-1) (0, (nI ka), ((nI kb) - 100), (nI (1 + kc)), (nI kd)) σ) - 2 * ec σ + 815) + 600005 ≤ 7292162; omega⟩) (Cut.app E1 hA) E1 (fun En ce q9 H locs hp E hce hcv hcl => (False.elim hp)) (fun r3 u3 H locs hp E2 => ?_)
  obtain ⟨hr, hn3⟩ := hp
  subst hr
  have E : Ev g _ s.heap H locs (LW g yr yf qo qp u2 u3 (fo1 (-1) (0, (nI ka), ((nI kb) - 100), (nI (1 + kc)), (nI kd)) σ) (fo1 (-1) (0, (nI ka), ((nI kb) - 100), (nI (1 + kc)), (nI kd)) σ)) := E2.perm pm_lp.symm
  refine lv_iload hx hb dL_law_164 (lv_at hl 0 rfl) ?_
  refine lv_icmp_ne (tgt := 211) hx hb dL_law_166 (by decide) (fun c_ => absurd rfl c_) (fun _ => ?_)
  refine lv_aload_n hx hb dL_law_169 rfl (lv_at hl 11 rfl) ?_
  refine lv_iload hx hb dL_law_170 (lv_at hl 4 rfl) ?_
  have E1 : Ev g _ s.heap H locs (([(yr, .inl (g.2.1 0, 6, .inl yf))] ++ OB g qp u3 (fo1 (-1) (0, (nI ka), ((nI kb) - 100), (nI (1 + kc)), (nI kd)) σ)) ++ OB g qo u2 (fo1 (-1) (0, (nI ka), ((nI kb) - 100), (nI (1 + kc)), (nI kd)) σ)) := E.perm pm_lo
  refine y_reti (yrunH (As := [.ref qo.1, .int (nI ka)]) (rest := []) (n := 2) S hml hK (hZ.at E) (Cut.app E1 hA) (c_L_water l g hst qo u2 (fo1 (-1) (0, (nI ka), ((nI kb) - 100), (nI (1 + kc)), (nI kd)) σ) (nI ka) (rgN (k := ka) (m := 15) (by omega) (by decide)) _ _) ml_L_116 st_L_water in_L rfl co_L_water ⟨by decide +kernel, by decide +kernel, by decide +kernel⟩ ⟨Nat.le_of_ble_eq_true rfl, Nat.le_of_ble_eq_true rfl⟩ rfl hl.1 rfl (Nat.le_of_ble_eq_true rfl) dL_law_172 ⟨by show k0 + (eg (fo1 (-1) (0, (nI ka), ((nI kb) - 100), (nI (1 + kc)), (nI kd)) σ) - eg σ + 3) + (eg (fo1 (-1) (0, (nI ka), ((nI kb) - 100), (nI (1 + kc)), (nI kd)) σ) - eg σ + 3) + 1 ≤ 600312; omega, by show n0 + (2 * ec (fo1 (-1) (0, (nI ka), ((nI kb) - 100), (nI (1 + kc)), (nI kd)) σ) - 2 * ec σ + 815) + (2 * ec (fo1 (-1) (0, (nI ka), ((nI kb) - 100), (nI (1 + kc)), (nI kd)) σ) - 2 * ec σ + 815) + 6 ≤ 7292162; omega⟩) (Cut.app E1 hA) E1 (fun En ce q9 H locs hp E hce hcv hcl => (False.elim hp)) (fun r4 u4 H locs hp E2 => ?_)
  have hr := hp
  subst hr
  have E : Ev g _ s.heap H locs (LW g yr yf qo qp u2 u3 (fo1 (-1) (0, (nI ka), ((nI kb) - 100), (nI (1 + kc)), (nI kd)) σ) (fo1 (-1) (0, (nI ka), ((nI kb) - 100), (nI (1 + kc)), (nI kd)) σ)) := E2.perm pm_lo.symm
  refine lv_iload hx hb dL_law_175 (lv_at hl 1 rfl) ?_
  refine lv_icmp_ne (tgt := 211) hx hb dL_law_177 (by decide) (fun c_ => absurd fc_w c_) (fun _ => ?_)
  refine lv_aload_n hx hb dL_law_180 rfl (lv_at hl 11 rfl) ?_
  refine lv_iload hx hb dL_law_181 (lv_at hl 4 rfl) ?_
  have E1 : Ev g _ s.heap H locs (([(yr, .inl (g.2.1 0, 6, .inl yf))] ++ OB g qp u3 (fo1 (-1) (0, (nI ka), ((nI kb) - 100), (nI (1 + kc)), (nI kd)) σ)) ++ OB g qo u2 (fo1 (-1) (0, (nI ka), ((nI kb) - 100), (nI (1 + kc)), (nI kd)) σ)) := E.perm pm_lo
  refine y_reti (yrunH (As := [.ref qo.1, .int (nI ka)]) (rest := []) (n := 2) S hml hK (hZ.at E) (Cut.app E1 hA) (c_L_salt l g hst qo u2 (fo1 (-1) (0, (nI ka), ((nI kb) - 100), (nI (1 + kc)), (nI kd)) σ) (nI ka) (rgN (k := ka) (m := 15) (by omega) (by decide)) _ _) ml_L_119 st_L_salt in_L rfl co_L_salt ⟨by decide +kernel, by decide +kernel, by decide +kernel⟩ ⟨Nat.le_of_ble_eq_true rfl, Nat.le_of_ble_eq_true rfl⟩ rfl hl.1 rfl (Nat.le_of_ble_eq_true rfl) dL_law_183 ⟨by show k0 + (eg (fo1 (-1) (0, (nI ka), ((nI kb) - 100), (nI (1 + kc)), (nI kd)) σ) - eg σ + 3) + (eg (fo1 (-1) (0, (nI ka), ((nI kb) - 100), (nI (1 + kc)), (nI kd)) σ) - eg σ + 3) + 1 ≤ 600312; omega, by show n0 + (2 * ec (fo1 (-1) (0, (nI ka), ((nI kb) - 100), (nI (1 + kc)), (nI kd)) σ) - 2 * ec σ + 815) + (2 * ec (fo1 (-1) (0, (nI ka), ((nI kb) - 100), (nI (1 + kc)), (nI kd)) σ) - 2 * ec σ + 815) + 6 ≤ 7292162; omega⟩) (Cut.app E1 hA) E1 (fun En ce q9 H locs hp E hce hcv hcl => (False.elim hp)) (fun r5 u5 H locs hp E2 => ?_)
  have hr := hp
  subst hr
  have E : Ev g _ s.heap H locs (LW g yr yf qo qp u2 u3 (fo1 (-1) (0, (nI ka), ((nI kb) - 100), (nI (1 + kc)), (nI kd)) σ) (fo1 (-1) (0, (nI ka), ((nI kb) - 100), (nI (1 + kc)), (nI kd)) σ)) := E2.perm pm_lo.symm
  refine lv_if_ne (tgt := 211) hx hb dL_law_186 (by decide) (fun c_ => absurd fc_s c_) (fun _ => ?_)
  refine lv_aload_n hx hb dL_law_189 rfl (lv_at hl 11 rfl) ?_
  refine lv_iload hx hb dL_law_190 (lv_at hl 4 rfl) ?_
  have E1 : Ev g _ s.heap H locs (([(yr, .inl (g.2.1 0, 6, .inl yf))] ++ OB g qp u3 (fo1 (-1) (0, (nI ka), ((nI kb) - 100), (nI (1 + kc)), (nI kd)) σ)) ++ OB g qo u2 (fo1 (-1) (0, (nI ka), ((nI kb) - 100), (nI (1 + kc)), (nI kd)) σ)) := E.perm pm_lo
  refine y_reti (yrunH (As := [.ref qo.1, .int (nI ka)]) (rest := []) (n := 2) S hml hK (hZ.at E) (Cut.app E1 hA) (c_L_level l g hst qo u2 (fo1 (-1) (0, (nI ka), ((nI kb) - 100), (nI (1 + kc)), (nI kd)) σ) (nI ka) (rgN (k := ka) (m := 15) (by omega) (by decide)) _ _) ml_L_143 st_L_level in_L rfl co_L_level ⟨by decide +kernel, by decide +kernel, by decide +kernel⟩ ⟨Nat.le_of_ble_eq_true rfl, Nat.le_of_ble_eq_true rfl⟩ rfl hl.1 rfl (Nat.le_of_ble_eq_true rfl) dL_law_192 ⟨by show k0 + (eg (fo1 (-1) (0, (nI ka), ((nI kb) - 100), (nI (1 + kc)), (nI kd)) σ) - eg σ + 3) + (eg (fo1 (-1) (0, (nI ka), ((nI kb) - 100), (nI (1 + kc)), (nI kd)) σ) - eg σ + 3) + 1 ≤ 600312; omega, by show n0 + (2 * ec (fo1 (-1) (0, (nI ka), ((nI kb) - 100), (nI (1 + kc)), (nI kd)) σ) - 2 * ec σ + 815) + (2 * ec (fo1 (-1) (0, (nI ka), ((nI kb) - 100), (nI (1 + kc)), (nI kd)) σ) - 2 * ec σ + 815) + 6 ≤ 7292162; omega⟩) (Cut.app E1 hA) E1 (fun En ce q9 H locs hp E hce hcv hcl => (False.elim hp)) (fun r6 u6 H locs hp E2 => ?_)
  have hr := hp
  subst hr
  have E : Ev g _ s.heap H locs (LW g yr yf qo qp u2 u3 (fo1 (-1) (0, (nI ka), ((nI kb) - 100), (nI (1 + kc)), (nI kd)) σ) (fo1 (-1) (0, (nI ka), ((nI kb) - 100), (nI (1 + kc)), (nI kd)) σ)) := E2.perm pm_lo.symm
  refine lv_iload hx hb dL_law_195 (lv_at hl 3 rfl) ?_
  refine lv_bipush (v := 100) hx hb dL_law_197 (by decide) ?_
  refine k_isub (v := ((nI kb) - 100)) hx hb rfl dL_law_199 ?_
  refine lv_iload hx hb dL_law_200 (lv_at hl 1 rfl) ?_
  refine lv_iconst (v := 1) hx hb dL_law_202 (by decide) ?_
  refine lv_iload hx hb dL_law_203 (lv_at hl 2 rfl) ?_
  refine k_iadd (v := (nI (1 + kc))) hx hb (nI_add 1 kc) dL_law_205 ?_
  refine k_idiv (v := ((nI kd) / (nI (1 + kc)))) hx hb (nI_ne0 (by omega) (by omega)) rfl dL_law_206 ?_
  refine k_iadd (v := (((nI kb) - 100) + ((nI kd) / (nI (1 + kc))))) hx hb rfl dL_law_207 ?_
  refine lv_icmp_eq (tgt := 213) hx hb dL_law_208 (by decide) (fun _ => ?_) (fun c_ => absurd (fc_l (nI_le (a := 1) (by omega) (by omega))) c_)
  refine lv_goto (tgt := 1101) hx hb dL_law_213 (by decide) ?_
  have hcn : cnt (fo1 (-1) (0, (nI ka), ((nI kb) - 100), (nI (1 + kc)), (nI kd)) σ) = cnt σ := (kw_of hI (by omega) hv1 (show (0 : Nat) ≠ 8 by decide)).1
  have hl := (lv_sub hl [5, 6, 7, 8, 9, 10, 11, 12] rfl)
  have hTT := TI.one hT ht hv1 (show (0 : Nat) ≠ 8 by decide) hn2 (Nx.ok hn3)
  exact K _ _ _ _ _ _ _ _ H locs ls _ _ hTT (by show k0 + (eg (fo1 (-1) (0, (nI ka), ((nI kb) - 100), (nI (1 + kc)), (nI kd)) σ) - eg σ + 3) + (eg (fo1 (-1) (0, (nI ka), ((nI kb) - 100), (nI (1 + kc)), (nI kd)) σ) - eg σ + 3) ≤ _; omega) (by show n0 + (2 * ec (fo1 (-1) (0, (nI ka), ((nI kb) - 100), (nI (1 + kc)), (nI kd)) σ) - 2 * ec σ + 815) + (2 * ec (fo1 (-1) (0, (nI ka), ((nI kb) - 100), (nI (1 + kc)), (nI kd)) σ) - 2 * ec σ + 815) ≤ _; omega) E (by rw [hcn]; exact hl)
set_option maxHeartbeats 4000000 in
set_option maxRecDepth 100000 in
/-- a ground is set -/
theorem tc_ground {p : Program} {l : Launch} {e : Env} {s : State} {m : MethodId} {below : List Frame} {meth : Method} {c : Code} {sb : Nat} {g : Gm} {yr : Nat} {qo qp : Fx} (hst : l.stackTraces = false) (S : Sta p c cL_law s #[.ref sb] RL m) (hml : c.maxLocals = 20) (hK : va_K g.1 vwC (tysG g) s) (hZ : Zs g (fun q => s.heap.size ≤ q) s s.heap) {t C M A : Nat} {yf : Nat → Int32} {uo up : SOB} {σ : Sg} {cvs : List CV} (hT : TI t C M A yf uo up σ cvs) (ht : t < 60) (h1t : 1 ≤ t) {ka kb kc kd : Nat} (hka : ka < 16) (hkb : kb < 200) (hkc : kc < 50) (hkd : kd < 1000)  {H : Heap} {locs : List Loc} {ls : Array Slot} {k0 n0 : Nat} (hk0 : k0 ≤ 100 * t + 2 * eg σ + 400) (hn0 : n0 ≤ 20000 * t + 4 * ec σ + 5000) (E : Ev g (fun q => s.heap.size ≤ q) s.heap H locs (LW g yr yf qo qp uo up σ σ)) (hl : lv_has ls 20 [(13, .int (nI kd)), (12, .int (nI kc)), (11, .int (nI kb)), (10, .int (nI ka)), (7, .int (nI t)), (6, .ref yr), (5, .int (nI A)), (4, .int (nI M)), (3, .int (nI (cnt σ))), (2, .ref qp.1), (1, .ref qo.1), (0, .ref sb)]) (K : KT p l e s m below meth c sb g yr qo qp t 1101 90 19000) : W p l e room_1 s m #[.ref sb] below meth c H locs k0 n0 (lw_Z below #[.ref sb] s) (F0 m 222 ls []) := by
  have hx := S.1
  have hb := S.2.1
  have hA : ∀ q : Nat, s.heap.size ≤ q → s.heap.size ≤ q := fun _ h => h
  have hI := hT.1.1
  have h6 := hI.wf.le
  have hCt := hT.2.1
  have hAt := hT.2.2.2.2.2.1
  obtain ⟨g1, g2⟩ := nt_c hI.ev (Nat.le_trans hI.en (by decide))
  refine lv_aload_n hx hb dL_law_222 rfl (lv_at hl 10 rfl) ?_
  refine lv_iload hx hb dL_law_223 (lv_at hl 3 rfl) ?_
  refine lv_bipush (v := 8) hx hb dL_law_225 (by decide) ?_
  refine k_irem (v := (nI (ka % 8))) hx hb (by decide) (pk_rem (a := ka) (d := 8) (by omega) (by decide) (by decide)) dL_law_227 ?_
  refine lv_iload hx hb dL_law_228 (lv_at hl 2 rfl) ?_
  have hv1 : okN (1, (nI (ka % 8)), (nI kb), 0, 0) (cnt σ) M := show rgOK _ 0 7 from (rgN (k := (ka % 8)) (m := 7) (by omega) (by decide))
  have jv1 := inv_fo1 (lo := -1) (v := (1, (nI (ka % 8)), (nI kb), 0, 0)) hI (by omega) hv1
  have i1 : Inv (C + 1) M (fo1 (-1) (1, (nI (ka % 8)), (nI kb), 0, 0) σ) := jv1.1
  obtain ⟨ma1, mb1, mc1⟩ := jv1.2.2
  obtain ⟨md1, me1⟩ := nt_c i1.ev (Nat.le_trans i1.en (by decide))
  have hq1 : cnt (fo1 (-1) (1, (nI (ka % 8)), (nI kb), 0, 0) σ) = cnt σ := (kw_of hI (by omega) hv1 (show (1 : Nat) ≠ 8 by decide)).1
  have E1 : Ev g _ s.heap H locs (([(yr, .inl (g.2.1 0, 6, .inl yf))] ++ OB g qp up σ) ++ OB g qo uo σ) := E.perm pm_lo
  refine y_reti (yrunH (As := [.ref qo.1, .int (nI (ka % 8)), .int (nI kb)]) (rest := []) (n := 3) S hml hK (hZ.at E) (Cut.app E1 hA) (c_L_setGround l g hst qo uo σ (nI (ka % 8)) (nI kb) hT.1.2.1 (hT.2.2.2.2.2.2 h1t).1 hI (by omega) (rgN (k := (ka % 8)) (m := 7) (by omega) (by decide)) (rg_h (k := kb) (m := 200) (by omega) (by decide)) _ _) ml_L_145 st_L_setGround in_L rfl co_L_setGround ⟨by decide +kernel, by decide +kernel, by decide +kernel⟩ ⟨Nat.le_of_ble_eq_true rfl, Nat.le_of_ble_eq_true rfl⟩ rfl hl.1 rfl (Nat.le_of_ble_eq_true rfl) dL_law_230 ⟨by show k0 + 61 ≤ 600312; omega, by show n0 + 600005 ≤ 7292162; omega⟩) (Cut.app E1 hA) E1 (fun En ce q9 H locs hp E hce hcv hcl => (False.elim hp)) (fun r1 u1 H locs hp E2 => ?_)
  obtain ⟨hr, hn1⟩ := hp
  subst hr
  have E : Ev g _ s.heap H locs (LW g yr yf qo qp u1 up (fo1 (-1) (1, (nI (ka % 8)), (nI kb), 0, 0) σ) σ) := E2.perm pm_lo.symm
  refine lv_aload_n hx hb dL_law_233 rfl (lv_at hl 9 rfl) ?_
  refine lv_iload hx hb dL_law_234 (lv_at hl 3 rfl) ?_
  refine lv_bipush (v := 8) hx hb dL_law_236 (by decide) ?_
  refine k_irem (v := (nI (ka % 8))) hx hb (by decide) (pk_rem (a := ka) (d := 8) (by omega) (by decide) (by decide)) dL_law_238 ?_
  refine lv_iload hx hb dL_law_239 (lv_at hl 2 rfl) ?_
  have E1 : Ev g _ s.heap H locs (([(yr, .inl (g.2.1 0, 6, .inl yf))] ++ OB g qo u1 (fo1 (-1) (1, (nI (ka % 8)), (nI kb), 0, 0) σ)) ++ OB g qp up σ) := E.perm pm_lp
  refine y_reti (yrunH (As := [.ref qp.1, .int (nI (ka % 8)), .int (nI kb)]) (rest := [.int (gi σ 12 (nI (ka % 8)))]) (n := 3) S hml hK (hZ.at E) (Cut.app E1 hA) (c_L_setGround l g hst qp up σ (nI (ka % 8)) (nI kb) hT.2.2.1 (hT.2.2.2.2.2.2 h1t).2 hI (by omega) (rgN (k := (ka % 8)) (m := 7) (by omega) (by decide)) (rg_h (k := kb) (m := 200) (by omega) (by decide)) _ _) ml_L_145 st_L_setGround in_L rfl co_L_setGround ⟨by decide +kernel, by decide +kernel, by decide +kernel⟩ ⟨Nat.le_of_ble_eq_true rfl, Nat.le_of_ble_eq_true rfl⟩ rfl hl.1 rfl (Nat.le_of_ble_eq_true rfl) dL_law_241 ⟨by show k0 + (eg (fo1 (-1) (1, (nI (ka % 8)), (nI kb), 0, 0) σ) - eg σ + 3) + 61 ≤ 600312; omega, by show n0 + (2 * ec (fo1 (-1) (1, (nI (ka % 8)), (nI kb), 0, 0) σ) - 2 * ec σ + 815) + 600005 ≤ 7292162; omega⟩) (Cut.app E1 hA) E1 (fun En ce q9 H locs hp E hce hcv hcl => (False.elim hp)) (fun r2 u2 H locs hp E2 => ?_)
  obtain ⟨hr, hn2⟩ := hp
  subst hr
  have E : Ev g _ s.heap H locs (LW g yr yf qo qp u1 u2 (fo1 (-1) (1, (nI (ka % 8)), (nI kb), 0, 0) σ) (fo1 (-1) (1, (nI (ka % 8)), (nI kb), 0, 0) σ)) := E2.perm pm_lp.symm
  refine lv_icmp_ne (tgt := 263) hx hb dL_law_244 (by decide) (fun c_ => absurd rfl c_) (fun _ => ?_)
  refine lv_aload_n hx hb dL_law_247 rfl (lv_at hl 10 rfl) ?_
  refine lv_iload hx hb dL_law_248 (lv_at hl 3 rfl) ?_
  refine lv_bipush (v := 8) hx hb dL_law_250 (by decide) ?_
  refine k_irem (v := (nI (ka % 8))) hx hb (by decide) (pk_rem (a := ka) (d := 8) (by omega) (by decide) (by decide)) dL_law_252 ?_
  refine lv_iload hx hb dL_law_253 (lv_at hl 2 rfl) ?_
  have hv2 : okN (1, (nI (ka % 8)), (nI kb), 0, 0) (cnt (fo1 (-1) (1, (nI (ka % 8)), (nI kb), 0, 0) σ)) M := show rgOK _ 0 7 from (rgN (k := (ka % 8)) (m := 7) (by omega) (by decide))
  have jv2 := inv_fo1 (lo := -1) (v := (1, (nI (ka % 8)), (nI kb), 0, 0)) i1 (by omega) hv2
  have i2 : Inv ((C + 1) + 1) M (fo1 (-1) (1, (nI (ka % 8)), (nI kb), 0, 0) (fo1 (-1) (1, (nI (ka % 8)), (nI kb), 0, 0) σ)) := jv2.1
  obtain ⟨ma2, mb2, mc2⟩ := jv2.2.2
  obtain ⟨md2, me2⟩ := nt_c i2.ev (Nat.le_trans i2.en (by decide))
  have hq2 : cnt (fo1 (-1) (1, (nI (ka % 8)), (nI kb), 0, 0) (fo1 (-1) (1, (nI (ka % 8)), (nI kb), 0, 0) σ)) = cnt (fo1 (-1) (1, (nI (ka % 8)), (nI kb), 0, 0) σ) := (kw_of i1 (by omega) hv2 (show (1 : Nat) ≠ 8 by decide)).1
  have E1 : Ev g _ s.heap H locs (([(yr, .inl (g.2.1 0, 6, .inl yf))] ++ OB g qp u2 (fo1 (-1) (1, (nI (ka % 8)), (nI kb), 0, 0) σ)) ++ OB g qo u1 (fo1 (-1) (1, (nI (ka % 8)), (nI kb), 0, 0) σ)) := E.perm pm_lo
  refine y_reti (yrunH (As := [.ref qo.1, .int (nI (ka % 8)), .int (nI kb)]) (rest := []) (n := 3) S hml hK (hZ.at E) (Cut.app E1 hA) (c_L_setGround l g hst qo u1 (fo1 (-1) (1, (nI (ka % 8)), (nI kb), 0, 0) σ) (nI (ka % 8)) (nI kb) hn1.1 hn1.2.1 i1 (by omega) (rgN (k := (ka % 8)) (m := 7) (by omega) (by decide)) (rg_h (k := kb) (m := 200) (by omega) (by decide)) _ _) ml_L_145 st_L_setGround in_L rfl co_L_setGround ⟨by decide +kernel, by decide +kernel, by decide +kernel⟩ ⟨Nat.le_of_ble_eq_true rfl, Nat.le_of_ble_eq_true rfl⟩ rfl hl.1 rfl (Nat.le_of_ble_eq_true rfl) dL_law_255 ⟨by show k0 + (eg (fo1 (-1) (1, (nI (ka % 8)), (nI kb), 0, 0) σ) - eg σ + 3) + (eg (fo1 (-1) (1, (nI (ka % 8)), (nI kb), 0, 0) σ) - eg σ + 3) + 61 ≤ 600312; omega, by show n0 + (2 * ec (fo1 (-1) (1, (nI (ka % 8)), (nI kb), 0, 0) σ) - 2 * ec σ + 815) + (2 * ec (fo1 (-1) (1, (nI (ka % 8)), (nI kb), 0, 0) σ) - 2 * ec σ + 815) + 600005 ≤ 7292162; omega⟩) (Cut.app E1 hA) E1 (fun En ce q9 H locs hp E hce hcv hcl => (False.elim hp)) (fun r3 u3 H locs hp E2 => ?_)
  obtain ⟨hr, hn3⟩ := hp
  subst hr
  have E : Ev g _ s.heap H locs (LW g yr yf qo qp u3 u2 (fo1 (-1) (1, (nI (ka % 8)), (nI kb), 0, 0) (fo1 (-1) (1, (nI (ka % 8)), (nI kb), 0, 0) σ)) (fo1 (-1) (1, (nI (ka % 8)), (nI kb), 0, 0) σ)) := E2.perm pm_lo.symm
  have e2 : (fo1 (-1) (1, (nI (ka % 8)), (nI kb), 0, 0) (fo1 (-1) (1, (nI (ka % 8)), (nI kb), 0, 0) σ)) = (fo1 (-1) (1, (nI (ka % 8)), (nI kb), 0, 0) σ) := sg_2
  rw [e2] at E
  have E : Ev g _ s.heap H locs (LW g yr yf qo qp u3 u2 (fo1 (-1) (1, (nI (ka % 8)), (nI kb), 0, 0) σ) (fo1 (-1) (1, (nI (ka % 8)), (nI kb), 0, 0) σ)) := E
  refine lv_iload hx hb dL_law_258 (lv_at hl 2 rfl) ?_
  refine lv_icmp_eq (tgt := 1101) hx hb dL_law_260 (by decide) (fun _ => ?_) (fun c_ => absurd sg_g c_)
  have hcn : cnt (fo1 (-1) (1, (nI (ka % 8)), (nI kb), 0, 0) σ) = cnt σ := (kw_of hI (by omega) hv1 (show (1 : Nat) ≠ 8 by decide)).1
  have hTT := (TI.two hT ht hv1 (show (1 : Nat) ≠ 8 by decide) hv2 (show (1 : Nat) ≠ 8 by decide) hn1 hn3 (Nx.ok hn2))
  rw [e2] at hTT
  have hl := (lv_sub hl [4, 5, 6, 7, 8, 9, 10, 11] rfl)
  exact K _ _ _ _ _ _ _ _ H locs ls _ _ hTT (by show k0 + (eg (fo1 (-1) (1, (nI (ka % 8)), (nI kb), 0, 0) σ) - eg σ + 3) + (eg (fo1 (-1) (1, (nI (ka % 8)), (nI kb), 0, 0) σ) - eg σ + 3) + (eg (fo1 (-1) (1, (nI (ka % 8)), (nI kb), 0, 0) (fo1 (-1) (1, (nI (ka % 8)), (nI kb), 0, 0) σ)) - eg (fo1 (-1) (1, (nI (ka % 8)), (nI kb), 0, 0) σ) + 3) ≤ _; rw [e2]; omega) (by show n0 + (2 * ec (fo1 (-1) (1, (nI (ka % 8)), (nI kb), 0, 0) σ) - 2 * ec σ + 815) + (2 * ec (fo1 (-1) (1, (nI (ka % 8)), (nI kb), 0, 0) σ) - 2 * ec σ + 815) + (2 * ec (fo1 (-1) (1, (nI (ka % 8)), (nI kb), 0, 0) (fo1 (-1) (1, (nI (ka % 8)), (nI kb), 0, 0) σ)) - 2 * ec (fo1 (-1) (1, (nI (ka % 8)), (nI kb), 0, 0) σ) + 815) ≤ _; rw [e2]; omega) E (by rw [hcn]; exact hl)
set_option maxHeartbeats 4000000 in
set_option maxRecDepth 100000 in
/-- a conductance and a leakage are set -/
theorem tc_conductance {p : Program} {l : Launch} {e : Env} {s : State} {m : MethodId} {below : List Frame} {meth : Method} {c : Code} {sb : Nat} {g : Gm} {yr : Nat} {qo qp : Fx} (hst : l.stackTraces = false) (S : Sta p c cL_law s #[.ref sb] RL m) (hml : c.maxLocals = 20) (hK : va_K g.1 vwC (tysG g) s) (hZ : Zs g (fun q => s.heap.size ≤ q) s s.heap) {t C M A : Nat} {yf : Nat → Int32} {uo up : SOB} {σ : Sg} {cvs : List CV} (hT : TI t C M A yf uo up σ cvs) (ht : t < 60) (h1t : 1 ≤ t) {ka kb kc kd : Nat} (hka : ka < 16) (hkb : kb < 200) (hkc : kc < 50) (hkd : kd < 1000)  {H : Heap} {locs : List Loc} {ls : Array Slot} {k0 n0 : Nat} (hk0 : k0 ≤ 100 * t + 2 * eg σ + 400) (hn0 : n0 ≤ 20000 * t + 4 * ec σ + 5000) (E : Ev g (fun q => s.heap.size ≤ q) s.heap H locs (LW g yr yf qo qp uo up σ σ)) (hl : lv_has ls 20 [(13, .int (nI kd)), (12, .int (nI kc)), (11, .int (nI kb)), (10, .int (nI ka)), (7, .int (nI t)), (6, .ref yr), (5, .int (nI A)), (4, .int (nI M)), (3, .int (nI (cnt σ))), (2, .ref qp.1), (1, .ref qo.1), (0, .ref sb)]) (K : KT p l e s m below meth c sb g yr qo qp t 1101 90 19000) : W p l e room_1 s m #[.ref sb] below meth c H locs k0 n0 (lw_Z below #[.ref sb] s) (F0 m 271 ls []) := by
  have hx := S.1
  have hb := S.2.1
  have hA : ∀ q : Nat, s.heap.size ≤ q → s.heap.size ≤ q := fun _ h => h
  have hI := hT.1.1
  have h6 := hI.wf.le
  have hCt := hT.2.1
  have hAt := hT.2.2.2.2.2.1
  obtain ⟨g1, g2⟩ := nt_c hI.ev (Nat.le_trans hI.en (by decide))
  refine lv_aload_n hx hb dL_law_271 rfl (lv_at hl 10 rfl) ?_
  refine lv_iload hx hb dL_law_272 (lv_at hl 3 rfl) ?_
  refine lv_iconst (v := 2) hx hb dL_law_274 (by decide) ?_
  refine k_irem (v := (nI (ka % 2))) hx hb (by decide) (pk_rem (a := ka) (d := 2) (by omega) (by decide) (by decide)) dL_law_275 ?_
  refine lv_iload hx hb dL_law_276 (lv_at hl 2 rfl) ?_
  refine lv_bipush (v := 10) hx hb dL_law_278 (by decide) ?_
  refine k_irem (v := (nI (kb % 10))) hx hb (by decide) (pk_rem (a := kb) (d := 10) (by omega) (by decide) (by decide)) dL_law_280 ?_
  have hv1 : okN (2, (nI (ka % 2)), (nI (kb % 10)), 0, 0) (cnt σ) M := show rgOK _ 0 1 from (rgN (k := (ka % 2)) (m := 1) (by omega) (by decide))
  have jv1 := inv_fo1 (lo := -1) (v := (2, (nI (ka % 2)), (nI (kb % 10)), 0, 0)) hI (by omega) hv1
  have i1 : Inv (C + 1) M (fo1 (-1) (2, (nI (ka % 2)), (nI (kb % 10)), 0, 0) σ) := jv1.1
  obtain ⟨ma1, mb1, mc1⟩ := jv1.2.2
  obtain ⟨md1, me1⟩ := nt_c i1.ev (Nat.le_trans i1.en (by decide))
  have hq1 : cnt (fo1 (-1) (2, (nI (ka % 2)), (nI (kb % 10)), 0, 0) σ) = cnt σ := (kw_of hI (by omega) hv1 (show (2 : Nat) ≠ 8 by decide)).1
  have E1 : Ev g _ s.heap H locs (([(yr, .inl (g.2.1 0, 6, .inl yf))] ++ OB g qp up σ) ++ OB g qo uo σ) := E.perm pm_lo
  refine y_reti (yrunH (As := [.ref qo.1, .int (nI (ka % 2)), .int (nI (kb % 10))]) (rest := []) (n := 3) S hml hK (hZ.at E) (Cut.app E1 hA) (c_L_setConductance l g hst qo uo σ (nI (ka % 2)) (nI (kb % 10)) hT.1.2.1 (hT.2.2.2.2.2.2 h1t).1 hI (by omega) (rgN (k := (ka % 2)) (m := 1) (by omega) (by decide)) (rgN (k := (kb % 10)) (m := 9) (by omega) (by decide)) _ _) ml_L_148 st_L_setConductance in_L rfl co_L_setConductance ⟨by decide +kernel, by decide +kernel, by decide +kernel⟩ ⟨Nat.le_of_ble_eq_true rfl, Nat.le_of_ble_eq_true rfl⟩ rfl hl.1 rfl (Nat.le_of_ble_eq_true rfl) dL_law_281 ⟨by show k0 + 61 ≤ 600312; omega, by show n0 + 600005 ≤ 7292162; omega⟩) (Cut.app E1 hA) E1 (fun En ce q9 H locs hp E hce hcv hcl => (False.elim hp)) (fun r1 u1 H locs hp E2 => ?_)
  obtain ⟨hr, hn1⟩ := hp
  subst hr
  have E : Ev g _ s.heap H locs (LW g yr yf qo qp u1 up (fo1 (-1) (2, (nI (ka % 2)), (nI (kb % 10)), 0, 0) σ) σ) := E2.perm pm_lo.symm
  refine lv_aload_n hx hb dL_law_284 rfl (lv_at hl 9 rfl) ?_
  refine lv_iload hx hb dL_law_285 (lv_at hl 3 rfl) ?_
  refine lv_iconst (v := 2) hx hb dL_law_287 (by decide) ?_
  refine k_irem (v := (nI (ka % 2))) hx hb (by decide) (pk_rem (a := ka) (d := 2) (by omega) (by decide) (by decide)) dL_law_288 ?_
  refine lv_iload hx hb dL_law_289 (lv_at hl 2 rfl) ?_
  refine lv_bipush (v := 10) hx hb dL_law_291 (by decide) ?_
  refine k_irem (v := (nI (kb % 10))) hx hb (by decide) (pk_rem (a := kb) (d := 10) (by omega) (by decide) (by decide)) dL_law_293 ?_
  have E1 : Ev g _ s.heap H locs (([(yr, .inl (g.2.1 0, 6, .inl yf))] ++ OB g qo u1 (fo1 (-1) (2, (nI (ka % 2)), (nI (kb % 10)), 0, 0) σ)) ++ OB g qp up σ) := E.perm pm_lp
  refine y_reti (yrunH (As := [.ref qp.1, .int (nI (ka % 2)), .int (nI (kb % 10))]) (rest := [.int (gi σ 13 (nI (ka % 2)))]) (n := 3) S hml hK (hZ.at E) (Cut.app E1 hA) (c_L_setConductance l g hst qp up σ (nI (ka % 2)) (nI (kb % 10)) hT.2.2.1 (hT.2.2.2.2.2.2 h1t).2 hI (by omega) (rgN (k := (ka % 2)) (m := 1) (by omega) (by decide)) (rgN (k := (kb % 10)) (m := 9) (by omega) (by decide)) _ _) ml_L_148 st_L_setConductance in_L rfl co_L_setConductance ⟨by decide +kernel, by decide +kernel, by decide +kernel⟩ ⟨Nat.le_of_ble_eq_true rfl, Nat.le_of_ble_eq_true rfl⟩ rfl hl.1 rfl (Nat.le_of_ble_eq_true rfl) dL_law_294 ⟨by show k0 + (eg (fo1 (-1) (2, (nI (ka % 2)), (nI (kb % 10)), 0, 0) σ) - eg σ + 3) + 61 ≤ 600312; omega, by show n0 + (2 * ec (fo1 (-1) (2, (nI (ka % 2)), (nI (kb % 10)), 0, 0) σ) - 2 * ec σ + 815) + 600005 ≤ 7292162; omega⟩) (Cut.app E1 hA) E1 (fun En ce q9 H locs hp E hce hcv hcl => (False.elim hp)) (fun r2 u2 H locs hp E2 => ?_)
  obtain ⟨hr, hn2⟩ := hp
  subst hr
  have E : Ev g _ s.heap H locs (LW g yr yf qo qp u1 u2 (fo1 (-1) (2, (nI (ka % 2)), (nI (kb % 10)), 0, 0) σ) (fo1 (-1) (2, (nI (ka % 2)), (nI (kb % 10)), 0, 0) σ)) := E2.perm pm_lp.symm
  refine lv_icmp_ne (tgt := 331) hx hb dL_law_297 (by decide) (fun c_ => absurd rfl c_) (fun _ => ?_)
  refine lv_aload_n hx hb dL_law_300 rfl (lv_at hl 10 rfl) ?_
  refine lv_iload hx hb dL_law_301 (lv_at hl 3 rfl) ?_
  refine lv_bipush (v := 8) hx hb dL_law_303 (by decide) ?_
  refine k_irem (v := (nI (ka % 8))) hx hb (by decide) (pk_rem (a := ka) (d := 8) (by omega) (by decide) (by decide)) dL_law_305 ?_
  refine lv_iload hx hb dL_law_306 (lv_at hl 1 rfl) ?_
  refine lv_bipush (v := 10) hx hb dL_law_308 (by decide) ?_
  refine k_irem (v := (nI (kc % 10))) hx hb (by decide) (pk_rem (a := kc) (d := 10) (by omega) (by decide) (by decide)) dL_law_310 ?_
  have hv2 : okN (3, (nI (ka % 8)), (nI (kc % 10)), 0, 0) (cnt (fo1 (-1) (2, (nI (ka % 2)), (nI (kb % 10)), 0, 0) σ)) M := show rgOK _ 0 7 from (rgN (k := (ka % 8)) (m := 7) (by omega) (by decide))
  have jv2 := inv_fo1 (lo := -1) (v := (3, (nI (ka % 8)), (nI (kc % 10)), 0, 0)) i1 (by omega) hv2
  have i2 : Inv ((C + 1) + 1) M (fo1 (-1) (3, (nI (ka % 8)), (nI (kc % 10)), 0, 0) (fo1 (-1) (2, (nI (ka % 2)), (nI (kb % 10)), 0, 0) σ)) := jv2.1
  obtain ⟨ma2, mb2, mc2⟩ := jv2.2.2
  obtain ⟨md2, me2⟩ := nt_c i2.ev (Nat.le_trans i2.en (by decide))
  have hq2 : cnt (fo1 (-1) (3, (nI (ka % 8)), (nI (kc % 10)), 0, 0) (fo1 (-1) (2, (nI (ka % 2)), (nI (kb % 10)), 0, 0) σ)) = cnt (fo1 (-1) (2, (nI (ka % 2)), (nI (kb % 10)), 0, 0) σ) := (kw_of i1 (by omega) hv2 (show (3 : Nat) ≠ 8 by decide)).1
  have E1 : Ev g _ s.heap H locs (([(yr, .inl (g.2.1 0, 6, .inl yf))] ++ OB g qp u2 (fo1 (-1) (2, (nI (ka % 2)), (nI (kb % 10)), 0, 0) σ)) ++ OB g qo u1 (fo1 (-1) (2, (nI (ka % 2)), (nI (kb % 10)), 0, 0) σ)) := E.perm pm_lo
  refine y_reti (yrunH (As := [.ref qo.1, .int (nI (ka % 8)), .int (nI (kc % 10))]) (rest := []) (n := 3) S hml hK (hZ.at E) (Cut.app E1 hA) (c_L_setLeakage l g hst qo u1 (fo1 (-1) (2, (nI (ka % 2)), (nI (kb % 10)), 0, 0) σ) (nI (ka % 8)) (nI (kc % 10)) hn1.1 hn1.2.1 i1 (by omega) (rgN (k := (ka % 8)) (m := 7) (by omega) (by decide)) (rgN (k := (kc % 10)) (m := 9) (by omega) (by decide)) _ _) ml_L_150 st_L_setLeakage in_L rfl co_L_setLeakage ⟨by decide +kernel, by decide +kernel, by decide +kernel⟩ ⟨Nat.le_of_ble_eq_true rfl, Nat.le_of_ble_eq_true rfl⟩ rfl hl.1 rfl (Nat.le_of_ble_eq_true rfl) dL_law_311 ⟨by show k0 + (eg (fo1 (-1) (2, (nI (ka % 2)), (nI (kb % 10)), 0, 0) σ) - eg σ + 3) + (eg (fo1 (-1) (2, (nI (ka % 2)), (nI (kb % 10)), 0, 0) σ) - eg σ + 3) + 61 ≤ 600312; omega, by show n0 + (2 * ec (fo1 (-1) (2, (nI (ka % 2)), (nI (kb % 10)), 0, 0) σ) - 2 * ec σ + 815) + (2 * ec (fo1 (-1) (2, (nI (ka % 2)), (nI (kb % 10)), 0, 0) σ) - 2 * ec σ + 815) + 600005 ≤ 7292162; omega⟩) (Cut.app E1 hA) E1 (fun En ce q9 H locs hp E hce hcv hcl => (False.elim hp)) (fun r3 u3 H locs hp E2 => ?_)
  obtain ⟨hr, hn3⟩ := hp
  subst hr
  have E : Ev g _ s.heap H locs (LW g yr yf qo qp u3 u2 (fo1 (-1) (3, (nI (ka % 8)), (nI (kc % 10)), 0, 0) (fo1 (-1) (2, (nI (ka % 2)), (nI (kb % 10)), 0, 0) σ)) (fo1 (-1) (2, (nI (ka % 2)), (nI (kb % 10)), 0, 0) σ)) := E2.perm pm_lo.symm
  refine lv_aload_n hx hb dL_law_314 rfl (lv_at hl 9 rfl) ?_
  refine lv_iload hx hb dL_law_315 (lv_at hl 3 rfl) ?_
  refine lv_bipush (v := 8) hx hb dL_law_317 (by decide) ?_
  refine k_irem (v := (nI (ka % 8))) hx hb (by decide) (pk_rem (a := ka) (d := 8) (by omega) (by decide) (by decide)) dL_law_319 ?_
  refine lv_iload hx hb dL_law_320 (lv_at hl 1 rfl) ?_
  refine lv_bipush (v := 10) hx hb dL_law_322 (by decide) ?_
  refine k_irem (v := (nI (kc % 10))) hx hb (by decide) (pk_rem (a := kc) (d := 10) (by omega) (by decide) (by decide)) dL_law_324 ?_
  have E1 : Ev g _ s.heap H locs (([(yr, .inl (g.2.1 0, 6, .inl yf))] ++ OB g qo u3 (fo1 (-1) (3, (nI (ka % 8)), (nI (kc % 10)), 0, 0) (fo1 (-1) (2, (nI (ka % 2)), (nI (kb % 10)), 0, 0) σ))) ++ OB g qp u2 (fo1 (-1) (2, (nI (ka % 2)), (nI (kb % 10)), 0, 0) σ)) := E.perm pm_lp
  refine y_reti (yrunH (As := [.ref qp.1, .int (nI (ka % 8)), .int (nI (kc % 10))]) (rest := [.int (gi (fo1 (-1) (2, (nI (ka % 2)), (nI (kb % 10)), 0, 0) σ) 14 (nI (ka % 8)))]) (n := 3) S hml hK (hZ.at E) (Cut.app E1 hA) (c_L_setLeakage l g hst qp u2 (fo1 (-1) (2, (nI (ka % 2)), (nI (kb % 10)), 0, 0) σ) (nI (ka % 8)) (nI (kc % 10)) hn2.1 hn2.2.1 i1 (by omega) (rgN (k := (ka % 8)) (m := 7) (by omega) (by decide)) (rgN (k := (kc % 10)) (m := 9) (by omega) (by decide)) _ _) ml_L_150 st_L_setLeakage in_L rfl co_L_setLeakage ⟨by decide +kernel, by decide +kernel, by decide +kernel⟩ ⟨Nat.le_of_ble_eq_true rfl, Nat.le_of_ble_eq_true rfl⟩ rfl hl.1 rfl (Nat.le_of_ble_eq_true rfl) dL_law_325 ⟨by show k0 + (eg (fo1 (-1) (2, (nI (ka % 2)), (nI (kb % 10)), 0, 0) σ) - eg σ + 3) + (eg (fo1 (-1) (2, (nI (ka % 2)), (nI (kb % 10)), 0, 0) σ) - eg σ + 3) + (eg (fo1 (-1) (3, (nI (ka % 8)), (nI (kc % 10)), 0, 0) (fo1 (-1) (2, (nI (ka % 2)), (nI (kb % 10)), 0, 0) σ)) - eg (fo1 (-1) (2, (nI (ka % 2)), (nI (kb % 10)), 0, 0) σ) + 3) + 61 ≤ 600312; omega, by show n0 + (2 * ec (fo1 (-1) (2, (nI (ka % 2)), (nI (kb % 10)), 0, 0) σ) - 2 * ec σ + 815) + (2 * ec (fo1 (-1) (2, (nI (ka % 2)), (nI (kb % 10)), 0, 0) σ) - 2 * ec σ + 815) + (2 * ec (fo1 (-1) (3, (nI (ka % 8)), (nI (kc % 10)), 0, 0) (fo1 (-1) (2, (nI (ka % 2)), (nI (kb % 10)), 0, 0) σ)) - 2 * ec (fo1 (-1) (2, (nI (ka % 2)), (nI (kb % 10)), 0, 0) σ) + 815) + 600005 ≤ 7292162; omega⟩) (Cut.app E1 hA) E1 (fun En ce q9 H locs hp E hce hcv hcl => (False.elim hp)) (fun r4 u4 H locs hp E2 => ?_)
  obtain ⟨hr, hn4⟩ := hp
  subst hr
  have E : Ev g _ s.heap H locs (LW g yr yf qo qp u3 u4 (fo1 (-1) (3, (nI (ka % 8)), (nI (kc % 10)), 0, 0) (fo1 (-1) (2, (nI (ka % 2)), (nI (kb % 10)), 0, 0) σ)) (fo1 (-1) (3, (nI (ka % 8)), (nI (kc % 10)), 0, 0) (fo1 (-1) (2, (nI (ka % 2)), (nI (kb % 10)), 0, 0) σ))) := E2.perm pm_lp.symm
  refine lv_icmp_eq (tgt := 1101) hx hb dL_law_328 (by decide) (fun _ => ?_) (fun c_ => absurd rfl c_)
  have hcn : cnt (fo1 (-1) (3, (nI (ka % 8)), (nI (kc % 10)), 0, 0) (fo1 (-1) (2, (nI (ka % 2)), (nI (kb % 10)), 0, 0) σ)) = cnt σ := (kw_of i1 (by omega) hv2 (show (3 : Nat) ≠ 8 by decide)).1.trans (kw_of hI (by omega) hv1 (show (2 : Nat) ≠ 8 by decide)).1
  have hl := (lv_sub hl [4, 5, 6, 7, 8, 9, 10, 11] rfl)
  have hTT := TI.two hT ht hv1 (show (2 : Nat) ≠ 8 by decide) hv2 (show (3 : Nat) ≠ 8 by decide) hn1 hn3 (Nx.ok hn4)
  exact K _ _ _ _ _ _ _ _ H locs ls _ _ hTT (by show k0 + (eg (fo1 (-1) (2, (nI (ka % 2)), (nI (kb % 10)), 0, 0) σ) - eg σ + 3) + (eg (fo1 (-1) (2, (nI (ka % 2)), (nI (kb % 10)), 0, 0) σ) - eg σ + 3) + (eg (fo1 (-1) (3, (nI (ka % 8)), (nI (kc % 10)), 0, 0) (fo1 (-1) (2, (nI (ka % 2)), (nI (kb % 10)), 0, 0) σ)) - eg (fo1 (-1) (2, (nI (ka % 2)), (nI (kb % 10)), 0, 0) σ) + 3) + (eg (fo1 (-1) (3, (nI (ka % 8)), (nI (kc % 10)), 0, 0) (fo1 (-1) (2, (nI (ka % 2)), (nI (kb % 10)), 0, 0) σ)) - eg (fo1 (-1) (2, (nI (ka % 2)), (nI (kb % 10)), 0, 0) σ) + 3) ≤ _; omega) (by show n0 + (2 * ec (fo1 (-1) (2, (nI (ka % 2)), (nI (kb % 10)), 0, 0) σ) - 2 * ec σ + 815) + (2 * ec (fo1 (-1) (2, (nI (ka % 2)), (nI (kb % 10)), 0, 0) σ) - 2 * ec σ + 815) + (2 * ec (fo1 (-1) (3, (nI (ka % 8)), (nI (kc % 10)), 0, 0) (fo1 (-1) (2, (nI (ka % 2)), (nI (kb % 10)), 0, 0) σ)) - 2 * ec (fo1 (-1) (2, (nI (ka % 2)), (nI (kb % 10)), 0, 0) σ) + 815) + (2 * ec (fo1 (-1) (3, (nI (ka % 8)), (nI (kc % 10)), 0, 0) (fo1 (-1) (2, (nI (ka % 2)), (nI (kb % 10)), 0, 0) σ)) - 2 * ec (fo1 (-1) (2, (nI (ka % 2)), (nI (kb % 10)), 0, 0) σ) + 815) ≤ _; omega) E (by rw [hcn]; exact hl)
set_option maxHeartbeats 4000000 in
set_option maxRecDepth 100000 in
/-- rain and river are set -/
theorem tc_rain {p : Program} {l : Launch} {e : Env} {s : State} {m : MethodId} {below : List Frame} {meth : Method} {c : Code} {sb : Nat} {g : Gm} {yr : Nat} {qo qp : Fx} (hst : l.stackTraces = false) (S : Sta p c cL_law s #[.ref sb] RL m) (hml : c.maxLocals = 20) (hK : va_K g.1 vwC (tysG g) s) (hZ : Zs g (fun q => s.heap.size ≤ q) s s.heap) {t C M A : Nat} {yf : Nat → Int32} {uo up : SOB} {σ : Sg} {cvs : List CV} (hT : TI t C M A yf uo up σ cvs) (ht : t < 60) (h1t : 1 ≤ t) {ka kb kc kd : Nat} (hka : ka < 16) (hkb : kb < 200) (hkc : kc < 50) (hkd : kd < 1000)  {H : Heap} {locs : List Loc} {ls : Array Slot} {k0 n0 : Nat} (hk0 : k0 ≤ 100 * t + 2 * eg σ + 400) (hn0 : n0 ≤ 20000 * t + 4 * ec σ + 5000) (E : Ev g (fun q => s.heap.size ≤ q) s.heap H locs (LW g yr yf qo qp uo up σ σ)) (hl : lv_has ls 20 [(13, .int (nI kd)), (12, .int (nI kc)), (11, .int (nI kb)), (10, .int (nI ka)), (7, .int (nI t)), (6, .ref yr), (5, .int (nI A)), (4, .int (nI M)), (3, .int (nI (cnt σ))), (2, .ref qp.1), (1, .ref qo.1), (0, .ref sb)]) (K : KT p l e s m below meth c sb g yr qo qp t 1101 90 19000) : W p l e room_1 s m #[.ref sb] below meth c H locs k0 n0 (lw_Z below #[.ref sb] s) (F0 m 339 ls []) := by
  have hx := S.1
  have hb := S.2.1
  have hA : ∀ q : Nat, s.heap.size ≤ q → s.heap.size ≤ q := fun _ h => h
  have hI := hT.1.1
  have h6 := hI.wf.le
  have hCt := hT.2.1
  have hAt := hT.2.2.2.2.2.1
  obtain ⟨g1, g2⟩ := nt_c hI.ev (Nat.le_trans hI.en (by decide))
  refine lv_aload_n hx hb dL_law_339 rfl (lv_at hl 10 rfl) ?_
  refine lv_iload hx hb dL_law_340 (lv_at hl 3 rfl) ?_
  refine lv_bipush (v := 8) hx hb dL_law_342 (by decide) ?_
  refine k_irem (v := (nI (ka % 8))) hx hb (by decide) (pk_rem (a := ka) (d := 8) (by omega) (by decide) (by decide)) dL_law_344 ?_
  refine lv_iload hx hb dL_law_345 (lv_at hl 2 rfl) ?_
  refine lv_bipush (v := 100) hx hb dL_law_347 (by decide) ?_
  refine k_irem (v := (nI (kb % 100))) hx hb (by decide) (pk_rem (a := kb) (d := 100) (by omega) (by decide) (by decide)) dL_law_349 ?_
  have hv1 : okN (4, (nI (ka % 8)), (nI (kb % 100)), 0, 0) (cnt σ) M := show _ ∧ _ from ⟨(rgN (k := (ka % 8)) (m := 7) (by omega) (by decide)), (rgN (k := (kb % 100)) (m := 99) (by omega) (by decide))⟩
  have jv1 := inv_fo1 (lo := -1) (v := (4, (nI (ka % 8)), (nI (kb % 100)), 0, 0)) hI (by omega) hv1
  have i1 : Inv (C + 1) M (fo1 (-1) (4, (nI (ka % 8)), (nI (kb % 100)), 0, 0) σ) := jv1.1
  obtain ⟨ma1, mb1, mc1⟩ := jv1.2.2
  obtain ⟨md1, me1⟩ := nt_c i1.ev (Nat.le_trans i1.en (by decide))
  have hq1 : cnt (fo1 (-1) (4, (nI (ka % 8)), (nI (kb % 100)), 0, 0) σ) = cnt σ := (kw_of hI (by omega) hv1 (show (4 : Nat) ≠ 8 by decide)).1
  have E1 : Ev g _ s.heap H locs (([(yr, .inl (g.2.1 0, 6, .inl yf))] ++ OB g qp up σ) ++ OB g qo uo σ) := E.perm pm_lo
  refine y_reti (yrunH (As := [.ref qo.1, .int (nI (ka % 8)), .int (nI (kb % 100))]) (rest := []) (n := 3) S hml hK (hZ.at E) (Cut.app E1 hA) (c_L_setRain l g hst qo uo σ (nI (ka % 8)) (nI (kb % 100)) hT.1.2.1 (hT.2.2.2.2.2.2 h1t).1 hI (by omega) (rgN (k := (ka % 8)) (m := 7) (by omega) (by decide)) (rgN (k := (kb % 100)) (m := 99) (by omega) (by decide)) _ _) ml_L_152 st_L_setRain in_L rfl co_L_setRain ⟨by decide +kernel, by decide +kernel, by decide +kernel⟩ ⟨Nat.le_of_ble_eq_true rfl, Nat.le_of_ble_eq_true rfl⟩ rfl hl.1 rfl (Nat.le_of_ble_eq_true rfl) dL_law_350 ⟨by show k0 + 61 ≤ 600312; omega, by show n0 + 600005 ≤ 7292162; omega⟩) (Cut.app E1 hA) E1 (fun En ce q9 H locs hp E hce hcv hcl => (False.elim hp)) (fun r1 u1 H locs hp E2 => ?_)
  obtain ⟨hr, hn1⟩ := hp
  subst hr
  have E : Ev g _ s.heap H locs (LW g yr yf qo qp u1 up (fo1 (-1) (4, (nI (ka % 8)), (nI (kb % 100)), 0, 0) σ) σ) := E2.perm pm_lo.symm
  refine lv_aload_n hx hb dL_law_353 rfl (lv_at hl 9 rfl) ?_
  refine lv_iload hx hb dL_law_354 (lv_at hl 3 rfl) ?_
  refine lv_bipush (v := 8) hx hb dL_law_356 (by decide) ?_
  refine k_irem (v := (nI (ka % 8))) hx hb (by decide) (pk_rem (a := ka) (d := 8) (by omega) (by decide) (by decide)) dL_law_358 ?_
  refine lv_iload hx hb dL_law_359 (lv_at hl 2 rfl) ?_
  refine lv_bipush (v := 100) hx hb dL_law_361 (by decide) ?_
  refine k_irem (v := (nI (kb % 100))) hx hb (by decide) (pk_rem (a := kb) (d := 100) (by omega) (by decide) (by decide)) dL_law_363 ?_
  have E1 : Ev g _ s.heap H locs (([(yr, .inl (g.2.1 0, 6, .inl yf))] ++ OB g qo u1 (fo1 (-1) (4, (nI (ka % 8)), (nI (kb % 100)), 0, 0) σ)) ++ OB g qp up σ) := E.perm pm_lp
  refine y_reti (yrunH (As := [.ref qp.1, .int (nI (ka % 8)), .int (nI (kb % 100))]) (rest := [.int (gi σ 15 (nI (ka % 8)))]) (n := 3) S hml hK (hZ.at E) (Cut.app E1 hA) (c_L_setRain l g hst qp up σ (nI (ka % 8)) (nI (kb % 100)) hT.2.2.1 (hT.2.2.2.2.2.2 h1t).2 hI (by omega) (rgN (k := (ka % 8)) (m := 7) (by omega) (by decide)) (rgN (k := (kb % 100)) (m := 99) (by omega) (by decide)) _ _) ml_L_152 st_L_setRain in_L rfl co_L_setRain ⟨by decide +kernel, by decide +kernel, by decide +kernel⟩ ⟨Nat.le_of_ble_eq_true rfl, Nat.le_of_ble_eq_true rfl⟩ rfl hl.1 rfl (Nat.le_of_ble_eq_true rfl) dL_law_364 ⟨by show k0 + (eg (fo1 (-1) (4, (nI (ka % 8)), (nI (kb % 100)), 0, 0) σ) - eg σ + 3) + 61 ≤ 600312; omega, by show n0 + (2 * ec (fo1 (-1) (4, (nI (ka % 8)), (nI (kb % 100)), 0, 0) σ) - 2 * ec σ + 815) + 600005 ≤ 7292162; omega⟩) (Cut.app E1 hA) E1 (fun En ce q9 H locs hp E hce hcv hcl => (False.elim hp)) (fun r2 u2 H locs hp E2 => ?_)
  obtain ⟨hr, hn2⟩ := hp
  subst hr
  have E : Ev g _ s.heap H locs (LW g yr yf qo qp u1 u2 (fo1 (-1) (4, (nI (ka % 8)), (nI (kb % 100)), 0, 0) σ) (fo1 (-1) (4, (nI (ka % 8)), (nI (kb % 100)), 0, 0) σ)) := E2.perm pm_lp.symm
  refine lv_icmp_ne (tgt := 385) hx hb dL_law_367 (by decide) (fun c_ => absurd rfl c_) (fun _ => ?_)
  refine lv_aload_n hx hb dL_law_370 rfl (lv_at hl 10 rfl) ?_
  refine lv_iload hx hb dL_law_371 (lv_at hl 0 rfl) ?_
  have hv2 : okN (6, (nI kd), 0, 0, 0) (cnt (fo1 (-1) (4, (nI (ka % 8)), (nI (kb % 100)), 0, 0) σ)) M := show rgOK _ 0 999 from (rgN (k := kd) (m := 999) (by omega) (by decide))
  have jv2 := inv_fo1 (lo := -1) (v := (6, (nI kd), 0, 0, 0)) i1 (by omega) hv2
  have i2 : Inv ((C + 1) + 1) M (fo1 (-1) (6, (nI kd), 0, 0, 0) (fo1 (-1) (4, (nI (ka % 8)), (nI (kb % 100)), 0, 0) σ)) := jv2.1
  obtain ⟨ma2, mb2, mc2⟩ := jv2.2.2
  obtain ⟨md2, me2⟩ := nt_c i2.ev (Nat.le_trans i2.en (by decide))
  have hq2 : cnt (fo1 (-1) (6, (nI kd), 0, 0, 0) (fo1 (-1) (4, (nI (ka % 8)), (nI (kb % 100)), 0, 0) σ)) = cnt (fo1 (-1) (4, (nI (ka % 8)), (nI (kb % 100)), 0, 0) σ) := (kw_of i1 (by omega) hv2 (show (6 : Nat) ≠ 8 by decide)).1
  have E1 : Ev g _ s.heap H locs (([(yr, .inl (g.2.1 0, 6, .inl yf))] ++ OB g qp u2 (fo1 (-1) (4, (nI (ka % 8)), (nI (kb % 100)), 0, 0) σ)) ++ OB g qo u1 (fo1 (-1) (4, (nI (ka % 8)), (nI (kb % 100)), 0, 0) σ)) := E.perm pm_lo
  refine y_reti (yrunH (As := [.ref qo.1, .int (nI kd)]) (rest := []) (n := 2) S hml hK (hZ.at E) (Cut.app E1 hA) (c_L_setRiver l g hst qo u1 (fo1 (-1) (4, (nI (ka % 8)), (nI (kb % 100)), 0, 0) σ) (nI kd) hn1.1 hn1.2.1 i1 (by omega) (rgN (k := kd) (m := 999) (by omega) (by decide)) _ _) ml_L_154 st_L_setRiver in_L rfl co_L_setRiver ⟨by decide +kernel, by decide +kernel, by decide +kernel⟩ ⟨Nat.le_of_ble_eq_true rfl, Nat.le_of_ble_eq_true rfl⟩ rfl hl.1 rfl (Nat.le_of_ble_eq_true rfl) dL_law_373 ⟨by show k0 + (eg (fo1 (-1) (4, (nI (ka % 8)), (nI (kb % 100)), 0, 0) σ) - eg σ + 3) + (eg (fo1 (-1) (4, (nI (ka % 8)), (nI (kb % 100)), 0, 0) σ) - eg σ + 3) + 61 ≤ 600312; omega, by show n0 + (2 * ec (fo1 (-1) (4, (nI (ka % 8)), (nI (kb % 100)), 0, 0) σ) - 2 * ec σ + 815) + (2 * ec (fo1 (-1) (4, (nI (ka % 8)), (nI (kb % 100)), 0, 0) σ) - 2 * ec σ + 815) + 600005 ≤ 7292162; omega⟩) (Cut.app E1 hA) E1 (fun En ce q9 H locs hp E hce hcv hcl => (False.elim hp)) (fun r3 u3 H locs hp E2 => ?_)
  obtain ⟨hr, hn3⟩ := hp
  subst hr
  have E : Ev g _ s.heap H locs (LW g yr yf qo qp u3 u2 (fo1 (-1) (6, (nI kd), 0, 0, 0) (fo1 (-1) (4, (nI (ka % 8)), (nI (kb % 100)), 0, 0) σ)) (fo1 (-1) (4, (nI (ka % 8)), (nI (kb % 100)), 0, 0) σ)) := E2.perm pm_lo.symm
  refine lv_aload_n hx hb dL_law_376 rfl (lv_at hl 9 rfl) ?_
  refine lv_iload hx hb dL_law_377 (lv_at hl 0 rfl) ?_
  have E1 : Ev g _ s.heap H locs (([(yr, .inl (g.2.1 0, 6, .inl yf))] ++ OB g qo u3 (fo1 (-1) (6, (nI kd), 0, 0, 0) (fo1 (-1) (4, (nI (ka % 8)), (nI (kb % 100)), 0, 0) σ))) ++ OB g qp u2 (fo1 (-1) (4, (nI (ka % 8)), (nI (kb % 100)), 0, 0) σ)) := E.perm pm_lp
  refine y_reti (yrunH (As := [.ref qp.1, .int (nI kd)]) (rest := [.int (gs (fo1 (-1) (4, (nI (ka % 8)), (nI (kb % 100)), 0, 0) σ) 2)]) (n := 2) S hml hK (hZ.at E) (Cut.app E1 hA) (c_L_setRiver l g hst qp u2 (fo1 (-1) (4, (nI (ka % 8)), (nI (kb % 100)), 0, 0) σ) (nI kd) hn2.1 hn2.2.1 i1 (by omega) (rgN (k := kd) (m := 999) (by omega) (by decide)) _ _) ml_L_154 st_L_setRiver in_L rfl co_L_setRiver ⟨by decide +kernel, by decide +kernel, by decide +kernel⟩ ⟨Nat.le_of_ble_eq_true rfl, Nat.le_of_ble_eq_true rfl⟩ rfl hl.1 rfl (Nat.le_of_ble_eq_true rfl) dL_law_379 ⟨by show k0 + (eg (fo1 (-1) (4, (nI (ka % 8)), (nI (kb % 100)), 0, 0) σ) - eg σ + 3) + (eg (fo1 (-1) (4, (nI (ka % 8)), (nI (kb % 100)), 0, 0) σ) - eg σ + 3) + (eg (fo1 (-1) (6, (nI kd), 0, 0, 0) (fo1 (-1) (4, (nI (ka % 8)), (nI (kb % 100)), 0, 0) σ)) - eg (fo1 (-1) (4, (nI (ka % 8)), (nI (kb % 100)), 0, 0) σ) + 3) + 61 ≤ 600312; omega, by show n0 + (2 * ec (fo1 (-1) (4, (nI (ka % 8)), (nI (kb % 100)), 0, 0) σ) - 2 * ec σ + 815) + (2 * ec (fo1 (-1) (4, (nI (ka % 8)), (nI (kb % 100)), 0, 0) σ) - 2 * ec σ + 815) + (2 * ec (fo1 (-1) (6, (nI kd), 0, 0, 0) (fo1 (-1) (4, (nI (ka % 8)), (nI (kb % 100)), 0, 0) σ)) - 2 * ec (fo1 (-1) (4, (nI (ka % 8)), (nI (kb % 100)), 0, 0) σ) + 815) + 600005 ≤ 7292162; omega⟩) (Cut.app E1 hA) E1 (fun En ce q9 H locs hp E hce hcv hcl => (False.elim hp)) (fun r4 u4 H locs hp E2 => ?_)
  obtain ⟨hr, hn4⟩ := hp
  subst hr
  have E : Ev g _ s.heap H locs (LW g yr yf qo qp u3 u4 (fo1 (-1) (6, (nI kd), 0, 0, 0) (fo1 (-1) (4, (nI (ka % 8)), (nI (kb % 100)), 0, 0) σ)) (fo1 (-1) (6, (nI kd), 0, 0, 0) (fo1 (-1) (4, (nI (ka % 8)), (nI (kb % 100)), 0, 0) σ))) := E2.perm pm_lp.symm
  refine lv_icmp_eq (tgt := 1101) hx hb dL_law_382 (by decide) (fun _ => ?_) (fun c_ => absurd rfl c_)
  have hcn : cnt (fo1 (-1) (6, (nI kd), 0, 0, 0) (fo1 (-1) (4, (nI (ka % 8)), (nI (kb % 100)), 0, 0) σ)) = cnt σ := (kw_of i1 (by omega) hv2 (show (6 : Nat) ≠ 8 by decide)).1.trans (kw_of hI (by omega) hv1 (show (4 : Nat) ≠ 8 by decide)).1
  have hl := (lv_sub hl [4, 5, 6, 7, 8, 9, 10, 11] rfl)
  have hTT := TI.two hT ht hv1 (show (4 : Nat) ≠ 8 by decide) hv2 (show (6 : Nat) ≠ 8 by decide) hn1 hn3 (Nx.ok hn4)
  exact K _ _ _ _ _ _ _ _ H locs ls _ _ hTT (by show k0 + (eg (fo1 (-1) (4, (nI (ka % 8)), (nI (kb % 100)), 0, 0) σ) - eg σ + 3) + (eg (fo1 (-1) (4, (nI (ka % 8)), (nI (kb % 100)), 0, 0) σ) - eg σ + 3) + (eg (fo1 (-1) (6, (nI kd), 0, 0, 0) (fo1 (-1) (4, (nI (ka % 8)), (nI (kb % 100)), 0, 0) σ)) - eg (fo1 (-1) (4, (nI (ka % 8)), (nI (kb % 100)), 0, 0) σ) + 3) + (eg (fo1 (-1) (6, (nI kd), 0, 0, 0) (fo1 (-1) (4, (nI (ka % 8)), (nI (kb % 100)), 0, 0) σ)) - eg (fo1 (-1) (4, (nI (ka % 8)), (nI (kb % 100)), 0, 0) σ) + 3) ≤ _; omega) (by show n0 + (2 * ec (fo1 (-1) (4, (nI (ka % 8)), (nI (kb % 100)), 0, 0) σ) - 2 * ec σ + 815) + (2 * ec (fo1 (-1) (4, (nI (ka % 8)), (nI (kb % 100)), 0, 0) σ) - 2 * ec σ + 815) + (2 * ec (fo1 (-1) (6, (nI kd), 0, 0, 0) (fo1 (-1) (4, (nI (ka % 8)), (nI (kb % 100)), 0, 0) σ)) - 2 * ec (fo1 (-1) (4, (nI (ka % 8)), (nI (kb % 100)), 0, 0) σ) + 815) + (2 * ec (fo1 (-1) (6, (nI kd), 0, 0, 0) (fo1 (-1) (4, (nI (ka % 8)), (nI (kb % 100)), 0, 0) σ)) - 2 * ec (fo1 (-1) (4, (nI (ka % 8)), (nI (kb % 100)), 0, 0) σ) + 815) ≤ _; omega) E (by rw [hcn]; exact hl)
set_option maxHeartbeats 4000000 in
set_option maxRecDepth 100000 in
/-- a bed and the sea are set -/
theorem tc_bed {p : Program} {l : Launch} {e : Env} {s : State} {m : MethodId} {below : List Frame} {meth : Method} {c : Code} {sb : Nat} {g : Gm} {yr : Nat} {qo qp : Fx} (hst : l.stackTraces = false) (S : Sta p c cL_law s #[.ref sb] RL m) (hml : c.maxLocals = 20) (hK : va_K g.1 vwC (tysG g) s) (hZ : Zs g (fun q => s.heap.size ≤ q) s s.heap) {t C M A : Nat} {yf : Nat → Int32} {uo up : SOB} {σ : Sg} {cvs : List CV} (hT : TI t C M A yf uo up σ cvs) (ht : t < 60) (h1t : 1 ≤ t) {ka kb kc kd : Nat} (hka : ka < 16) (hkb : kb < 200) (hkc : kc < 50) (hkd : kd < 1000)  {H : Heap} {locs : List Loc} {ls : Array Slot} {k0 n0 : Nat} (hk0 : k0 ≤ 100 * t + 2 * eg σ + 400) (hn0 : n0 ≤ 20000 * t + 4 * ec σ + 5000) (E : Ev g (fun q => s.heap.size ≤ q) s.heap H locs (LW g yr yf qo qp uo up σ σ)) (hl : lv_has ls 20 [(13, .int (nI kd)), (12, .int (nI kc)), (11, .int (nI kb)), (10, .int (nI ka)), (7, .int (nI t)), (6, .ref yr), (5, .int (nI A)), (4, .int (nI M)), (3, .int (nI (cnt σ))), (2, .ref qp.1), (1, .ref qo.1), (0, .ref sb)]) (K : KT p l e s m below meth c sb g yr qo qp t 1101 90 19000) : W p l e room_1 s m #[.ref sb] below meth c H locs k0 n0 (lw_Z below #[.ref sb] s) (F0 m 393 ls []) := by
  have hx := S.1
  have hb := S.2.1
  have hA : ∀ q : Nat, s.heap.size ≤ q → s.heap.size ≤ q := fun _ h => h
  have hI := hT.1.1
  have h6 := hI.wf.le
  have hCt := hT.2.1
  have hAt := hT.2.2.2.2.2.1
  obtain ⟨g1, g2⟩ := nt_c hI.ev (Nat.le_trans hI.en (by decide))
  refine lv_aload_n hx hb dL_law_393 rfl (lv_at hl 10 rfl) ?_
  refine lv_iload hx hb dL_law_394 (lv_at hl 3 rfl) ?_
  refine lv_bipush (v := 8) hx hb dL_law_396 (by decide) ?_
  refine k_irem (v := (nI (ka % 8))) hx hb (by decide) (pk_rem (a := ka) (d := 8) (by omega) (by decide) (by decide)) dL_law_398 ?_
  refine lv_iload hx hb dL_law_399 (lv_at hl 2 rfl) ?_
  refine lv_bipush (v := 100) hx hb dL_law_401 (by decide) ?_
  refine k_isub (v := ((nI kb) - 100)) hx hb rfl dL_law_403 ?_
  refine lv_iload hx hb dL_law_404 (lv_at hl 1 rfl) ?_
  refine lv_bipush (v := 10) hx hb dL_law_406 (by decide) ?_
  refine k_irem (v := (nI (kc % 10))) hx hb (by decide) (pk_rem (a := kc) (d := 10) (by omega) (by decide) (by decide)) dL_law_408 ?_
  have hv1 : okN (5, (nI (ka % 8)), ((nI kb) - 100), (nI (kc % 10)), 0) (cnt σ) M := show _ ∧ _ from ⟨(rgN (k := (ka % 8)) (m := 7) (by omega) (by decide)), (rg_m (by omega)), (rgN (k := (kc % 10)) (m := 9) (by omega) (by decide))⟩
  have jv1 := inv_fo1 (lo := -1) (v := (5, (nI (ka % 8)), ((nI kb) - 100), (nI (kc % 10)), 0)) hI (by omega) hv1
  have i1 : Inv (C + 1) M (fo1 (-1) (5, (nI (ka % 8)), ((nI kb) - 100), (nI (kc % 10)), 0) σ) := jv1.1
  obtain ⟨ma1, mb1, mc1⟩ := jv1.2.2
  obtain ⟨md1, me1⟩ := nt_c i1.ev (Nat.le_trans i1.en (by decide))
  have hq1 : cnt (fo1 (-1) (5, (nI (ka % 8)), ((nI kb) - 100), (nI (kc % 10)), 0) σ) = cnt σ := (kw_of hI (by omega) hv1 (show (5 : Nat) ≠ 8 by decide)).1
  have E1 : Ev g _ s.heap H locs (([(yr, .inl (g.2.1 0, 6, .inl yf))] ++ OB g qp up σ) ++ OB g qo uo σ) := E.perm pm_lo
  refine y_reti (yrunH (As := [.ref qo.1, .int (nI (ka % 8)), .int ((nI kb) - 100), .int (nI (kc % 10))]) (rest := []) (n := 4) S hml hK (hZ.at E) (Cut.app E1 hA) (c_L_setBed l g hst qo uo σ (nI (ka % 8)) ((nI kb) - 100) (nI (kc % 10)) hT.1.2.1 (hT.2.2.2.2.2.2 h1t).1 hI (by omega) (rgN (k := (ka % 8)) (m := 7) (by omega) (by decide)) (rg_m (by omega)) (rgN (k := (kc % 10)) (m := 9) (by omega) (by decide)) _ _) ml_L_156 st_L_setBed in_L rfl co_L_setBed ⟨by decide +kernel, by decide +kernel, by decide +kernel⟩ ⟨Nat.le_of_ble_eq_true rfl, Nat.le_of_ble_eq_true rfl⟩ rfl hl.1 rfl (Nat.le_of_ble_eq_true rfl) dL_law_409 ⟨by show k0 + 61 ≤ 600312; omega, by show n0 + 600005 ≤ 7292162; omega⟩) (Cut.app E1 hA) E1 (fun En ce q9 H locs hp E hce hcv hcl => (False.elim hp)) (fun r1 u1 H locs hp E2 => ?_)
  obtain ⟨hr, hn1⟩ := hp
  subst hr
  have E : Ev g _ s.heap H locs (LW g yr yf qo qp u1 up (fo1 (-1) (5, (nI (ka % 8)), ((nI kb) - 100), (nI (kc % 10)), 0) σ) σ) := E2.perm pm_lo.symm
  refine lv_aload_n hx hb dL_law_412 rfl (lv_at hl 9 rfl) ?_
  refine lv_iload hx hb dL_law_413 (lv_at hl 3 rfl) ?_
  refine lv_bipush (v := 8) hx hb dL_law_415 (by decide) ?_
  refine k_irem (v := (nI (ka % 8))) hx hb (by decide) (pk_rem (a := ka) (d := 8) (by omega) (by decide) (by decide)) dL_law_417 ?_
  refine lv_iload hx hb dL_law_418 (lv_at hl 2 rfl) ?_
  refine lv_bipush (v := 100) hx hb dL_law_420 (by decide) ?_
  refine k_isub (v := ((nI kb) - 100)) hx hb rfl dL_law_422 ?_
  refine lv_iload hx hb dL_law_423 (lv_at hl 1 rfl) ?_
  refine lv_bipush (v := 10) hx hb dL_law_425 (by decide) ?_
  refine k_irem (v := (nI (kc % 10))) hx hb (by decide) (pk_rem (a := kc) (d := 10) (by omega) (by decide) (by decide)) dL_law_427 ?_
  have E1 : Ev g _ s.heap H locs (([(yr, .inl (g.2.1 0, 6, .inl yf))] ++ OB g qo u1 (fo1 (-1) (5, (nI (ka % 8)), ((nI kb) - 100), (nI (kc % 10)), 0) σ)) ++ OB g qp up σ) := E.perm pm_lp
  refine y_reti (yrunH (As := [.ref qp.1, .int (nI (ka % 8)), .int ((nI kb) - 100), .int (nI (kc % 10))]) (rest := [.int (gi σ 17 (nI (ka % 8)))]) (n := 4) S hml hK (hZ.at E) (Cut.app E1 hA) (c_L_setBed l g hst qp up σ (nI (ka % 8)) ((nI kb) - 100) (nI (kc % 10)) hT.2.2.1 (hT.2.2.2.2.2.2 h1t).2 hI (by omega) (rgN (k := (ka % 8)) (m := 7) (by omega) (by decide)) (rg_m (by omega)) (rgN (k := (kc % 10)) (m := 9) (by omega) (by decide)) _ _) ml_L_156 st_L_setBed in_L rfl co_L_setBed ⟨by decide +kernel, by decide +kernel, by decide +kernel⟩ ⟨Nat.le_of_ble_eq_true rfl, Nat.le_of_ble_eq_true rfl⟩ rfl hl.1 rfl (Nat.le_of_ble_eq_true rfl) dL_law_428 ⟨by show k0 + (eg (fo1 (-1) (5, (nI (ka % 8)), ((nI kb) - 100), (nI (kc % 10)), 0) σ) - eg σ + 3) + 61 ≤ 600312; omega, by show n0 + (2 * ec (fo1 (-1) (5, (nI (ka % 8)), ((nI kb) - 100), (nI (kc % 10)), 0) σ) - 2 * ec σ + 815) + 600005 ≤ 7292162; omega⟩) (Cut.app E1 hA) E1 (fun En ce q9 H locs hp E hce hcv hcl => (False.elim hp)) (fun r2 u2 H locs hp E2 => ?_)
  obtain ⟨hr, hn2⟩ := hp
  subst hr
  have E : Ev g _ s.heap H locs (LW g yr yf qo qp u1 u2 (fo1 (-1) (5, (nI (ka % 8)), ((nI kb) - 100), (nI (kc % 10)), 0) σ) (fo1 (-1) (5, (nI (ka % 8)), ((nI kb) - 100), (nI (kc % 10)), 0) σ)) := E2.perm pm_lp.symm
  refine lv_icmp_ne (tgt := 455) hx hb dL_law_431 (by decide) (fun c_ => absurd rfl c_) (fun _ => ?_)
  refine lv_aload_n hx hb dL_law_434 rfl (lv_at hl 10 rfl) ?_
  refine lv_iload hx hb dL_law_435 (lv_at hl 0 rfl) ?_
  refine lv_bipush (v := 10) hx hb dL_law_437 (by decide) ?_
  refine k_irem (v := (nI (kd % 10))) hx hb (by decide) (pk_rem (a := kd) (d := 10) (by omega) (by decide) (by decide)) dL_law_439 ?_
  have hv2 : okN (7, (nI (kd % 10)), 0, 0, 0) (cnt (fo1 (-1) (5, (nI (ka % 8)), ((nI kb) - 100), (nI (kc % 10)), 0) σ)) M := show rgOK _ 0 9 from (rgN (k := (kd % 10)) (m := 9) (by omega) (by decide))
  have jv2 := inv_fo1 (lo := -1) (v := (7, (nI (kd % 10)), 0, 0, 0)) i1 (by omega) hv2
  have i2 : Inv ((C + 1) + 1) M (fo1 (-1) (7, (nI (kd % 10)), 0, 0, 0) (fo1 (-1) (5, (nI (ka % 8)), ((nI kb) - 100), (nI (kc % 10)), 0) σ)) := jv2.1
  obtain ⟨ma2, mb2, mc2⟩ := jv2.2.2
  obtain ⟨md2, me2⟩ := nt_c i2.ev (Nat.le_trans i2.en (by decide))
  have hq2 : cnt (fo1 (-1) (7, (nI (kd % 10)), 0, 0, 0) (fo1 (-1) (5, (nI (ka % 8)), ((nI kb) - 100), (nI (kc % 10)), 0) σ)) = cnt (fo1 (-1) (5, (nI (ka % 8)), ((nI kb) - 100), (nI (kc % 10)), 0) σ) := (kw_of i1 (by omega) hv2 (show (7 : Nat) ≠ 8 by decide)).1
  have E1 : Ev g _ s.heap H locs (([(yr, .inl (g.2.1 0, 6, .inl yf))] ++ OB g qp u2 (fo1 (-1) (5, (nI (ka % 8)), ((nI kb) - 100), (nI (kc % 10)), 0) σ)) ++ OB g qo u1 (fo1 (-1) (5, (nI (ka % 8)), ((nI kb) - 100), (nI (kc % 10)), 0) σ)) := E.perm pm_lo
  refine y_reti (yrunH (As := [.ref qo.1, .int (nI (kd % 10))]) (rest := []) (n := 2) S hml hK (hZ.at E) (Cut.app E1 hA) (c_L_setSea l g hst qo u1 (fo1 (-1) (5, (nI (ka % 8)), ((nI kb) - 100), (nI (kc % 10)), 0) σ) (nI (kd % 10)) hn1.1 hn1.2.1 i1 (by omega) (rgN (k := (kd % 10)) (m := 9) (by omega) (by decide)) _ _) ml_L_159 st_L_setSea in_L rfl co_L_setSea ⟨by decide +kernel, by decide +kernel, by decide +kernel⟩ ⟨Nat.le_of_ble_eq_true rfl, Nat.le_of_ble_eq_true rfl⟩ rfl hl.1 rfl (Nat.le_of_ble_eq_true rfl) dL_law_440 ⟨by show k0 + (eg (fo1 (-1) (5, (nI (ka % 8)), ((nI kb) - 100), (nI (kc % 10)), 0) σ) - eg σ + 3) + (eg (fo1 (-1) (5, (nI (ka % 8)), ((nI kb) - 100), (nI (kc % 10)), 0) σ) - eg σ + 3) + 61 ≤ 600312; omega, by show n0 + (2 * ec (fo1 (-1) (5, (nI (ka % 8)), ((nI kb) - 100), (nI (kc % 10)), 0) σ) - 2 * ec σ + 815) + (2 * ec (fo1 (-1) (5, (nI (ka % 8)), ((nI kb) - 100), (nI (kc % 10)), 0) σ) - 2 * ec σ + 815) + 600005 ≤ 7292162; omega⟩) (Cut.app E1 hA) E1 (fun En ce q9 H locs hp E hce hcv hcl => (False.elim hp)) (fun r3 u3 H locs hp E2 => ?_)
  obtain ⟨hr, hn3⟩ := hp
  subst hr
  have E : Ev g _ s.heap H locs (LW g yr yf qo qp u3 u2 (fo1 (-1) (7, (nI (kd % 10)), 0, 0, 0) (fo1 (-1) (5, (nI (ka % 8)), ((nI kb) - 100), (nI (kc % 10)), 0) σ)) (fo1 (-1) (5, (nI (ka % 8)), ((nI kb) - 100), (nI (kc % 10)), 0) σ)) := E2.perm pm_lo.symm
  refine lv_aload_n hx hb dL_law_443 rfl (lv_at hl 9 rfl) ?_
  refine lv_iload hx hb dL_law_444 (lv_at hl 0 rfl) ?_
  refine lv_bipush (v := 10) hx hb dL_law_446 (by decide) ?_
  refine k_irem (v := (nI (kd % 10))) hx hb (by decide) (pk_rem (a := kd) (d := 10) (by omega) (by decide) (by decide)) dL_law_448 ?_
  have E1 : Ev g _ s.heap H locs (([(yr, .inl (g.2.1 0, 6, .inl yf))] ++ OB g qo u3 (fo1 (-1) (7, (nI (kd % 10)), 0, 0, 0) (fo1 (-1) (5, (nI (ka % 8)), ((nI kb) - 100), (nI (kc % 10)), 0) σ))) ++ OB g qp u2 (fo1 (-1) (5, (nI (ka % 8)), ((nI kb) - 100), (nI (kc % 10)), 0) σ)) := E.perm pm_lp
  refine y_reti (yrunH (As := [.ref qp.1, .int (nI (kd % 10))]) (rest := [.int (gs (fo1 (-1) (5, (nI (ka % 8)), ((nI kb) - 100), (nI (kc % 10)), 0) σ) 3)]) (n := 2) S hml hK (hZ.at E) (Cut.app E1 hA) (c_L_setSea l g hst qp u2 (fo1 (-1) (5, (nI (ka % 8)), ((nI kb) - 100), (nI (kc % 10)), 0) σ) (nI (kd % 10)) hn2.1 hn2.2.1 i1 (by omega) (rgN (k := (kd % 10)) (m := 9) (by omega) (by decide)) _ _) ml_L_159 st_L_setSea in_L rfl co_L_setSea ⟨by decide +kernel, by decide +kernel, by decide +kernel⟩ ⟨Nat.le_of_ble_eq_true rfl, Nat.le_of_ble_eq_true rfl⟩ rfl hl.1 rfl (Nat.le_of_ble_eq_true rfl) dL_law_449 ⟨by show k0 + (eg (fo1 (-1) (5, (nI (ka % 8)), ((nI kb) - 100), (nI (kc % 10)), 0) σ) - eg σ + 3) + (eg (fo1 (-1) (5, (nI (ka % 8)), ((nI kb) - 100), (nI (kc % 10)), 0) σ) - eg σ + 3) + (eg (fo1 (-1) (7, (nI (kd % 10)), 0, 0, 0) (fo1 (-1) (5, (nI (ka % 8)), ((nI kb) - 100), (nI (kc % 10)), 0) σ)) - eg (fo1 (-1) (5, (nI (ka % 8)), ((nI kb) - 100), (nI (kc % 10)), 0) σ) + 3) + 61 ≤ 600312; omega, by show n0 + (2 * ec (fo1 (-1) (5, (nI (ka % 8)), ((nI kb) - 100), (nI (kc % 10)), 0) σ) - 2 * ec σ + 815) + (2 * ec (fo1 (-1) (5, (nI (ka % 8)), ((nI kb) - 100), (nI (kc % 10)), 0) σ) - 2 * ec σ + 815) + (2 * ec (fo1 (-1) (7, (nI (kd % 10)), 0, 0, 0) (fo1 (-1) (5, (nI (ka % 8)), ((nI kb) - 100), (nI (kc % 10)), 0) σ)) - 2 * ec (fo1 (-1) (5, (nI (ka % 8)), ((nI kb) - 100), (nI (kc % 10)), 0) σ) + 815) + 600005 ≤ 7292162; omega⟩) (Cut.app E1 hA) E1 (fun En ce q9 H locs hp E hce hcv hcl => (False.elim hp)) (fun r4 u4 H locs hp E2 => ?_)
  obtain ⟨hr, hn4⟩ := hp
  subst hr
  have E : Ev g _ s.heap H locs (LW g yr yf qo qp u3 u4 (fo1 (-1) (7, (nI (kd % 10)), 0, 0, 0) (fo1 (-1) (5, (nI (ka % 8)), ((nI kb) - 100), (nI (kc % 10)), 0) σ)) (fo1 (-1) (7, (nI (kd % 10)), 0, 0, 0) (fo1 (-1) (5, (nI (ka % 8)), ((nI kb) - 100), (nI (kc % 10)), 0) σ))) := E2.perm pm_lp.symm
  refine lv_icmp_eq (tgt := 1101) hx hb dL_law_452 (by decide) (fun _ => ?_) (fun c_ => absurd rfl c_)
  have hcn : cnt (fo1 (-1) (7, (nI (kd % 10)), 0, 0, 0) (fo1 (-1) (5, (nI (ka % 8)), ((nI kb) - 100), (nI (kc % 10)), 0) σ)) = cnt σ := (kw_of i1 (by omega) hv2 (show (7 : Nat) ≠ 8 by decide)).1.trans (kw_of hI (by omega) hv1 (show (5 : Nat) ≠ 8 by decide)).1
  have hl := (lv_sub hl [4, 5, 6, 7, 8, 9, 10, 11] rfl)
  have hTT := TI.two hT ht hv1 (show (5 : Nat) ≠ 8 by decide) hv2 (show (7 : Nat) ≠ 8 by decide) hn1 hn3 (Nx.ok hn4)
  exact K _ _ _ _ _ _ _ _ H locs ls _ _ hTT (by show k0 + (eg (fo1 (-1) (5, (nI (ka % 8)), ((nI kb) - 100), (nI (kc % 10)), 0) σ) - eg σ + 3) + (eg (fo1 (-1) (5, (nI (ka % 8)), ((nI kb) - 100), (nI (kc % 10)), 0) σ) - eg σ + 3) + (eg (fo1 (-1) (7, (nI (kd % 10)), 0, 0, 0) (fo1 (-1) (5, (nI (ka % 8)), ((nI kb) - 100), (nI (kc % 10)), 0) σ)) - eg (fo1 (-1) (5, (nI (ka % 8)), ((nI kb) - 100), (nI (kc % 10)), 0) σ) + 3) + (eg (fo1 (-1) (7, (nI (kd % 10)), 0, 0, 0) (fo1 (-1) (5, (nI (ka % 8)), ((nI kb) - 100), (nI (kc % 10)), 0) σ)) - eg (fo1 (-1) (5, (nI (ka % 8)), ((nI kb) - 100), (nI (kc % 10)), 0) σ) + 3) ≤ _; omega) (by show n0 + (2 * ec (fo1 (-1) (5, (nI (ka % 8)), ((nI kb) - 100), (nI (kc % 10)), 0) σ) - 2 * ec σ + 815) + (2 * ec (fo1 (-1) (5, (nI (ka % 8)), ((nI kb) - 100), (nI (kc % 10)), 0) σ) - 2 * ec σ + 815) + (2 * ec (fo1 (-1) (7, (nI (kd % 10)), 0, 0, 0) (fo1 (-1) (5, (nI (ka % 8)), ((nI kb) - 100), (nI (kc % 10)), 0) σ)) - 2 * ec (fo1 (-1) (5, (nI (ka % 8)), ((nI kb) - 100), (nI (kc % 10)), 0) σ) + 815) + (2 * ec (fo1 (-1) (7, (nI (kd % 10)), 0, 0, 0) (fo1 (-1) (5, (nI (ka % 8)), ((nI kb) - 100), (nI (kc % 10)), 0) σ)) - 2 * ec (fo1 (-1) (5, (nI (ka % 8)), ((nI kb) - 100), (nI (kc % 10)), 0) σ) + 815) ≤ _; omega) E (by rw [hcn]; exact hl)
set_option maxHeartbeats 4000000 in
set_option maxRecDepth 100000 in
/-- a wish is set -/
theorem tc_wish {p : Program} {l : Launch} {e : Env} {s : State} {m : MethodId} {below : List Frame} {meth : Method} {c : Code} {sb : Nat} {g : Gm} {yr : Nat} {qo qp : Fx} (hst : l.stackTraces = false) (S : Sta p c cL_law s #[.ref sb] RL m) (hml : c.maxLocals = 20) (hK : va_K g.1 vwC (tysG g) s) (hZ : Zs g (fun q => s.heap.size ≤ q) s s.heap) {t C M A : Nat} {yf : Nat → Int32} {uo up : SOB} {σ : Sg} {cvs : List CV} (hT : TI t C M A yf uo up σ cvs) (ht : t < 60) (h1t : 1 ≤ t) {ka kb kc kd : Nat} (hka : ka < 16) (hkb : kb < 200) (hkc : kc < 50) (hkd : kd < 1000) (hn0w : 0 < cnt σ) {H : Heap} {locs : List Loc} {ls : Array Slot} {k0 n0 : Nat} (hk0 : k0 ≤ 100 * t + 2 * eg σ + 400) (hn0 : n0 ≤ 20000 * t + 4 * ec σ + 5000) (E : Ev g (fun q => s.heap.size ≤ q) s.heap H locs (LW g yr yf qo qp uo up σ σ)) (hl : lv_has ls 20 [(13, .int (nI kd)), (12, .int (nI kc)), (11, .int (nI kb)), (10, .int (nI ka)), (7, .int (nI t)), (6, .ref yr), (5, .int (nI A)), (4, .int (nI M)), (3, .int (nI (cnt σ))), (2, .ref qp.1), (1, .ref qo.1), (0, .ref sb)]) (K : KT p l e s m below meth c sb g yr qo qp t 1101 90 19000) : W p l e room_1 s m #[.ref sb] below meth c H locs k0 n0 (lw_Z below #[.ref sb] s) (F0 m 549 ls []) := by
  have hx := S.1
  have hb := S.2.1
  have hA : ∀ q : Nat, s.heap.size ≤ q → s.heap.size ≤ q := fun _ h => h
  have hI := hT.1.1
  have h6 := hI.wf.le
  have hCt := hT.2.1
  have hAt := hT.2.2.2.2.2.1
  obtain ⟨g1, g2⟩ := nt_c hI.ev (Nat.le_trans hI.en (by decide))
  have q1 : ka % cnt σ < cnt σ := Nat.mod_lt _ hn0w
  have q2 : kb % cnt σ < cnt σ := Nat.mod_lt _ hn0w
  refine lv_aload_n hx hb dL_law_549 rfl (lv_at hl 10 rfl) ?_
  refine lv_iload hx hb dL_law_550 (lv_at hl 3 rfl) ?_
  refine lv_iload_n hx hb dL_law_552 rfl (lv_at hl 8 rfl) ?_
  refine k_irem (v := (nI (ka % cnt σ))) hx hb (nI_ne0 hn0w (by omega)) (pk_rem (a := ka) (d := cnt σ) (by omega) hn0w (by omega)) dL_law_553 ?_
  refine lv_iload hx hb dL_law_554 (lv_at hl 2 rfl) ?_
  refine lv_bipush (v := 100) hx hb dL_law_556 (by decide) ?_
  refine k_irem (v := (nI (kb % 100))) hx hb (by decide) (pk_rem (a := kb) (d := 100) (by omega) (by decide) (by decide)) dL_law_558 ?_
  have hv1 : okN (9, (nI (ka % cnt σ)), (nI (kb % 100)), 0, 0) (cnt σ) M := show _ ∧ _ from ⟨by rw [← hI.wf.n]; exact (ixN (k := (ka % cnt σ)) hI.wf (by omega)), (rgN (k := (kb % 100)) (m := 99) (by omega) (by decide))⟩
  have jv1 := inv_fo1 (lo := -1) (v := (9, (nI (ka % cnt σ)), (nI (kb % 100)), 0, 0)) hI (by omega) hv1
  have i1 : Inv (C + 1) M (fo1 (-1) (9, (nI (ka % cnt σ)), (nI (kb % 100)), 0, 0) σ) := jv1.1
  obtain ⟨ma1, mb1, mc1⟩ := jv1.2.2
  obtain ⟨md1, me1⟩ := nt_c i1.ev (Nat.le_trans i1.en (by decide))
  have hq1 : cnt (fo1 (-1) (9, (nI (ka % cnt σ)), (nI (kb % 100)), 0, 0) σ) = cnt σ := (kw_of hI (by omega) hv1 (show (9 : Nat) ≠ 8 by decide)).1
  have E1 : Ev g _ s.heap H locs (([(yr, .inl (g.2.1 0, 6, .inl yf))] ++ OB g qp up σ) ++ OB g qo uo σ) := E.perm pm_lo
  refine y_reti (yrunH (As := [.ref qo.1, .int (nI (ka % cnt σ)), .int (nI (kb % 100))]) (rest := []) (n := 3) S hml hK (hZ.at E) (Cut.app E1 hA) (c_L_setWish l g hst qo uo σ (nI (ka % cnt σ)) (nI (kb % 100)) hT.1.2.1 (hT.2.2.2.2.2.2 h1t).1 hI (by omega) (ixN (k := (ka % cnt σ)) hI.wf (by omega)) (rgN (k := (kb % 100)) (m := 99) (by omega) (by decide)) _ _) ml_L_163 st_L_setWish in_L rfl co_L_setWish ⟨by decide +kernel, by decide +kernel, by decide +kernel⟩ ⟨Nat.le_of_ble_eq_true rfl, Nat.le_of_ble_eq_true rfl⟩ rfl hl.1 rfl (Nat.le_of_ble_eq_true rfl) dL_law_559 ⟨by show k0 + 61 ≤ 600312; omega, by show n0 + 600005 ≤ 7292162; omega⟩) (Cut.app E1 hA) E1 (fun En ce q9 H locs hp E hce hcv hcl => (False.elim hp)) (fun r1 u1 H locs hp E2 => ?_)
  obtain ⟨hr, hn1⟩ := hp
  subst hr
  have E : Ev g _ s.heap H locs (LW g yr yf qo qp u1 up (fo1 (-1) (9, (nI (ka % cnt σ)), (nI (kb % 100)), 0, 0) σ) σ) := E2.perm pm_lo.symm
  refine lv_aload_n hx hb dL_law_562 rfl (lv_at hl 9 rfl) ?_
  refine lv_iload hx hb dL_law_563 (lv_at hl 3 rfl) ?_
  refine lv_iload_n hx hb dL_law_565 rfl (lv_at hl 8 rfl) ?_
  refine k_irem (v := (nI (ka % cnt σ))) hx hb (nI_ne0 hn0w (by omega)) (pk_rem (a := ka) (d := cnt σ) (by omega) hn0w (by omega)) dL_law_566 ?_
  refine lv_iload hx hb dL_law_567 (lv_at hl 2 rfl) ?_
  refine lv_bipush (v := 100) hx hb dL_law_569 (by decide) ?_
  refine k_irem (v := (nI (kb % 100))) hx hb (by decide) (pk_rem (a := kb) (d := 100) (by omega) (by decide) (by decide)) dL_law_571 ?_
  have E1 : Ev g _ s.heap H locs (([(yr, .inl (g.2.1 0, 6, .inl yf))] ++ OB g qo u1 (fo1 (-1) (9, (nI (ka % cnt σ)), (nI (kb % 100)), 0, 0) σ)) ++ OB g qp up σ) := E.perm pm_lp
  refine y_reti (yrunH (As := [.ref qp.1, .int (nI (ka % cnt σ)), .int (nI (kb % 100))]) (rest := [.int (gi σ 21 (nI (ka % cnt σ)))]) (n := 3) S hml hK (hZ.at E) (Cut.app E1 hA) (c_L_setWish l g hst qp up σ (nI (ka % cnt σ)) (nI (kb % 100)) hT.2.2.1 (hT.2.2.2.2.2.2 h1t).2 hI (by omega) (ixN (k := (ka % cnt σ)) hI.wf (by omega)) (rgN (k := (kb % 100)) (m := 99) (by omega) (by decide)) _ _) ml_L_163 st_L_setWish in_L rfl co_L_setWish ⟨by decide +kernel, by decide +kernel, by decide +kernel⟩ ⟨Nat.le_of_ble_eq_true rfl, Nat.le_of_ble_eq_true rfl⟩ rfl hl.1 rfl (Nat.le_of_ble_eq_true rfl) dL_law_572 ⟨by show k0 + (eg (fo1 (-1) (9, (nI (ka % cnt σ)), (nI (kb % 100)), 0, 0) σ) - eg σ + 3) + 61 ≤ 600312; omega, by show n0 + (2 * ec (fo1 (-1) (9, (nI (ka % cnt σ)), (nI (kb % 100)), 0, 0) σ) - 2 * ec σ + 815) + 600005 ≤ 7292162; omega⟩) (Cut.app E1 hA) E1 (fun En ce q9 H locs hp E hce hcv hcl => (False.elim hp)) (fun r2 u2 H locs hp E2 => ?_)
  obtain ⟨hr, hn2⟩ := hp
  subst hr
  have E : Ev g _ s.heap H locs (LW g yr yf qo qp u1 u2 (fo1 (-1) (9, (nI (ka % cnt σ)), (nI (kb % 100)), 0, 0) σ) (fo1 (-1) (9, (nI (ka % cnt σ)), (nI (kb % 100)), 0, 0) σ)) := E2.perm pm_lp.symm
  refine lv_icmp_ne (tgt := 599) hx hb dL_law_575 (by decide) (fun c_ => absurd rfl c_) (fun _ => ?_)
  refine lv_aload_n hx hb dL_law_578 rfl (lv_at hl 10 rfl) ?_
  refine lv_iload hx hb dL_law_579 (lv_at hl 3 rfl) ?_
  refine lv_iload_n hx hb dL_law_581 rfl (lv_at hl 8 rfl) ?_
  refine k_irem (v := (nI (ka % cnt σ))) hx hb (nI_ne0 hn0w (by omega)) (pk_rem (a := ka) (d := cnt σ) (by omega) hn0w (by omega)) dL_law_582 ?_
  refine lv_iload hx hb dL_law_583 (lv_at hl 2 rfl) ?_
  refine lv_bipush (v := 100) hx hb dL_law_585 (by decide) ?_
  refine k_irem (v := (nI (kb % 100))) hx hb (by decide) (pk_rem (a := kb) (d := 100) (by omega) (by decide) (by decide)) dL_law_587 ?_
  have hv2 : okN (9, (nI (ka % cnt σ)), (nI (kb % 100)), 0, 0) (cnt (fo1 (-1) (9, (nI (ka % cnt σ)), (nI (kb % 100)), 0, 0) σ)) M := show _ ∧ _ from ⟨by rw [← i1.wf.n]; exact (ixN (k := (ka % cnt σ)) i1.wf (by omega)), (rgN (k := (kb % 100)) (m := 99) (by omega) (by decide))⟩
  have jv2 := inv_fo1 (lo := -1) (v := (9, (nI (ka % cnt σ)), (nI (kb % 100)), 0, 0)) i1 (by omega) hv2
  have i2 : Inv ((C + 1) + 1) M (fo1 (-1) (9, (nI (ka % cnt σ)), (nI (kb % 100)), 0, 0) (fo1 (-1) (9, (nI (ka % cnt σ)), (nI (kb % 100)), 0, 0) σ)) := jv2.1
  obtain ⟨ma2, mb2, mc2⟩ := jv2.2.2
  obtain ⟨md2, me2⟩ := nt_c i2.ev (Nat.le_trans i2.en (by decide))
  have hq2 : cnt (fo1 (-1) (9, (nI (ka % cnt σ)), (nI (kb % 100)), 0, 0) (fo1 (-1) (9, (nI (ka % cnt σ)), (nI (kb % 100)), 0, 0) σ)) = cnt (fo1 (-1) (9, (nI (ka % cnt σ)), (nI (kb % 100)), 0, 0) σ) := (kw_of i1 (by omega) hv2 (show (9 : Nat) ≠ 8 by decide)).1
  have E1 : Ev g _ s.heap H locs (([(yr, .inl (g.2.1 0, 6, .inl yf))] ++ OB g qp u2 (fo1 (-1) (9, (nI (ka % cnt σ)), (nI (kb % 100)), 0, 0) σ)) ++ OB g qo u1 (fo1 (-1) (9, (nI (ka % cnt σ)), (nI (kb % 100)), 0, 0) σ)) := E.perm pm_lo
  refine y_reti (yrunH (As := [.ref qo.1, .int (nI (ka % cnt σ)), .int (nI (kb % 100))]) (rest := []) (n := 3) S hml hK (hZ.at E) (Cut.app E1 hA) (c_L_setWish l g hst qo u1 (fo1 (-1) (9, (nI (ka % cnt σ)), (nI (kb % 100)), 0, 0) σ) (nI (ka % cnt σ)) (nI (kb % 100)) hn1.1 hn1.2.1 i1 (by omega) (ixN (k := (ka % cnt σ)) i1.wf (by omega)) (rgN (k := (kb % 100)) (m := 99) (by omega) (by decide)) _ _) ml_L_163 st_L_setWish in_L rfl co_L_setWish ⟨by decide +kernel, by decide +kernel, by decide +kernel⟩ ⟨Nat.le_of_ble_eq_true rfl, Nat.le_of_ble_eq_true rfl⟩ rfl hl.1 rfl (Nat.le_of_ble_eq_true rfl) dL_law_588 ⟨by show k0 + (eg (fo1 (-1) (9, (nI (ka % cnt σ)), (nI (kb % 100)), 0, 0) σ) - eg σ + 3) + (eg (fo1 (-1) (9, (nI (ka % cnt σ)), (nI (kb % 100)), 0, 0) σ) - eg σ + 3) + 61 ≤ 600312; omega, by show n0 + (2 * ec (fo1 (-1) (9, (nI (ka % cnt σ)), (nI (kb % 100)), 0, 0) σ) - 2 * ec σ + 815) + (2 * ec (fo1 (-1) (9, (nI (ka % cnt σ)), (nI (kb % 100)), 0, 0) σ) - 2 * ec σ + 815) + 600005 ≤ 7292162; omega⟩) (Cut.app E1 hA) E1 (fun En ce q9 H locs hp E hce hcv hcl => (False.elim hp)) (fun r3 u3 H locs hp E2 => ?_)
  obtain ⟨hr, hn3⟩ := hp
  subst hr
  have E : Ev g _ s.heap H locs (LW g yr yf qo qp u3 u2 (fo1 (-1) (9, (nI (ka % cnt σ)), (nI (kb % 100)), 0, 0) (fo1 (-1) (9, (nI (ka % cnt σ)), (nI (kb % 100)), 0, 0) σ)) (fo1 (-1) (9, (nI (ka % cnt σ)), (nI (kb % 100)), 0, 0) σ)) := E2.perm pm_lo.symm
  have e2 : (fo1 (-1) (9, (nI (ka % cnt σ)), (nI (kb % 100)), 0, 0) (fo1 (-1) (9, (nI (ka % cnt σ)), (nI (kb % 100)), 0, 0) σ)) = (fo1 (-1) (9, (nI (ka % cnt σ)), (nI (kb % 100)), 0, 0) σ) := (wi_2 (by omega))
  rw [e2] at E
  have E : Ev g _ s.heap H locs (LW g yr yf qo qp u3 u2 (fo1 (-1) (9, (nI (ka % cnt σ)), (nI (kb % 100)), 0, 0) σ) (fo1 (-1) (9, (nI (ka % cnt σ)), (nI (kb % 100)), 0, 0) σ)) := E
  refine lv_iload hx hb dL_law_591 (lv_at hl 2 rfl) ?_
  refine lv_bipush (v := 100) hx hb dL_law_593 (by decide) ?_
  refine k_irem (v := (nI (kb % 100))) hx hb (by decide) (pk_rem (a := kb) (d := 100) (by omega) (by decide) (by decide)) dL_law_595 ?_
  refine lv_icmp_eq (tgt := 1101) hx hb dL_law_596 (by decide) (fun _ => ?_) (fun c_ => absurd (wi_g (by omega)) c_)
  have hcn : cnt (fo1 (-1) (9, (nI (ka % cnt σ)), (nI (kb % 100)), 0, 0) σ) = cnt σ := (kw_of hI (by omega) hv1 (show (9 : Nat) ≠ 8 by decide)).1
  have hTT := (TI.two hT ht hv1 (show (9 : Nat) ≠ 8 by decide) hv2 (show (9 : Nat) ≠ 8 by decide) hn1 hn3 (Nx.ok hn2))
  rw [e2] at hTT
  have hl := (lv_sub hl [4, 5, 6, 7, 8, 9, 10, 11] rfl)
  exact K _ _ _ _ _ _ _ _ H locs ls _ _ hTT (by show k0 + (eg (fo1 (-1) (9, (nI (ka % cnt σ)), (nI (kb % 100)), 0, 0) σ) - eg σ + 3) + (eg (fo1 (-1) (9, (nI (ka % cnt σ)), (nI (kb % 100)), 0, 0) σ) - eg σ + 3) + (eg (fo1 (-1) (9, (nI (ka % cnt σ)), (nI (kb % 100)), 0, 0) (fo1 (-1) (9, (nI (ka % cnt σ)), (nI (kb % 100)), 0, 0) σ)) - eg (fo1 (-1) (9, (nI (ka % cnt σ)), (nI (kb % 100)), 0, 0) σ) + 3) ≤ _; rw [e2]; omega) (by show n0 + (2 * ec (fo1 (-1) (9, (nI (ka % cnt σ)), (nI (kb % 100)), 0, 0) σ) - 2 * ec σ + 815) + (2 * ec (fo1 (-1) (9, (nI (ka % cnt σ)), (nI (kb % 100)), 0, 0) σ) - 2 * ec σ + 815) + (2 * ec (fo1 (-1) (9, (nI (ka % cnt σ)), (nI (kb % 100)), 0, 0) (fo1 (-1) (9, (nI (ka % cnt σ)), (nI (kb % 100)), 0, 0) σ)) - 2 * ec (fo1 (-1) (9, (nI (ka % cnt σ)), (nI (kb % 100)), 0, 0) σ) + 815) ≤ _; rw [e2]; omega) E (by rw [hcn]; exact hl)
set_option maxHeartbeats 4000000 in
set_option maxRecDepth 100000 in
/-- a well is added -/
theorem tc_well {p : Program} {l : Launch} {e : Env} {s : State} {m : MethodId} {below : List Frame} {meth : Method} {c : Code} {sb : Nat} {g : Gm} {yr : Nat} {qo qp : Fx} (hst : l.stackTraces = false) (S : Sta p c cL_law s #[.ref sb] RL m) (hml : c.maxLocals = 20) (hK : va_K g.1 vwC (tysG g) s) (hZ : Zs g (fun q => s.heap.size ≤ q) s s.heap) {t C M A : Nat} {yf : Nat → Int32} {uo up : SOB} {σ : Sg} {cvs : List CV} (hT : TI t C M A yf uo up σ cvs) (ht : t < 60) (h1t : 1 ≤ t) (hn6 : cnt σ < 6) {ka kb kc kd : Nat} (hka : ka < 16) (hkb : kb < 200) (hkc : kc < 50) (hkd : kd < 1000) {H : Heap} {locs : List Loc} {ls : Array Slot} {k0 n0 : Nat} (hk0 : k0 ≤ 100 * t + 2 * eg σ + 400) (hn0 : n0 ≤ 20000 * t + 4 * ec σ + 5000) (E : Ev g (fun q => s.heap.size ≤ q) s.heap H locs (LW g yr yf qo qp uo up σ σ)) (hl : lv_has ls 20 [(13, .int (nI kd)), (12, .int (nI kc)), (11, .int (nI kb)), (10, .int (nI ka)), (7, .int (nI t)), (6, .ref yr), (5, .int (nI A)), (4, .int (nI M)), (3, .int (nI (cnt σ))), (2, .ref qp.1), (1, .ref qo.1), (0, .ref sb)]) (K : KT p l e s m below meth c sb g yr qo qp t 1101 90 19000) : W p l e room_1 s m #[.ref sb] below meth c H locs k0 n0 (lw_Z below #[.ref sb] s) (F0 m 464 ls []) := by
  have hx := S.1
  have hb := S.2.1
  have hA : ∀ q : Nat, s.heap.size ≤ q → s.heap.size ≤ q := fun _ h => h
  have hI := hT.1.1
  have h6 := hI.wf.le
  have hCt := hT.2.1
  have hAt := hT.2.2.2.2.2.1
  obtain ⟨g1, g2⟩ := nt_c hI.ev (Nat.le_trans hI.en (by decide))
  have hn46 : gs σ 4 < 6 := by rw [hI.wf.n]; exact nI_lt (b := 6) hn6 (by decide)
  refine lv_aload_n hx hb dL_law_464 rfl (lv_at hl 10 rfl) ?_
  refine lv_iload hx hb dL_law_465 (lv_at hl 3 rfl) ?_
  refine lv_iload hx hb dL_law_467 (lv_at hl 2 rfl) ?_
  refine lv_iload hx hb dL_law_469 (lv_at hl 0 rfl) ?_
  have hv1 : okN (8, (nI ka), (nI kb), (nI kd), 0) (cnt σ) M := show _ ∧ _ from ⟨(rgN (k := ka) (m := 15) (by omega) (by decide)), (rgN (k := kd) (m := 999) (by omega) (by decide)), hn6⟩
  have jv1 := inv_fo1 (lo := -1) (v := (8, (nI ka), (nI kb), (nI kd), 0)) hI (by omega) hv1
  have i1 : Inv (C + 1) M (fo1 (-1) (8, (nI ka), (nI kb), (nI kd), 0) σ) := jv1.1
  obtain ⟨ma1, mb1, mc1⟩ := jv1.2.2
  obtain ⟨md1, me1⟩ := nt_c i1.ev (Nat.le_trans i1.en (by decide))
  have E1 : Ev g _ s.heap H locs (([(yr, .inl (g.2.1 0, 6, .inl yf))] ++ OB g qp up σ) ++ OB g qo uo σ) := E.perm pm_lo
  refine y_reti (yrunH (As := [.ref qo.1, .int (nI ka), .int (nI kb), .int (nI kd)]) (rest := []) (n := 4) S hml hK (hZ.at E) (Cut.app E1 hA) (c_L_addWell l g hst qo uo σ (nI ka) (nI kb) (nI kd) hT.1.2.1 (hT.2.2.2.2.2.2 h1t).1 hI (by omega) (rgN (k := ka) (m := 15) (by omega) (by decide)) (rgN (k := kb) (m := 9999) (by omega) (by decide)) (rgN (k := kd) (m := 999) (by omega) (by decide)) hn6 hn46 _ _) ml_L_161 st_L_addWell in_L rfl co_L_addWell ⟨by decide +kernel, by decide +kernel, by decide +kernel⟩ ⟨Nat.le_of_ble_eq_true rfl, Nat.le_of_ble_eq_true rfl⟩ rfl hl.1 rfl (Nat.le_of_ble_eq_true rfl) dL_law_471 ⟨by show k0 + 61 ≤ 600312; omega, by show n0 + 600005 ≤ 7292162; omega⟩) (Cut.app E1 hA) E1 (fun En ce q9 H locs hp E hce hcv hcl => (False.elim hp)) (fun r1 u1 H locs hp E2 => ?_)
  obtain ⟨hr, hn1⟩ := hp
  have hr := hr.trans hI.wf.n
  subst hr
  have E : Ev g _ s.heap H locs (LW g yr yf qo qp u1 up (fo1 (-1) (8, (nI ka), (nI kb), (nI kd), 0) σ) σ) := E2.perm pm_lo.symm
  refine lv_istore (lv' := [(14, .int (nI (cnt σ))), (13, .int (nI kd)), (12, .int (nI kc)), (11, .int (nI kb)), (10, .int (nI ka)), (7, .int (nI t)), (6, .ref yr), (5, .int (nI A)), (4, .int (nI M)), (3, .int (nI (cnt σ))), (2, .ref qp.1), (1, .ref qo.1), (0, .ref sb)]) hx hb dL_law_474 hl (by decide) rfl (fun ls hl => ?_)
  refine lv_aload_n hx hb dL_law_476 rfl (lv_at hl 10 rfl) ?_
  refine lv_iload hx hb dL_law_477 (lv_at hl 4 rfl) ?_
  refine lv_iload hx hb dL_law_479 (lv_at hl 3 rfl) ?_
  refine lv_iload hx hb dL_law_481 (lv_at hl 1 rfl) ?_
  have E1 : Ev g _ s.heap H locs (([(yr, .inl (g.2.1 0, 6, .inl yf))] ++ OB g qo u1 (fo1 (-1) (8, (nI ka), (nI kb), (nI kd), 0) σ)) ++ OB g qp up σ) := E.perm pm_lp
  refine y_reti (yrunH (As := [.ref qp.1, .int (nI ka), .int (nI kb), .int (nI kd)]) (rest := []) (n := 4) S hml hK (hZ.at E) (Cut.app E1 hA) (c_L_addWell l g hst qp up σ (nI ka) (nI kb) (nI kd) hT.2.2.1 (hT.2.2.2.2.2.2 h1t).2 hI (by omega) (rgN (k := ka) (m := 15) (by omega) (by decide)) (rgN (k := kb) (m := 9999) (by omega) (by decide)) (rgN (k := kd) (m := 999) (by omega) (by decide)) hn6 hn46 _ _) ml_L_161 st_L_addWell in_L rfl co_L_addWell ⟨by decide +kernel, by decide +kernel, by decide +kernel⟩ ⟨Nat.le_of_ble_eq_true rfl, Nat.le_of_ble_eq_true rfl⟩ rfl hl.1 rfl (Nat.le_of_ble_eq_true rfl) dL_law_483 ⟨by show k0 + (eg (fo1 (-1) (8, (nI ka), (nI kb), (nI kd), 0) σ) - eg σ + 3) + 61 ≤ 600312; omega, by show n0 + (2 * ec (fo1 (-1) (8, (nI ka), (nI kb), (nI kd), 0) σ) - 2 * ec σ + 815) + 600005 ≤ 7292162; omega⟩) (Cut.app E1 hA) E1 (fun En ce q9 H locs hp E hce hcv hcl => (False.elim hp)) (fun r2 u2 H locs hp E2 => ?_)
  obtain ⟨hr, hn2⟩ := hp
  have hr := hr.trans hI.wf.n
  subst hr
  have E : Ev g _ s.heap H locs (LW g yr yf qo qp u1 u2 (fo1 (-1) (8, (nI ka), (nI kb), (nI kd), 0) σ) (fo1 (-1) (8, (nI ka), (nI kb), (nI kd), 0) σ)) := E2.perm pm_lp.symm
  refine lv_istore (lv' := [(15, .int (nI (cnt σ))), (14, .int (nI (cnt σ))), (13, .int (nI kd)), (12, .int (nI kc)), (11, .int (nI kb)), (10, .int (nI ka)), (7, .int (nI t)), (6, .ref yr), (5, .int (nI A)), (4, .int (nI M)), (3, .int (nI (cnt σ))), (2, .ref qp.1), (1, .ref qo.1), (0, .ref sb)]) hx hb dL_law_486 hl (by decide) rfl (fun ls hl => ?_)
  refine lv_iload hx hb dL_law_488 (lv_at hl 1 rfl) ?_
  refine lv_iload hx hb dL_law_490 (lv_at hl 0 rfl) ?_
  refine lv_icmp_ne (tgt := 512) hx hb dL_law_492 (by decide) (fun c_ => absurd rfl c_) (fun _ => ?_)
  refine lv_iload hx hb dL_law_495 (lv_at hl 1 rfl) ?_
  refine lv_iload_n hx hb dL_law_497 rfl (lv_at hl 10 rfl) ?_
  refine lv_bipush (v := 6) hx hb dL_law_498 (by decide) ?_
  refine lv_icmp_ne (tgt := 508) hx hb dL_law_500 (by decide) (fun _ => ?_) (fun c_ => absurd c_ (fun z => by have z2 := (nI_eq (a := cnt σ) (b := 6) (by omega) (by omega)).mp z; omega))
  refine lv_iload_n hx hb dL_law_508 rfl (lv_at hl 10 rfl) ?_
  refine lv_icmp_eq (tgt := 514) hx hb dL_law_509 (by decide) (fun _ => ?_) (fun c_ => absurd rfl c_)
  refine lv_iload hx hb dL_law_514 (lv_at hl 1 rfl) ?_
  refine lv_if_lt (tgt := 535) hx hb dL_law_516 (by decide) (fun c_ => absurd c_ (nI_pos (by omega))) (fun _ => ?_)
  refine lv_aload hx hb dL_law_519 (lv_at hl 7 rfl) ?_
  refine lv_iload_n hx hb dL_law_521 rfl (lv_at hl 10 rfl) ?_
  refine lv_iload hx hb dL_law_522 (lv_at hl 4 rfl) ?_
  refine w_ist (w' := (LW g yr (upd yf (nI (cnt σ)).toNatClampNeg (nI kb)) qo qp u1 u2 (fo1 (-1) (8, (nI ka), (nI kb), (nI kd), 0) σ) (fo1 (-1) (8, (nI ka), (nI kb), (nI kd), 0) σ))) S hK E 0 0 rfl rfl (vp_in_nI (n := cnt σ) (by omega) (by decide)) rfl dL_law_524 (fun H locs E => ?_)
  refine lv_iinc (v := (nI (cnt σ + 1))) (lv' := [(3, .int (nI (cnt σ + 1))), (15, .int (nI (cnt σ))), (14, .int (nI (cnt σ))), (13, .int (nI kd)), (12, .int (nI kc)), (11, .int (nI kb)), (10, .int (nI ka)), (7, .int (nI t)), (6, .ref yr), (5, .int (nI A)), (4, .int (nI M)), (2, .ref qp.1), (1, .ref qo.1), (0, .ref sb)]) hx hb dL_law_525 hl (k := 10) rfl (nI_1 (cnt σ)) (by decide) rfl (fun ls hl => ?_)
  refine lv_iload hx hb dL_law_528 (lv_at hl 9 rfl) ?_
  refine lv_iload hx hb dL_law_530 (lv_at hl 3 rfl) ?_
  refine k_iadd (v := (nI (A + kd))) hx hb (nI_add A kd) dL_law_532 ?_
  refine lv_istore (lv' := [(5, .int (nI (A + kd))), (3, .int (nI (cnt σ + 1))), (15, .int (nI (cnt σ))), (14, .int (nI (cnt σ))), (13, .int (nI kd)), (12, .int (nI kc)), (11, .int (nI kb)), (10, .int (nI ka)), (7, .int (nI t)), (6, .ref yr), (4, .int (nI M)), (2, .ref qp.1), (1, .ref qo.1), (0, .ref sb)]) hx hb dL_law_533 hl (by decide) rfl (fun ls hl => ?_)
  refine lv_goto (tgt := 1101) hx hb dL_law_535 (by decide) ?_
  obtain ⟨hTT, hcn⟩ := TI.well (y := kb) hT ht hka hkd hn6 hn1 (Nx.ok hn2)
  have hl := (lv_sub hl [8, 9, 0, 10, 1, 11, 12, 13] rfl)
  exact K _ _ _ _ _ _ _ _ H locs ls _ _ hTT (by show k0 + (eg (fo1 (-1) (8, (nI ka), (nI kb), (nI kd), 0) σ) - eg σ + 3) + (eg (fo1 (-1) (8, (nI ka), (nI kb), (nI kd), 0) σ) - eg σ + 3) ≤ _; omega) (by show n0 + (2 * ec (fo1 (-1) (8, (nI ka), (nI kb), (nI kd), 0) σ) - 2 * ec σ + 815) + (2 * ec (fo1 (-1) (8, (nI ka), (nI kb), (nI kd), 0) σ) - 2 * ec σ + 815) ≤ _; omega) E (by rw [hcn]; exact hl)
set_option maxHeartbeats 4000000 in
set_option maxRecDepth 100000 in
/-- no room for a well -/
theorem tc_wellN {p : Program} {l : Launch} {e : Env} {s : State} {m : MethodId} {below : List Frame} {meth : Method} {c : Code} {sb : Nat} {g : Gm} {yr : Nat} {qo qp : Fx} (hst : l.stackTraces = false) (S : Sta p c cL_law s #[.ref sb] RL m) (hml : c.maxLocals = 20) (hK : va_K g.1 vwC (tysG g) s) (hZ : Zs g (fun q => s.heap.size ≤ q) s s.heap) {t C M A : Nat} {yf : Nat → Int32} {uo up : SOB} {σ : Sg} {cvs : List CV} (hT : TI t C M A yf uo up σ cvs) (ht : t < 60) (h1t : 1 ≤ t) (hn6 : cnt σ = 6) {ka kb kc kd : Nat} (hka : ka < 16) (hkb : kb < 200) (hkc : kc < 50) (hkd : kd < 1000) {H : Heap} {locs : List Loc} {ls : Array Slot} {k0 n0 : Nat} (hk0 : k0 ≤ 100 * t + 2 * eg σ + 400) (hn0 : n0 ≤ 20000 * t + 4 * ec σ + 5000) (E : Ev g (fun q => s.heap.size ≤ q) s.heap H locs (LW g yr yf qo qp uo up σ σ)) (hl : lv_has ls 20 [(13, .int (nI kd)), (12, .int (nI kc)), (11, .int (nI kb)), (10, .int (nI ka)), (7, .int (nI t)), (6, .ref yr), (5, .int (nI A)), (4, .int (nI M)), (3, .int (nI (cnt σ))), (2, .ref qp.1), (1, .ref qo.1), (0, .ref sb)]) (K : KT p l e s m below meth c sb g yr qo qp t 1101 90 19000) : W p l e room_1 s m #[.ref sb] below meth c H locs k0 n0 (lw_Z below #[.ref sb] s) (F0 m 464 ls []) := by
  have hx := S.1
  have hb := S.2.1
  have hA : ∀ q : Nat, s.heap.size ≤ q → s.heap.size ≤ q := fun _ h => h
  have hI := hT.1.1
  have h6 := hI.wf.le
  have hCt := hT.2.1
  have hAt := hT.2.2.2.2.2.1
  obtain ⟨g1, g2⟩ := nt_c hI.ev (Nat.le_trans hI.en (by decide))
  have hn46 : ¬ gs σ 4 < 6 := by rw [hI.wf.n, hn6]; decide
  refine lv_aload_n hx hb dL_law_464 rfl (lv_at hl 10 rfl) ?_
  refine lv_iload hx hb dL_law_465 (lv_at hl 3 rfl) ?_
  refine lv_iload hx hb dL_law_467 (lv_at hl 2 rfl) ?_
  refine lv_iload hx hb dL_law_469 (lv_at hl 0 rfl) ?_
  have E1 : Ev g _ s.heap H locs (([(yr, .inl (g.2.1 0, 6, .inl yf))] ++ OB g qp up σ) ++ OB g qo uo σ) := E.perm pm_lo
  refine y_reti (yrunH (As := [.ref qo.1, .int (nI ka), .int (nI kb), .int (nI kd)]) (rest := []) (n := 4) S hml hK (hZ.at E) (Cut.app E1 hA) (c_L_addWellN l g hst qo uo σ (nI ka) (nI kb) (nI kd) hn46 (rgN (k := ka) (m := 15) (by omega) (by decide)) (rgN (k := kb) (m := 9999) (by omega) (by decide)) (rgN (k := kd) (m := 999) (by omega) (by decide)) _ _) ml_L_161 st_L_addWell in_L rfl co_L_addWell ⟨by decide +kernel, by decide +kernel, by decide +kernel⟩ ⟨Nat.le_of_ble_eq_true rfl, Nat.le_of_ble_eq_true rfl⟩ rfl hl.1 rfl (Nat.le_of_ble_eq_true rfl) dL_law_471 ⟨by show k0 + 1 ≤ 600312; omega, by show n0 + 6 ≤ 7292162; omega⟩) (Cut.app E1 hA) E1 (fun En ce q9 H locs hp E hce hcv hcl => (False.elim hp)) (fun r1 u1 H locs hp E2 => ?_)
  have hr := hp
  subst hr
  have E : Ev g _ s.heap H locs (LW g yr yf qo qp uo up σ σ) := E2.perm pm_lo.symm
  refine lv_istore (lv' := [(14, .int (-1000000)), (13, .int (nI kd)), (12, .int (nI kc)), (11, .int (nI kb)), (10, .int (nI ka)), (7, .int (nI t)), (6, .ref yr), (5, .int (nI A)), (4, .int (nI M)), (3, .int (nI (cnt σ))), (2, .ref qp.1), (1, .ref qo.1), (0, .ref sb)]) hx hb dL_law_474 hl (by decide) rfl (fun ls hl => ?_)
  refine lv_aload_n hx hb dL_law_476 rfl (lv_at hl 10 rfl) ?_
  refine lv_iload hx hb dL_law_477 (lv_at hl 4 rfl) ?_
  refine lv_iload hx hb dL_law_479 (lv_at hl 3 rfl) ?_
  refine lv_iload hx hb dL_law_481 (lv_at hl 1 rfl) ?_
  have E1 : Ev g _ s.heap H locs (([(yr, .inl (g.2.1 0, 6, .inl yf))] ++ OB g qo uo σ) ++ OB g qp up σ) := E.perm pm_lp
  refine y_reti (yrunH (As := [.ref qp.1, .int (nI ka), .int (nI kb), .int (nI kd)]) (rest := []) (n := 4) S hml hK (hZ.at E) (Cut.app E1 hA) (c_L_addWellN l g hst qp up σ (nI ka) (nI kb) (nI kd) hn46 (rgN (k := ka) (m := 15) (by omega) (by decide)) (rgN (k := kb) (m := 9999) (by omega) (by decide)) (rgN (k := kd) (m := 999) (by omega) (by decide)) _ _) ml_L_161 st_L_addWell in_L rfl co_L_addWell ⟨by decide +kernel, by decide +kernel, by decide +kernel⟩ ⟨Nat.le_of_ble_eq_true rfl, Nat.le_of_ble_eq_true rfl⟩ rfl hl.1 rfl (Nat.le_of_ble_eq_true rfl) dL_law_483 ⟨by show k0 + 1 + 1 ≤ 600312; omega, by show n0 + 6 + 6 ≤ 7292162; omega⟩) (Cut.app E1 hA) E1 (fun En ce q9 H locs hp E hce hcv hcl => (False.elim hp)) (fun r2 u2 H locs hp E2 => ?_)
  have hr := hp
  subst hr
  have E : Ev g _ s.heap H locs (LW g yr yf qo qp uo up σ σ) := E2.perm pm_lp.symm
  refine lv_istore (lv' := [(15, .int (-1000000)), (14, .int (-1000000)), (13, .int (nI kd)), (12, .int (nI kc)), (11, .int (nI kb)), (10, .int (nI ka)), (7, .int (nI t)), (6, .ref yr), (5, .int (nI A)), (4, .int (nI M)), (3, .int (nI (cnt σ))), (2, .ref qp.1), (1, .ref qo.1), (0, .ref sb)]) hx hb dL_law_486 hl (by decide) rfl (fun ls hl => ?_)
  refine lv_iload hx hb dL_law_488 (lv_at hl 1 rfl) ?_
  refine lv_iload hx hb dL_law_490 (lv_at hl 0 rfl) ?_
  refine lv_icmp_ne (tgt := 512) hx hb dL_law_492 (by decide) (fun c_ => absurd rfl c_) (fun _ => ?_)
  refine lv_iload hx hb dL_law_495 (lv_at hl 1 rfl) ?_
  refine lv_iload_n hx hb dL_law_497 rfl (lv_at hl 10 rfl) ?_
  refine lv_bipush (v := 6) hx hb dL_law_498 (by decide) ?_
  refine lv_icmp_ne (tgt := 508) hx hb dL_law_500 (by decide) (fun c_ => absurd (congrArg nI hn6) c_) (fun _ => ?_)
  refine lv_ldc (v := (-1000000)) hx hb S.2.2.2 (S.2.2.1 _ cn_L_54) dL_law_503 ?_
  refine lv_goto (tgt := 509) hx hb dL_law_505 (by decide) ?_
  refine lv_icmp_eq (tgt := 514) hx hb dL_law_509 (by decide) (fun _ => ?_) (fun c_ => absurd rfl c_)
  refine lv_iload hx hb dL_law_514 (lv_at hl 1 rfl) ?_
  refine lv_if_lt (tgt := 535) hx hb dL_law_516 (by decide) (fun _ => ?_) (fun c_ => absurd (show (-1000000 : Int32) < 0 by decide) c_)
  refine lv_goto (tgt := 1101) hx hb dL_law_535 (by decide) ?_
  have hcn : cnt σ = cnt σ := rfl
  have hl := (lv_sub hl [6, 7, 8, 9, 10, 11, 12, 13] rfl)
  have hTT := TI.none hT h1t
  exact K _ _ _ _ _ _ _ _ H locs ls _ _ hTT (by show k0 + 1 + 1 ≤ _; omega) (by show n0 + 6 + 6 ≤ _; omega) E (by rw [hcn]; exact hl)
set_option maxHeartbeats 4000000 in
set_option maxRecDepth 100000 in
/-- a transfer -/
theorem tc_transfer {p : Program} {l : Launch} {e : Env} {s : State} {m : MethodId} {below : List Frame} {meth : Method} {c : Code} {sb : Nat} {g : Gm} {yr : Nat} {qo qp : Fx} (hst : l.stackTraces = false) (S : Sta p c cL_law s #[.ref sb] RL m) (hml : c.maxLocals = 20) (hK : va_K g.1 vwC (tysG g) s) (hZ : Zs g (fun q => s.heap.size ≤ q) s s.heap) {t C M A : Nat} {yf : Nat → Int32} {uo up : SOB} {σ : Sg} {cvs : List CV} (hT : TI t C M A yf uo up σ cvs) (ht : t < 60) (h1t : 1 ≤ t) (hn0w : 0 < cnt σ) {ka kb kc kd : Nat} (hka : ka < 16) (hkb : kb < 200) (hkc : kc < 50) (hkd : kd < 1000) (hg : ¬ f_X4_canGive σ (nI (ka % cnt σ)) (nI (kb % cnt σ)) (nI (1 + kc)) = 0) {H : Heap} {locs : List Loc} {ls : Array Slot} {k0 n0 : Nat} (hk0 : k0 ≤ 100 * t + 2 * eg σ + 400) (hn0 : n0 ≤ 20000 * t + 4 * ec σ + 5000) (E : Ev g (fun q => s.heap.size ≤ q) s.heap H locs (LW g yr yf qo qp uo up σ σ)) (hl : lv_has ls 20 [(13, .int (nI kd)), (12, .int (nI kc)), (11, .int (nI kb)), (10, .int (nI ka)), (7, .int (nI t)), (6, .ref yr), (5, .int (nI A)), (4, .int (nI M)), (3, .int (nI (cnt σ))), (2, .ref qp.1), (1, .ref qo.1), (0, .ref sb)]) (K : KT p l e s m below meth c sb g yr qo qp t 1101 90 19000) : W p l e room_1 s m #[.ref sb] below meth c H locs k0 n0 (lw_Z below #[.ref sb] s) (F0 m 612 ls []) := by
  have hx := S.1
  have hb := S.2.1
  have hA : ∀ q : Nat, s.heap.size ≤ q → s.heap.size ≤ q := fun _ h => h
  have hI := hT.1.1
  have h6 := hI.wf.le
  have hCt := hT.2.1
  have hAt := hT.2.2.2.2.2.1
  obtain ⟨g1, g2⟩ := nt_c hI.ev (Nat.le_trans hI.en (by decide))
  have q1 : ka % cnt σ < cnt σ := Nat.mod_lt _ hn0w
  have q2 : kb % cnt σ < cnt σ := Nat.mod_lt _ hn0w
  have hab := tr_ab hI (by omega) q1 q2 hkc hg
  refine lv_iload hx hb dL_law_612 (lv_at hl 3 rfl) ?_
  refine lv_iload_n hx hb dL_law_614 rfl (lv_at hl 8 rfl) ?_
  refine k_irem (v := (nI (ka % cnt σ))) hx hb (nI_ne0 hn0w (by omega)) (pk_rem (a := ka) (d := cnt σ) (by omega) hn0w (by omega)) dL_law_615 ?_
  refine lv_istore (lv' := [(14, .int (nI (ka % cnt σ))), (13, .int (nI kd)), (12, .int (nI kc)), (11, .int (nI kb)), (10, .int (nI ka)), (7, .int (nI t)), (6, .ref yr), (5, .int (nI A)), (4, .int (nI M)), (3, .int (nI (cnt σ))), (2, .ref qp.1), (1, .ref qo.1), (0, .ref sb)]) hx hb dL_law_616 hl (by decide) rfl (fun ls hl => ?_)
  refine lv_iload hx hb dL_law_618 (lv_at hl 3 rfl) ?_
  refine lv_iload_n hx hb dL_law_620 rfl (lv_at hl 9 rfl) ?_
  refine k_irem (v := (nI (kb % cnt σ))) hx hb (nI_ne0 hn0w (by omega)) (pk_rem (a := kb) (d := cnt σ) (by omega) hn0w (by omega)) dL_law_621 ?_
  refine lv_istore (lv' := [(15, .int (nI (kb % cnt σ))), (14, .int (nI (ka % cnt σ))), (13, .int (nI kd)), (12, .int (nI kc)), (11, .int (nI kb)), (10, .int (nI ka)), (7, .int (nI t)), (6, .ref yr), (5, .int (nI A)), (4, .int (nI M)), (3, .int (nI (cnt σ))), (2, .ref qp.1), (1, .ref qo.1), (0, .ref sb)]) hx hb dL_law_622 hl (by decide) rfl (fun ls hl => ?_)
  refine lv_aload_n hx hb dL_law_624 rfl (lv_at hl 12 rfl) ?_
  refine lv_iload hx hb dL_law_625 (lv_at hl 1 rfl) ?_
  have E1 : Ev g _ s.heap H locs (([(yr, .inl (g.2.1 0, 6, .inl yf))] ++ OB g qp up σ) ++ OB g qo uo σ) := E.perm pm_lo
  refine y_reti (yrunH (As := [.ref qo.1, .int (nI (ka % cnt σ))]) (rest := []) (n := 2) S hml hK (hZ.at E) (Cut.app E1 hA) (c_L_amount l g hst qo uo σ (nI (ka % cnt σ)) hI.wf (ixN (k := (ka % cnt σ)) hI.wf (by omega)) _ _) ml_L_131 st_L_amount in_L rfl co_L_amount ⟨by decide +kernel, by decide +kernel, by decide +kernel⟩ ⟨Nat.le_of_ble_eq_true rfl, Nat.le_of_ble_eq_true rfl⟩ rfl hl.1 rfl (Nat.le_of_ble_eq_true rfl) dL_law_627 ⟨by show k0 + 1 ≤ 600312; omega, by show n0 + 6 ≤ 7292162; omega⟩) (Cut.app E1 hA) E1 (fun En ce q9 H locs hp E hce hcv hcl => (False.elim hp)) (fun r1 u1 H locs hp E2 => ?_)
  have hr := hp
  subst hr
  have E : Ev g _ s.heap H locs (LW g yr yf qo qp uo up σ σ) := E2.perm pm_lo.symm
  refine lv_istore (lv' := [(16, .int (gi σ 20 (nI (ka % cnt σ)))), (15, .int (nI (kb % cnt σ))), (14, .int (nI (ka % cnt σ))), (13, .int (nI kd)), (12, .int (nI kc)), (11, .int (nI kb)), (10, .int (nI ka)), (7, .int (nI t)), (6, .ref yr), (5, .int (nI A)), (4, .int (nI M)), (3, .int (nI (cnt σ))), (2, .ref qp.1), (1, .ref qo.1), (0, .ref sb)]) hx hb dL_law_630 hl (by decide) rfl (fun ls hl => ?_)
  refine lv_aload_n hx hb dL_law_632 rfl (lv_at hl 13 rfl) ?_
  refine lv_iload hx hb dL_law_633 (lv_at hl 1 rfl) ?_
  have E1 : Ev g _ s.heap H locs (([(yr, .inl (g.2.1 0, 6, .inl yf))] ++ OB g qp up σ) ++ OB g qo uo σ) := E.perm pm_lo
  refine y_reti (yrunH (As := [.ref qo.1, .int (nI (kb % cnt σ))]) (rest := []) (n := 2) S hml hK (hZ.at E) (Cut.app E1 hA) (c_L_amount l g hst qo uo σ (nI (kb % cnt σ)) hI.wf (ixN (k := (kb % cnt σ)) hI.wf (by omega)) _ _) ml_L_131 st_L_amount in_L rfl co_L_amount ⟨by decide +kernel, by decide +kernel, by decide +kernel⟩ ⟨Nat.le_of_ble_eq_true rfl, Nat.le_of_ble_eq_true rfl⟩ rfl hl.1 rfl (Nat.le_of_ble_eq_true rfl) dL_law_635 ⟨by show k0 + 1 ≤ 600312; omega, by show n0 + 6 ≤ 7292162; omega⟩) (Cut.app E1 hA) E1 (fun En ce q9 H locs hp E hce hcv hcl => (False.elim hp)) (fun r2 u2 H locs hp E2 => ?_)
  have hr := hp
  subst hr
  have E : Ev g _ s.heap H locs (LW g yr yf qo qp uo up σ σ) := E2.perm pm_lo.symm
  refine lv_istore (lv' := [(17, .int (gi σ 20 (nI (kb % cnt σ)))), (16, .int (gi σ 20 (nI (ka % cnt σ)))), (15, .int (nI (kb % cnt σ))), (14, .int (nI (ka % cnt σ))), (13, .int (nI kd)), (12, .int (nI kc)), (11, .int (nI kb)), (10, .int (nI ka)), (7, .int (nI t)), (6, .ref yr), (5, .int (nI A)), (4, .int (nI M)), (3, .int (nI (cnt σ))), (2, .ref qp.1), (1, .ref qo.1), (0, .ref sb)]) hx hb dL_law_638 hl (by decide) rfl (fun ls hl => ?_)
  refine lv_aload_n hx hb dL_law_640 rfl (lv_at hl 14 rfl) ?_
  refine lv_iload hx hb dL_law_641 (lv_at hl 3 rfl) ?_
  refine lv_iload hx hb dL_law_643 (lv_at hl 2 rfl) ?_
  refine lv_iconst (v := 1) hx hb dL_law_645 (by decide) ?_
  refine lv_iload hx hb dL_law_646 (lv_at hl 5 rfl) ?_
  refine k_iadd (v := (nI (1 + kc))) hx hb (nI_add 1 kc) dL_law_648 ?_
  have hv1 : okN (10, (nI (ka % cnt σ)), (nI (kb % cnt σ)), (nI (1 + kc)), 0) (cnt σ) M := show _ ∧ _ from ⟨by rw [← hI.wf.n]; exact (ixN (k := (ka % cnt σ)) hI.wf (by omega)), by rw [← hI.wf.n]; exact (ixN (k := (kb % cnt σ)) hI.wf (by omega)), (rg_1 (k := kc) (m := 999) (by omega) (by decide))⟩
  have jv1 := inv_fo1 (lo := -1) (v := (10, (nI (ka % cnt σ)), (nI (kb % cnt σ)), (nI (1 + kc)), 0)) hI (by omega) hv1
  have i1 : Inv (C + 1) M (fo1 (-1) (10, (nI (ka % cnt σ)), (nI (kb % cnt σ)), (nI (1 + kc)), 0) σ) := jv1.1
  obtain ⟨ma1, mb1, mc1⟩ := jv1.2.2
  obtain ⟨md1, me1⟩ := nt_c i1.ev (Nat.le_trans i1.en (by decide))
  have hq1 : cnt (fo1 (-1) (10, (nI (ka % cnt σ)), (nI (kb % cnt σ)), (nI (1 + kc)), 0) σ) = cnt σ := (kw_of hI (by omega) hv1 (show (10 : Nat) ≠ 8 by decide)).1
  have E1 : Ev g _ s.heap H locs (([(yr, .inl (g.2.1 0, 6, .inl yf))] ++ OB g qp up σ) ++ OB g qo uo σ) := E.perm pm_lo
  refine y_reti (yrunH (As := [.ref qo.1, .int (nI (ka % cnt σ)), .int (nI (kb % cnt σ)), .int (nI (1 + kc))]) (rest := []) (n := 4) S hml hK (hZ.at E) (Cut.app E1 hA) (c_L_transfer l g hst qo uo σ (nI (ka % cnt σ)) (nI (kb % cnt σ)) (nI (1 + kc)) hT.1.2.1 (hT.2.2.2.2.2.2 h1t).1 hI (by omega) (ixN (k := (ka % cnt σ)) hI.wf (by omega)) (ixN (k := (kb % cnt σ)) hI.wf (by omega)) (rg_1 (k := kc) (m := 999) (by omega) (by decide)) hg _ _) ml_L_165 st_L_transfer in_L rfl co_L_transfer ⟨by decide +kernel, by decide +kernel, by decide +kernel⟩ ⟨Nat.le_of_ble_eq_true rfl, Nat.le_of_ble_eq_true rfl⟩ rfl hl.1 rfl (Nat.le_of_ble_eq_true rfl) dL_law_649 ⟨by show k0 + 61 ≤ 600312; omega, by show n0 + 600005 ≤ 7292162; omega⟩) (Cut.app E1 hA) E1 (fun En ce q9 H locs hp E hce hcv hcl => (False.elim hp)) (fun r3 u3 H locs hp E2 => ?_)
  obtain ⟨hr, hn3⟩ := hp
  subst hr
  have E : Ev g _ s.heap H locs (LW g yr yf qo qp u3 up (fo1 (-1) (10, (nI (ka % cnt σ)), (nI (kb % cnt σ)), (nI (1 + kc)), 0) σ) σ) := E2.perm pm_lo.symm
  refine lv_istore (lv' := [(18, .int (gi (fo1 (-1) (10, (nI (ka % cnt σ)), (nI (kb % cnt σ)), (nI (1 + kc)), 0) σ) 20 (nI (ka % cnt σ)))), (17, .int (gi σ 20 (nI (kb % cnt σ)))), (16, .int (gi σ 20 (nI (ka % cnt σ)))), (15, .int (nI (kb % cnt σ))), (14, .int (nI (ka % cnt σ))), (13, .int (nI kd)), (12, .int (nI kc)), (11, .int (nI kb)), (10, .int (nI ka)), (7, .int (nI t)), (6, .ref yr), (5, .int (nI A)), (4, .int (nI M)), (3, .int (nI (cnt σ))), (2, .ref qp.1), (1, .ref qo.1), (0, .ref sb)]) hx hb dL_law_652 hl (by decide) rfl (fun ls hl => ?_)
  refine lv_aload_n hx hb dL_law_654 rfl (lv_at hl 14 rfl) ?_
  refine lv_iload hx hb dL_law_655 (lv_at hl 4 rfl) ?_
  refine lv_iload hx hb dL_law_657 (lv_at hl 3 rfl) ?_
  refine lv_iconst (v := 1) hx hb dL_law_659 (by decide) ?_
  refine lv_iload hx hb dL_law_660 (lv_at hl 6 rfl) ?_
  refine k_iadd (v := (nI (1 + kc))) hx hb (nI_add 1 kc) dL_law_662 ?_
  have E1 : Ev g _ s.heap H locs (([(yr, .inl (g.2.1 0, 6, .inl yf))] ++ OB g qo u3 (fo1 (-1) (10, (nI (ka % cnt σ)), (nI (kb % cnt σ)), (nI (1 + kc)), 0) σ)) ++ OB g qp up σ) := E.perm pm_lp
  refine y_reti (yrunH (As := [.ref qp.1, .int (nI (ka % cnt σ)), .int (nI (kb % cnt σ)), .int (nI (1 + kc))]) (rest := []) (n := 4) S hml hK (hZ.at E) (Cut.app E1 hA) (c_L_transfer l g hst qp up σ (nI (ka % cnt σ)) (nI (kb % cnt σ)) (nI (1 + kc)) hT.2.2.1 (hT.2.2.2.2.2.2 h1t).2 hI (by omega) (ixN (k := (ka % cnt σ)) hI.wf (by omega)) (ixN (k := (kb % cnt σ)) hI.wf (by omega)) (rg_1 (k := kc) (m := 999) (by omega) (by decide)) hg _ _) ml_L_165 st_L_transfer in_L rfl co_L_transfer ⟨by decide +kernel, by decide +kernel, by decide +kernel⟩ ⟨Nat.le_of_ble_eq_true rfl, Nat.le_of_ble_eq_true rfl⟩ rfl hl.1 rfl (Nat.le_of_ble_eq_true rfl) dL_law_663 ⟨by show k0 + (eg (fo1 (-1) (10, (nI (ka % cnt σ)), (nI (kb % cnt σ)), (nI (1 + kc)), 0) σ) - eg σ + 3) + 61 ≤ 600312; omega, by show n0 + (2 * ec (fo1 (-1) (10, (nI (ka % cnt σ)), (nI (kb % cnt σ)), (nI (1 + kc)), 0) σ) - 2 * ec σ + 815) + 600005 ≤ 7292162; omega⟩) (Cut.app E1 hA) E1 (fun En ce q9 H locs hp E hce hcv hcl => (False.elim hp)) (fun r4 u4 H locs hp E2 => ?_)
  obtain ⟨hr, hn4⟩ := hp
  subst hr
  have E : Ev g _ s.heap H locs (LW g yr yf qo qp u3 u4 (fo1 (-1) (10, (nI (ka % cnt σ)), (nI (kb % cnt σ)), (nI (1 + kc)), 0) σ) (fo1 (-1) (10, (nI (ka % cnt σ)), (nI (kb % cnt σ)), (nI (1 + kc)), 0) σ)) := E2.perm pm_lp.symm
  refine lv_iload hx hb dL_law_666 (lv_at hl 0 rfl) ?_
  refine lv_icmp_ne (tgt := 751) hx hb dL_law_668 (by decide) (fun c_ => absurd rfl c_) (fun _ => ?_)
  refine lv_iload hx hb dL_law_671 (lv_at hl 0 rfl) ?_
  refine lv_ldc (v := (-1500000)) hx hb S.2.2.2 (S.2.2.1 _ cn_L_63) dL_law_673 ?_
  refine lv_icmp_eq (tgt := 717) hx hb dL_law_675 (by decide) (fun c_ => absurd c_ hab.2.2) (fun _ => ?_)
  refine lv_iload hx hb dL_law_678 (lv_at hl 0 rfl) ?_
  refine lv_iload hx hb dL_law_680 (lv_at hl 2 rfl) ?_
  refine lv_iconst (v := 1) hx hb dL_law_682 (by decide) ?_
  refine k_isub (v := ((gi σ 20 (nI (ka % cnt σ))) - 1)) hx hb rfl dL_law_683 ?_
  refine lv_iload hx hb dL_law_684 (lv_at hl 6 rfl) ?_
  refine k_isub (v := (((gi σ 20 (nI (ka % cnt σ))) - 1) - (nI kc))) hx hb rfl dL_law_686 ?_
  refine lv_icmp_ne (tgt := 751) hx hb dL_law_687 (by decide) (fun c_ => absurd hab.1 c_) (fun _ => ?_)
  refine lv_aload_n hx hb dL_law_690 rfl (lv_at hl 15 rfl) ?_
  refine lv_iload hx hb dL_law_691 (lv_at hl 4 rfl) ?_
  have E1 : Ev g _ s.heap H locs (([(yr, .inl (g.2.1 0, 6, .inl yf))] ++ OB g qp u4 (fo1 (-1) (10, (nI (ka % cnt σ)), (nI (kb % cnt σ)), (nI (1 + kc)), 0) σ)) ++ OB g qo u3 (fo1 (-1) (10, (nI (ka % cnt σ)), (nI (kb % cnt σ)), (nI (1 + kc)), 0) σ)) := E.perm pm_lo
  refine y_reti (yrunH (As := [.ref qo.1, .int (nI (ka % cnt σ))]) (rest := []) (n := 2) S hml hK (hZ.at E) (Cut.app E1 hA) (c_L_amount l g hst qo u3 (fo1 (-1) (10, (nI (ka % cnt σ)), (nI (kb % cnt σ)), (nI (1 + kc)), 0) σ) (nI (ka % cnt σ)) i1.wf (ixN (k := (ka % cnt σ)) i1.wf (by omega)) _ _) ml_L_131 st_L_amount in_L rfl co_L_amount ⟨by decide +kernel, by decide +kernel, by decide +kernel⟩ ⟨Nat.le_of_ble_eq_true rfl, Nat.le_of_ble_eq_true rfl⟩ rfl hl.1 rfl (Nat.le_of_ble_eq_true rfl) dL_law_693 ⟨by show k0 + (eg (fo1 (-1) (10, (nI (ka % cnt σ)), (nI (kb % cnt σ)), (nI (1 + kc)), 0) σ) - eg σ + 3) + (eg (fo1 (-1) (10, (nI (ka % cnt σ)), (nI (kb % cnt σ)), (nI (1 + kc)), 0) σ) - eg σ + 3) + 1 ≤ 600312; omega, by show n0 + (2 * ec (fo1 (-1) (10, (nI (ka % cnt σ)), (nI (kb % cnt σ)), (nI (1 + kc)), 0) σ) - 2 * ec σ + 815) + (2 * ec (fo1 (-1) (10, (nI (ka % cnt σ)), (nI (kb % cnt σ)), (nI (1 + kc)), 0) σ) - 2 * ec σ + 815) + 6 ≤ 7292162; omega⟩) (Cut.app E1 hA) E1 (fun En ce q9 H locs hp E hce hcv hcl => (False.elim hp)) (fun r5 u5 H locs hp E2 => ?_)
  have hr := hp
  subst hr
  have E : Ev g _ s.heap H locs (LW g yr yf qo qp u3 u4 (fo1 (-1) (10, (nI (ka % cnt σ)), (nI (kb % cnt σ)), (nI (1 + kc)), 0) σ) (fo1 (-1) (10, (nI (ka % cnt σ)), (nI (kb % cnt σ)), (nI (1 + kc)), 0) σ)) := E2.perm pm_lo.symm
  refine lv_iload hx hb dL_law_696 (lv_at hl 0 rfl) ?_
  refine lv_icmp_ne (tgt := 751) hx hb dL_law_698 (by decide) (fun c_ => absurd rfl c_) (fun _ => ?_)
  refine lv_aload_n hx hb dL_law_701 rfl (lv_at hl 15 rfl) ?_
  refine lv_iload hx hb dL_law_702 (lv_at hl 3 rfl) ?_
  have E1 : Ev g _ s.heap H locs (([(yr, .inl (g.2.1 0, 6, .inl yf))] ++ OB g qp u4 (fo1 (-1) (10, (nI (ka % cnt σ)), (nI (kb % cnt σ)), (nI (1 + kc)), 0) σ)) ++ OB g qo u3 (fo1 (-1) (10, (nI (ka % cnt σ)), (nI (kb % cnt σ)), (nI (1 + kc)), 0) σ)) := E.perm pm_lo
  refine y_reti (yrunH (As := [.ref qo.1, .int (nI (kb % cnt σ))]) (rest := []) (n := 2) S hml hK (hZ.at E) (Cut.app E1 hA) (c_L_amount l g hst qo u3 (fo1 (-1) (10, (nI (ka % cnt σ)), (nI (kb % cnt σ)), (nI (1 + kc)), 0) σ) (nI (kb % cnt σ)) i1.wf (ixN (k := (kb % cnt σ)) i1.wf (by omega)) _ _) ml_L_131 st_L_amount in_L rfl co_L_amount ⟨by decide +kernel, by decide +kernel, by decide +kernel⟩ ⟨Nat.le_of_ble_eq_true rfl, Nat.le_of_ble_eq_true rfl⟩ rfl hl.1 rfl (Nat.le_of_ble_eq_true rfl) dL_law_704 ⟨by show k0 + (eg (fo1 (-1) (10, (nI (ka % cnt σ)), (nI (kb % cnt σ)), (nI (1 + kc)), 0) σ) - eg σ + 3) + (eg (fo1 (-1) (10, (nI (ka % cnt σ)), (nI (kb % cnt σ)), (nI (1 + kc)), 0) σ) - eg σ + 3) + 1 ≤ 600312; omega, by show n0 + (2 * ec (fo1 (-1) (10, (nI (ka % cnt σ)), (nI (kb % cnt σ)), (nI (1 + kc)), 0) σ) - 2 * ec σ + 815) + (2 * ec (fo1 (-1) (10, (nI (ka % cnt σ)), (nI (kb % cnt σ)), (nI (1 + kc)), 0) σ) - 2 * ec σ + 815) + 6 ≤ 7292162; omega⟩) (Cut.app E1 hA) E1 (fun En ce q9 H locs hp E hce hcv hcl => (False.elim hp)) (fun r6 u6 H locs hp E2 => ?_)
  have hr := hp
  subst hr
  have E : Ev g _ s.heap H locs (LW g yr yf qo qp u3 u4 (fo1 (-1) (10, (nI (ka % cnt σ)), (nI (kb % cnt σ)), (nI (1 + kc)), 0) σ) (fo1 (-1) (10, (nI (ka % cnt σ)), (nI (kb % cnt σ)), (nI (1 + kc)), 0) σ)) := E2.perm pm_lo.symm
  refine lv_iload hx hb dL_law_707 (lv_at hl 1 rfl) ?_
  refine lv_iconst (v := 1) hx hb dL_law_709 (by decide) ?_
  refine k_iadd (v := ((gi σ 20 (nI (kb % cnt σ))) + 1)) hx hb rfl dL_law_710 ?_
  refine lv_iload hx hb dL_law_711 (lv_at hl 6 rfl) ?_
  refine k_iadd (v := (((gi σ 20 (nI (kb % cnt σ))) + 1) + (nI kc))) hx hb rfl dL_law_713 ?_
  refine lv_icmp_ne (tgt := 751) hx hb dL_law_714 (by decide) (fun c_ => absurd hab.2.1 c_) (fun _ => ?_)
  refine lv_iload hx hb dL_law_717 (lv_at hl 0 rfl) ?_
  refine lv_ldc (v := (-1500000)) hx hb S.2.2.2 (S.2.2.1 _ cn_L_63) dL_law_719 ?_
  refine lv_icmp_ne (tgt := 753) hx hb dL_law_721 (by decide) (fun _ => ?_) (fun c_ => absurd c_ hab.2.2)
  refine lv_goto (tgt := 1101) hx hb dL_law_753 (by decide) ?_
  have hcn : cnt (fo1 (-1) (10, (nI (ka % cnt σ)), (nI (kb % cnt σ)), (nI (1 + kc)), 0) σ) = cnt σ := (kw_of hI (by omega) hv1 (show (10 : Nat) ≠ 8 by decide)).1
  have hl := (lv_sub hl [9, 10, 11, 12, 13, 14, 15, 16] rfl)
  have hTT := TI.one hT ht hv1 (show (10 : Nat) ≠ 8 by decide) hn3 (Nx.ok hn4)
  exact K _ _ _ _ _ _ _ _ H locs ls _ _ hTT (by show k0 + (eg (fo1 (-1) (10, (nI (ka % cnt σ)), (nI (kb % cnt σ)), (nI (1 + kc)), 0) σ) - eg σ + 3) + (eg (fo1 (-1) (10, (nI (ka % cnt σ)), (nI (kb % cnt σ)), (nI (1 + kc)), 0) σ) - eg σ + 3) ≤ _; omega) (by show n0 + (2 * ec (fo1 (-1) (10, (nI (ka % cnt σ)), (nI (kb % cnt σ)), (nI (1 + kc)), 0) σ) - 2 * ec σ + 815) + (2 * ec (fo1 (-1) (10, (nI (ka % cnt σ)), (nI (kb % cnt σ)), (nI (1 + kc)), 0) σ) - 2 * ec σ + 815) ≤ _; omega) E (by rw [hcn]; exact hl)
set_option maxHeartbeats 4000000 in
set_option maxRecDepth 100000 in
/-- a transfer that is not possible -/
theorem tc_transferN {p : Program} {l : Launch} {e : Env} {s : State} {m : MethodId} {below : List Frame} {meth : Method} {c : Code} {sb : Nat} {g : Gm} {yr : Nat} {qo qp : Fx} (hst : l.stackTraces = false) (S : Sta p c cL_law s #[.ref sb] RL m) (hml : c.maxLocals = 20) (hK : va_K g.1 vwC (tysG g) s) (hZ : Zs g (fun q => s.heap.size ≤ q) s s.heap) {t C M A : Nat} {yf : Nat → Int32} {uo up : SOB} {σ : Sg} {cvs : List CV} (hT : TI t C M A yf uo up σ cvs) (ht : t < 60) (h1t : 1 ≤ t) (hn0w : 0 < cnt σ) {ka kb kc kd : Nat} (hka : ka < 16) (hkb : kb < 200) (hkc : kc < 50) (hkd : kd < 1000) (hg : f_X4_canGive σ (nI (ka % cnt σ)) (nI (kb % cnt σ)) (nI (1 + kc)) = 0) {H : Heap} {locs : List Loc} {ls : Array Slot} {k0 n0 : Nat} (hk0 : k0 ≤ 100 * t + 2 * eg σ + 400) (hn0 : n0 ≤ 20000 * t + 4 * ec σ + 5000) (E : Ev g (fun q => s.heap.size ≤ q) s.heap H locs (LW g yr yf qo qp uo up σ σ)) (hl : lv_has ls 20 [(13, .int (nI kd)), (12, .int (nI kc)), (11, .int (nI kb)), (10, .int (nI ka)), (7, .int (nI t)), (6, .ref yr), (5, .int (nI A)), (4, .int (nI M)), (3, .int (nI (cnt σ))), (2, .ref qp.1), (1, .ref qo.1), (0, .ref sb)]) (K : KT p l e s m below meth c sb g yr qo qp t 1101 90 19000) : W p l e room_1 s m #[.ref sb] below meth c H locs k0 n0 (lw_Z below #[.ref sb] s) (F0 m 612 ls []) := by
  have hx := S.1
  have hb := S.2.1
  have hA : ∀ q : Nat, s.heap.size ≤ q → s.heap.size ≤ q := fun _ h => h
  have hI := hT.1.1
  have h6 := hI.wf.le
  have hCt := hT.2.1
  have hAt := hT.2.2.2.2.2.1
  obtain ⟨g1, g2⟩ := nt_c hI.ev (Nat.le_trans hI.en (by decide))
  have q1 : ka % cnt σ < cnt σ := Nat.mod_lt _ hn0w
  have q2 : kb % cnt σ < cnt σ := Nat.mod_lt _ hn0w
  refine lv_iload hx hb dL_law_612 (lv_at hl 3 rfl) ?_
  refine lv_iload_n hx hb dL_law_614 rfl (lv_at hl 8 rfl) ?_
  refine k_irem (v := (nI (ka % cnt σ))) hx hb (nI_ne0 hn0w (by omega)) (pk_rem (a := ka) (d := cnt σ) (by omega) hn0w (by omega)) dL_law_615 ?_
  refine lv_istore (lv' := [(14, .int (nI (ka % cnt σ))), (13, .int (nI kd)), (12, .int (nI kc)), (11, .int (nI kb)), (10, .int (nI ka)), (7, .int (nI t)), (6, .ref yr), (5, .int (nI A)), (4, .int (nI M)), (3, .int (nI (cnt σ))), (2, .ref qp.1), (1, .ref qo.1), (0, .ref sb)]) hx hb dL_law_616 hl (by decide) rfl (fun ls hl => ?_)
  refine lv_iload hx hb dL_law_618 (lv_at hl 3 rfl) ?_
  refine lv_iload_n hx hb dL_law_620 rfl (lv_at hl 9 rfl) ?_
  refine k_irem (v := (nI (kb % cnt σ))) hx hb (nI_ne0 hn0w (by omega)) (pk_rem (a := kb) (d := cnt σ) (by omega) hn0w (by omega)) dL_law_621 ?_
  refine lv_istore (lv' := [(15, .int (nI (kb % cnt σ))), (14, .int (nI (ka % cnt σ))), (13, .int (nI kd)), (12, .int (nI kc)), (11, .int (nI kb)), (10, .int (nI ka)), (7, .int (nI t)), (6, .ref yr), (5, .int (nI A)), (4, .int (nI M)), (3, .int (nI (cnt σ))), (2, .ref qp.1), (1, .ref qo.1), (0, .ref sb)]) hx hb dL_law_622 hl (by decide) rfl (fun ls hl => ?_)
  refine lv_aload_n hx hb dL_law_624 rfl (lv_at hl 12 rfl) ?_
  refine lv_iload hx hb dL_law_625 (lv_at hl 1 rfl) ?_
  have E1 : Ev g _ s.heap H locs (([(yr, .inl (g.2.1 0, 6, .inl yf))] ++ OB g qp up σ) ++ OB g qo uo σ) := E.perm pm_lo
  refine y_reti (yrunH (As := [.ref qo.1, .int (nI (ka % cnt σ))]) (rest := []) (n := 2) S hml hK (hZ.at E) (Cut.app E1 hA) (c_L_amount l g hst qo uo σ (nI (ka % cnt σ)) hI.wf (ixN (k := (ka % cnt σ)) hI.wf (by omega)) _ _) ml_L_131 st_L_amount in_L rfl co_L_amount ⟨by decide +kernel, by decide +kernel, by decide +kernel⟩ ⟨Nat.le_of_ble_eq_true rfl, Nat.le_of_ble_eq_true rfl⟩ rfl hl.1 rfl (Nat.le_of_ble_eq_true rfl) dL_law_627 ⟨by show k0 + 1 ≤ 600312; omega, by show n0 + 6 ≤ 7292162; omega⟩) (Cut.app E1 hA) E1 (fun En ce q9 H locs hp E hce hcv hcl => (False.elim hp)) (fun r1 u1 H locs hp E2 => ?_)
  have hr := hp
  subst hr
  have E : Ev g _ s.heap H locs (LW g yr yf qo qp uo up σ σ) := E2.perm pm_lo.symm
  refine lv_istore (lv' := [(16, .int (gi σ 20 (nI (ka % cnt σ)))), (15, .int (nI (kb % cnt σ))), (14, .int (nI (ka % cnt σ))), (13, .int (nI kd)), (12, .int (nI kc)), (11, .int (nI kb)), (10, .int (nI ka)), (7, .int (nI t)), (6, .ref yr), (5, .int (nI A)), (4, .int (nI M)), (3, .int (nI (cnt σ))), (2, .ref qp.1), (1, .ref qo.1), (0, .ref sb)]) hx hb dL_law_630 hl (by decide) rfl (fun ls hl => ?_)
  refine lv_aload_n hx hb dL_law_632 rfl (lv_at hl 13 rfl) ?_
  refine lv_iload hx hb dL_law_633 (lv_at hl 1 rfl) ?_
  have E1 : Ev g _ s.heap H locs (([(yr, .inl (g.2.1 0, 6, .inl yf))] ++ OB g qp up σ) ++ OB g qo uo σ) := E.perm pm_lo
  refine y_reti (yrunH (As := [.ref qo.1, .int (nI (kb % cnt σ))]) (rest := []) (n := 2) S hml hK (hZ.at E) (Cut.app E1 hA) (c_L_amount l g hst qo uo σ (nI (kb % cnt σ)) hI.wf (ixN (k := (kb % cnt σ)) hI.wf (by omega)) _ _) ml_L_131 st_L_amount in_L rfl co_L_amount ⟨by decide +kernel, by decide +kernel, by decide +kernel⟩ ⟨Nat.le_of_ble_eq_true rfl, Nat.le_of_ble_eq_true rfl⟩ rfl hl.1 rfl (Nat.le_of_ble_eq_true rfl) dL_law_635 ⟨by show k0 + 1 ≤ 600312; omega, by show n0 + 6 ≤ 7292162; omega⟩) (Cut.app E1 hA) E1 (fun En ce q9 H locs hp E hce hcv hcl => (False.elim hp)) (fun r2 u2 H locs hp E2 => ?_)
  have hr := hp
  subst hr
  have E : Ev g _ s.heap H locs (LW g yr yf qo qp uo up σ σ) := E2.perm pm_lo.symm
  refine lv_istore (lv' := [(17, .int (gi σ 20 (nI (kb % cnt σ)))), (16, .int (gi σ 20 (nI (ka % cnt σ)))), (15, .int (nI (kb % cnt σ))), (14, .int (nI (ka % cnt σ))), (13, .int (nI kd)), (12, .int (nI kc)), (11, .int (nI kb)), (10, .int (nI ka)), (7, .int (nI t)), (6, .ref yr), (5, .int (nI A)), (4, .int (nI M)), (3, .int (nI (cnt σ))), (2, .ref qp.1), (1, .ref qo.1), (0, .ref sb)]) hx hb dL_law_638 hl (by decide) rfl (fun ls hl => ?_)
  refine lv_aload_n hx hb dL_law_640 rfl (lv_at hl 14 rfl) ?_
  refine lv_iload hx hb dL_law_641 (lv_at hl 3 rfl) ?_
  refine lv_iload hx hb dL_law_643 (lv_at hl 2 rfl) ?_
  refine lv_iconst (v := 1) hx hb dL_law_645 (by decide) ?_
  refine lv_iload hx hb dL_law_646 (lv_at hl 5 rfl) ?_
  refine k_iadd (v := (nI (1 + kc))) hx hb (nI_add 1 kc) dL_law_648 ?_
  have E1 : Ev g _ s.heap H locs (([(yr, .inl (g.2.1 0, 6, .inl yf))] ++ OB g qp up σ) ++ OB g qo uo σ) := E.perm pm_lo
  refine y_reti (yrunH (As := [.ref qo.1, .int (nI (ka % cnt σ)), .int (nI (kb % cnt σ)), .int (nI (1 + kc))]) (rest := []) (n := 4) S hml hK (hZ.at E) (Cut.app E1 hA) (c_L_transferN l g hst qo uo σ (nI (ka % cnt σ)) (nI (kb % cnt σ)) (nI (1 + kc)) hI.wf hg (ixN (k := (ka % cnt σ)) hI.wf (by omega)) (ixN (k := (kb % cnt σ)) hI.wf (by omega)) (rg_1 (k := kc) (m := 999) (by omega) (by decide)) _ _) ml_L_165 st_L_transfer in_L rfl co_L_transfer ⟨by decide +kernel, by decide +kernel, by decide +kernel⟩ ⟨Nat.le_of_ble_eq_true rfl, Nat.le_of_ble_eq_true rfl⟩ rfl hl.1 rfl (Nat.le_of_ble_eq_true rfl) dL_law_649 ⟨by show k0 + 1 ≤ 600312; omega, by show n0 + 6 ≤ 7292162; omega⟩) (Cut.app E1 hA) E1 (fun En ce q9 H locs hp E hce hcv hcl => (False.elim hp)) (fun r3 u3 H locs hp E2 => ?_)
  have hr := hp
  subst hr
  have E : Ev g _ s.heap H locs (LW g yr yf qo qp uo up σ σ) := E2.perm pm_lo.symm
  refine lv_istore (lv' := [(18, .int (-1500000)), (17, .int (gi σ 20 (nI (kb % cnt σ)))), (16, .int (gi σ 20 (nI (ka % cnt σ)))), (15, .int (nI (kb % cnt σ))), (14, .int (nI (ka % cnt σ))), (13, .int (nI kd)), (12, .int (nI kc)), (11, .int (nI kb)), (10, .int (nI ka)), (7, .int (nI t)), (6, .ref yr), (5, .int (nI A)), (4, .int (nI M)), (3, .int (nI (cnt σ))), (2, .ref qp.1), (1, .ref qo.1), (0, .ref sb)]) hx hb dL_law_652 hl (by decide) rfl (fun ls hl => ?_)
  refine lv_aload_n hx hb dL_law_654 rfl (lv_at hl 14 rfl) ?_
  refine lv_iload hx hb dL_law_655 (lv_at hl 4 rfl) ?_
  refine lv_iload hx hb dL_law_657 (lv_at hl 3 rfl) ?_
  refine lv_iconst (v := 1) hx hb dL_law_659 (by decide) ?_
  refine lv_iload hx hb dL_law_660 (lv_at hl 6 rfl) ?_
  refine k_iadd (v := (nI (1 + kc))) hx hb (nI_add 1 kc) dL_law_662 ?_
  have E1 : Ev g _ s.heap H locs (([(yr, .inl (g.2.1 0, 6, .inl yf))] ++ OB g qo uo σ) ++ OB g qp up σ) := E.perm pm_lp
  refine y_reti (yrunH (As := [.ref qp.1, .int (nI (ka % cnt σ)), .int (nI (kb % cnt σ)), .int (nI (1 + kc))]) (rest := []) (n := 4) S hml hK (hZ.at E) (Cut.app E1 hA) (c_L_transferN l g hst qp up σ (nI (ka % cnt σ)) (nI (kb % cnt σ)) (nI (1 + kc)) hI.wf hg (ixN (k := (ka % cnt σ)) hI.wf (by omega)) (ixN (k := (kb % cnt σ)) hI.wf (by omega)) (rg_1 (k := kc) (m := 999) (by omega) (by decide)) _ _) ml_L_165 st_L_transfer in_L rfl co_L_transfer ⟨by decide +kernel, by decide +kernel, by decide +kernel⟩ ⟨Nat.le_of_ble_eq_true rfl, Nat.le_of_ble_eq_true rfl⟩ rfl hl.1 rfl (Nat.le_of_ble_eq_true rfl) dL_law_663 ⟨by show k0 + 1 + 1 ≤ 600312; omega, by show n0 + 6 + 6 ≤ 7292162; omega⟩) (Cut.app E1 hA) E1 (fun En ce q9 H locs hp E hce hcv hcl => (False.elim hp)) (fun r4 u4 H locs hp E2 => ?_)
  have hr := hp
  subst hr
  have E : Ev g _ s.heap H locs (LW g yr yf qo qp uo up σ σ) := E2.perm pm_lp.symm
  refine lv_iload hx hb dL_law_666 (lv_at hl 0 rfl) ?_
  refine lv_icmp_ne (tgt := 751) hx hb dL_law_668 (by decide) (fun c_ => absurd rfl c_) (fun _ => ?_)
  refine lv_iload hx hb dL_law_671 (lv_at hl 0 rfl) ?_
  refine lv_ldc (v := (-1500000)) hx hb S.2.2.2 (S.2.2.1 _ cn_L_63) dL_law_673 ?_
  refine lv_icmp_eq (tgt := 717) hx hb dL_law_675 (by decide) (fun _ => ?_) (fun c_ => absurd rfl c_)
  refine lv_iload hx hb dL_law_717 (lv_at hl 0 rfl) ?_
  refine lv_ldc (v := (-1500000)) hx hb S.2.2.2 (S.2.2.1 _ cn_L_63) dL_law_719 ?_
  refine lv_icmp_ne (tgt := 753) hx hb dL_law_721 (by decide) (fun c_ => absurd rfl c_) (fun _ => ?_)
  refine lv_iload hx hb dL_law_724 (lv_at hl 4 rfl) ?_
  refine lv_iload hx hb dL_law_726 (lv_at hl 3 rfl) ?_
  refine lv_icmp_eq (tgt := 753) hx hb dL_law_728 (by decide) (fun c5 => ?_) (fun c5 => ?_)
  · have c5 : (nI (ka % cnt σ)) = (nI (kb % cnt σ)) := c5
    refine lv_goto (tgt := 1101) hx hb dL_law_753 (by decide) ?_
    have hcn : cnt σ = cnt σ := rfl
    have hl := (lv_sub hl [9, 10, 11, 12, 13, 14, 15, 16] rfl)
    have hTT := TI.none hT h1t
    exact K _ _ _ _ _ _ _ _ H locs ls _ _ hTT (by show k0 + 1 + 1 ≤ _; omega) (by show n0 + 6 + 6 ≤ _; omega) E (by rw [hcn]; exact hl)
  · have c5 : ¬ ((nI (ka % cnt σ)) = (nI (kb % cnt σ))) := c5
    refine lv_iload hx hb dL_law_731 (lv_at hl 2 rfl) ?_
    refine lv_iload hx hb dL_law_733 (lv_at hl 6 rfl) ?_
    refine lv_icmp_le (tgt := 753) hx hb dL_law_735 (by decide) (fun c6 => ?_) (fun c6 => ?_)
    · have c6 : (gi σ 20 (nI (ka % cnt σ))) ≤ (nI kc) := c6
      refine lv_goto (tgt := 1101) hx hb dL_law_753 (by decide) ?_
      have hcn : cnt σ = cnt σ := rfl
      have hl := (lv_sub hl [9, 10, 11, 12, 13, 14, 15, 16] rfl)
      have hTT := TI.none hT h1t
      exact K _ _ _ _ _ _ _ _ H locs ls _ _ hTT (by show k0 + 1 + 1 ≤ _; omega) (by show n0 + 6 + 6 ≤ _; omega) E (by rw [hcn]; exact hl)
    · have c6 : ¬ ((gi σ 20 (nI (ka % cnt σ))) ≤ (nI kc)) := c6
      refine lv_iload hx hb dL_law_738 (lv_at hl 1 rfl) ?_
      refine lv_iconst (v := 1) hx hb dL_law_740 (by decide) ?_
      refine k_iadd (v := ((gi σ 20 (nI (kb % cnt σ))) + 1)) hx hb rfl dL_law_741 ?_
      refine lv_iload hx hb dL_law_742 (lv_at hl 6 rfl) ?_
      refine k_iadd (v := (((gi σ 20 (nI (kb % cnt σ))) + 1) + (nI kc))) hx hb rfl dL_law_744 ?_
      refine lv_sipush (v := 999) hx hb dL_law_745 (by decide) ?_
      refine lv_icmp_gt (tgt := 753) hx hb dL_law_748 (by decide) (fun _ => ?_) (fun c_ => absurd (tr_n hI q1 q2 hkc hg c5 c6) c_)
      refine lv_goto (tgt := 1101) hx hb dL_law_753 (by decide) ?_
      have hcn : cnt σ = cnt σ := rfl
      have hl := (lv_sub hl [9, 10, 11, 12, 13, 14, 15, 16] rfl)
      have hTT := TI.none hT h1t
      exact K _ _ _ _ _ _ _ _ H locs ls _ _ hTT (by show k0 + 1 + 1 ≤ _; omega) (by show n0 + 6 + 6 ≤ _; omega) E (by rw [hcn]; exact hl)
