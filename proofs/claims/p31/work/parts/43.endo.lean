/-! THE LAW'S END: the first object without its wells -/
section PERMS43
variable {Z A B X D T N V O : va_W}
theorem pm_e1 : ((Z ++ (A ++ (N ++ (D ++ T)))) ++ X).Perm (Z ++ ((A ++ N) ++ ((X ++ D) ++ T))) := by
  have h := perm_ix [Z, A, N, X, D, T] (is := [0, 1, 2, 4, 5, 3]) (js := [0, 1, 2, 3, 4, 5]) (by decide)
  simpa [cat] using h
theorem pm_e2 : ((Z ++ A) ++ (((X ++ D) ++ T) ++ N)).Perm ((Z ++ (A ++ (N ++ (D ++ T)))) ++ X) := by
  have h := perm_ix [Z, A, N, X, D, T] (is := [0, 1, 3, 4, 5, 2]) (js := [0, 1, 2, 4, 5, 3]) (by decide)
  simpa [cat] using h
theorem pm_e3 : ((Z ++ (A ++ (N ++ (D ++ T)))) ++ X).Perm ((Z ++ A) ++ (((X ++ D) ++ T) ++ N)) := by
  have h := perm_ix [Z, A, N, X, D, T] (is := [0, 1, 2, 4, 5, 3]) (js := [0, 1, 3, 4, 5, 2]) (by decide)
  simpa [cat] using h
theorem pm_e4 : ((Z ++ N) ++ (A ++ ((X ++ D) ++ T))).Perm ((Z ++ (A ++ (N ++ (D ++ T)))) ++ X) := by
  have h := perm_ix [Z, A, N, X, D, T] (is := [0, 2, 1, 3, 4, 5]) (js := [0, 1, 2, 4, 5, 3]) (by decide)
  simpa [cat] using h
theorem pm_e5 : ((Z ++ N) ++ (A ++ V)).Perm (Z ++ ((A ++ N) ++ V)) := by
  have h := perm_ix [Z, A, N, V] (is := [0, 2, 1, 3]) (js := [0, 1, 2, 3]) (by decide)
  simpa [cat] using h
end PERMS43
/-- the law's end begins: what comes behind it is told -/
def KM (p : Program) (l : Launch) (e : Env) (s : State) (m : MethodId) (below : List Frame) (meth : Method) (c : Code) (sb : Nat) (g : Gm) (qo : Fx) (u : SOB) (σ : Sg) : Prop := ∀ (T : va_W) (H : Heap) (locs : List Loc) (ls : Array Slot), Ev g (fun q => s.heap.size ≤ q) s.heap H locs (T ++ (AG g qo ++ SW g qo u σ)) → lv_has ls 20 [(1, .ref qo.1), (0, .ref sb)] → W p l e room_1 s m #[.ref sb] below meth c H locs 7200 1600000 (lw_Z below #[.ref sb] s) (F0 m 1248 ls [])
set_option maxHeartbeats 4000000 in
set_option maxRecDepth 100000 in
theorem le_o {p : Program} {l : Launch} {e : Env} {s : State} {m : MethodId} {below : List Frame} {meth : Method} {c : Code} {sb : Nat} {g : Gm} {Z : va_W} {qo : Fx} (hst : l.stackTraces = false) (S : Sta p c cL_law s #[.ref sb] RL m) (hml : c.maxLocals = 20) (hK : va_K g.1 vwC (tysG g) s) (hZ : Zs g (fun q => s.heap.size ≤ q) s s.heap) {C M : Nat} {u : SOB} {σ : Sg} {cvs : List CV} (hD : DI C M u σ cvs) (hC : C ≤ 500) (K : KM p l e s m below meth c sb g qo u σ) {H : Heap} {locs : List Loc} {ls : Array Slot} (E : Ev g (fun q => s.heap.size ≤ q) s.heap H locs (Z ++ ((AG g qo ++ WN g qo) ++ SW g qo u σ))) (hl : lv_has ls 20 [(3, .int (nI (cnt σ))), (1, .ref qo.1), (0, .ref sb)]) : W p l e room_1 s m #[.ref sb] below meth c H locs 6500 1400000 (lw_Z below #[.ref sb] s) (F0 m 1185 ls []) := by
  have hx := S.1
  have hb := S.2.1
  have hA : ∀ q : Nat, s.heap.size ≤ q → s.heap.size ≤ q := fun _ h => h
  have hI := hD.1
  have h6 := hI.wf.le
  have iT := (inv_folS (lo := nI 1) cvs σ0 0 0 inv0 (by have := hD.2.2.2.2.2.1; omega) (by rw [cnt0]; exact hD.2.2.2.2.1)).1
  have ge0 : ¬ lg_cmp (gl (folS (nI 1) cvs σ0) 23 (nI 0)) 0 < 0 := by
    rw [lg_cmp_lt, Int64.lt_iff_toInt_lt, gl_n (by omega)]
    obtain ⟨-, -, ⟨c1, c2, -⟩, -⟩ := iT.aw 0 (by omega)
    show ¬ (_ : Int) < 0
    omega
  refine lv_iload_n hx hb dL_law_1185 rfl (lv_at hl 0 rfl) ?_
  refine lv_iconst (v := 1) hx hb dL_law_1186 (by decide) ?_
  refine lv_icmp_le (tgt := 1248) hx hb dL_law_1187 (by decide) (fun _ => ?_) (fun c6 => ?_)
  · refine W.widen (k := 7200) (n := 1600000) (by omega) (by omega) ?_
    exact K (Z ++ WN g qo) H locs ls (E.perm pm_e5) (lv_sub hl [1, 2] rfl)
  have hn : 1 < cnt σ := by
    rcases Nat.lt_or_ge 1 (cnt σ) with z | z
    · exact z
    · exact absurd (show nI (cnt σ) ≤ nI 1 from nI_le z (by omega)) c6
  refine lv_aload_n hx hb dL_law_1190 rfl (lv_at hl 1 rfl) ?_
  have E1 : Ev g _ s.heap H locs ((Z ++ (AG g qo ++ (WN g qo ++ (DN g qo u ++ u.2.2.2.2)))) ++ OX g qo u.1 σ) := E.perm pm_e1
  refine w_retl (runV_X (As := []) (rest := []) (q0 := 0) (n := 0) S hml hK (hZ.at E) (Cut.app E1 hA) (c_G_checksum l g qo.1 (qo.2.2.2.2.1 0) qo.2.1 qo.2.2.1 qo.2.2.2.1 u.1 σ _ _) (gi_wsV ml_L_173 im_X6_checksum sl_X6_checksum in_X6 co_X6_checksum) ⟨rfl, by decide +kernel, by decide +kernel, by decide +kernel⟩ ⟨Nat.le_of_ble_eq_true rfl, Nat.le_of_ble_eq_true rfl⟩ rfl rfl rfl hl.1 rfl (Nat.le_of_ble_eq_true rfl) dL_law_1191 ⟨Nat.le_of_ble_eq_true rfl, Nat.le_of_ble_eq_true rfl⟩) (Cut.app E1 hA) E1 (fun r1190 u1190 H locs hp E2 => ?_)
  have hr := hp
  subst hr
  have E : Ev g _ s.heap H locs ((Z ++ AG g qo) ++ (SW g qo u σ ++ WN g qo)) := E2.perm pm_e2
  refine lv_lstore (lv' := [(7, .long (f_check σ 16 0 0)), (3, .int (nI (cnt σ))), (1, .ref qo.1), (0, .ref sb)]) hx hb dL_law_1194 hl (by decide) rfl (fun ls hl => ?_)
  refine lv_aload_n hx hb dL_law_1196 rfl (lv_at hl 2 rfl) ?_
  refine lv_iconst (v := 0) hx hb dL_law_1197 (by decide) ?_
  refine lv_iconst (v := 1) hx hb dL_law_1198 (by decide) ?_
  refine y_retl (yrunH (As := [.ref qo.1, .int (nI 0), .int (nI 1)]) (rest := []) (n := 3) S hml hK (hZ.at E) (Cut.app E hA) (c_L_PW1 l g hst qo u σ (fun _ => none) 0 1 rfl hD hC (by omega) hn (by decide) _ _) ml_L_183 st_L_pumpedWithout in_L rfl co_L_pumpedWithout ⟨by decide +kernel, by decide +kernel, by decide +kernel⟩ ⟨Nat.le_of_ble_eq_true rfl, Nat.le_of_ble_eq_true rfl⟩ rfl hl.1 rfl (Nat.le_of_ble_eq_true rfl) dL_law_1199 ⟨Nat.le_of_ble_eq_true rfl, Nat.le_of_ble_eq_true rfl⟩) (Cut.app E hA) E (fun En ce q9 H locs hp E hce hcv hcl => False.elim hp) (fun r1 u1 H locs hp E2 => ?_)
  have hr := hp
  subst hr
  have E : Ev g _ s.heap H locs ((Z ++ AG g qo) ++ (SW g qo u σ ++ ([(qo.2.1, .inl (g.2.1 5, 6, .inr (.inr (.inr (.inr (va_up (fun _ => none) 1 (some (u1.1 0))))))))] ++ wsW g u1.1 (nI 1) 0 (nI u.2.2.2.2.length) u1.2 (folS (nI 1) cvs σ0)))) := E2
  refine lv_lstore (lv' := [(9, .long (gl (folS (nI 1) cvs σ0) 23 (nI 0))), (7, .long (f_check σ 16 0 0)), (3, .int (nI (cnt σ))), (1, .ref qo.1), (0, .ref sb)]) hx hb dL_law_1202 hl (by decide) rfl (fun ls hl => ?_)
  refine lv_lload hx hb dL_law_1204 (lv_at hl 0 rfl) ?_
  refine lv_lconst (v := 0) hx hb dL_law_1206 (by decide) ?_
  refine k_lcmp (v := (lg_cmp (gl (folS (nI 1) cvs σ0) 23 (nI 0)) 0)) hx hb rfl dL_law_1207 ?_
  refine lv_if_lt (tgt := 1246) hx hb dL_law_1208 (by decide) (fun c_ => absurd c_ ge0) (fun _ => ?_)
  refine lv_aload_n hx hb dL_law_1211 rfl (lv_at hl 3 rfl) ?_
  have E1 : Ev g _ s.heap H locs ((Z ++ (AG g qo ++ (([(qo.2.1, .inl (g.2.1 5, 6, .inr (.inr (.inr (.inr (va_up (fun _ => none) 1 (some (u1.1 0))))))))] ++ wsW g u1.1 (nI 1) 0 (nI u.2.2.2.2.length) u1.2 (folS (nI 1) cvs σ0)) ++ (DN g qo u ++ u.2.2.2.2)))) ++ OX g qo u.1 σ) := E.perm pm_e3
  refine w_retl (runV_X (As := []) (rest := []) (q0 := 0) (n := 0) S hml hK (hZ.at E) (Cut.app E1 hA) (c_G_checksum l g qo.1 (qo.2.2.2.2.1 0) qo.2.1 qo.2.2.1 qo.2.2.2.1 u.1 σ _ _) (gi_wsV ml_L_173 im_X6_checksum sl_X6_checksum in_X6 co_X6_checksum) ⟨rfl, by decide +kernel, by decide +kernel, by decide +kernel⟩ ⟨Nat.le_of_ble_eq_true rfl, Nat.le_of_ble_eq_true rfl⟩ rfl rfl rfl hl.1 rfl (Nat.le_of_ble_eq_true rfl) dL_law_1212 ⟨Nat.le_of_ble_eq_true rfl, Nat.le_of_ble_eq_true rfl⟩) (Cut.app E1 hA) E1 (fun r1211 u1211 H locs hp E2 => ?_)
  have hr := hp
  subst hr
  have E : Ev g _ s.heap H locs ((Z ++ AG g qo) ++ (SW g qo u σ ++ ([(qo.2.1, .inl (g.2.1 5, 6, .inr (.inr (.inr (.inr (va_up (fun _ => none) 1 (some (u1.1 0))))))))] ++ wsW g u1.1 (nI 1) 0 (nI u.2.2.2.2.length) u1.2 (folS (nI 1) cvs σ0)))) := E2.perm pm_e2
  refine lv_lload hx hb dL_law_1215 (lv_at hl 1 rfl) ?_
  refine k_lcmp (v := (lg_cmp (f_check σ 16 0 0) (f_check σ 16 0 0))) hx hb rfl dL_law_1217 ?_
  refine lv_if_ne (tgt := 1246) hx hb dL_law_1218 (by decide) (fun c_ => absurd (lg_self _) c_) (fun _ => ?_)
  refine lv_aload_n hx hb dL_law_1221 rfl (lv_at hl 3 rfl) ?_
  refine lv_iconst (v := 0) hx hb dL_law_1222 (by decide) ?_
  refine lv_iconst (v := 1) hx hb dL_law_1223 (by decide) ?_
  refine y_retl (yrunH (As := [.ref qo.1, .int (nI 0), .int (nI 1)]) (rest := []) (n := 3) S hml hK (hZ.at E) (Cut.app E hA) (c_L_PW2 l g hst qo u σ (va_up (fun _ => none) 1 (some (u1.1 0))) 0 1 u1.1 u1.2 (if_pos rfl) hD hC (by omega) hn (by decide) _ _) ml_L_183 st_L_pumpedWithout in_L rfl co_L_pumpedWithout ⟨by decide +kernel, by decide +kernel, by decide +kernel⟩ ⟨Nat.le_of_ble_eq_true rfl, Nat.le_of_ble_eq_true rfl⟩ rfl hl.1 rfl (Nat.le_of_ble_eq_true rfl) dL_law_1224 ⟨Nat.le_of_ble_eq_true rfl, Nat.le_of_ble_eq_true rfl⟩) (Cut.app E hA) E (fun En ce q9 H locs hp E hce hcv hcl => False.elim hp) (fun r2 u2 H locs hp E2 => ?_)
  have hr := hp
  subst hr
  have E : Ev g _ s.heap H locs ((Z ++ AG g qo) ++ (SW g qo u σ ++ ([(qo.2.1, .inl (g.2.1 5, 6, .inr (.inr (.inr (.inr (va_up (fun _ => none) 1 (some (u1.1 0))))))))] ++ wsW g u1.1 (nI 1) 0 (nI u.2.2.2.2.length) u2 (folS (nI 1) cvs σ0)))) := E2
  refine lv_lload hx hb dL_law_1227 (lv_at hl 0 rfl) ?_
  refine k_lcmp (v := (lg_cmp (gl (folS (nI 1) cvs σ0) 23 (nI 0)) (gl (folS (nI 1) cvs σ0) 23 (nI 0)))) hx hb rfl dL_law_1229 ?_
  refine lv_if_ne (tgt := 1246) hx hb dL_law_1230 (by decide) (fun c_ => absurd (lg_self _) c_) (fun _ => ?_)
  refine lv_aload_n hx hb dL_law_1233 rfl (lv_at hl 3 rfl) ?_
  refine lv_iconst (v := 0) hx hb dL_law_1234 (by decide) ?_
  refine lv_iload_n hx hb dL_law_1235 rfl (lv_at hl 2 rfl) ?_
  have E1 : Ev g _ s.heap H locs ((Z ++ (AG g qo ++ (([(qo.2.1, .inl (g.2.1 5, 6, .inr (.inr (.inr (.inr (va_up (fun _ => none) 1 (some (u1.1 0))))))))] ++ wsW g u1.1 (nI 1) 0 (nI u.2.2.2.2.length) u2 (folS (nI 1) cvs σ0)) ++ (DN g qo u ++ u.2.2.2.2)))) ++ OX g qo u.1 σ) := E.perm pm_e3
  refine y_retl (yrunH (As := [.ref qo.1, .int (nI 0), .int (nI (cnt σ))]) (rest := []) (n := 3) S hml hK (hZ.at E) (Cut.app E1 hA) (c_L_PWN l g hst qo u.1 σ 0 (nI (cnt σ)) (ixN hI.wf (by omega)) (fun z => absurd z.2 (by rw [hI.wf.n]; exact Int32.lt_irrefl)) _ _) ml_L_183 st_L_pumpedWithout in_L rfl co_L_pumpedWithout ⟨by decide +kernel, by decide +kernel, by decide +kernel⟩ ⟨Nat.le_of_ble_eq_true rfl, Nat.le_of_ble_eq_true rfl⟩ rfl hl.1 rfl (Nat.le_of_ble_eq_true rfl) dL_law_1236 ⟨Nat.le_of_ble_eq_true rfl, Nat.le_of_ble_eq_true rfl⟩) (Cut.app E1 hA) E1 (fun En ce q9 H locs hp E hce hcv hcl => False.elim hp) (fun r3 u3 H locs hp E2 => ?_)
  have hr := hp
  subst hr
  have E : Ev g _ s.heap H locs ((Z ++ ([(qo.2.1, .inl (g.2.1 5, 6, .inr (.inr (.inr (.inr (va_up (fun _ => none) 1 (some (u1.1 0))))))))] ++ wsW g u1.1 (nI 1) 0 (nI u.2.2.2.2.length) u2 (folS (nI 1) cvs σ0))) ++ (AG g qo ++ SW g qo u σ)) := E2.perm pm_e4
  refine lv_ldc2 (v := (-2500000)) hx hb S.2.2.2 (S.2.2.1 _ cn_L_83) dL_law_1239 ?_
  refine k_lcmp (v := (lg_cmp (-2500000) (-2500000))) hx hb rfl dL_law_1242 ?_
  refine lv_if_eq (tgt := 1248) hx hb dL_law_1243 (by decide) (fun _ => ?_) (fun c_ => absurd (lg_self _) c_)
  refine W.widen (k := 7200) (n := 1600000) (Nat.le_of_ble_eq_true rfl) (Nat.le_of_ble_eq_true rfl) ?_
  exact K (Z ++ ([(qo.2.1, .inl (g.2.1 5, 6, .inr (.inr (.inr (.inr (va_up (fun _ => none) 1 (some (u1.1 0))))))))] ++ wsW g u1.1 (nI 1) 0 (nI u.2.2.2.2.length) u2 (folS (nI 1) cvs σ0))) H locs ls E (lv_sub hl [3, 4] rfl)
