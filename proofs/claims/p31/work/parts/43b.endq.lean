/-! THE LAW'S END: a new object -/
section PERMS43B
variable {T A S B N W M X Y D V Q P : va_W} {x w d : Nat × va_E}
theorem pm_n0 : ((B ++ [w]) ++ (([x] ++ A) ++ [d])).Perm (([x, w, d] ++ A) ++ B) := by
  have h := perm_ix [B, [w], [x], A, [d]] (is := [0, 1, 2, 3, 4]) (js := [2, 1, 4, 3, 0]) (by decide)
  simpa [cat] using h
theorem pm_n1 : ((Y ++ B) ++ (S ++ W)).Perm (Y ++ ((B ++ W) ++ S)) := by
  have h := perm_ix [Y, B, W, S] (is := [0, 1, 3, 2]) (js := [0, 1, 2, 3]) (by decide)
  simpa [cat] using h
theorem pm_n2 : (((Y ++ B) ++ N) ++ (S ++ W)).Perm ((Y ++ B) ++ (S ++ (W ++ N))) := by
  have h := perm_ix [Y, B, S, W, N] (is := [0, 1, 4, 2, 3]) (js := [0, 1, 2, 3, 4]) (by decide)
  simpa [cat] using h
theorem pm_n3 : (((Y ++ B) ++ (N ++ (D ++ (V ++ M)))) ++ X).Perm (((Y ++ B) ++ N) ++ (((X ++ D) ++ V) ++ M)) := by
  have h := perm_ix [Y, B, N, X, D, V, M] (is := [0, 1, 2, 4, 5, 6, 3]) (js := [0, 1, 2, 3, 4, 5, 6]) (by decide)
  simpa [cat] using h
theorem pm_n4 : ((T ++ (B ++ (N ++ (M ++ ((X ++ D) ++ V))))) ++ (A ++ S)).Perm (((( T ++ (A ++ S)) ++ B) ++ (N ++ (D ++ (V ++ M)))) ++ X) := by
  have h := perm_ix [T, A, S, B, N, X, D, V, M] (is := [0, 3, 4, 8, 5, 6, 7, 1, 2]) (js := [0, 1, 2, 3, 4, 6, 7, 8, 5]) (by decide)
  simpa [cat] using h
theorem pm_n5 : ((T ++ (N ++ (M ++ (A ++ S)))) ++ (B ++ P)).Perm ((T ++ (B ++ (N ++ (M ++ P)))) ++ (A ++ S)) := by
  have h := perm_ix [T, A, S, B, N, P, M] (is := [0, 4, 6, 1, 2, 3, 5]) (js := [0, 3, 4, 6, 5, 1, 2]) (by decide)
  simpa [cat] using h
theorem pm_n6 : ((T ++ (N ++ (M ++ (A ++ (D ++ (V ++ (B ++ P))))))) ++ X).Perm ((T ++ (N ++ (M ++ (A ++ ((X ++ D) ++ V))))) ++ (B ++ P)) := by
  have h := perm_ix [T, A, X, D, V, B, N, P, M] (is := [0, 6, 8, 1, 3, 4, 5, 7, 2]) (js := [0, 6, 8, 1, 2, 3, 4, 5, 7]) (by decide)
  simpa [cat] using h
end PERMS43B
theorem nw_ob {g : Gm} {x dy wo : Nat} {ad ad2 : Nat → Nat} {ea ea2 : Nat} : (OB g (x, wo, dy, ad, ad2, ea2) (ea, 0, 0, 10, []) σ0).Perm (fxW g x dy wo ad ad2 ea ea2) := by
  rw [OB_e rfl]
  exact pm_n0
theorem nw_di {ea : Nat} : DI 0 0 (ea, 0, 0, 10, []) σ0 [] := ⟨inv0, ⟨fun z hz => (by cases hz), Nat.zero_le _, Nat.le_refl _, (show (10 : Nat) ≤ 800 by decide), Nat.zero_le _⟩, rfl, rfl, trivial, rfl, rfl⟩
/-- the new object's calls; what comes behind them is told -/
def KQ (p : Program) (l : Launch) (e : Env) (s : State) (m : MethodId) (below : List Frame) (meth : Method) (c : Code) (sb : Nat) (g : Gm) (qo : Fx) (Y : va_W) : Prop := ∀ (qq : Fx) (kw ka kb : Nat) (u : SOB) (H : Heap) (locs : List Loc) (ls : Array Slot), kw < 400 → ka < 100 → kb < 100 → DI 7 1 u (fo1 (-1) (11, nI 1, 0, 0, 0) (n6 (-1) (nI kw) (nI ka) (nI kb))) (nv (nI kw) (nI ka) (nI kb)) → u.2.2.2.2 ≠ [] → Ev g (fun q => s.heap.size ≤ q) s.heap H locs (Y ++ OB g qq u (fo1 (-1) (11, nI 1, 0, 0, 0) (n6 (-1) (nI kw) (nI ka) (nI kb)))) → lv_has ls 20 [(10, .int (nI kb)), (9, .int (nI ka)), (8, .int (nI kw)), (7, .ref qq.1), (1, .ref qo.1), (0, .ref sb)] → W p l e room_1 s m #[.ref sb] below meth c H locs 8000 2500000 (lw_Z below #[.ref sb] s) (F0 m 1379 ls [])
set_option maxHeartbeats 4000000 in
set_option maxRecDepth 100000 in
theorem le_q7 {p : Program} {l : Launch} {e : Env} {s : State} {m : MethodId} {below : List Frame} {meth : Method} {c : Code} {sb : Nat} {g : Gm} {Y : va_W} {qo : Fx} (hst : l.stackTraces = false) (S : Sta p c cL_law s #[.ref sb] RL m) (hml : c.maxLocals = 20) (hK : va_K g.1 vwC (tysG g) s) (hZ : Zs g (fun q => s.heap.size ≤ q) s s.heap) {qq : Fx} {u0 : SOB} (D0 : DI 0 0 u0 σ0 []) (hem : u0.2.2.2.2 = []) {kw ka kb : Nat} (hkw : kw < 400) (hka : ka < 100) (hkb : kb < 100) (K : KQ p l e s m below meth c sb g qo Y) {H : Heap} {locs : List Loc} {ls : Array Slot} (E : Ev g (fun q => s.heap.size ≤ q) s.heap H locs (Y ++ OB g qq u0 σ0)) (hl : lv_has ls 20 [(10, .int (nI kb)), (9, .int (nI ka)), (8, .int (nI kw)), (7, .ref qq.1), (1, .ref qo.1), (0, .ref sb)]) : W p l e room_1 s m #[.ref sb] below meth c H locs 7600 1650000 (lw_Z below #[.ref sb] s) (F0 m 1291 ls []) := by
  have hx := S.1
  have hb := S.2.1
  have hA : ∀ q : Nat, s.heap.size ≤ q → s.heap.size ≤ q := fun _ h => h
  refine lv_aload hx hb dL_law_1291 (lv_at hl 3 rfl) ?_
  refine lv_iconst (v := 5) hx hb dL_law_1293 (by decide) ?_
  refine lv_iconst (v := 0) hx hb dL_law_1294 (by decide) ?_
  refine lv_bipush (v := 50) hx hb dL_law_1295 (by decide) ?_
  refine lv_iload hx hb dL_law_1297 (lv_at hl 2 rfl) ?_
  refine y_reti (yrunH (As := [.ref qq.1, .int 5, .int 0, .int 50, .int (nI kw)]) (rest := []) (n := 5) S hml hK (hZ.at E) (Cut.app E hA) (c_L_setCell l g hst qq u0 σ0 5 0 50 (nI kw) D0.2.1 D0.1 (by decide) ⟨by decide, by decide⟩ ⟨by decide, by decide⟩ ⟨by decide, by decide⟩ (rgN (k := kw) (m := 5000) (by omega) (by decide)) _ _) ml_L_140 st_L_setCell in_L rfl co_L_setCell ⟨by decide +kernel, by decide +kernel, by decide +kernel⟩ ⟨Nat.le_of_ble_eq_true rfl, Nat.le_of_ble_eq_true rfl⟩ rfl hl.1 rfl (Nat.le_of_ble_eq_true rfl) dL_law_1299 ⟨Nat.le_of_ble_eq_true rfl, Nat.le_of_ble_eq_true rfl⟩) (Cut.app E hA) E (fun En ce q9 H locs hp E hce hcv hcl => False.elim hp) (fun r1 u1 H locs hp E2 => ?_)
  obtain ⟨hr, x1⟩ := hp
  have D1 : DI 1 0 u1 (n1 (-1) (nI kw)) [(0, 5, 0, 50, nI kw)] := D0.add (by decide) (show _ ∧ _ from ⟨(show rgOK 5 0 15 from ⟨by decide, by decide⟩), (show rgOK 0 (-100) 100 from ⟨by decide, by decide⟩), (show rgOK 50 1 50 from ⟨by decide, by decide⟩), rgN (k := kw) (m := 5000) (by omega) (by decide)⟩) x1
  have hr := hr.trans na_1
  subst hr
  have E : Ev g _ s.heap H locs (Y ++ OB g qq u1 (n1 (-1) (nI kw))) := E2
  obtain ⟨y1, y2⟩ := nt_c D1.1.ev (Nat.le_trans D1.1.en (by decide))
  refine W.widen (k := 7614) (n := 1731000) (by show 7600 + (eg (n1 (-1) (nI kw)) - eg σ0 + 3) ≤ 7614; omega) (by show 1650000 + (2 * ec (n1 (-1) (nI kw)) - 2 * ec σ0 + 815) ≤ 1731000; omega) ?_
  refine lv_if_ne (tgt := 1377) hx hb dL_law_1302 (by decide) (fun c_ => absurd rfl c_) (fun _ => ?_)
  refine lv_aload hx hb dL_law_1305 (lv_at hl 3 rfl) ?_
  refine lv_iconst (v := 0) hx hb dL_law_1307 (by decide) ?_
  refine lv_iconst (v := 0) hx hb dL_law_1308 (by decide) ?_
  refine y_reti (yrunH (As := [.ref qq.1, .int 0, .int 0]) (rest := []) (n := 3) S hml hK (hZ.at E) (Cut.app E hA) (c_L_setConductance l g hst qq u1 (n1 (-1) (nI kw)) 0 0 D1.2.1 x1.2.1 D1.1 (by decide) ⟨by decide, by decide⟩ ⟨by decide, by decide⟩ _ _) ml_L_148 st_L_setConductance in_L rfl co_L_setConductance ⟨by decide +kernel, by decide +kernel, by decide +kernel⟩ ⟨Nat.le_of_ble_eq_true rfl, Nat.le_of_ble_eq_true rfl⟩ rfl hl.1 rfl (Nat.le_of_ble_eq_true rfl) dL_law_1309 ⟨Nat.le_of_ble_eq_true rfl, Nat.le_of_ble_eq_true rfl⟩) (Cut.app E hA) E (fun En ce q9 H locs hp E hce hcv hcl => False.elim hp) (fun r2 u2 H locs hp E2 => ?_)
  obtain ⟨hr, x2⟩ := hp
  have D2 : DI 2 0 u2 (n2 (-1) (nI kw)) [(0, 5, 0, 50, nI kw), (2, 0, 0, 0, 0)] := D1.add (by decide) (show rgOK 0 0 1 from ⟨by decide, by decide⟩) x2
  have hr := hr.trans na_2
  subst hr
  have E : Ev g _ s.heap H locs (Y ++ OB g qq u2 (n2 (-1) (nI kw))) := E2
  obtain ⟨y1, y2⟩ := nt_c D2.1.ev (Nat.le_trans D2.1.en (by decide))
  refine W.widen (k := 7628) (n := 1812000) (by show 7614 + (eg (n2 (-1) (nI kw)) - eg (n1 (-1) (nI kw)) + 3) ≤ 7628; omega) (by show 1731000 + (2 * ec (n2 (-1) (nI kw)) - 2 * ec (n1 (-1) (nI kw)) + 815) ≤ 1812000; omega) ?_
  refine lv_iconst (v := 4) hx hb dL_law_1312 (by decide) ?_
  refine lv_icmp_ne (tgt := 1377) hx hb dL_law_1313 (by decide) (fun c_ => absurd rfl c_) (fun _ => ?_)
  refine lv_aload hx hb dL_law_1316 (lv_at hl 3 rfl) ?_
  refine lv_iconst (v := 5) hx hb dL_law_1318 (by decide) ?_
  refine lv_bipush (v := 10) hx hb dL_law_1319 (by decide) ?_
  refine lv_sipush (v := 500) hx hb dL_law_1321 (by decide) ?_
  refine y_reti (yrunH (As := [.ref qq.1, .int 5, .int 10, .int 500]) (rest := []) (n := 4) S hml hK (hZ.at E) (Cut.app E hA) (c_L_addWell l g hst qq u2 (n2 (-1) (nI kw)) 5 10 500 D2.2.1 x2.2.1 D2.1 (by decide) ⟨by decide, by decide⟩ ⟨by decide, by decide⟩ ⟨by decide, by decide⟩ (by rw [D2.cn]; exact (by decide : (0 : Nat) < 6)) (by rw [na_3]; decide) _ _) ml_L_161 st_L_addWell in_L rfl co_L_addWell ⟨by decide +kernel, by decide +kernel, by decide +kernel⟩ ⟨Nat.le_of_ble_eq_true rfl, Nat.le_of_ble_eq_true rfl⟩ rfl hl.1 rfl (Nat.le_of_ble_eq_true rfl) dL_law_1324 ⟨Nat.le_of_ble_eq_true rfl, Nat.le_of_ble_eq_true rfl⟩) (Cut.app E hA) E (fun En ce q9 H locs hp E hce hcv hcl => False.elim hp) (fun r3 u3 H locs hp E2 => ?_)
  obtain ⟨hr, x3⟩ := hp
  have D3 : DI 3 0 u3 (n3 (-1) (nI kw)) [(0, 5, 0, 50, nI kw), (2, 0, 0, 0, 0), (8, 5, 10, 500, 0)] := D2.add (by decide) (show _ ∧ _ from ⟨(show rgOK 5 0 15 from ⟨by decide, by decide⟩), (show rgOK 500 0 999 from ⟨by decide, by decide⟩), by rw [D2.cn]; exact (by decide : (0 : Nat) < 6)⟩) x3
  have hr := hr.trans na_3
  subst hr
  have E : Ev g _ s.heap H locs (Y ++ OB g qq u3 (n3 (-1) (nI kw))) := E2
  obtain ⟨y1, y2⟩ := nt_c D3.1.ev (Nat.le_trans D3.1.en (by decide))
  refine W.widen (k := 7642) (n := 1893000) (by show 7628 + (eg (n3 (-1) (nI kw)) - eg (n2 (-1) (nI kw)) + 3) ≤ 7642; omega) (by show 1812000 + (2 * ec (n3 (-1) (nI kw)) - 2 * ec (n2 (-1) (nI kw)) + 815) ≤ 1893000; omega) ?_
  refine lv_if_ne (tgt := 1377) hx hb dL_law_1327 (by decide) (fun c_ => absurd rfl c_) (fun _ => ?_)
  refine lv_aload hx hb dL_law_1330 (lv_at hl 3 rfl) ?_
  refine lv_iconst (v := 5) hx hb dL_law_1332 (by decide) ?_
  refine lv_bipush (v := 20) hx hb dL_law_1333 (by decide) ?_
  refine lv_sipush (v := 500) hx hb dL_law_1335 (by decide) ?_
  refine y_reti (yrunH (As := [.ref qq.1, .int 5, .int 20, .int 500]) (rest := []) (n := 4) S hml hK (hZ.at E) (Cut.app E hA) (c_L_addWell l g hst qq u3 (n3 (-1) (nI kw)) 5 20 500 D3.2.1 x3.2.1 D3.1 (by decide) ⟨by decide, by decide⟩ ⟨by decide, by decide⟩ ⟨by decide, by decide⟩ (by rw [D3.cn]; exact (by decide : (1 : Nat) < 6)) (by rw [na_4]; decide) _ _) ml_L_161 st_L_addWell in_L rfl co_L_addWell ⟨by decide +kernel, by decide +kernel, by decide +kernel⟩ ⟨Nat.le_of_ble_eq_true rfl, Nat.le_of_ble_eq_true rfl⟩ rfl hl.1 rfl (Nat.le_of_ble_eq_true rfl) dL_law_1338 ⟨Nat.le_of_ble_eq_true rfl, Nat.le_of_ble_eq_true rfl⟩) (Cut.app E hA) E (fun En ce q9 H locs hp E hce hcv hcl => False.elim hp) (fun r4 u4 H locs hp E2 => ?_)
  obtain ⟨hr, x4⟩ := hp
  have D4 : DI 4 0 u4 (n4 (-1) (nI kw)) [(0, 5, 0, 50, nI kw), (2, 0, 0, 0, 0), (8, 5, 10, 500, 0), (8, 5, 20, 500, 0)] := D3.add (by decide) (show _ ∧ _ from ⟨(show rgOK 5 0 15 from ⟨by decide, by decide⟩), (show rgOK 500 0 999 from ⟨by decide, by decide⟩), by rw [D3.cn]; exact (by decide : (1 : Nat) < 6)⟩) x4
  have hr := hr.trans na_4
  subst hr
  have E : Ev g _ s.heap H locs (Y ++ OB g qq u4 (n4 (-1) (nI kw))) := E2
  obtain ⟨y1, y2⟩ := nt_c D4.1.ev (Nat.le_trans D4.1.en (by decide))
  refine W.widen (k := 7656) (n := 1974000) (by show 7642 + (eg (n4 (-1) (nI kw)) - eg (n3 (-1) (nI kw)) + 3) ≤ 7656; omega) (by show 1893000 + (2 * ec (n4 (-1) (nI kw)) - 2 * ec (n3 (-1) (nI kw)) + 815) ≤ 1974000; omega) ?_
  refine lv_iconst (v := 1) hx hb dL_law_1341 (by decide) ?_
  refine lv_icmp_ne (tgt := 1377) hx hb dL_law_1342 (by decide) (fun c_ => absurd rfl c_) (fun _ => ?_)
  refine lv_aload hx hb dL_law_1345 (lv_at hl 3 rfl) ?_
  refine lv_iconst (v := 0) hx hb dL_law_1347 (by decide) ?_
  refine lv_iload hx hb dL_law_1348 (lv_at hl 1 rfl) ?_
  refine y_reti (yrunH (As := [.ref qq.1, .int 0, .int (nI ka)]) (rest := []) (n := 3) S hml hK (hZ.at E) (Cut.app E hA) (c_L_setWish l g hst qq u4 (n4 (-1) (nI kw)) 0 (nI ka) D4.2.1 x4.2.1 D4.1 (by decide) (by rw [na_4b]; exact ⟨by decide, by decide⟩) (rgN (k := ka) (m := 99) (by omega) (by decide)) _ _) ml_L_163 st_L_setWish in_L rfl co_L_setWish ⟨by decide +kernel, by decide +kernel, by decide +kernel⟩ ⟨Nat.le_of_ble_eq_true rfl, Nat.le_of_ble_eq_true rfl⟩ rfl hl.1 rfl (Nat.le_of_ble_eq_true rfl) dL_law_1350 ⟨Nat.le_of_ble_eq_true rfl, Nat.le_of_ble_eq_true rfl⟩) (Cut.app E hA) E (fun En ce q9 H locs hp E hce hcv hcl => False.elim hp) (fun r5 u5 H locs hp E2 => ?_)
  obtain ⟨hr, x5⟩ := hp
  have D5 : DI 5 0 u5 (n5 (-1) (nI kw) (nI ka)) [(0, 5, 0, 50, nI kw), (2, 0, 0, 0, 0), (8, 5, 10, 500, 0), (8, 5, 20, 500, 0), (9, 0, nI ka, 0, 0)] := D4.add (by decide) (show _ ∧ _ from ⟨by rw [D4.cn]; exact (show ixOK 0 (nI 2) from ⟨by decide, by decide⟩), rgN (k := ka) (m := 99) (by omega) (by decide)⟩) x5
  have hr := hr.trans na_5
  subst hr
  have E : Ev g _ s.heap H locs (Y ++ OB g qq u5 (n5 (-1) (nI kw) (nI ka))) := E2
  obtain ⟨y1, y2⟩ := nt_c D5.1.ev (Nat.le_trans D5.1.en (by decide))
  refine W.widen (k := 7670) (n := 2055000) (by show 7656 + (eg (n5 (-1) (nI kw) (nI ka)) - eg (n4 (-1) (nI kw)) + 3) ≤ 7670; omega) (by show 1974000 + (2 * ec (n5 (-1) (nI kw) (nI ka)) - 2 * ec (n4 (-1) (nI kw)) + 815) ≤ 2055000; omega) ?_
  refine lv_if_ne (tgt := 1377) hx hb dL_law_1353 (by decide) (fun c_ => absurd rfl c_) (fun _ => ?_)
  refine lv_aload hx hb dL_law_1356 (lv_at hl 3 rfl) ?_
  refine lv_iconst (v := 1) hx hb dL_law_1358 (by decide) ?_
  refine lv_iload hx hb dL_law_1359 (lv_at hl 0 rfl) ?_
  refine y_reti (yrunH (As := [.ref qq.1, .int 1, .int (nI kb)]) (rest := []) (n := 3) S hml hK (hZ.at E) (Cut.app E hA) (c_L_setWish l g hst qq u5 (n5 (-1) (nI kw) (nI ka)) 1 (nI kb) D5.2.1 x5.2.1 D5.1 (by decide) (ixN (k := 1) D5.1.wf (by rw [D5.cn]; exact (by decide : (1 : Nat) < 2))) (rgN (k := kb) (m := 99) (by omega) (by decide)) _ _) ml_L_163 st_L_setWish in_L rfl co_L_setWish ⟨by decide +kernel, by decide +kernel, by decide +kernel⟩ ⟨Nat.le_of_ble_eq_true rfl, Nat.le_of_ble_eq_true rfl⟩ rfl hl.1 rfl (Nat.le_of_ble_eq_true rfl) dL_law_1361 ⟨Nat.le_of_ble_eq_true rfl, Nat.le_of_ble_eq_true rfl⟩) (Cut.app E hA) E (fun En ce q9 H locs hp E hce hcv hcl => False.elim hp) (fun r6 u6 H locs hp E2 => ?_)
  obtain ⟨hr, x6⟩ := hp
  have D6 : DI 6 0 u6 (n6 (-1) (nI kw) (nI ka) (nI kb)) [(0, 5, 0, 50, nI kw), (2, 0, 0, 0, 0), (8, 5, 10, 500, 0), (8, 5, 20, 500, 0), (9, 0, nI ka, 0, 0), (9, 1, nI kb, 0, 0)] := D5.add (by decide) (show _ ∧ _ from ⟨by rw [D5.cn]; exact (show ixOK 1 (nI 2) from ⟨by decide, by decide⟩), rgN (k := kb) (m := 99) (by omega) (by decide)⟩) x6
  have hr := hr.trans na_6
  subst hr
  have E : Ev g _ s.heap H locs (Y ++ OB g qq u6 (n6 (-1) (nI kw) (nI ka) (nI kb))) := E2
  obtain ⟨y1, y2⟩ := nt_c D6.1.ev (Nat.le_trans D6.1.en (by decide))
  refine W.widen (k := 7684) (n := 2136000) (by show 7670 + (eg (n6 (-1) (nI kw) (nI ka) (nI kb)) - eg (n5 (-1) (nI kw) (nI ka)) + 3) ≤ 7684; omega) (by show 2055000 + (2 * ec (n6 (-1) (nI kw) (nI ka) (nI kb)) - 2 * ec (n5 (-1) (nI kw) (nI ka)) + 815) ≤ 2136000; omega) ?_
  refine lv_if_ne (tgt := 1377) hx hb dL_law_1364 (by decide) (fun c_ => absurd rfl c_) (fun _ => ?_)
  refine lv_aload hx hb dL_law_1367 (lv_at hl 3 rfl) ?_
  refine lv_iconst (v := 1) hx hb dL_law_1369 (by decide) ?_
  refine y_reti (yrunH (As := [.ref qq.1, .int (nI 1)]) (rest := []) (n := 2) S hml hK (hZ.at E) (Cut.app E hA) (c_L_pass l g hst qq u6 (n6 (-1) (nI kw) (nI ka) (nI kb)) 1 D6.2.1 x6.2.1 D6.1 (by decide) (by decide) (by decide) (by decide) ⟨by decide, by decide⟩ (by rw [D6.1.2.1]; decide) _ _) ml_L_171 st_L_pass in_L rfl co_L_pass ⟨by decide +kernel, by decide +kernel, by decide +kernel⟩ ⟨Nat.le_of_ble_eq_true rfl, Nat.le_of_ble_eq_true rfl⟩ rfl hl.1 rfl (Nat.le_of_ble_eq_true rfl) dL_law_1370 ⟨Nat.le_of_ble_eq_true rfl, Nat.le_of_ble_eq_true rfl⟩) (Cut.app E hA) E (fun En ce q9 H locs hp E hce hcv hcl => False.elim hp) (fun r7 u7 H locs hp E2 => ?_)
  obtain ⟨hr, x7⟩ := hp
  have D7 : DI 7 1 u7 (fo1 (-1) (11, nI 1, 0, 0, 0) (n6 (-1) (nI kw) (nI ka) (nI kb))) (nv (nI kw) (nI ka) (nI kb)) := D6.add (by decide) (show ∃ m2 : Nat, nI 1 = nI m2 ∧ 1 ≤ m2 ∧ m2 ≤ 24 ∧ _ + m2 ≤ 600 from ⟨1, rfl, by decide, by decide, by decide⟩) x7
  have hr := hr.trans D7.1.2.1
  subst hr
  have E : Ev g _ s.heap H locs (Y ++ OB g qq u7 (fo1 (-1) (11, nI 1, 0, 0, 0) (n6 (-1) (nI kw) (nI ka) (nI kb)))) := E2
  obtain ⟨y1, y2⟩ := nt_c D7.1.ev (Nat.le_trans D7.1.en (by decide))
  refine W.widen (k := 7698) (n := 2217000) (by show 7684 + (eg (fo1 (-1) (11, nI 1, 0, 0, 0) (n6 (-1) (nI kw) (nI ka) (nI kb))) - eg (n6 (-1) (nI kw) (nI ka) (nI kb)) + 3) ≤ 7698; omega) (by show 2136000 + (2 * ec (fo1 (-1) (11, nI 1, 0, 0, 0) (n6 (-1) (nI kw) (nI ka) (nI kb))) - 2 * ec (n6 (-1) (nI kw) (nI ka) (nI kb)) + 815) ≤ 2217000; omega) ?_
  refine lv_iconst (v := 1) hx hb dL_law_1373 (by decide) ?_
  refine lv_icmp_eq (tgt := 1379) hx hb dL_law_1374 (by decide) (fun _ => ?_) (fun c_ => absurd rfl c_)
  refine W.widen (k := 8000) (n := 2500000) (Nat.le_of_ble_eq_true rfl) (Nat.le_of_ble_eq_true rfl) ?_
  exact K qq kw ka kb u7 H locs ls hkw hka hkb D7 x7.2.1 E hl
set_option maxHeartbeats 4000000 in
set_option maxRecDepth 100000 in
theorem le_q0 {p : Program} {l : Launch} {e : Env} {s : State} {m : MethodId} {below : List Frame} {meth : Method} {c : Code} {sb : Nat} {g : Gm} {Y : va_W} {qo : Fx} (hst : l.stackTraces = false) (S : Sta p c cL_law s #[.ref sb] RL m) (hml : c.maxLocals = 20) (hK : va_K g.1 vwC (tysG g) s) (hZ : Zs g (fun q => s.heap.size ≤ q) s s.heap) {L : Nat} {xs : Nat → Int32} (hL : L ≤ 260) (hX : va_X sb L xs s s.heap) (hsb : sb < s.heap.size) (K : KQ p l e s m below meth c sb g qo Y) {H : Heap} {locs : List Loc} {ls : Array Slot} (E : Ev g (fun q => s.heap.size ≤ q) s.heap H locs Y) (hl : lv_has ls 20 [(1, .ref qo.1), (0, .ref sb)]) : W p l e room_1 s m #[.ref sb] below meth c H locs 7200 1600000 (lw_Z below #[.ref sb] s) (F0 m 1248 ls []) := by
  have hx := S.1
  have hb := S.2.1
  have hA : ∀ q : Nat, s.heap.size ≤ q → s.heap.size ≤ q := fun _ h => h
  refine w_new (ci := 6) (fs := [.null, .null, .null, .null]) (C := RX6) (T := TX6) (N := 4) S hK E hA fw_X6 tyX6 tyX6_ok cl_L_14 ib_X6 in_X6 rfl (fun j hj => by rcases (show j = 0 ∨ j = 1 ∨ j = 2 ∨ j = 3 by omega) with rfl | rfl | rfl | rfl <;> rfl) (Nat.le_of_ble_eq_true rfl) (Nat.le_of_ble_eq_true rfl) dL_law_1248 (fun q1 H E => ?_)
  refine lv_dup hx hb dL_law_1251 rfl ?_
  refine w_retv (runI_X (As := []) (rest := [.ref q1]) (n := 0) S hml hK (hZ.at E) (Cut.app E hA) (c_X6_init l g q1 _ _) ml_L_135 im_X6_init in_X6 co_X6_init rfl ⟨by decide +kernel, by decide +kernel, by decide +kernel⟩ ⟨Nat.le_of_ble_eq_true rfl, Nat.le_of_ble_eq_true rfl⟩ rfl hl.1 rfl (Nat.le_of_ble_eq_true rfl) dL_law_1252 ⟨Nat.le_of_ble_eq_true rfl, Nat.le_of_ble_eq_true rfl⟩) (Cut.app E hA) E (fun uu H locs hp E2 => ?_)
  have E : Ev g _ s.heap H locs (Y ++ OB g (q1, uu.2.1, uu.1, uu.2.2.1, uu.2.2.2.1, uu.2.2.2.2.2) (uu.2.2.2.2.1, 0, 0, 10, []) σ0) := E2.perm (List.Perm.append_left Y nw_ob)
  refine lv_astore (lv' := [(7, .ref q1), (1, .ref qo.1), (0, .ref sb)]) hx hb dL_law_1255 hl (by decide) rfl (fun ls hl => ?_)
  refine lv_aload_n hx hb dL_law_1257 rfl (lv_at hl 2 rfl) ?_
  refine lv_sipush (v := 300) hx hb dL_law_1258 (by decide) ?_
  refine lv_sipush (v := 400) hx hb dL_law_1261 (by decide) ?_
  refine w_reti (runS_S (As := [.ref sb, .int (nI 300), .int (nI 400)]) (rest := []) (n := 3) S hml hK (hZ.at E) (Cut.none E hA) (hX.kept (E.2.2.2.1 sb hsb (Nat.not_le.mpr hsb))) (Nat.lt_of_lt_of_le hsb E.2.2.1) (c_L_some l g sb L xs hL 300 400 (by decide) (by decide) (by decide) _ _) ml_L_136 st_L_some in_L co_L_some ⟨by decide +kernel, by decide +kernel, by decide +kernel⟩ ⟨Nat.le_of_ble_eq_true rfl, Nat.le_of_ble_eq_true rfl⟩ rfl hl.1 rfl (Nat.le_of_ble_eq_true rfl) dL_law_1264 ⟨Nat.le_of_ble_eq_true rfl, Nat.le_of_ble_eq_true rfl⟩) (Cut.none E hA) E (fun s0 v0 H locs hp E => ?_)
  obtain ⟨kw, hkw, hr⟩ := hp
  subst hr
  have E := Ev.nilr E
  refine lv_istore (lv' := [(8, .int (nI kw)), (7, .ref q1), (1, .ref qo.1), (0, .ref sb)]) hx hb dL_law_1267 hl (by decide) rfl (fun ls hl => ?_)
  refine lv_aload_n hx hb dL_law_1269 rfl (lv_at hl 3 rfl) ?_
  refine lv_sipush (v := 301) hx hb dL_law_1270 (by decide) ?_
  refine lv_bipush (v := 100) hx hb dL_law_1273 (by decide) ?_
  refine w_reti (runS_S (As := [.ref sb, .int (nI 301), .int (nI 100)]) (rest := []) (n := 3) S hml hK (hZ.at E) (Cut.none E hA) (hX.kept (E.2.2.2.1 sb hsb (Nat.not_le.mpr hsb))) (Nat.lt_of_lt_of_le hsb E.2.2.1) (c_L_some l g sb L xs hL 301 100 (by decide) (by decide) (by decide) _ _) ml_L_136 st_L_some in_L co_L_some ⟨by decide +kernel, by decide +kernel, by decide +kernel⟩ ⟨Nat.le_of_ble_eq_true rfl, Nat.le_of_ble_eq_true rfl⟩ rfl hl.1 rfl (Nat.le_of_ble_eq_true rfl) dL_law_1275 ⟨Nat.le_of_ble_eq_true rfl, Nat.le_of_ble_eq_true rfl⟩) (Cut.none E hA) E (fun s1 v1 H locs hp E => ?_)
  obtain ⟨ka, hka, hr⟩ := hp
  subst hr
  have E := Ev.nilr E
  refine lv_istore (lv' := [(9, .int (nI ka)), (8, .int (nI kw)), (7, .ref q1), (1, .ref qo.1), (0, .ref sb)]) hx hb dL_law_1278 hl (by decide) rfl (fun ls hl => ?_)
  refine lv_aload_n hx hb dL_law_1280 rfl (lv_at hl 4 rfl) ?_
  refine lv_sipush (v := 302) hx hb dL_law_1281 (by decide) ?_
  refine lv_bipush (v := 100) hx hb dL_law_1284 (by decide) ?_
  refine w_reti (runS_S (As := [.ref sb, .int (nI 302), .int (nI 100)]) (rest := []) (n := 3) S hml hK (hZ.at E) (Cut.none E hA) (hX.kept (E.2.2.2.1 sb hsb (Nat.not_le.mpr hsb))) (Nat.lt_of_lt_of_le hsb E.2.2.1) (c_L_some l g sb L xs hL 302 100 (by decide) (by decide) (by decide) _ _) ml_L_136 st_L_some in_L co_L_some ⟨by decide +kernel, by decide +kernel, by decide +kernel⟩ ⟨Nat.le_of_ble_eq_true rfl, Nat.le_of_ble_eq_true rfl⟩ rfl hl.1 rfl (Nat.le_of_ble_eq_true rfl) dL_law_1286 ⟨Nat.le_of_ble_eq_true rfl, Nat.le_of_ble_eq_true rfl⟩) (Cut.none E hA) E (fun s2 v2 H locs hp E => ?_)
  obtain ⟨kb, hkb, hr⟩ := hp
  subst hr
  have E := Ev.nilr E
  refine lv_istore (lv' := [(10, .int (nI kb)), (9, .int (nI ka)), (8, .int (nI kw)), (7, .ref q1), (1, .ref qo.1), (0, .ref sb)]) hx hb dL_law_1289 hl (by decide) rfl (fun ls hl => ?_)
  refine W.widen (k := 7600) (n := 1650000) (Nat.le_of_ble_eq_true rfl) (Nat.le_of_ble_eq_true rfl) ?_
  exact le_q7 hst S hml hK hZ (qq := (q1, uu.2.1, uu.1, uu.2.2.1, uu.2.2.2.1, uu.2.2.2.2.2)) nw_di rfl hkw hka hkb K E hl
