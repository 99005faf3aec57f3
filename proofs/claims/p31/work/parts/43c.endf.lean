/-! THE LAW'S END: what the new object's wells have pumped; all is sound -/
set_option maxHeartbeats 4000000 in
set_option maxRecDepth 100000 in
theorem le_f {p : Program} {l : Launch} {e : Env} {s : State} {m : MethodId} {below : List Frame} {meth : Method} {c : Code} {sb : Nat} {g : Gm} {T : va_W} {qo : Fx} (hst : l.stackTraces = false) (S : Sta p c cL_law s #[.ref sb] RL m) (hml : c.maxLocals = 20) (hK : va_K g.1 vwC (tysG g) s) (hZ : Zs g (fun q => s.heap.size ≤ q) s s.heap) {L : Nat} {xs : Nat → Int32} (C0 : lw_At p s m meth c sb L xs) {Co Mo : Nat} {uo : SOB} {σ : Sg} {cvo : List CV} (hDo : DI Co Mo uo σ cvo) (hCo : Co ≤ 500) : KQ p l e s m below meth c sb g qo (T ++ (AG g qo ++ SW g qo uo σ)) := by
  intro qq kw ka kb u H locs ls hkw hka hkb D hne E hl
  have hx := S.1
  have hb := S.2.1
  have hA : ∀ q : Nat, s.heap.size ≤ q → s.heap.size ≤ q := fun _ h => h
  have c2 : cnt (fo1 (-1) (11, nI 1, 0, 0, 0) (n6 (-1) (nI kw) (nI ka) (nI kb))) = 2 := D.cn
  have i0 : ixOK (nI 0) (gs (fo1 (-1) (11, nI 1, 0, 0, 0) (n6 (-1) (nI kw) (nI ka) (nI kb))) 4) := ixN D.1.wf (by rw [c2]; decide)
  have i1 : ixOK (nI 1) (gs (fo1 (-1) (11, nI 1, 0, 0, 0) (n6 (-1) (nI kw) (nI ka) (nI kb))) 4) := ixN D.1.wf (by rw [c2]; decide)
  have tw : (nI kw).toInt = (kw : Int) := nI_toInt (by omega)
  have ta : (nI ka).toInt = (ka : Int) := nI_toInt (by omega)
  have tb : (nI kb).toInt = (kb : Int) := nI_toInt (by omega)
  have zq := nq_n (w := nI kw) (a := nI ka) (b := nI kb) (by omega) (by omega) (by omega)
  have z0 : gl (fo1 (-1) (11, nI 1, 0, 0, 0) (n6 (-1) (nI kw) (nI ka) (nI kb))) 23 (nI 0) = (mn (nI ka) (nI kw)).toInt64 := zq.1
  have z1 : gl (fo1 (-1) (11, nI 1, 0, 0, 0) (n6 (-1) (nI kw) (nI ka) (nI kb))) 23 (nI 1) = (if nI kw < nI ka then 0 else (mn (nI kb) (nI kw - nI ka)).toInt64) := zq.2
  refine lv_aload hx hb dL_law_1379 (lv_at hl 3 rfl) ?_
  refine lv_iconst (v := 0) hx hb dL_law_1381 (by decide) ?_
  refine y_retl (yrunH (As := [.ref qq.1, .int (nI 0)]) (rest := []) (n := 2) S hml hK (hZ.at E) (Cut.app E hA) (c_L_pumped l g hst qq u (fo1 (-1) (11, nI 1, 0, 0, 0) (n6 (-1) (nI kw) (nI ka) (nI kb))) (nI 0) D.1.wf i0 _ _) ml_L_126 st_L_pumped in_L rfl co_L_pumped ⟨by decide +kernel, by decide +kernel, by decide +kernel⟩ ⟨Nat.le_of_ble_eq_true rfl, Nat.le_of_ble_eq_true rfl⟩ rfl hl.1 rfl (Nat.le_of_ble_eq_true rfl) dL_law_1382 ⟨Nat.le_of_ble_eq_true rfl, Nat.le_of_ble_eq_true rfl⟩) (Cut.app E hA) E (fun En ce q9 H locs hp E hce hcv hcl => False.elim hp) (fun ra ua H locs hp E2 => ?_)
  have hr := hp.trans z0
  subst hr
  have E : Ev g _ s.heap H locs ((T ++ (AG g qo ++ SW g qo uo σ)) ++ OB g qq u (fo1 (-1) (11, nI 1, 0, 0, 0) (n6 (-1) (nI kw) (nI ka) (nI kb)))) := E2
  refine lv_iload hx hb dL_law_1385 (lv_at hl 1 rfl) ?_
  refine lv_iload hx hb dL_law_1387 (lv_at hl 2 rfl) ?_
  refine w_min (v := mn (nI ka) (nI kw)) S hml hl ml_L_186 st_min in_J9 co_min (Nat.le_of_ble_eq_true rfl) (Nat.le_of_ble_eq_true rfl) ⟨Nat.le_of_ble_eq_true rfl, Nat.le_of_ble_eq_true rfl⟩ rfl dL_law_1389 ?_
  refine lv_i2l (v := (mn (nI ka) (nI kw)).toInt64) hx hb dL_law_1392 rfl ?_
  refine k_lcmp (v := (lg_cmp (mn (nI ka) (nI kw)).toInt64 (mn (nI ka) (nI kw)).toInt64)) hx hb rfl dL_law_1393 ?_
  refine lv_if_ne (tgt := 1465) hx hb dL_law_1394 (by decide) (fun c_ => absurd (lg_self _) c_) (fun _ => ?_)
  refine lv_aload hx hb dL_law_1397 (lv_at hl 3 rfl) ?_
  refine lv_iconst (v := 1) hx hb dL_law_1399 (by decide) ?_
  refine y_retl (yrunH (As := [.ref qq.1, .int (nI 1)]) (rest := []) (n := 2) S hml hK (hZ.at E) (Cut.app E hA) (c_L_pumped l g hst qq u (fo1 (-1) (11, nI 1, 0, 0, 0) (n6 (-1) (nI kw) (nI ka) (nI kb))) (nI 1) D.1.wf i1 _ _) ml_L_126 st_L_pumped in_L rfl co_L_pumped ⟨by decide +kernel, by decide +kernel, by decide +kernel⟩ ⟨Nat.le_of_ble_eq_true rfl, Nat.le_of_ble_eq_true rfl⟩ rfl hl.1 rfl (Nat.le_of_ble_eq_true rfl) dL_law_1400 ⟨Nat.le_of_ble_eq_true rfl, Nat.le_of_ble_eq_true rfl⟩) (Cut.app E hA) E (fun En ce q9 H locs hp E hce hcv hcl => False.elim hp) (fun rb ub H locs hp E2 => ?_)
  have hr := hp.trans z1
  subst hr
  have E : Ev g _ s.heap H locs ((T ++ (AG g qo ++ SW g qo uo σ)) ++ OB g qq u (fo1 (-1) (11, nI 1, 0, 0, 0) (n6 (-1) (nI kw) (nI ka) (nI kb)))) := E2
  refine W.widen (k := 8000) (n := 2500000) (Nat.le_of_ble_eq_true rfl) (Nat.le_of_ble_eq_true rfl) ?_
  have K2 : ∀ v : Int32, v.toInt64 = (if nI kw < nI ka then 0 else (mn (nI kb) (nI kw - nI ka)).toInt64) → W p l e room_1 s m #[.ref sb] below meth c H locs 8000 2500000 (lw_Z below #[.ref sb] s) (F0 m 1424 ls [.int v, .long (if nI kw < nI ka then 0 else (mn (nI kb) (nI kw - nI ka)).toInt64)]) := by
    intro v hv
    refine lv_i2l (v := v.toInt64) hx hb dL_law_1424 rfl ?_
    rw [hv]
    refine k_lcmp (v := (lg_cmp (if nI kw < nI ka then 0 else (mn (nI kb) (nI kw - nI ka)).toInt64) (if nI kw < nI ka then 0 else (mn (nI kb) (nI kw - nI ka)).toInt64))) hx hb rfl dL_law_1425 ?_
    refine lv_if_ne (tgt := 1465) hx hb dL_law_1426 (by decide) (fun c_ => absurd (lg_self _) c_) (fun _ => ?_)
    rw [OB_ne hne] at E
    have E : Ev g _ s.heap H locs ((T ++ (AG g qo ++ SW g qo uo σ)) ++ ((AG g qq ++ WN g qq) ++ SW g qq u (fo1 (-1) (11, nI 1, 0, 0, 0) (n6 (-1) (nI kw) (nI ka) (nI kb))))) := E
    refine lv_aload hx hb dL_law_1429 (lv_at hl 3 rfl) ?_
    refine lv_iconst (v := 1) hx hb dL_law_1431 (by decide) ?_
    refine lv_iconst (v := 0) hx hb dL_law_1432 (by decide) ?_
    have E1 : Ev g _ s.heap H locs (((T ++ (AG g qo ++ SW g qo uo σ)) ++ AG g qq) ++ (SW g qq u (fo1 (-1) (11, nI 1, 0, 0, 0) (n6 (-1) (nI kw) (nI ka) (nI kb))) ++ WN g qq)) := E.perm pm_n1
    refine y_retl (yrunH (As := [.ref qq.1, .int (nI 1), .int (nI 0)]) (rest := []) (n := 3) S hml hK (hZ.at E) (Cut.app E1 hA) (c_L_PW1 l g hst qq u (fo1 (-1) (11, nI 1, 0, 0, 0) (n6 (-1) (nI kw) (nI ka) (nI kb))) (fun _ => none) 1 0 rfl D (by decide) (by rw [c2]; decide) (by rw [c2]; decide) (by decide) _ _) ml_L_183 st_L_pumpedWithout in_L rfl co_L_pumpedWithout ⟨by decide +kernel, by decide +kernel, by decide +kernel⟩ ⟨Nat.le_of_ble_eq_true rfl, Nat.le_of_ble_eq_true rfl⟩ rfl hl.1 rfl (Nat.le_of_ble_eq_true rfl) dL_law_1433 ⟨Nat.le_of_ble_eq_true rfl, Nat.le_of_ble_eq_true rfl⟩) (Cut.app E1 hA) E1 (fun En ce q9 H locs hp E hce hcv hcl => False.elim hp) (fun r1 u1 H locs hp E2 => ?_)
    have hr := hp.trans (nq_0 (w := nI kw) (a := nI ka) (b := nI kb) (by omega) (by omega))
    subst hr
    have E : Ev g _ s.heap H locs (((T ++ (AG g qo ++ SW g qo uo σ)) ++ AG g qq) ++ (SW g qq u (fo1 (-1) (11, nI 1, 0, 0, 0) (n6 (-1) (nI kw) (nI ka) (nI kb))) ++ ([(qq.2.1, .inl (g.2.1 5, 6, .inr (.inr (.inr (.inr (va_up (fun _ => none) 0 (some (u1.1 0))))))))] ++ wsW g u1.1 (nI 0) 0 (nI u.2.2.2.2.length) u1.2 (folS (nI 0) (nv (nI kw) (nI ka) (nI kb)) σ0)))) := E2
    refine lv_iload hx hb dL_law_1436 (lv_at hl 0 rfl) ?_
    refine lv_iload hx hb dL_law_1438 (lv_at hl 2 rfl) ?_
    refine w_min (v := mn (nI kb) (nI kw)) S hml hl ml_L_186 st_min in_J9 co_min (Nat.le_of_ble_eq_true rfl) (Nat.le_of_ble_eq_true rfl) ⟨Nat.le_of_ble_eq_true rfl, Nat.le_of_ble_eq_true rfl⟩ rfl dL_law_1440 ?_
    refine lv_i2l (v := (mn (nI kb) (nI kw)).toInt64) hx hb dL_law_1443 rfl ?_
    refine k_lcmp (v := (lg_cmp (mn (nI kb) (nI kw)).toInt64 (mn (nI kb) (nI kw)).toInt64)) hx hb rfl dL_law_1444 ?_
    refine lv_if_ne (tgt := 1465) hx hb dL_law_1445 (by decide) (fun c_ => absurd (lg_self _) c_) (fun _ => ?_)
    refine lv_aload hx hb dL_law_1448 (lv_at hl 3 rfl) ?_
    refine lv_iconst (v := 0) hx hb dL_law_1450 (by decide) ?_
    refine lv_iconst (v := 1) hx hb dL_law_1451 (by decide) ?_
    have E1 : Ev g _ s.heap H locs ((((T ++ (AG g qo ++ SW g qo uo σ)) ++ AG g qq) ++ wsW g u1.1 (nI 0) 0 (nI u.2.2.2.2.length) u1.2 (folS (nI 0) (nv (nI kw) (nI ka) (nI kb)) σ0)) ++ (SW g qq u (fo1 (-1) (11, nI 1, 0, 0, 0) (n6 (-1) (nI kw) (nI ka) (nI kb))) ++ [(qq.2.1, .inl (g.2.1 5, 6, .inr (.inr (.inr (.inr (va_up (fun _ => none) 0 (some (u1.1 0))))))))])) := E.perm pm_n2
    refine y_retl (yrunH (As := [.ref qq.1, .int (nI 0), .int (nI 1)]) (rest := []) (n := 3) S hml hK (hZ.at E) (Cut.app E1 hA) (c_L_PW1 l g hst qq u (fo1 (-1) (11, nI 1, 0, 0, 0) (n6 (-1) (nI kw) (nI ka) (nI kb))) (va_up (fun _ => none) 0 (some (u1.1 0))) 0 1 (if_neg (by decide)) D (by decide) (by rw [c2]; decide) (by rw [c2]; decide) (by decide) _ _) ml_L_183 st_L_pumpedWithout in_L rfl co_L_pumpedWithout ⟨by decide +kernel, by decide +kernel, by decide +kernel⟩ ⟨Nat.le_of_ble_eq_true rfl, Nat.le_of_ble_eq_true rfl⟩ rfl hl.1 rfl (Nat.le_of_ble_eq_true rfl) dL_law_1452 ⟨Nat.le_of_ble_eq_true rfl, Nat.le_of_ble_eq_true rfl⟩) (Cut.app E1 hA) E1 (fun En ce q9 H locs hp E hce hcv hcl => False.elim hp) (fun r3 u3 H locs hp E2 => ?_)
    have hr := hp.trans (nq_1 (w := nI kw) (a := nI ka) (b := nI kb) (by omega) (by omega))
    subst hr
    have E : Ev g _ s.heap H locs ((((T ++ (AG g qo ++ SW g qo uo σ)) ++ AG g qq) ++ wsW g u1.1 (nI 0) 0 (nI u.2.2.2.2.length) u1.2 (folS (nI 0) (nv (nI kw) (nI ka) (nI kb)) σ0)) ++ (SW g qq u (fo1 (-1) (11, nI 1, 0, 0, 0) (n6 (-1) (nI kw) (nI ka) (nI kb))) ++ ([(qq.2.1, .inl (g.2.1 5, 6, .inr (.inr (.inr (.inr (va_up (va_up (fun _ => none) 0 (some (u1.1 0))) 1 (some (u3.1 0))))))))] ++ wsW g u3.1 (nI 1) 0 (nI u.2.2.2.2.length) u3.2 (folS (nI 1) (nv (nI kw) (nI ka) (nI kb)) σ0)))) := E2
    refine lv_aload hx hb dL_law_1455 (lv_at hl 3 rfl) ?_
    refine lv_iconst (v := 0) hx hb dL_law_1457 (by decide) ?_
    have E1 : Ev g _ s.heap H locs ((((T ++ (AG g qo ++ SW g qo uo σ)) ++ AG g qq) ++ (wsW g u1.1 (nI 0) 0 (nI u.2.2.2.2.length) u1.2 (folS (nI 0) (nv (nI kw) (nI ka) (nI kb)) σ0) ++ (DN g qq u ++ (u.2.2.2.2 ++ ([(qq.2.1, .inl (g.2.1 5, 6, .inr (.inr (.inr (.inr (va_up (va_up (fun _ => none) 0 (some (u1.1 0))) 1 (some (u3.1 0))))))))] ++ wsW g u3.1 (nI 1) 0 (nI u.2.2.2.2.length) u3.2 (folS (nI 1) (nv (nI kw) (nI ka) (nI kb)) σ0)))))) ++ OX g qq u.1 (fo1 (-1) (11, nI 1, 0, 0, 0) (n6 (-1) (nI kw) (nI ka) (nI kb)))) := E.perm pm_n3
    refine y_retl (yrunH (As := [.ref qq.1, .int (nI 0)]) (rest := [.long (mn (nI ka) (nI kw)).toInt64]) (n := 2) S hml hK (hZ.at E) (Cut.app E1 hA) (c_L_pumpedX l g hst qq u.1 (fo1 (-1) (11, nI 1, 0, 0, 0) (n6 (-1) (nI kw) (nI ka) (nI kb))) (nI 0) D.1.wf i0 _ _) ml_L_126 st_L_pumped in_L rfl co_L_pumped ⟨by decide +kernel, by decide +kernel, by decide +kernel⟩ ⟨Nat.le_of_ble_eq_true rfl, Nat.le_of_ble_eq_true rfl⟩ rfl hl.1 rfl (Nat.le_of_ble_eq_true rfl) dL_law_1458 ⟨Nat.le_of_ble_eq_true rfl, Nat.le_of_ble_eq_true rfl⟩) (Cut.app E1 hA) E1 (fun En ce q9 H locs hp E hce hcv hcl => False.elim hp) (fun r4 u4 H locs hp E2 => ?_)
    have hr := hp.trans z0
    subst hr
    have E : Ev g _ s.heap H locs ((((T ++ (AG g qo ++ SW g qo uo σ)) ++ AG g qq) ++ (wsW g u1.1 (nI 0) 0 (nI u.2.2.2.2.length) u1.2 (folS (nI 0) (nv (nI kw) (nI ka) (nI kb)) σ0) ++ (DN g qq u ++ (u.2.2.2.2 ++ ([(qq.2.1, .inl (g.2.1 5, 6, .inr (.inr (.inr (.inr (va_up (va_up (fun _ => none) 0 (some (u1.1 0))) 1 (some (u3.1 0))))))))] ++ wsW g u3.1 (nI 1) 0 (nI u.2.2.2.2.length) u3.2 (folS (nI 1) (nv (nI kw) (nI ka) (nI kb)) σ0)))))) ++ OX g qq u.1 (fo1 (-1) (11, nI 1, 0, 0, 0) (n6 (-1) (nI kw) (nI ka) (nI kb)))) := E2
    refine k_lcmp (v := (lg_cmp (mn (nI ka) (nI kw)).toInt64 (mn (nI ka) (nI kw)).toInt64)) hx hb rfl dL_law_1461 ?_
    refine lv_if_eq (tgt := 1467) hx hb dL_law_1462 (by decide) (fun _ => ?_) (fun c_ => absurd (lg_self _) c_)
    refine lv_aload_n hx hb dL_law_1467 rfl (lv_at hl 4 rfl) ?_
    have E1 : Ev g _ s.heap H locs ((T ++ (AG g qq ++ (wsW g u1.1 (nI 0) 0 (nI u.2.2.2.2.length) u1.2 (folS (nI 0) (nv (nI kw) (nI ka) (nI kb)) σ0) ++ (([(qq.2.1, .inl (g.2.1 5, 6, .inr (.inr (.inr (.inr (va_up (va_up (fun _ => none) 0 (some (u1.1 0))) 1 (some (u3.1 0))))))))] ++ wsW g u3.1 (nI 1) 0 (nI u.2.2.2.2.length) u3.2 (folS (nI 1) (nv (nI kw) (nI ka) (nI kb)) σ0)) ++ SW g qq u (fo1 (-1) (11, nI 1, 0, 0, 0) (n6 (-1) (nI kw) (nI ka) (nI kb))))))) ++ (AG g qo ++ SW g qo uo σ)) := E.perm pm_n4
    refine w_reti (runV_X (As := []) (rest := []) (q0 := 31) (n := 0) S hml hK (hZ.at E) (Cut.app E1 hA) (c_G_isSound l g qo uo σ hDo hCo _ _) (gi_wsV ml_L_191 im_X6_isSound sl_X6_isSound in_X6 co_X6_isSound) ⟨rfl, by decide +kernel, by decide +kernel, by decide +kernel⟩ ⟨Nat.le_of_ble_eq_true rfl, Nat.le_of_ble_eq_true rfl⟩ rfl rfl rfl hl.1 rfl (Nat.le_of_ble_eq_true rfl) dL_law_1468 ⟨Nat.le_of_ble_eq_true rfl, Nat.le_of_ble_eq_true rfl⟩) (Cut.app E1 hA) E1 (fun r5 u5 H locs hp E2 => ?_)
    have hr := hp
    subst hr
    have E : Ev g _ s.heap H locs ((T ++ (AG g qq ++ (wsW g u1.1 (nI 0) 0 (nI u.2.2.2.2.length) u1.2 (folS (nI 0) (nv (nI kw) (nI ka) (nI kb)) σ0) ++ (([(qq.2.1, .inl (g.2.1 5, 6, .inr (.inr (.inr (.inr (va_up (va_up (fun _ => none) 0 (some (u1.1 0))) 1 (some (u3.1 0))))))))] ++ wsW g u3.1 (nI 1) 0 (nI u.2.2.2.2.length) u3.2 (folS (nI 1) (nv (nI kw) (nI ka) (nI kb)) σ0)) ++ SW g qq u (fo1 (-1) (11, nI 1, 0, 0, 0) (n6 (-1) (nI kw) (nI ka) (nI kb))))))) ++ (wsW g qo.2.2.2.2.1 (-1) 0 (nI uo.2.2.2.2.length) u5 σ ++ SW g qo uo σ)) := E2
    refine lv_if_eq (tgt := 1497) hx hb dL_law_1471 (by decide) (fun c_ => absurd c_ (show ¬ (1 : Int32) = 0 by decide)) (fun _ => ?_)
    refine lv_aload hx hb dL_law_1474 (lv_at hl 3 rfl) ?_
    have E1 : Ev g _ s.heap H locs ((T ++ (wsW g u1.1 (nI 0) 0 (nI u.2.2.2.2.length) u1.2 (folS (nI 0) (nv (nI kw) (nI ka) (nI kb)) σ0) ++ (([(qq.2.1, .inl (g.2.1 5, 6, .inr (.inr (.inr (.inr (va_up (va_up (fun _ => none) 0 (some (u1.1 0))) 1 (some (u3.1 0))))))))] ++ wsW g u3.1 (nI 1) 0 (nI u.2.2.2.2.length) u3.2 (folS (nI 1) (nv (nI kw) (nI ka) (nI kb)) σ0)) ++ (wsW g qo.2.2.2.2.1 (-1) 0 (nI uo.2.2.2.2.length) u5 σ ++ SW g qo uo σ)))) ++ (AG g qq ++ SW g qq u (fo1 (-1) (11, nI 1, 0, 0, 0) (n6 (-1) (nI kw) (nI ka) (nI kb))))) := E.perm pm_n5
    refine w_reti (runV_X (As := []) (rest := []) (q0 := 31) (n := 0) S hml hK (hZ.at E) (Cut.app E1 hA) (c_G_isSound l g qq u (fo1 (-1) (11, nI 1, 0, 0, 0) (n6 (-1) (nI kw) (nI ka) (nI kb))) D (by decide) _ _) (gi_wsV ml_L_191 im_X6_isSound sl_X6_isSound in_X6 co_X6_isSound) ⟨rfl, by decide +kernel, by decide +kernel, by decide +kernel⟩ ⟨Nat.le_of_ble_eq_true rfl, Nat.le_of_ble_eq_true rfl⟩ rfl rfl rfl hl.1 rfl (Nat.le_of_ble_eq_true rfl) dL_law_1476 ⟨Nat.le_of_ble_eq_true rfl, Nat.le_of_ble_eq_true rfl⟩) (Cut.app E1 hA) E1 (fun r6 u6 H locs hp E2 => ?_)
    have hr := hp
    subst hr
    have E : Ev g _ s.heap H locs ((T ++ (wsW g u1.1 (nI 0) 0 (nI u.2.2.2.2.length) u1.2 (folS (nI 0) (nv (nI kw) (nI ka) (nI kb)) σ0) ++ (([(qq.2.1, .inl (g.2.1 5, 6, .inr (.inr (.inr (.inr (va_up (va_up (fun _ => none) 0 (some (u1.1 0))) 1 (some (u3.1 0))))))))] ++ wsW g u3.1 (nI 1) 0 (nI u.2.2.2.2.length) u3.2 (folS (nI 1) (nv (nI kw) (nI ka) (nI kb)) σ0)) ++ (wsW g qo.2.2.2.2.1 (-1) 0 (nI uo.2.2.2.2.length) u5 σ ++ SW g qo uo σ)))) ++ (wsW g qq.2.2.2.2.1 (-1) 0 (nI u.2.2.2.2.length) u6 (fo1 (-1) (11, nI 1, 0, 0, 0) (n6 (-1) (nI kw) (nI ka) (nI kb))) ++ SW g qq u (fo1 (-1) (11, nI 1, 0, 0, 0) (n6 (-1) (nI kw) (nI ka) (nI kb))))) := E2
    refine lv_if_eq (tgt := 1497) hx hb dL_law_1479 (by decide) (fun c_ => absurd c_ (show ¬ (1 : Int32) = 0 by decide)) (fun _ => ?_)
    refine lv_aload_n hx hb dL_law_1482 rfl (lv_at hl 4 rfl) ?_
    refine lv_bipush (v := 16) hx hb dL_law_1483 (by decide) ?_
    have E1 : Ev g _ s.heap H locs ((T ++ (wsW g u1.1 (nI 0) 0 (nI u.2.2.2.2.length) u1.2 (folS (nI 0) (nv (nI kw) (nI ka) (nI kb)) σ0) ++ (([(qq.2.1, .inl (g.2.1 5, 6, .inr (.inr (.inr (.inr (va_up (va_up (fun _ => none) 0 (some (u1.1 0))) 1 (some (u3.1 0))))))))] ++ wsW g u3.1 (nI 1) 0 (nI u.2.2.2.2.length) u3.2 (folS (nI 1) (nv (nI kw) (nI ka) (nI kb)) σ0)) ++ (wsW g qo.2.2.2.2.1 (-1) 0 (nI uo.2.2.2.2.length) u5 σ ++ (DN g qo uo ++ (uo.2.2.2.2 ++ (wsW g qq.2.2.2.2.1 (-1) 0 (nI u.2.2.2.2.length) u6 (fo1 (-1) (11, nI 1, 0, 0, 0) (n6 (-1) (nI kw) (nI ka) (nI kb))) ++ SW g qq u (fo1 (-1) (11, nI 1, 0, 0, 0) (n6 (-1) (nI kw) (nI ka) (nI kb)))))))))) ++ OX g qo uo.1 σ) := E.perm pm_n6
    refine y_reti (yrunH (As := [.ref qo.1, .int 16]) (rest := []) (n := 2) S hml hK (hZ.at E) (Cut.app E1 hA) (c_L_waterX l g hst qo uo.1 σ 16 (fun z => absurd z.2 (by decide)) _ _) ml_L_116 st_L_water in_L rfl co_L_water ⟨by decide +kernel, by decide +kernel, by decide +kernel⟩ ⟨Nat.le_of_ble_eq_true rfl, Nat.le_of_ble_eq_true rfl⟩ rfl hl.1 rfl (Nat.le_of_ble_eq_true rfl) dL_law_1485 ⟨Nat.le_of_ble_eq_true rfl, Nat.le_of_ble_eq_true rfl⟩) (Cut.app E1 hA) E1 (fun En ce q9 H locs hp E hce hcv hcl => False.elim hp) (fun r7 u7 H locs hp E2 => ?_)
    have hr := hp
    subst hr
    refine lv_ldc (v := (-2500000)) hx hb S.2.2.2 (S.2.2.1 _ cn_L_21) dL_law_1488 ?_
    refine lv_icmp_ne (tgt := 1497) hx hb dL_law_1490 (by decide) (fun c_ => absurd rfl c_) (fun _ => ?_)
    refine lv_iconst (v := 1) hx hb dL_law_1493 (by decide) ?_
    refine lv_goto (tgt := 1498) hx hb dL_law_1494 (by decide) ?_
    exact law_out C0 E2.2.2 (Nat.le_of_ble_eq_true rfl) (Nat.le_of_ble_eq_true rfl)
  refine lv_iload hx hb dL_law_1403 (lv_at hl 1 rfl) ?_
  refine lv_iload hx hb dL_law_1405 (lv_at hl 2 rfl) ?_
  refine lv_icmp_le (tgt := 1414) hx hb dL_law_1407 (by decide) (fun c1 => ?_) (fun c1 => ?_)
  · refine lv_iload hx hb dL_law_1414 (lv_at hl 0 rfl) ?_
    refine lv_iload hx hb dL_law_1416 (lv_at hl 2 rfl) ?_
    refine lv_iload hx hb dL_law_1418 (lv_at hl 1 rfl) ?_
    refine k_isub (v := (nI kw - nI ka)) hx hb rfl dL_law_1420 ?_
    refine w_min (v := mn (nI kb) (nI kw - nI ka)) S hml hl ml_L_186 st_min in_J9 co_min (Nat.le_of_ble_eq_true rfl) (Nat.le_of_ble_eq_true rfl) ⟨Nat.le_of_ble_eq_true rfl, Nat.le_of_ble_eq_true rfl⟩ rfl dL_law_1421 ?_
    exact K2 _ (if_neg (le_nlt c1)).symm
  · refine lv_iconst (v := 0) hx hb dL_law_1410 (by decide) ?_
    refine lv_goto (tgt := 1424) hx hb dL_law_1411 (by decide) ?_
    exact K2 0 (by rw [if_pos (i_lt.mpr (i_nle c1))]; decide)
