set_option maxHeartbeats 4000000 in
set_option maxRecDepth 100000 in
/-- case 5: setBed -/
theorem law_5 {p : Program} {l : Launch} {e : Env} {s : State} {m : MethodId} {below : List Frame} {meth : Method} {c : Code} {sb : Nat} {xs : Nat → Int32} {H : Heap} {locs : List Loc} {ls : Array Slot} {g : Gm} {x dy wo m0 o : Nat} {ad bd b : Nat → Nat} {ea eb : Nat} {fo : Nat → Int64} (hst : l.stackTraces = false) (C0 : lw_At p s m meth c sb 5 xs) (S : Sta p c cL_law s #[.ref sb] RL m) (hK : va_K g.1 vwC (tysG g) s) (hZ : Zs g (fun q => s.heap.size ≤ q) s s.heap) (E : Ev g (fun q => s.heap.size ≤ q) s.heap H locs (lawW g x dy wo m0 o ad bd b ea eb fo)) (hl : lv_has ls 9 [(0, .ref sb), (1, .ref x), (2, .ref m0), (3, .ref o), (4, .int 0)]) : W p l e room_1 s m #[.ref sb] below meth c H locs 400 3000 (lw_Z below #[.ref sb] s) (F0 m 528 ls []) := by
  have hx := S.1
  have hb := S.2.1
  have hml : c.maxLocals = 9 := C0.2.2.2.1
  have hX : va_X sb 5 xs s s.heap := C0.2.2.2.2.2.2.1
  have hsb : sb < s.heap.size := C0.2.2.2.2.2.2.2.1
  have hbA : ¬ s.heap.size ≤ sb := Nat.not_le.mpr hsb
  have hA : ∀ q : Nat, s.heap.size ≤ q → s.heap.size ≤ q := fun _ h => h
  have E : Ev g (fun q => s.heap.size ≤ q) s.heap H locs ([(x, .inr (6, [.ref (ad 0), .ref (bd 0), .ref wo, .ref dy])), (dy, .inr (8, [.int 0, .ref (g.2.2 0), .int 0]))] ++ wsW g ad (-1) 1 0 ea σ0 ++ [(m0, .inr (9, [.int 0, .ref (b 0), .ref (b 17)])), ((b 0), .inr (10, [.ref (b 1), .ref (b 2), .ref (b 3), .ref (b 4), .ref (b 5), .ref (b 6), .ref (b 7), .ref (b 8), .ref (b 9), .ref (b 10), .ref (b 11), .ref (b 12), .int 0, .int 0, .int (nI 0), .ref (b 13), .ref (b 14), .ref (b 16)])), ((b 9), .inl (g.2.1 0, 8, .inl (fun _ => 0))), ((b 10), .inl (g.2.1 0, 8, .inl (fun _ => 0))), ((b 17), .inr (8, [.int 0, .ref (g.2.2 0), .int 0])), (o, .inl (g.2.1 1, 1, .inr (.inl fo)))]) := Ev.sub E [0, 1, 2, 3, 4, 5, 6, 7, 8, 9, 10, 11, 12, 13, 14, 15, 16, 17, 18, 19, 20, 21, 22, 23, 24, 25, 26, 27, 28, 29, 30, 31, 32, 64, 65, 74, 75, 82, 83] rfl rfl
  refine lv_aload_n hx hb dL_law_528 rfl (lv_at hl 1 rfl) ?_
  refine lv_aload_n hx hb dL_law_529 rfl (lv_at hl 0 rfl) ?_
  refine lv_iload hx hb dL_law_530 (lv_at hl 4 rfl) ?_
  refine lv_iconst (v := 1) hx hb dL_law_532 (by decide) ?_
  refine k_iadd (v := 1) hx hb (by decide) dL_law_533 ?_
  refine va_sld hx hb hX hsb hbA E.2.2 (i := 1) (by unfold vp_in; decide) dL_law_534 ?_
  have hl := hl
  show W p l e room_1 s m #[.ref sb] below meth c H locs _ _ _ (F0 m 535 ls [.int (xs 1), .ref x])
  refine lv_aload_n hx hb dL_law_535 rfl (lv_at hl 0 rfl) ?_
  refine lv_iload hx hb dL_law_536 (lv_at hl 4 rfl) ?_
  refine lv_iconst (v := 2) hx hb dL_law_538 (by decide) ?_
  refine k_iadd (v := 2) hx hb (by decide) dL_law_539 ?_
  refine va_sld hx hb hX hsb hbA E.2.2 (i := 2) (by unfold vp_in; decide) dL_law_540 ?_
  have hl := hl
  show W p l e room_1 s m #[.ref sb] below meth c H locs _ _ _ (F0 m 541 ls [.int (xs 2), .int (xs 1), .ref x])
  refine lv_aload_n hx hb dL_law_541 rfl (lv_at hl 0 rfl) ?_
  refine lv_iload hx hb dL_law_542 (lv_at hl 4 rfl) ?_
  refine lv_iconst (v := 3) hx hb dL_law_544 (by decide) ?_
  refine k_iadd (v := 3) hx hb (by decide) dL_law_545 ?_
  refine va_sld hx hb hX hsb hbA E.2.2 (i := 3) (by unfold vp_in; decide) dL_law_546 ?_
  have hl := hl
  show W p l e room_1 s m #[.ref sb] below meth c H locs _ _ _ (F0 m 547 ls [.int (xs 3), .int (xs 2), .int (xs 1), .ref x])
  refine lv_aload_n hx hb dL_law_547 rfl (lv_at hl 3 rfl) ?_
  refine y_reti (yrunH (As := [.ref x, .int (xs 1), .int (xs 2), .int (xs 3), .ref o]) (rest := []) (n := 5) S hml hK (hZ.at E) (Cut.of (wc := ([(x, .inr (6, [.ref (ad 0), .ref (bd 0), .ref wo, .ref dy])), (dy, .inr (8, [.int 0, .ref (g.2.2 0), .int 0]))] ++ wsW g ad (-1) 1 0 ea σ0 ++ [(o, .inl (g.2.1 1, 1, .inr (.inl fo)))])) (wr := [(m0, .inr (9, [.int 0, .ref (b 0), .ref (b 17)])), ((b 0), .inr (10, [.ref (b 1), .ref (b 2), .ref (b 3), .ref (b 4), .ref (b 5), .ref (b 6), .ref (b 7), .ref (b 8), .ref (b 9), .ref (b 10), .ref (b 11), .ref (b 12), .int 0, .int 0, .int (nI 0), .ref (b 13), .ref (b 14), .ref (b 16)])), ((b 9), .inl (g.2.1 0, 8, .inl (fun _ => 0))), ((b 10), .inl (g.2.1 0, 8, .inl (fun _ => 0))), ((b 17), .inr (8, [.int 0, .ref (g.2.2 0), .int 0]))]) E hA [0, 1, 2, 3, 4, 5, 6, 7, 8, 9, 10, 11, 12, 13, 14, 15, 16, 17, 18, 19, 20, 21, 22, 23, 24, 25, 26, 27, 28, 29, 30, 31, 32, 38] [33, 34, 35, 36, 37] rfl rfl rfl rfl (by decide)) (c_L_setBed l g hst x (bd 0) wo dy ad ea (xs 1) (xs 2) (xs 3) o fo _ _) ml_L_126 st_L_setBed in_L rfl co_L_setBed ⟨by decide +kernel, by decide +kernel, by decide +kernel⟩ ⟨Nat.le_of_ble_eq_true rfl, Nat.le_of_ble_eq_true rfl⟩ rfl hl.1 rfl (Nat.le_of_ble_eq_true rfl) dL_law_548 ⟨Nat.le_of_ble_eq_true rfl, Nat.le_of_ble_eq_true rfl⟩) (Cut.of (wc := ([(x, .inr (6, [.ref (ad 0), .ref (bd 0), .ref wo, .ref dy])), (dy, .inr (8, [.int 0, .ref (g.2.2 0), .int 0]))] ++ wsW g ad (-1) 1 0 ea σ0 ++ [(o, .inl (g.2.1 1, 1, .inr (.inl fo)))])) (wr := [(m0, .inr (9, [.int 0, .ref (b 0), .ref (b 17)])), ((b 0), .inr (10, [.ref (b 1), .ref (b 2), .ref (b 3), .ref (b 4), .ref (b 5), .ref (b 6), .ref (b 7), .ref (b 8), .ref (b 9), .ref (b 10), .ref (b 11), .ref (b 12), .int 0, .int 0, .int (nI 0), .ref (b 13), .ref (b 14), .ref (b 16)])), ((b 9), .inl (g.2.1 0, 8, .inl (fun _ => 0))), ((b 10), .inl (g.2.1 0, 8, .inl (fun _ => 0))), ((b 17), .inr (8, [.int 0, .ref (g.2.2 0), .int 0]))]) E hA [0, 1, 2, 3, 4, 5, 6, 7, 8, 9, 10, 11, 12, 13, 14, 15, 16, 17, 18, 19, 20, 21, 22, 23, 24, 25, 26, 27, 28, 29, 30, 31, 32, 38] [33, 34, 35, 36, 37] rfl rfl rfl rfl (by decide)) E (fun En ce q9 H locs hp E hce hcv hcl => ?_) (fun r1 u1 H locs hp E => ?_)
  · have E : Ev g _ s.heap H locs [(m0, .inr (9, [.int 0, .ref (b 0), .ref (b 17)])), ((b 0), .inr (10, [.ref (b 1), .ref (b 2), .ref (b 3), .ref (b 4), .ref (b 5), .ref (b 6), .ref (b 7), .ref (b 8), .ref (b 9), .ref (b 10), .ref (b 11), .ref (b 12), .int 0, .int 0, .int (nI 0), .ref (b 13), .ref (b 14), .ref (b 16)])), ((b 9), .inl (g.2.1 0, 8, .inl (fun _ => 0))), ((b 10), .inl (g.2.1 0, 8, .inl (fun _ => 0))), ((b 17), .inr (8, [.int 0, .ref (g.2.2 0), .int 0]))] := E
    exact False.elim hp
  · skip
    have E : Ev g _ s.heap H locs [(m0, .inr (9, [.int 0, .ref (b 0), .ref (b 17)])), ((b 0), .inr (10, [.ref (b 1), .ref (b 2), .ref (b 3), .ref (b 4), .ref (b 5), .ref (b 6), .ref (b 7), .ref (b 8), .ref (b 9), .ref (b 10), .ref (b 11), .ref (b 12), .int 0, .int 0, .int (nI 0), .ref (b 13), .ref (b 14), .ref (b 16)])), ((b 9), .inl (g.2.1 0, 8, .inl (fun _ => 0))), ((b 10), .inl (g.2.1 0, 8, .inl (fun _ => 0))), ((b 17), .inr (8, [.int 0, .ref (g.2.2 0), .int 0])), (o, .inl (g.2.1 1, 1, .inr (.inl u1)))] := E
    obtain ⟨rfl, hU2⟩ := hp
    refine lv_istore (lv' := [(5, .int (kk_setBed (xs 1) (xs 2) (xs 3))), (0, .ref sb), (1, .ref x), (2, .ref m0), (3, .ref o), (4, .int 0)]) hx hb dL_law_551 hl (by decide) rfl (fun ls hl => ?_)
    refine lv_aload_n hx hb dL_law_553 rfl (lv_at hl 3 rfl) ?_
    refine lv_aload_n hx hb dL_law_554 rfl (lv_at hl 1 rfl) ?_
    refine lv_iload hx hb dL_law_555 (lv_at hl 5 rfl) ?_
    refine lv_iconst (v := 1) hx hb dL_law_557 (by decide) ?_
    refine k_iadd (v := 1) hx hb (by decide) dL_law_558 ?_
    refine va_sld hx hb hX hsb hbA E.2.2 (i := 1) (by unfold vp_in; decide) dL_law_559 ?_
    have hl := hl
    show W p l e room_1 s m #[.ref sb] below meth c H locs _ _ _ (F0 m 560 ls [.int (xs 1), .ref m0])
    refine lv_aload_n hx hb dL_law_560 rfl (lv_at hl 1 rfl) ?_
    refine lv_iload hx hb dL_law_561 (lv_at hl 5 rfl) ?_
    refine lv_iconst (v := 2) hx hb dL_law_563 (by decide) ?_
    refine k_iadd (v := 2) hx hb (by decide) dL_law_564 ?_
    refine va_sld hx hb hX hsb hbA E.2.2 (i := 2) (by unfold vp_in; decide) dL_law_565 ?_
    have hl := hl
    show W p l e room_1 s m #[.ref sb] below meth c H locs _ _ _ (F0 m 566 ls [.int (xs 2), .int (xs 1), .ref m0])
    refine lv_aload_n hx hb dL_law_566 rfl (lv_at hl 1 rfl) ?_
    refine lv_iload hx hb dL_law_567 (lv_at hl 5 rfl) ?_
    refine lv_iconst (v := 3) hx hb dL_law_569 (by decide) ?_
    refine k_iadd (v := 3) hx hb (by decide) dL_law_570 ?_
    refine va_sld hx hb hX hsb hbA E.2.2 (i := 3) (by unfold vp_in; decide) dL_law_571 ?_
    have hl := hl
    show W p l e room_1 s m #[.ref sb] below meth c H locs _ _ _ (F0 m 572 ls [.int (xs 3), .int (xs 2), .int (xs 1), .ref m0])
    refine w_reti (runV_X (As := [.int (xs 1), .int (xs 2), .int (xs 3)]) (rest := []) (q0 := 0) (n := 3) S hml hK (hZ.at E) (Cut.of (wc := [(m0, .inr (9, [.int 0, .ref (b 0), .ref (b 17)])), ((b 17), .inr (8, [.int 0, .ref (g.2.2 0), .int 0])), ((b 0), .inr (10, [.ref (b 1), .ref (b 2), .ref (b 3), .ref (b 4), .ref (b 5), .ref (b 6), .ref (b 7), .ref (b 8), .ref (b 9), .ref (b 10), .ref (b 11), .ref (b 12), .int 0, .int 0, .int (nI 0), .ref (b 13), .ref (b 14), .ref (b 16)])), ((b 9), .inl (g.2.1 0, 8, .inl (fun _ => 0))), ((b 10), .inl (g.2.1 0, 8, .inl (fun _ => 0)))]) (wr := [(o, .inl (g.2.1 1, 1, .inr (.inl u1)))]) E hA [0, 4, 1, 2, 3] [5] rfl rfl rfl rfl (by decide)) (c_X9_setBed l g m0 b (xs 1) (xs 2) (xs 3) _ _) (gi_wsV ml_L_129 im_X9_setBed sl_X9_setBed in_X9 co_X9_setBed) ⟨rfl, by decide +kernel, by decide +kernel, by decide +kernel⟩ ⟨Nat.le_of_ble_eq_true rfl, Nat.le_of_ble_eq_true rfl⟩ rfl rfl rfl hl.1 rfl (Nat.le_of_ble_eq_true rfl) dL_law_572 ⟨Nat.le_of_ble_eq_true rfl, Nat.le_of_ble_eq_true rfl⟩) (Cut.of (wc := [(m0, .inr (9, [.int 0, .ref (b 0), .ref (b 17)])), ((b 17), .inr (8, [.int 0, .ref (g.2.2 0), .int 0])), ((b 0), .inr (10, [.ref (b 1), .ref (b 2), .ref (b 3), .ref (b 4), .ref (b 5), .ref (b 6), .ref (b 7), .ref (b 8), .ref (b 9), .ref (b 10), .ref (b 11), .ref (b 12), .int 0, .int 0, .int (nI 0), .ref (b 13), .ref (b 14), .ref (b 16)])), ((b 9), .inl (g.2.1 0, 8, .inl (fun _ => 0))), ((b 10), .inl (g.2.1 0, 8, .inl (fun _ => 0)))]) (wr := [(o, .inl (g.2.1 1, 1, .inr (.inl u1)))]) E hA [0, 4, 1, 2, 3] [5] rfl rfl rfl rfl (by decide)) E (fun r3 u3 H locs hp E => ?_)
    have E : Ev g _ s.heap H locs [(o, .inl (g.2.1 1, 1, .inr (.inl u1))), (m0, .inr (9, [.int u3, .ref (b 0), .ref (b 17)]))] := E
    obtain ⟨rfl, hV4⟩ := hp
    refine lv_istore (lv' := [(6, .int r3), (5, .int (kk_setBed (xs 1) (xs 2) (xs 3))), (0, .ref sb), (1, .ref x), (2, .ref m0), (3, .ref o), (4, .int 0)]) hx hb dL_law_575 hl (by decide) rfl (fun ls hl => ?_)
    refine lv_aload_n hx hb dL_law_577 rfl (lv_at hl 4 rfl) ?_
    refine w_reti (runV_X (As := []) (rest := []) (q0 := 0) (n := 0) S hml hK (hZ.at E) (Cut.of (wc := [(m0, .inr (9, [.int (kk_setBed (xs 1) (xs 2) (xs 3)), .ref (b 0), .ref (b 17)]))]) (wr := [(o, .inl (g.2.1 1, 1, .inr (.inl u1)))]) E hA [1] [0] rfl rfl rfl rfl (by decide)) (c_X9_thrown l g m0 b (kk_setBed (xs 1) (xs 2) (xs 3)) _ _) (gi_wsV ml_L_109 im_X9_thrown sl_X9_thrown in_X9 co_X9_thrown) ⟨rfl, by decide +kernel, by decide +kernel, by decide +kernel⟩ ⟨Nat.le_of_ble_eq_true rfl, Nat.le_of_ble_eq_true rfl⟩ rfl rfl rfl hl.1 rfl (Nat.le_of_ble_eq_true rfl) dL_law_578 ⟨Nat.le_of_ble_eq_true rfl, Nat.le_of_ble_eq_true rfl⟩) (Cut.of (wc := [(m0, .inr (9, [.int (kk_setBed (xs 1) (xs 2) (xs 3)), .ref (b 0), .ref (b 17)]))]) (wr := [(o, .inl (g.2.1 1, 1, .inr (.inl u1)))]) E hA [1] [0] rfl rfl rfl rfl (by decide)) E (fun r5 u5 H locs hp E => ?_)
    have E : Ev g _ s.heap H locs [(o, .inl (g.2.1 1, 1, .inr (.inl u1))), (m0, .inr (9, [.int (kk_setBed (xs 1) (xs 2) (xs 3)), .ref (b 0), .ref (b 17)]))] := E
    subst hp
    refine lv_iload hx hb dL_law_581 (lv_at hl 1 rfl) ?_
    refine lv_icmp_eq (tgt := 588) hx hb dL_law_583 (by decide) (fun _ => ?_) (fun c_ => absurd rfl c_)
    refine lv_iload hx hb dL_law_588 (lv_at hl 1 rfl) ?_
    refine lv_if_ne (tgt := 605) hx hb dL_law_590 (by decide) (fun c6 => ?_) (fun c6 => ?_)
    · have c6 : ¬ ((kk_setBed (xs 1) (xs 2) (xs 3)) = 0) := c6
      refine lv_goto (tgt := 1762) hx hb dL_law_605 (by decide) ?_
      exact law_end C0 hsb hX E.2.2 (lv_sub hl [2, 6] rfl) (Nat.le_of_ble_eq_true rfl) (Nat.le_of_ble_eq_true rfl)
    · have c6 : (kk_setBed (xs 1) (xs 2) (xs 3)) = 0 := c6
      refine lv_aload_n hx hb dL_law_593 rfl (lv_at hl 5 rfl) ?_
      refine lv_iconst (v := 0) hx hb dL_law_594 (by decide) ?_
      refine w_lld (v := 0) S hK E 0 1 rfl rfl (show vp_in 0 1 by unfold vp_in; decide) (hU2 c6) dL_law_595 ?_
      refine lv_iload hx hb dL_law_596 (lv_at hl 0 rfl) ?_
      refine lv_i2l (v := 0) hx hb dL_law_598 ((congrArg Int32.toInt64 (hV4 c6)).trans (by decide)) ?_
      refine k_lcmp (v := 0) hx hb (by decide) dL_law_599 ?_
      refine lv_if_eq (tgt := 605) hx hb dL_law_600 (by decide) (fun _ => ?_) (fun c_ => absurd (show (0 : Int32) = 0 by decide) c_)
      refine lv_goto (tgt := 1762) hx hb dL_law_605 (by decide) ?_
      exact law_end C0 hsb hX E.2.2 (lv_sub hl [2, 6] rfl) (Nat.le_of_ble_eq_true rfl) (Nat.le_of_ble_eq_true rfl)
set_option maxHeartbeats 4000000 in
set_option maxRecDepth 100000 in
/-- case 6: setRiver -/
theorem law_6 {p : Program} {l : Launch} {e : Env} {s : State} {m : MethodId} {below : List Frame} {meth : Method} {c : Code} {sb : Nat} {xs : Nat → Int32} {H : Heap} {locs : List Loc} {ls : Array Slot} {g : Gm} {x dy wo m0 o : Nat} {ad bd b : Nat → Nat} {ea eb : Nat} {fo : Nat → Int64} (hst : l.stackTraces = false) (C0 : lw_At p s m meth c sb 5 xs) (S : Sta p c cL_law s #[.ref sb] RL m) (hK : va_K g.1 vwC (tysG g) s) (hZ : Zs g (fun q => s.heap.size ≤ q) s s.heap) (E : Ev g (fun q => s.heap.size ≤ q) s.heap H locs (lawW g x dy wo m0 o ad bd b ea eb fo)) (hl : lv_has ls 9 [(0, .ref sb), (1, .ref x), (2, .ref m0), (3, .ref o), (4, .int 0)]) : W p l e room_1 s m #[.ref sb] below meth c H locs 400 3000 (lw_Z below #[.ref sb] s) (F0 m 608 ls []) := by
  have hx := S.1
  have hb := S.2.1
  have hml : c.maxLocals = 9 := C0.2.2.2.1
  have hX : va_X sb 5 xs s s.heap := C0.2.2.2.2.2.2.1
  have hsb : sb < s.heap.size := C0.2.2.2.2.2.2.2.1
  have hbA : ¬ s.heap.size ≤ sb := Nat.not_le.mpr hsb
  have hA : ∀ q : Nat, s.heap.size ≤ q → s.heap.size ≤ q := fun _ h => h
  have E : Ev g (fun q => s.heap.size ≤ q) s.heap H locs ([(x, .inr (6, [.ref (ad 0), .ref (bd 0), .ref wo, .ref dy])), (dy, .inr (8, [.int 0, .ref (g.2.2 0), .int 0]))] ++ wsW g ad (-1) 1 0 ea σ0 ++ [(m0, .inr (9, [.int 0, .ref (b 0), .ref (b 17)])), ((b 0), .inr (10, [.ref (b 1), .ref (b 2), .ref (b 3), .ref (b 4), .ref (b 5), .ref (b 6), .ref (b 7), .ref (b 8), .ref (b 9), .ref (b 10), .ref (b 11), .ref (b 12), .int 0, .int 0, .int (nI 0), .ref (b 13), .ref (b 14), .ref (b 16)])), ((b 17), .inr (8, [.int 0, .ref (g.2.2 0), .int 0])), (o, .inl (g.2.1 1, 1, .inr (.inl fo)))]) := Ev.sub E [0, 1, 2, 3, 4, 5, 6, 7, 8, 9, 10, 11, 12, 13, 14, 15, 16, 17, 18, 19, 20, 21, 22, 23, 24, 25, 26, 27, 28, 29, 30, 31, 32, 64, 65, 82, 83] rfl rfl
  refine lv_aload_n hx hb dL_law_608 rfl (lv_at hl 1 rfl) ?_
  refine lv_aload_n hx hb dL_law_609 rfl (lv_at hl 0 rfl) ?_
  refine lv_iload hx hb dL_law_610 (lv_at hl 4 rfl) ?_
  refine lv_iconst (v := 1) hx hb dL_law_612 (by decide) ?_
  refine k_iadd (v := 1) hx hb (by decide) dL_law_613 ?_
  refine va_sld hx hb hX hsb hbA E.2.2 (i := 1) (by unfold vp_in; decide) dL_law_614 ?_
  have hl := hl
  show W p l e room_1 s m #[.ref sb] below meth c H locs _ _ _ (F0 m 615 ls [.int (xs 1), .ref x])
  refine lv_aload_n hx hb dL_law_615 rfl (lv_at hl 3 rfl) ?_
  refine y_reti (yrunH (As := [.ref x, .int (xs 1), .ref o]) (rest := []) (n := 3) S hml hK (hZ.at E) (Cut.of (wc := ([(x, .inr (6, [.ref (ad 0), .ref (bd 0), .ref wo, .ref dy])), (dy, .inr (8, [.int 0, .ref (g.2.2 0), .int 0]))] ++ wsW g ad (-1) 1 0 ea σ0 ++ [(o, .inl (g.2.1 1, 1, .inr (.inl fo)))])) (wr := [(m0, .inr (9, [.int 0, .ref (b 0), .ref (b 17)])), ((b 0), .inr (10, [.ref (b 1), .ref (b 2), .ref (b 3), .ref (b 4), .ref (b 5), .ref (b 6), .ref (b 7), .ref (b 8), .ref (b 9), .ref (b 10), .ref (b 11), .ref (b 12), .int 0, .int 0, .int (nI 0), .ref (b 13), .ref (b 14), .ref (b 16)])), ((b 17), .inr (8, [.int 0, .ref (g.2.2 0), .int 0]))]) E hA [0, 1, 2, 3, 4, 5, 6, 7, 8, 9, 10, 11, 12, 13, 14, 15, 16, 17, 18, 19, 20, 21, 22, 23, 24, 25, 26, 27, 28, 29, 30, 31, 32, 36] [33, 34, 35] rfl rfl rfl rfl (by decide)) (c_L_setRiver l g hst x (bd 0) wo dy ad ea (xs 1) o fo _ _) ml_L_130 st_L_setRiver in_L rfl co_L_setRiver ⟨by decide +kernel, by decide +kernel, by decide +kernel⟩ ⟨Nat.le_of_ble_eq_true rfl, Nat.le_of_ble_eq_true rfl⟩ rfl hl.1 rfl (Nat.le_of_ble_eq_true rfl) dL_law_616 ⟨Nat.le_of_ble_eq_true rfl, Nat.le_of_ble_eq_true rfl⟩) (Cut.of (wc := ([(x, .inr (6, [.ref (ad 0), .ref (bd 0), .ref wo, .ref dy])), (dy, .inr (8, [.int 0, .ref (g.2.2 0), .int 0]))] ++ wsW g ad (-1) 1 0 ea σ0 ++ [(o, .inl (g.2.1 1, 1, .inr (.inl fo)))])) (wr := [(m0, .inr (9, [.int 0, .ref (b 0), .ref (b 17)])), ((b 0), .inr (10, [.ref (b 1), .ref (b 2), .ref (b 3), .ref (b 4), .ref (b 5), .ref (b 6), .ref (b 7), .ref (b 8), .ref (b 9), .ref (b 10), .ref (b 11), .ref (b 12), .int 0, .int 0, .int (nI 0), .ref (b 13), .ref (b 14), .ref (b 16)])), ((b 17), .inr (8, [.int 0, .ref (g.2.2 0), .int 0]))]) E hA [0, 1, 2, 3, 4, 5, 6, 7, 8, 9, 10, 11, 12, 13, 14, 15, 16, 17, 18, 19, 20, 21, 22, 23, 24, 25, 26, 27, 28, 29, 30, 31, 32, 36] [33, 34, 35] rfl rfl rfl rfl (by decide)) E (fun En ce q9 H locs hp E hce hcv hcl => ?_) (fun r1 u1 H locs hp E => ?_)
  · have E : Ev g _ s.heap H locs [(m0, .inr (9, [.int 0, .ref (b 0), .ref (b 17)])), ((b 0), .inr (10, [.ref (b 1), .ref (b 2), .ref (b 3), .ref (b 4), .ref (b 5), .ref (b 6), .ref (b 7), .ref (b 8), .ref (b 9), .ref (b 10), .ref (b 11), .ref (b 12), .int 0, .int 0, .int (nI 0), .ref (b 13), .ref (b 14), .ref (b 16)])), ((b 17), .inr (8, [.int 0, .ref (g.2.2 0), .int 0]))] := E
    exact False.elim hp
  · skip
    have E : Ev g _ s.heap H locs [(m0, .inr (9, [.int 0, .ref (b 0), .ref (b 17)])), ((b 0), .inr (10, [.ref (b 1), .ref (b 2), .ref (b 3), .ref (b 4), .ref (b 5), .ref (b 6), .ref (b 7), .ref (b 8), .ref (b 9), .ref (b 10), .ref (b 11), .ref (b 12), .int 0, .int 0, .int (nI 0), .ref (b 13), .ref (b 14), .ref (b 16)])), ((b 17), .inr (8, [.int 0, .ref (g.2.2 0), .int 0])), (o, .inl (g.2.1 1, 1, .inr (.inl u1)))] := E
    obtain ⟨rfl, hU2⟩ := hp
    refine lv_istore (lv' := [(5, .int (kk_setRiver (xs 1))), (0, .ref sb), (1, .ref x), (2, .ref m0), (3, .ref o), (4, .int 0)]) hx hb dL_law_619 hl (by decide) rfl (fun ls hl => ?_)
    refine lv_aload_n hx hb dL_law_621 rfl (lv_at hl 3 rfl) ?_
    refine lv_aload_n hx hb dL_law_622 rfl (lv_at hl 1 rfl) ?_
    refine lv_iload hx hb dL_law_623 (lv_at hl 5 rfl) ?_
    refine lv_iconst (v := 1) hx hb dL_law_625 (by decide) ?_
    refine k_iadd (v := 1) hx hb (by decide) dL_law_626 ?_
    refine va_sld hx hb hX hsb hbA E.2.2 (i := 1) (by unfold vp_in; decide) dL_law_627 ?_
    have hl := hl
    show W p l e room_1 s m #[.ref sb] below meth c H locs _ _ _ (F0 m 628 ls [.int (xs 1), .ref m0])
    refine w_reti (runV_X (As := [.int (xs 1)]) (rest := []) (q0 := 0) (n := 1) S hml hK (hZ.at E) (Cut.of (wc := [(m0, .inr (9, [.int 0, .ref (b 0), .ref (b 17)])), ((b 17), .inr (8, [.int 0, .ref (g.2.2 0), .int 0])), ((b 0), .inr (10, [.ref (b 1), .ref (b 2), .ref (b 3), .ref (b 4), .ref (b 5), .ref (b 6), .ref (b 7), .ref (b 8), .ref (b 9), .ref (b 10), .ref (b 11), .ref (b 12), .int 0, .int 0, .int (nI 0), .ref (b 13), .ref (b 14), .ref (b 16)]))]) (wr := [(o, .inl (g.2.1 1, 1, .inr (.inl u1)))]) E hA [0, 2, 1] [3] rfl rfl rfl rfl (by decide)) (c_X9_setRiver l g m0 b (xs 1) _ _) (gi_wsV ml_L_133 im_X9_setRiver sl_X9_setRiver in_X9 co_X9_setRiver) ⟨rfl, by decide +kernel, by decide +kernel, by decide +kernel⟩ ⟨Nat.le_of_ble_eq_true rfl, Nat.le_of_ble_eq_true rfl⟩ rfl rfl rfl hl.1 rfl (Nat.le_of_ble_eq_true rfl) dL_law_628 ⟨Nat.le_of_ble_eq_true rfl, Nat.le_of_ble_eq_true rfl⟩) (Cut.of (wc := [(m0, .inr (9, [.int 0, .ref (b 0), .ref (b 17)])), ((b 17), .inr (8, [.int 0, .ref (g.2.2 0), .int 0])), ((b 0), .inr (10, [.ref (b 1), .ref (b 2), .ref (b 3), .ref (b 4), .ref (b 5), .ref (b 6), .ref (b 7), .ref (b 8), .ref (b 9), .ref (b 10), .ref (b 11), .ref (b 12), .int 0, .int 0, .int (nI 0), .ref (b 13), .ref (b 14), .ref (b 16)]))]) (wr := [(o, .inl (g.2.1 1, 1, .inr (.inl u1)))]) E hA [0, 2, 1] [3] rfl rfl rfl rfl (by decide)) E (fun r3 u3 H locs hp E => ?_)
    have E : Ev g _ s.heap H locs [(o, .inl (g.2.1 1, 1, .inr (.inl u1))), (m0, .inr (9, [.int u3, .ref (b 0), .ref (b 17)]))] := E
    obtain ⟨rfl, hV4⟩ := hp
    refine lv_istore (lv' := [(6, .int r3), (5, .int (kk_setRiver (xs 1))), (0, .ref sb), (1, .ref x), (2, .ref m0), (3, .ref o), (4, .int 0)]) hx hb dL_law_631 hl (by decide) rfl (fun ls hl => ?_)
    refine lv_aload_n hx hb dL_law_633 rfl (lv_at hl 4 rfl) ?_
    refine w_reti (runV_X (As := []) (rest := []) (q0 := 0) (n := 0) S hml hK (hZ.at E) (Cut.of (wc := [(m0, .inr (9, [.int (kk_setRiver (xs 1)), .ref (b 0), .ref (b 17)]))]) (wr := [(o, .inl (g.2.1 1, 1, .inr (.inl u1)))]) E hA [1] [0] rfl rfl rfl rfl (by decide)) (c_X9_thrown l g m0 b (kk_setRiver (xs 1)) _ _) (gi_wsV ml_L_109 im_X9_thrown sl_X9_thrown in_X9 co_X9_thrown) ⟨rfl, by decide +kernel, by decide +kernel, by decide +kernel⟩ ⟨Nat.le_of_ble_eq_true rfl, Nat.le_of_ble_eq_true rfl⟩ rfl rfl rfl hl.1 rfl (Nat.le_of_ble_eq_true rfl) dL_law_634 ⟨Nat.le_of_ble_eq_true rfl, Nat.le_of_ble_eq_true rfl⟩) (Cut.of (wc := [(m0, .inr (9, [.int (kk_setRiver (xs 1)), .ref (b 0), .ref (b 17)]))]) (wr := [(o, .inl (g.2.1 1, 1, .inr (.inl u1)))]) E hA [1] [0] rfl rfl rfl rfl (by decide)) E (fun r5 u5 H locs hp E => ?_)
    have E : Ev g _ s.heap H locs [(o, .inl (g.2.1 1, 1, .inr (.inl u1))), (m0, .inr (9, [.int (kk_setRiver (xs 1)), .ref (b 0), .ref (b 17)]))] := E
    subst hp
    refine lv_iload hx hb dL_law_637 (lv_at hl 1 rfl) ?_
    refine lv_icmp_eq (tgt := 644) hx hb dL_law_639 (by decide) (fun _ => ?_) (fun c_ => absurd rfl c_)
    refine lv_iload hx hb dL_law_644 (lv_at hl 1 rfl) ?_
    refine lv_if_ne (tgt := 661) hx hb dL_law_646 (by decide) (fun c6 => ?_) (fun c6 => ?_)
    · have c6 : ¬ ((kk_setRiver (xs 1)) = 0) := c6
      refine lv_goto (tgt := 1762) hx hb dL_law_661 (by decide) ?_
      exact law_end C0 hsb hX E.2.2 (lv_sub hl [2, 6] rfl) (Nat.le_of_ble_eq_true rfl) (Nat.le_of_ble_eq_true rfl)
    · have c6 : (kk_setRiver (xs 1)) = 0 := c6
      refine lv_aload_n hx hb dL_law_649 rfl (lv_at hl 5 rfl) ?_
      refine lv_iconst (v := 0) hx hb dL_law_650 (by decide) ?_
      refine w_lld (v := 0) S hK E 0 1 rfl rfl (show vp_in 0 1 by unfold vp_in; decide) (hU2 c6) dL_law_651 ?_
      refine lv_iload hx hb dL_law_652 (lv_at hl 0 rfl) ?_
      refine lv_i2l (v := 0) hx hb dL_law_654 ((congrArg Int32.toInt64 (hV4 c6)).trans (by decide)) ?_
      refine k_lcmp (v := 0) hx hb (by decide) dL_law_655 ?_
      refine lv_if_eq (tgt := 661) hx hb dL_law_656 (by decide) (fun _ => ?_) (fun c_ => absurd (show (0 : Int32) = 0 by decide) c_)
      refine lv_goto (tgt := 1762) hx hb dL_law_661 (by decide) ?_
      exact law_end C0 hsb hX E.2.2 (lv_sub hl [2, 6] rfl) (Nat.le_of_ble_eq_true rfl) (Nat.le_of_ble_eq_true rfl)
set_option maxHeartbeats 4000000 in
set_option maxRecDepth 100000 in
/-- case 7: setSea -/
theorem law_7 {p : Program} {l : Launch} {e : Env} {s : State} {m : MethodId} {below : List Frame} {meth : Method} {c : Code} {sb : Nat} {xs : Nat → Int32} {H : Heap} {locs : List Loc} {ls : Array Slot} {g : Gm} {x dy wo m0 o : Nat} {ad bd b : Nat → Nat} {ea eb : Nat} {fo : Nat → Int64} (hst : l.stackTraces = false) (C0 : lw_At p s m meth c sb 5 xs) (S : Sta p c cL_law s #[.ref sb] RL m) (hK : va_K g.1 vwC (tysG g) s) (hZ : Zs g (fun q => s.heap.size ≤ q) s s.heap) (E : Ev g (fun q => s.heap.size ≤ q) s.heap H locs (lawW g x dy wo m0 o ad bd b ea eb fo)) (hl : lv_has ls 9 [(0, .ref sb), (1, .ref x), (2, .ref m0), (3, .ref o), (4, .int 0)]) : W p l e room_1 s m #[.ref sb] below meth c H locs 400 3000 (lw_Z below #[.ref sb] s) (F0 m 664 ls []) := by
  have hx := S.1
  have hb := S.2.1
  have hml : c.maxLocals = 9 := C0.2.2.2.1
  have hX : va_X sb 5 xs s s.heap := C0.2.2.2.2.2.2.1
  have hsb : sb < s.heap.size := C0.2.2.2.2.2.2.2.1
  have hbA : ¬ s.heap.size ≤ sb := Nat.not_le.mpr hsb
  have hA : ∀ q : Nat, s.heap.size ≤ q → s.heap.size ≤ q := fun _ h => h
  have E : Ev g (fun q => s.heap.size ≤ q) s.heap H locs ([(x, .inr (6, [.ref (ad 0), .ref (bd 0), .ref wo, .ref dy])), (dy, .inr (8, [.int 0, .ref (g.2.2 0), .int 0]))] ++ wsW g ad (-1) 1 0 ea σ0 ++ [(m0, .inr (9, [.int 0, .ref (b 0), .ref (b 17)])), ((b 0), .inr (10, [.ref (b 1), .ref (b 2), .ref (b 3), .ref (b 4), .ref (b 5), .ref (b 6), .ref (b 7), .ref (b 8), .ref (b 9), .ref (b 10), .ref (b 11), .ref (b 12), .int 0, .int 0, .int (nI 0), .ref (b 13), .ref (b 14), .ref (b 16)])), ((b 17), .inr (8, [.int 0, .ref (g.2.2 0), .int 0])), (o, .inl (g.2.1 1, 1, .inr (.inl fo)))]) := Ev.sub E [0, 1, 2, 3, 4, 5, 6, 7, 8, 9, 10, 11, 12, 13, 14, 15, 16, 17, 18, 19, 20, 21, 22, 23, 24, 25, 26, 27, 28, 29, 30, 31, 32, 64, 65, 82, 83] rfl rfl
  refine lv_aload_n hx hb dL_law_664 rfl (lv_at hl 1 rfl) ?_
  refine lv_aload_n hx hb dL_law_665 rfl (lv_at hl 0 rfl) ?_
  refine lv_iload hx hb dL_law_666 (lv_at hl 4 rfl) ?_
  refine lv_iconst (v := 1) hx hb dL_law_668 (by decide) ?_
  refine k_iadd (v := 1) hx hb (by decide) dL_law_669 ?_
  refine va_sld hx hb hX hsb hbA E.2.2 (i := 1) (by unfold vp_in; decide) dL_law_670 ?_
  have hl := hl
  show W p l e room_1 s m #[.ref sb] below meth c H locs _ _ _ (F0 m 671 ls [.int (xs 1), .ref x])
  refine lv_aload_n hx hb dL_law_671 rfl (lv_at hl 3 rfl) ?_
  refine y_reti (yrunH (As := [.ref x, .int (xs 1), .ref o]) (rest := []) (n := 3) S hml hK (hZ.at E) (Cut.of (wc := ([(x, .inr (6, [.ref (ad 0), .ref (bd 0), .ref wo, .ref dy])), (dy, .inr (8, [.int 0, .ref (g.2.2 0), .int 0]))] ++ wsW g ad (-1) 1 0 ea σ0 ++ [(o, .inl (g.2.1 1, 1, .inr (.inl fo)))])) (wr := [(m0, .inr (9, [.int 0, .ref (b 0), .ref (b 17)])), ((b 0), .inr (10, [.ref (b 1), .ref (b 2), .ref (b 3), .ref (b 4), .ref (b 5), .ref (b 6), .ref (b 7), .ref (b 8), .ref (b 9), .ref (b 10), .ref (b 11), .ref (b 12), .int 0, .int 0, .int (nI 0), .ref (b 13), .ref (b 14), .ref (b 16)])), ((b 17), .inr (8, [.int 0, .ref (g.2.2 0), .int 0]))]) E hA [0, 1, 2, 3, 4, 5, 6, 7, 8, 9, 10, 11, 12, 13, 14, 15, 16, 17, 18, 19, 20, 21, 22, 23, 24, 25, 26, 27, 28, 29, 30, 31, 32, 36] [33, 34, 35] rfl rfl rfl rfl (by decide)) (c_L_setSea l g hst x (bd 0) wo dy ad ea (xs 1) o fo _ _) ml_L_134 st_L_setSea in_L rfl co_L_setSea ⟨by decide +kernel, by decide +kernel, by decide +kernel⟩ ⟨Nat.le_of_ble_eq_true rfl, Nat.le_of_ble_eq_true rfl⟩ rfl hl.1 rfl (Nat.le_of_ble_eq_true rfl) dL_law_672 ⟨Nat.le_of_ble_eq_true rfl, Nat.le_of_ble_eq_true rfl⟩) (Cut.of (wc := ([(x, .inr (6, [.ref (ad 0), .ref (bd 0), .ref wo, .ref dy])), (dy, .inr (8, [.int 0, .ref (g.2.2 0), .int 0]))] ++ wsW g ad (-1) 1 0 ea σ0 ++ [(o, .inl (g.2.1 1, 1, .inr (.inl fo)))])) (wr := [(m0, .inr (9, [.int 0, .ref (b 0), .ref (b 17)])), ((b 0), .inr (10, [.ref (b 1), .ref (b 2), .ref (b 3), .ref (b 4), .ref (b 5), .ref (b 6), .ref (b 7), .ref (b 8), .ref (b 9), .ref (b 10), .ref (b 11), .ref (b 12), .int 0, .int 0, .int (nI 0), .ref (b 13), .ref (b 14), .ref (b 16)])), ((b 17), .inr (8, [.int 0, .ref (g.2.2 0), .int 0]))]) E hA [0, 1, 2, 3, 4, 5, 6, 7, 8, 9, 10, 11, 12, 13, 14, 15, 16, 17, 18, 19, 20, 21, 22, 23, 24, 25, 26, 27, 28, 29, 30, 31, 32, 36] [33, 34, 35] rfl rfl rfl rfl (by decide)) E (fun En ce q9 H locs hp E hce hcv hcl => ?_) (fun r1 u1 H locs hp E => ?_)
  · have E : Ev g _ s.heap H locs [(m0, .inr (9, [.int 0, .ref (b 0), .ref (b 17)])), ((b 0), .inr (10, [.ref (b 1), .ref (b 2), .ref (b 3), .ref (b 4), .ref (b 5), .ref (b 6), .ref (b 7), .ref (b 8), .ref (b 9), .ref (b 10), .ref (b 11), .ref (b 12), .int 0, .int 0, .int (nI 0), .ref (b 13), .ref (b 14), .ref (b 16)])), ((b 17), .inr (8, [.int 0, .ref (g.2.2 0), .int 0]))] := E
    exact False.elim hp
  · skip
    have E : Ev g _ s.heap H locs [(m0, .inr (9, [.int 0, .ref (b 0), .ref (b 17)])), ((b 0), .inr (10, [.ref (b 1), .ref (b 2), .ref (b 3), .ref (b 4), .ref (b 5), .ref (b 6), .ref (b 7), .ref (b 8), .ref (b 9), .ref (b 10), .ref (b 11), .ref (b 12), .int 0, .int 0, .int (nI 0), .ref (b 13), .ref (b 14), .ref (b 16)])), ((b 17), .inr (8, [.int 0, .ref (g.2.2 0), .int 0])), (o, .inl (g.2.1 1, 1, .inr (.inl u1)))] := E
    obtain ⟨rfl, hU2⟩ := hp
    refine lv_istore (lv' := [(5, .int (kk_setSea (xs 1))), (0, .ref sb), (1, .ref x), (2, .ref m0), (3, .ref o), (4, .int 0)]) hx hb dL_law_675 hl (by decide) rfl (fun ls hl => ?_)
    refine lv_aload_n hx hb dL_law_677 rfl (lv_at hl 3 rfl) ?_
    refine lv_aload_n hx hb dL_law_678 rfl (lv_at hl 1 rfl) ?_
    refine lv_iload hx hb dL_law_679 (lv_at hl 5 rfl) ?_
    refine lv_iconst (v := 1) hx hb dL_law_681 (by decide) ?_
    refine k_iadd (v := 1) hx hb (by decide) dL_law_682 ?_
    refine va_sld hx hb hX hsb hbA E.2.2 (i := 1) (by unfold vp_in; decide) dL_law_683 ?_
    have hl := hl
    show W p l e room_1 s m #[.ref sb] below meth c H locs _ _ _ (F0 m 684 ls [.int (xs 1), .ref m0])
    refine w_reti (runV_X (As := [.int (xs 1)]) (rest := []) (q0 := 0) (n := 1) S hml hK (hZ.at E) (Cut.of (wc := [(m0, .inr (9, [.int 0, .ref (b 0), .ref (b 17)])), ((b 17), .inr (8, [.int 0, .ref (g.2.2 0), .int 0])), ((b 0), .inr (10, [.ref (b 1), .ref (b 2), .ref (b 3), .ref (b 4), .ref (b 5), .ref (b 6), .ref (b 7), .ref (b 8), .ref (b 9), .ref (b 10), .ref (b 11), .ref (b 12), .int 0, .int 0, .int (nI 0), .ref (b 13), .ref (b 14), .ref (b 16)]))]) (wr := [(o, .inl (g.2.1 1, 1, .inr (.inl u1)))]) E hA [0, 2, 1] [3] rfl rfl rfl rfl (by decide)) (c_X9_setSea l g m0 b (xs 1) _ _) (gi_wsV ml_L_136 im_X9_setSea sl_X9_setSea in_X9 co_X9_setSea) ⟨rfl, by decide +kernel, by decide +kernel, by decide +kernel⟩ ⟨Nat.le_of_ble_eq_true rfl, Nat.le_of_ble_eq_true rfl⟩ rfl rfl rfl hl.1 rfl (Nat.le_of_ble_eq_true rfl) dL_law_684 ⟨Nat.le_of_ble_eq_true rfl, Nat.le_of_ble_eq_true rfl⟩) (Cut.of (wc := [(m0, .inr (9, [.int 0, .ref (b 0), .ref (b 17)])), ((b 17), .inr (8, [.int 0, .ref (g.2.2 0), .int 0])), ((b 0), .inr (10, [.ref (b 1), .ref (b 2), .ref (b 3), .ref (b 4), .ref (b 5), .ref (b 6), .ref (b 7), .ref (b 8), .ref (b 9), .ref (b 10), .ref (b 11), .ref (b 12), .int 0, .int 0, .int (nI 0), .ref (b 13), .ref (b 14), .ref (b 16)]))]) (wr := [(o, .inl (g.2.1 1, 1, .inr (.inl u1)))]) E hA [0, 2, 1] [3] rfl rfl rfl rfl (by decide)) E (fun r3 u3 H locs hp E => ?_)
    have E : Ev g _ s.heap H locs [(o, .inl (g.2.1 1, 1, .inr (.inl u1))), (m0, .inr (9, [.int u3, .ref (b 0), .ref (b 17)]))] := E
    obtain ⟨rfl, hV4⟩ := hp
    refine lv_istore (lv' := [(6, .int r3), (5, .int (kk_setSea (xs 1))), (0, .ref sb), (1, .ref x), (2, .ref m0), (3, .ref o), (4, .int 0)]) hx hb dL_law_687 hl (by decide) rfl (fun ls hl => ?_)
    refine lv_aload_n hx hb dL_law_689 rfl (lv_at hl 4 rfl) ?_
    refine w_reti (runV_X (As := []) (rest := []) (q0 := 0) (n := 0) S hml hK (hZ.at E) (Cut.of (wc := [(m0, .inr (9, [.int (kk_setSea (xs 1)), .ref (b 0), .ref (b 17)]))]) (wr := [(o, .inl (g.2.1 1, 1, .inr (.inl u1)))]) E hA [1] [0] rfl rfl rfl rfl (by decide)) (c_X9_thrown l g m0 b (kk_setSea (xs 1)) _ _) (gi_wsV ml_L_109 im_X9_thrown sl_X9_thrown in_X9 co_X9_thrown) ⟨rfl, by decide +kernel, by decide +kernel, by decide +kernel⟩ ⟨Nat.le_of_ble_eq_true rfl, Nat.le_of_ble_eq_true rfl⟩ rfl rfl rfl hl.1 rfl (Nat.le_of_ble_eq_true rfl) dL_law_690 ⟨Nat.le_of_ble_eq_true rfl, Nat.le_of_ble_eq_true rfl⟩) (Cut.of (wc := [(m0, .inr (9, [.int (kk_setSea (xs 1)), .ref (b 0), .ref (b 17)]))]) (wr := [(o, .inl (g.2.1 1, 1, .inr (.inl u1)))]) E hA [1] [0] rfl rfl rfl rfl (by decide)) E (fun r5 u5 H locs hp E => ?_)
    have E : Ev g _ s.heap H locs [(o, .inl (g.2.1 1, 1, .inr (.inl u1))), (m0, .inr (9, [.int (kk_setSea (xs 1)), .ref (b 0), .ref (b 17)]))] := E
    subst hp
    refine lv_iload hx hb dL_law_693 (lv_at hl 1 rfl) ?_
    refine lv_icmp_eq (tgt := 700) hx hb dL_law_695 (by decide) (fun _ => ?_) (fun c_ => absurd rfl c_)
    refine lv_iload hx hb dL_law_700 (lv_at hl 1 rfl) ?_
    refine lv_if_ne (tgt := 717) hx hb dL_law_702 (by decide) (fun c6 => ?_) (fun c6 => ?_)
    · have c6 : ¬ ((kk_setSea (xs 1)) = 0) := c6
      refine lv_goto (tgt := 1762) hx hb dL_law_717 (by decide) ?_
      exact law_end C0 hsb hX E.2.2 (lv_sub hl [2, 6] rfl) (Nat.le_of_ble_eq_true rfl) (Nat.le_of_ble_eq_true rfl)
    · have c6 : (kk_setSea (xs 1)) = 0 := c6
      refine lv_aload_n hx hb dL_law_705 rfl (lv_at hl 5 rfl) ?_
      refine lv_iconst (v := 0) hx hb dL_law_706 (by decide) ?_
      refine w_lld (v := 0) S hK E 0 1 rfl rfl (show vp_in 0 1 by unfold vp_in; decide) (hU2 c6) dL_law_707 ?_
      refine lv_iload hx hb dL_law_708 (lv_at hl 0 rfl) ?_
      refine lv_i2l (v := 0) hx hb dL_law_710 ((congrArg Int32.toInt64 (hV4 c6)).trans (by decide)) ?_
      refine k_lcmp (v := 0) hx hb (by decide) dL_law_711 ?_
      refine lv_if_eq (tgt := 717) hx hb dL_law_712 (by decide) (fun _ => ?_) (fun c_ => absurd (show (0 : Int32) = 0 by decide) c_)
      refine lv_goto (tgt := 1762) hx hb dL_law_717 (by decide) ?_
      exact law_end C0 hsb hX E.2.2 (lv_sub hl [2, 6] rfl) (Nat.le_of_ble_eq_true rfl) (Nat.le_of_ble_eq_true rfl)
set_option maxHeartbeats 4000000 in
set_option maxRecDepth 100000 in
/-- case 8: addWell -/
theorem law_8 {p : Program} {l : Launch} {e : Env} {s : State} {m : MethodId} {below : List Frame} {meth : Method} {c : Code} {sb : Nat} {xs : Nat → Int32} {H : Heap} {locs : List Loc} {ls : Array Slot} {g : Gm} {x dy wo m0 o : Nat} {ad bd b : Nat → Nat} {ea eb : Nat} {fo : Nat → Int64} (hst : l.stackTraces = false) (C0 : lw_At p s m meth c sb 5 xs) (S : Sta p c cL_law s #[.ref sb] RL m) (hK : va_K g.1 vwC (tysG g) s) (hZ : Zs g (fun q => s.heap.size ≤ q) s s.heap) (E : Ev g (fun q => s.heap.size ≤ q) s.heap H locs (lawW g x dy wo m0 o ad bd b ea eb fo)) (hl : lv_has ls 9 [(0, .ref sb), (1, .ref x), (2, .ref m0), (3, .ref o), (4, .int 0)]) : W p l e room_1 s m #[.ref sb] below meth c H locs 400 3000 (lw_Z below #[.ref sb] s) (F0 m 720 ls []) := by
  have hx := S.1
  have hb := S.2.1
  have hml : c.maxLocals = 9 := C0.2.2.2.1
  have hX : va_X sb 5 xs s s.heap := C0.2.2.2.2.2.2.1
  have hsb : sb < s.heap.size := C0.2.2.2.2.2.2.2.1
  have hbA : ¬ s.heap.size ≤ sb := Nat.not_le.mpr hsb
  have hA : ∀ q : Nat, s.heap.size ≤ q → s.heap.size ≤ q := fun _ h => h
  have E : Ev g (fun q => s.heap.size ≤ q) s.heap H locs ([(x, .inr (6, [.ref (ad 0), .ref (bd 0), .ref wo, .ref dy])), (dy, .inr (8, [.int 0, .ref (g.2.2 0), .int 0]))] ++ wsW g ad (-1) 1 0 ea σ0 ++ [(m0, .inr (9, [.int 0, .ref (b 0), .ref (b 17)])), ((b 0), .inr (10, [.ref (b 1), .ref (b 2), .ref (b 3), .ref (b 4), .ref (b 5), .ref (b 6), .ref (b 7), .ref (b 8), .ref (b 9), .ref (b 10), .ref (b 11), .ref (b 12), .int 0, .int 0, .int (nI 0), .ref (b 13), .ref (b 14), .ref (b 16)])), ((b 13), .inr (8, [.int 0, .ref (g.2.2 0), .int 0])), ((b 17), .inr (8, [.int 0, .ref (g.2.2 0), .int 0])), (o, .inl (g.2.1 1, 1, .inr (.inl fo)))]) := Ev.sub E [0, 1, 2, 3, 4, 5, 6, 7, 8, 9, 10, 11, 12, 13, 14, 15, 16, 17, 18, 19, 20, 21, 22, 23, 24, 25, 26, 27, 28, 29, 30, 31, 32, 64, 65, 78, 82, 83] rfl rfl
  refine lv_aload_n hx hb dL_law_720 rfl (lv_at hl 1 rfl) ?_
  refine lv_aload_n hx hb dL_law_721 rfl (lv_at hl 0 rfl) ?_
  refine lv_iload hx hb dL_law_722 (lv_at hl 4 rfl) ?_
  refine lv_iconst (v := 1) hx hb dL_law_724 (by decide) ?_
  refine k_iadd (v := 1) hx hb (by decide) dL_law_725 ?_
  refine va_sld hx hb hX hsb hbA E.2.2 (i := 1) (by unfold vp_in; decide) dL_law_726 ?_
  have hl := hl
  show W p l e room_1 s m #[.ref sb] below meth c H locs _ _ _ (F0 m 727 ls [.int (xs 1), .ref x])
  refine lv_aload_n hx hb dL_law_727 rfl (lv_at hl 0 rfl) ?_
  refine lv_iload hx hb dL_law_728 (lv_at hl 4 rfl) ?_
  refine lv_iconst (v := 2) hx hb dL_law_730 (by decide) ?_
  refine k_iadd (v := 2) hx hb (by decide) dL_law_731 ?_
  refine va_sld hx hb hX hsb hbA E.2.2 (i := 2) (by unfold vp_in; decide) dL_law_732 ?_
  have hl := hl
  show W p l e room_1 s m #[.ref sb] below meth c H locs _ _ _ (F0 m 733 ls [.int (xs 2), .int (xs 1), .ref x])
  refine lv_aload_n hx hb dL_law_733 rfl (lv_at hl 0 rfl) ?_
  refine lv_iload hx hb dL_law_734 (lv_at hl 4 rfl) ?_
  refine lv_iconst (v := 3) hx hb dL_law_736 (by decide) ?_
  refine k_iadd (v := 3) hx hb (by decide) dL_law_737 ?_
  refine va_sld hx hb hX hsb hbA E.2.2 (i := 3) (by unfold vp_in; decide) dL_law_738 ?_
  have hl := hl
  show W p l e room_1 s m #[.ref sb] below meth c H locs _ _ _ (F0 m 739 ls [.int (xs 3), .int (xs 2), .int (xs 1), .ref x])
  refine lv_aload_n hx hb dL_law_739 rfl (lv_at hl 3 rfl) ?_
  refine y_reti (yrunH (As := [.ref x, .int (xs 1), .int (xs 2), .int (xs 3), .ref o]) (rest := []) (n := 5) S hml hK (hZ.at E) (Cut.of (wc := ([(x, .inr (6, [.ref (ad 0), .ref (bd 0), .ref wo, .ref dy])), (dy, .inr (8, [.int 0, .ref (g.2.2 0), .int 0]))] ++ wsW g ad (-1) 1 0 ea σ0 ++ [(o, .inl (g.2.1 1, 1, .inr (.inl fo)))])) (wr := [(m0, .inr (9, [.int 0, .ref (b 0), .ref (b 17)])), ((b 0), .inr (10, [.ref (b 1), .ref (b 2), .ref (b 3), .ref (b 4), .ref (b 5), .ref (b 6), .ref (b 7), .ref (b 8), .ref (b 9), .ref (b 10), .ref (b 11), .ref (b 12), .int 0, .int 0, .int (nI 0), .ref (b 13), .ref (b 14), .ref (b 16)])), ((b 13), .inr (8, [.int 0, .ref (g.2.2 0), .int 0])), ((b 17), .inr (8, [.int 0, .ref (g.2.2 0), .int 0]))]) E hA [0, 1, 2, 3, 4, 5, 6, 7, 8, 9, 10, 11, 12, 13, 14, 15, 16, 17, 18, 19, 20, 21, 22, 23, 24, 25, 26, 27, 28, 29, 30, 31, 32, 37] [33, 34, 35, 36] rfl rfl rfl rfl (by decide)) (c_L_addWell l g hst x (bd 0) wo dy ad ea (xs 1) (xs 2) (xs 3) o fo _ _) ml_L_137 st_L_addWell in_L rfl co_L_addWell ⟨by decide +kernel, by decide +kernel, by decide +kernel⟩ ⟨Nat.le_of_ble_eq_true rfl, Nat.le_of_ble_eq_true rfl⟩ rfl hl.1 rfl (Nat.le_of_ble_eq_true rfl) dL_law_740 ⟨Nat.le_of_ble_eq_true rfl, Nat.le_of_ble_eq_true rfl⟩) (Cut.of (wc := ([(x, .inr (6, [.ref (ad 0), .ref (bd 0), .ref wo, .ref dy])), (dy, .inr (8, [.int 0, .ref (g.2.2 0), .int 0]))] ++ wsW g ad (-1) 1 0 ea σ0 ++ [(o, .inl (g.2.1 1, 1, .inr (.inl fo)))])) (wr := [(m0, .inr (9, [.int 0, .ref (b 0), .ref (b 17)])), ((b 0), .inr (10, [.ref (b 1), .ref (b 2), .ref (b 3), .ref (b 4), .ref (b 5), .ref (b 6), .ref (b 7), .ref (b 8), .ref (b 9), .ref (b 10), .ref (b 11), .ref (b 12), .int 0, .int 0, .int (nI 0), .ref (b 13), .ref (b 14), .ref (b 16)])), ((b 13), .inr (8, [.int 0, .ref (g.2.2 0), .int 0])), ((b 17), .inr (8, [.int 0, .ref (g.2.2 0), .int 0]))]) E hA [0, 1, 2, 3, 4, 5, 6, 7, 8, 9, 10, 11, 12, 13, 14, 15, 16, 17, 18, 19, 20, 21, 22, 23, 24, 25, 26, 27, 28, 29, 30, 31, 32, 37] [33, 34, 35, 36] rfl rfl rfl rfl (by decide)) E (fun En ce q9 H locs hp E hce hcv hcl => ?_) (fun r1 u1 H locs hp E => ?_)
  · have E : Ev g _ s.heap H locs [(m0, .inr (9, [.int 0, .ref (b 0), .ref (b 17)])), ((b 0), .inr (10, [.ref (b 1), .ref (b 2), .ref (b 3), .ref (b 4), .ref (b 5), .ref (b 6), .ref (b 7), .ref (b 8), .ref (b 9), .ref (b 10), .ref (b 11), .ref (b 12), .int 0, .int 0, .int (nI 0), .ref (b 13), .ref (b 14), .ref (b 16)])), ((b 13), .inr (8, [.int 0, .ref (g.2.2 0), .int 0])), ((b 17), .inr (8, [.int 0, .ref (g.2.2 0), .int 0]))] := E
    exact False.elim hp
  · skip
    have E : Ev g _ s.heap H locs [(m0, .inr (9, [.int 0, .ref (b 0), .ref (b 17)])), ((b 0), .inr (10, [.ref (b 1), .ref (b 2), .ref (b 3), .ref (b 4), .ref (b 5), .ref (b 6), .ref (b 7), .ref (b 8), .ref (b 9), .ref (b 10), .ref (b 11), .ref (b 12), .int 0, .int 0, .int (nI 0), .ref (b 13), .ref (b 14), .ref (b 16)])), ((b 13), .inr (8, [.int 0, .ref (g.2.2 0), .int 0])), ((b 17), .inr (8, [.int 0, .ref (g.2.2 0), .int 0])), (o, .inl (g.2.1 1, 1, .inr (.inl u1)))] := E
    obtain ⟨rfl, hU2⟩ := hp
    refine lv_istore (lv' := [(5, .int (kk_addWell (xs 1) (xs 2) (xs 3))), (0, .ref sb), (1, .ref x), (2, .ref m0), (3, .ref o), (4, .int 0)]) hx hb dL_law_743 hl (by decide) rfl (fun ls hl => ?_)
    refine lv_aload_n hx hb dL_law_745 rfl (lv_at hl 3 rfl) ?_
    refine lv_aload_n hx hb dL_law_746 rfl (lv_at hl 1 rfl) ?_
    refine lv_iload hx hb dL_law_747 (lv_at hl 5 rfl) ?_
    refine lv_iconst (v := 1) hx hb dL_law_749 (by decide) ?_
    refine k_iadd (v := 1) hx hb (by decide) dL_law_750 ?_
    refine va_sld hx hb hX hsb hbA E.2.2 (i := 1) (by unfold vp_in; decide) dL_law_751 ?_
    have hl := hl
    show W p l e room_1 s m #[.ref sb] below meth c H locs _ _ _ (F0 m 752 ls [.int (xs 1), .ref m0])
    refine lv_aload_n hx hb dL_law_752 rfl (lv_at hl 1 rfl) ?_
    refine lv_iload hx hb dL_law_753 (lv_at hl 5 rfl) ?_
    refine lv_iconst (v := 2) hx hb dL_law_755 (by decide) ?_
    refine k_iadd (v := 2) hx hb (by decide) dL_law_756 ?_
    refine va_sld hx hb hX hsb hbA E.2.2 (i := 2) (by unfold vp_in; decide) dL_law_757 ?_
    have hl := hl
    show W p l e room_1 s m #[.ref sb] below meth c H locs _ _ _ (F0 m 758 ls [.int (xs 2), .int (xs 1), .ref m0])
    refine lv_aload_n hx hb dL_law_758 rfl (lv_at hl 1 rfl) ?_
    refine lv_iload hx hb dL_law_759 (lv_at hl 5 rfl) ?_
    refine lv_iconst (v := 3) hx hb dL_law_761 (by decide) ?_
    refine k_iadd (v := 3) hx hb (by decide) dL_law_762 ?_
    refine va_sld hx hb hX hsb hbA E.2.2 (i := 3) (by unfold vp_in; decide) dL_law_763 ?_
    have hl := hl
    show W p l e room_1 s m #[.ref sb] below meth c H locs _ _ _ (F0 m 764 ls [.int (xs 3), .int (xs 2), .int (xs 1), .ref m0])
    refine w_reti (runV_X (As := [.int (xs 1), .int (xs 2), .int (xs 3)]) (rest := []) (q0 := 0) (n := 3) S hml hK (hZ.at E) (Cut.of (wc := [(m0, .inr (9, [.int 0, .ref (b 0), .ref (b 17)])), ((b 17), .inr (8, [.int 0, .ref (g.2.2 0), .int 0])), ((b 0), .inr (10, [.ref (b 1), .ref (b 2), .ref (b 3), .ref (b 4), .ref (b 5), .ref (b 6), .ref (b 7), .ref (b 8), .ref (b 9), .ref (b 10), .ref (b 11), .ref (b 12), .int 0, .int 0, .int (nI 0), .ref (b 13), .ref (b 14), .ref (b 16)])), ((b 13), .inr (8, [.int 0, .ref (g.2.2 0), .int 0]))]) (wr := [(o, .inl (g.2.1 1, 1, .inr (.inl u1)))]) E hA [0, 3, 1, 2] [4] rfl rfl rfl rfl (by decide)) (c_X9_addWell l g m0 b (xs 1) (xs 2) (xs 3) _ _) (gi_wsV ml_L_139 im_X9_addWell sl_X9_addWell in_X9 co_X9_addWell) ⟨rfl, by decide +kernel, by decide +kernel, by decide +kernel⟩ ⟨Nat.le_of_ble_eq_true rfl, Nat.le_of_ble_eq_true rfl⟩ rfl rfl rfl hl.1 rfl (Nat.le_of_ble_eq_true rfl) dL_law_764 ⟨Nat.le_of_ble_eq_true rfl, Nat.le_of_ble_eq_true rfl⟩) (Cut.of (wc := [(m0, .inr (9, [.int 0, .ref (b 0), .ref (b 17)])), ((b 17), .inr (8, [.int 0, .ref (g.2.2 0), .int 0])), ((b 0), .inr (10, [.ref (b 1), .ref (b 2), .ref (b 3), .ref (b 4), .ref (b 5), .ref (b 6), .ref (b 7), .ref (b 8), .ref (b 9), .ref (b 10), .ref (b 11), .ref (b 12), .int 0, .int 0, .int (nI 0), .ref (b 13), .ref (b 14), .ref (b 16)])), ((b 13), .inr (8, [.int 0, .ref (g.2.2 0), .int 0]))]) (wr := [(o, .inl (g.2.1 1, 1, .inr (.inl u1)))]) E hA [0, 3, 1, 2] [4] rfl rfl rfl rfl (by decide)) E (fun r3 u3 H locs hp E => ?_)
    have E : Ev g _ s.heap H locs [(o, .inl (g.2.1 1, 1, .inr (.inl u1))), (m0, .inr (9, [.int u3, .ref (b 0), .ref (b 17)]))] := E
    obtain ⟨rfl, hV4⟩ := hp
    refine lv_istore (lv' := [(6, .int r3), (5, .int (kk_addWell (xs 1) (xs 2) (xs 3))), (0, .ref sb), (1, .ref x), (2, .ref m0), (3, .ref o), (4, .int 0)]) hx hb dL_law_767 hl (by decide) rfl (fun ls hl => ?_)
    refine lv_aload_n hx hb dL_law_769 rfl (lv_at hl 4 rfl) ?_
    refine w_reti (runV_X (As := []) (rest := []) (q0 := 0) (n := 0) S hml hK (hZ.at E) (Cut.of (wc := [(m0, .inr (9, [.int (kk_addWell (xs 1) (xs 2) (xs 3)), .ref (b 0), .ref (b 17)]))]) (wr := [(o, .inl (g.2.1 1, 1, .inr (.inl u1)))]) E hA [1] [0] rfl rfl rfl rfl (by decide)) (c_X9_thrown l g m0 b (kk_addWell (xs 1) (xs 2) (xs 3)) _ _) (gi_wsV ml_L_109 im_X9_thrown sl_X9_thrown in_X9 co_X9_thrown) ⟨rfl, by decide +kernel, by decide +kernel, by decide +kernel⟩ ⟨Nat.le_of_ble_eq_true rfl, Nat.le_of_ble_eq_true rfl⟩ rfl rfl rfl hl.1 rfl (Nat.le_of_ble_eq_true rfl) dL_law_770 ⟨Nat.le_of_ble_eq_true rfl, Nat.le_of_ble_eq_true rfl⟩) (Cut.of (wc := [(m0, .inr (9, [.int (kk_addWell (xs 1) (xs 2) (xs 3)), .ref (b 0), .ref (b 17)]))]) (wr := [(o, .inl (g.2.1 1, 1, .inr (.inl u1)))]) E hA [1] [0] rfl rfl rfl rfl (by decide)) E (fun r5 u5 H locs hp E => ?_)
    have E : Ev g _ s.heap H locs [(o, .inl (g.2.1 1, 1, .inr (.inl u1))), (m0, .inr (9, [.int (kk_addWell (xs 1) (xs 2) (xs 3)), .ref (b 0), .ref (b 17)]))] := E
    subst hp
    refine lv_iload hx hb dL_law_773 (lv_at hl 1 rfl) ?_
    refine lv_icmp_eq (tgt := 780) hx hb dL_law_775 (by decide) (fun _ => ?_) (fun c_ => absurd rfl c_)
    refine lv_iload hx hb dL_law_780 (lv_at hl 1 rfl) ?_
    refine lv_if_ne (tgt := 797) hx hb dL_law_782 (by decide) (fun c6 => ?_) (fun c6 => ?_)
    · have c6 : ¬ ((kk_addWell (xs 1) (xs 2) (xs 3)) = 0) := c6
      refine lv_goto (tgt := 1762) hx hb dL_law_797 (by decide) ?_
      exact law_end C0 hsb hX E.2.2 (lv_sub hl [2, 6] rfl) (Nat.le_of_ble_eq_true rfl) (Nat.le_of_ble_eq_true rfl)
    · have c6 : (kk_addWell (xs 1) (xs 2) (xs 3)) = 0 := c6
      refine lv_aload_n hx hb dL_law_785 rfl (lv_at hl 5 rfl) ?_
      refine lv_iconst (v := 0) hx hb dL_law_786 (by decide) ?_
      refine w_lld (v := 0) S hK E 0 1 rfl rfl (show vp_in 0 1 by unfold vp_in; decide) (hU2 c6) dL_law_787 ?_
      refine lv_iload hx hb dL_law_788 (lv_at hl 0 rfl) ?_
      refine lv_i2l (v := 0) hx hb dL_law_790 ((congrArg Int32.toInt64 (hV4 c6)).trans (by decide)) ?_
      refine k_lcmp (v := 0) hx hb (by decide) dL_law_791 ?_
      refine lv_if_eq (tgt := 797) hx hb dL_law_792 (by decide) (fun _ => ?_) (fun c_ => absurd (show (0 : Int32) = 0 by decide) c_)
      refine lv_goto (tgt := 1762) hx hb dL_law_797 (by decide) ?_
      exact law_end C0 hsb hX E.2.2 (lv_sub hl [2, 6] rfl) (Nat.le_of_ble_eq_true rfl) (Nat.le_of_ble_eq_true rfl)
