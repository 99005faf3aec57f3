/-! THE LAW'S WALK -/
set_option maxHeartbeats 4000000 in
set_option maxRecDepth 100000 in
theorem law_loop {p : Program} {l : Launch} {e : Env} {s : State} {m : MethodId} {below : List Frame} {meth : Method} {c : Code} {sb L : Nat} {xs : Nat → Int32} {H : Heap} {locs : List Loc} {ls : Array Slot} {g : Gm} {x dy wo m0 o : Nat} {ad bd b : Nat → Nat} {ea eb : Nat} {fo : Nat → Int64} (hst : l.stackTraces = false) (hL : L ≤ 5) (C0 : lw_At p s m meth c sb L xs) (S : Sta p c cL_law s #[.ref sb] RL m) (hK : va_K g.1 vwC (tysG g) s) (hZ : Zs g (fun q => s.heap.size ≤ q) s s.heap) (E : Ev g (fun q => s.heap.size ≤ q) s.heap H locs (lawW g x dy wo m0 o ad bd b ea eb fo)) (hl : lv_has ls 9 [(0, .ref sb), (1, .ref x), (2, .ref m0), (3, .ref o), (4, .int 0)]) : W p l e room_1 s m #[.ref sb] below meth c H locs 400 3000 (lw_Z below #[.ref sb] s) (F0 m 23 ls []) := by
  have hx := S.1
  have hb := S.2.1
  have hX : va_X sb L xs s s.heap := C0.2.2.2.2.2.2.1
  have hsb : sb < s.heap.size := C0.2.2.2.2.2.2.2.1
  have hbA : ¬ s.heap.size ≤ sb := Nat.not_le.mpr hsb
  refine lv_iload hx hb dL_law_23 (lv_at hl 4 rfl) ?_
  refine lv_aload_n hx hb dL_law_25 rfl (lv_at hl 0 rfl) ?_
  refine va_slen hx hb hX hsb hbA E.2.2 dL_law_26 ?_
  refine lv_iconst (v := 5) hx hb dL_law_27 (by decide) ?_
  refine k_isub (v := Int32.ofNat L - 5) hx hb rfl dL_law_28 ?_
  by_cases h5 : L = 5
  · subst h5
    refine lv_icmp_gt (tgt := 1768) hx hb dL_law_29 (by decide) (fun c_ => absurd c_ (show ¬ (Int32.ofNat 5 - 5 < (0 : Int32)) by decide)) (fun _ => ?_)
    refine lv_aload_n hx hb dL_law_32 rfl (lv_at hl 0 rfl) ?_
    refine lv_iload hx hb dL_law_33 (lv_at hl 4 rfl) ?_
    refine va_sld hx hb hX hsb hbA E.2.2 (i := 0) (by unfold vp_in; decide) dL_law_35 ?_
    refine lv_bipush (v := 31) hx hb dL_law_36 (by decide) ?_
    obtain ⟨j, hj, ej⟩ := pk_andE (xs (0 : Int32).toNatClampNeg) (m := 31) 5 (by decide)
    refine k_iand (v := nI j) hx hb ej dL_law_38 ?_
    have hj : j < 32 := hj
    rcases (show j = 0 ∨ j = 1 ∨ j = 2 ∨ j = 3 ∨ j = 4 ∨ j = 5 ∨ j = 6 ∨ j = 7 ∨ j = 8 ∨ j = 9 ∨ j = 10 ∨ j = 11 ∨ j = 12 ∨ j = 13 ∨ j = 14 ∨ j = 15 ∨ j = 16 ∨ j = 17 ∨ j = 18 ∨ j = 19 ∨ j = 20 ∨ j = 21 ∨ j = 22 ∨ j = 23 ∨ j = 24 ∨ j = 25 ∨ j = 26 ∨ j = 27 ∨ j = 28 ∨ j = 29 ∨ j = 30 ∨ j = 31 by omega) with rfl | rfl | rfl | rfl | rfl | rfl | rfl | rfl | rfl | rfl | rfl | rfl | rfl | rfl | rfl | rfl | rfl | rfl | rfl | rfl | rfl | rfl | rfl | rfl | rfl | rfl | rfl | rfl | rfl | rfl | rfl | rfl
    · exact lv_tableIn (tgt := 164) hx hb dL_law_39 (by decide) (by decide) rfl (by decide) (law_0 hst C0 S hK hZ E hl)
    · exact lv_tableIn (tgt := 256) hx hb dL_law_39 (by decide) (by decide) rfl (by decide) (law_1 hst C0 S hK hZ E hl)
    · exact lv_tableIn (tgt := 324) hx hb dL_law_39 (by decide) (by decide) rfl (by decide) (law_2 hst C0 S hK hZ E hl)
    · exact lv_tableIn (tgt := 392) hx hb dL_law_39 (by decide) (by decide) rfl (by decide) (law_3 hst C0 S hK hZ E hl)
    · exact lv_tableIn (tgt := 460) hx hb dL_law_39 (by decide) (by decide) rfl (by decide) (law_4 hst C0 S hK hZ E hl)
    · exact lv_tableIn (tgt := 528) hx hb dL_law_39 (by decide) (by decide) rfl (by decide) (law_5 hst C0 S hK hZ E hl)
    · exact lv_tableIn (tgt := 608) hx hb dL_law_39 (by decide) (by decide) rfl (by decide) (law_6 hst C0 S hK hZ E hl)
    · exact lv_tableIn (tgt := 664) hx hb dL_law_39 (by decide) (by decide) rfl (by decide) (law_7 hst C0 S hK hZ E hl)
    · exact lv_tableIn (tgt := 720) hx hb dL_law_39 (by decide) (by decide) rfl (by decide) (law_8 hst C0 S hK hZ E hl)
    · exact lv_tableIn (tgt := 800) hx hb dL_law_39 (by decide) (by decide) rfl (by decide) (law_9 hst C0 S hK hZ E hl)
    · exact lv_tableIn (tgt := 868) hx hb dL_law_39 (by decide) (by decide) rfl (by decide) (law_10 hst C0 S hK hZ E hl)
    · exact lv_tableIn (tgt := 948) hx hb dL_law_39 (by decide) (by decide) rfl (by decide) (law_11 hst C0 S hK hZ E hl)
    · exact lv_tableIn (tgt := 1004) hx hb dL_law_39 (by decide) (by decide) rfl (by decide) (law_12 hst C0 S hK hZ E hl)
    · exact lv_tableIn (tgt := 1060) hx hb dL_law_39 (by decide) (by decide) rfl (by decide) (law_13 hst C0 S hK hZ E hl)
    · exact lv_tableIn (tgt := 1116) hx hb dL_law_39 (by decide) (by decide) rfl (by decide) (law_14 hst C0 S hK hZ E hl)
    · exact lv_tableIn (tgt := 1172) hx hb dL_law_39 (by decide) (by decide) rfl (by decide) (law_15 hst C0 S hK hZ E hl)
    · exact lv_tableIn (tgt := 1228) hx hb dL_law_39 (by decide) (by decide) rfl (by decide) (law_16 hst C0 S hK hZ E hl)
    · exact lv_tableIn (tgt := 1284) hx hb dL_law_39 (by decide) (by decide) rfl (by decide) (law_17 hst C0 S hK hZ E hl)
    · exact lv_tableIn (tgt := 1339) hx hb dL_law_39 (by decide) (by decide) rfl (by decide) (law_18 hst C0 S hK hZ E hl)
    · exact lv_tableIn (tgt := 1402) hx hb dL_law_39 (by decide) (by decide) rfl (by decide) (law_19 hst C0 S hK hZ E hl)
    · exact lv_tableIn (tgt := 1458) hx hb dL_law_39 (by decide) (by decide) rfl (by decide) (law_20 hst C0 S hK hZ E hl)
    · exact lv_tableIn (tgt := 1525) hx hb dL_law_39 (by decide) (by decide) rfl (by decide) (law_21 hst C0 S hK hZ E hl)
    · exact lv_tableIn (tgt := 1538) hx hb dL_law_39 (by decide) (by decide) rfl (by decide) (law_22 hst C0 S hK hZ E hl)
    · exact lv_tableIn (tgt := 1594) hx hb dL_law_39 (by decide) (by decide) rfl (by decide) (law_23 hst C0 S hK hZ E hl)
    · exact lv_tableIn (tgt := 1651) hx hb dL_law_39 (by decide) (by decide) rfl (by decide) (law_24 hst C0 S hK hZ E hl)
    · exact lv_tableIn (tgt := 1665) hx hb dL_law_39 (by decide) (by decide) rfl (by decide) (law_25 hst C0 S hK hZ E hl)
    · exact lv_tableIn (tgt := 1708) hx hb dL_law_39 (by decide) (by decide) rfl (by decide) (law_26 hst C0 S hK hZ E hl)
    · exact lv_tableIn (tgt := 1749) hx hb dL_law_39 (by decide) (by decide) rfl (by decide) (law_27 hst C0 S hK hZ E hl)
    · exact lv_tableOut (tgt := 1762) hx hb dL_law_39 (by decide) (by decide) (law_end C0 hsb hX E.2.2 (lv_sub hl [0, 4] rfl) (Nat.le_of_ble_eq_true rfl) (Nat.le_of_ble_eq_true rfl))
    · exact lv_tableOut (tgt := 1762) hx hb dL_law_39 (by decide) (by decide) (law_end C0 hsb hX E.2.2 (lv_sub hl [0, 4] rfl) (Nat.le_of_ble_eq_true rfl) (Nat.le_of_ble_eq_true rfl))
    · exact lv_tableOut (tgt := 1762) hx hb dL_law_39 (by decide) (by decide) (law_end C0 hsb hX E.2.2 (lv_sub hl [0, 4] rfl) (Nat.le_of_ble_eq_true rfl) (Nat.le_of_ble_eq_true rfl))
    · exact lv_tableOut (tgt := 1762) hx hb dL_law_39 (by decide) (by decide) (law_end C0 hsb hX E.2.2 (lv_sub hl [0, 4] rfl) (Nat.le_of_ble_eq_true rfl) (Nat.le_of_ble_eq_true rfl))
  · have hs : L < 5 := by omega
    refine lv_icmp_gt (tgt := 1768) hx hb dL_law_29 (by decide) (fun _ => law_out C0 E.2.2 (Nat.le_of_ble_eq_true rfl) (Nat.le_of_ble_eq_true rfl)) (fun c_ => absurd ?_ c_)
    rcases (show L = 0 ∨ L = 1 ∨ L = 2 ∨ L = 3 ∨ L = 4 by omega) with rfl | rfl | rfl | rfl | rfl <;> decide
set_option maxHeartbeats 4000000 in
set_option maxRecDepth 100000 in
theorem law_start {p : Program} {l : Launch} {e : Env} {s : State} {m : MethodId} {below : List Frame} {meth : Method} {c : Code} {sb L : Nat} {xs : Nat → Int32} {ls : Array Slot} {g : Gm} (hst : l.stackTraces = false) (hL : L ≤ 5) (C0 : lw_At p s m meth c sb L xs) (S : Sta p c cL_law s #[.ref sb] RL m) (hK : va_K g.1 vwC (tysG g) s) (hZ : Zs g (fun q => s.heap.size ≤ q) s s.heap) (hl : lv_has ls 9 [(0, .ref sb)]) : W p l e room_1 s m #[.ref sb] below meth c s.heap [] 0 0 (lw_Z below #[.ref sb] s) (F0 m 0 ls []) := by
  have hx := S.1
  have hb := S.2.1
  have hml : c.maxLocals = 9 := C0.2.2.2.1
  have hA : ∀ q : Nat, s.heap.size ≤ q → s.heap.size ≤ q := fun _ h => h
  have E : Ev g (fun q => s.heap.size ≤ q) s.heap s.heap [] [] := ⟨fun k q h => absurd h (by simp), ⟨fun i j p q h => absurd h (by simp), fun k q h => absurd h (by simp)⟩, va_S.rf⟩
  refine w_new (ci := 6) (fs := [.null, .null, .null, .null]) (C := RX6) (T := TX6) (N := 4) S hK E hA fw_X6 tyX6 tyX6_ok cl_L_8 ib_X6 in_X6 rfl (fun j hj => by rcases (show j = 0 ∨ j = 1 ∨ j = 2 ∨ j = 3 by omega) with rfl | rfl | rfl | rfl <;> rfl) (Nat.le_of_ble_eq_true rfl) (Nat.le_of_ble_eq_true rfl) dL_law_0 (fun q1 H E => ?_)
  have E : Ev g _ s.heap H _ [(q1, .inr (6, [.null, .null, .null, .null]))] := E
  refine lv_dup hx hb dL_law_3 rfl ?_
  refine w_retv (runI_X (As := []) (rest := [.ref q1]) (n := 0) S hml hK (hZ.at E) (Cut.full E hA) (c_X6_init l g q1 _ _) ml_L_99 im_X6_init in_X6 co_X6_init rfl ⟨by decide +kernel, by decide +kernel, by decide +kernel⟩ ⟨Nat.le_of_ble_eq_true rfl, Nat.le_of_ble_eq_true rfl⟩ rfl hl.1 rfl (Nat.le_of_ble_eq_true rfl) dL_law_4 ⟨Nat.le_of_ble_eq_true rfl, Nat.le_of_ble_eq_true rfl⟩) (Cut.full E hA) E (fun u2 H locs hp E => ?_)
  obtain ⟨dy, wo, ad, bd, ea, eb⟩ := u2
  have E : Ev g _ s.heap H locs ([(q1, .inr (6, [.ref (ad 0), .ref (bd 0), .ref wo, .ref dy])), (wo, .inl (g.2.1 5, 6, .inr (.inr (.inr (.inr (fun _ => none)))))), (dy, .inr (8, [.int 0, .ref (g.2.2 0), .int 0]))] ++ wsW g ad (-1) 1 0 ea σ0 ++ wsW g bd (-1) 0 0 eb σ0) := E
  refine lv_astore_n (lv' := [(1, .ref q1), (0, .ref sb)]) hx hb dL_law_7 rfl hl (by decide) rfl (fun ls hl => ?_)
  refine w_new (ci := 9) (fs := [.int 0, .null, .null]) (C := RX9) (T := TX9) (N := 3) S hK E hA fw_X9 tyX9 tyX9_ok cl_L_100 ib_X9 in_X9 rfl (fun j hj => by rcases (show j = 0 ∨ j = 1 ∨ j = 2 by omega) with rfl | rfl | rfl <;> rfl) (Nat.le_of_ble_eq_true rfl) (Nat.le_of_ble_eq_true rfl) dL_law_8 (fun q3 H E => ?_)
  have E : Ev g _ s.heap H _ ([(q1, .inr (6, [.ref (ad 0), .ref (bd 0), .ref wo, .ref dy])), (wo, .inl (g.2.1 5, 6, .inr (.inr (.inr (.inr (fun _ => none)))))), (dy, .inr (8, [.int 0, .ref (g.2.2 0), .int 0]))] ++ wsW g ad (-1) 1 0 ea σ0 ++ wsW g bd (-1) 0 0 eb σ0 ++ [(q3, .inr (9, [.int 0, .null, .null]))]) := E
  refine lv_dup hx hb dL_law_11 rfl ?_
  refine w_retv (runI_X (As := []) (rest := [.ref q3]) (n := 0) S hml hK (hZ.at E) (Cut.of (wc := [(q3, .inr (9, [.int 0, .null, .null]))]) (wr := ([(q1, .inr (6, [.ref (ad 0), .ref (bd 0), .ref wo, .ref dy])), (wo, .inl (g.2.1 5, 6, .inr (.inr (.inr (.inr (fun _ => none)))))), (dy, .inr (8, [.int 0, .ref (g.2.2 0), .int 0]))] ++ wsW g ad (-1) 1 0 ea σ0 ++ wsW g bd (-1) 0 0 eb σ0)) E hA [65] [0, 1, 2, 3, 4, 5, 6, 7, 8, 9, 10, 11, 12, 13, 14, 15, 16, 17, 18, 19, 20, 21, 22, 23, 24, 25, 26, 27, 28, 29, 30, 31, 32, 33, 34, 35, 36, 37, 38, 39, 40, 41, 42, 43, 44, 45, 46, 47, 48, 49, 50, 51, 52, 53, 54, 55, 56, 57, 58, 59, 60, 61, 62, 63, 64] rfl rfl rfl rfl (by decide)) (c_X9_init l g q3 _ _) ml_L_102 im_X9_init in_X9 co_X9_init rfl ⟨by decide +kernel, by decide +kernel, by decide +kernel⟩ ⟨Nat.le_of_ble_eq_true rfl, Nat.le_of_ble_eq_true rfl⟩ rfl hl.1 rfl (Nat.le_of_ble_eq_true rfl) dL_law_12 ⟨Nat.le_of_ble_eq_true rfl, Nat.le_of_ble_eq_true rfl⟩) (Cut.of (wc := [(q3, .inr (9, [.int 0, .null, .null]))]) (wr := ([(q1, .inr (6, [.ref (ad 0), .ref (bd 0), .ref wo, .ref dy])), (wo, .inl (g.2.1 5, 6, .inr (.inr (.inr (.inr (fun _ => none)))))), (dy, .inr (8, [.int 0, .ref (g.2.2 0), .int 0]))] ++ wsW g ad (-1) 1 0 ea σ0 ++ wsW g bd (-1) 0 0 eb σ0)) E hA [65] [0, 1, 2, 3, 4, 5, 6, 7, 8, 9, 10, 11, 12, 13, 14, 15, 16, 17, 18, 19, 20, 21, 22, 23, 24, 25, 26, 27, 28, 29, 30, 31, 32, 33, 34, 35, 36, 37, 38, 39, 40, 41, 42, 43, 44, 45, 46, 47, 48, 49, 50, 51, 52, 53, 54, 55, 56, 57, 58, 59, 60, 61, 62, 63, 64] rfl rfl rfl rfl (by decide)) E (fun u4 H locs hp E => ?_)
  have E : Ev g _ s.heap H locs ([(q1, .inr (6, [.ref (ad 0), .ref (bd 0), .ref wo, .ref dy])), (wo, .inl (g.2.1 5, 6, .inr (.inr (.inr (.inr (fun _ => none)))))), (dy, .inr (8, [.int 0, .ref (g.2.2 0), .int 0]))] ++ wsW g ad (-1) 1 0 ea σ0 ++ wsW g bd (-1) 0 0 eb σ0 ++ [(q3, .inr (9, [.int 0, .ref (u4 0), .ref (u4 17)])), ((u4 0), .inr (10, [.ref (u4 1), .ref (u4 2), .ref (u4 3), .ref (u4 4), .ref (u4 5), .ref (u4 6), .ref (u4 7), .ref (u4 8), .ref (u4 9), .ref (u4 10), .ref (u4 11), .ref (u4 12), .int 0, .int 0, .int 0, .ref (u4 13), .ref (u4 14), .ref (u4 16)])), ((u4 1), .inl (g.2.1 0, 16, .inl (fun _ => 0))), ((u4 2), .inl (g.2.1 0, 16, .inl (fun _ => 10))), ((u4 3), .inl (g.2.1 0, 16, .inl (fun _ => 0))), ((u4 4), .inl (g.2.1 0, 16, .inl (fun _ => 0))), ((u4 5), .inl (g.2.1 0, 8, .inl (fun _ => 100))), ((u4 6), .inl (g.2.1 0, 2, .inl (fun _ => 4))), ((u4 7), .inl (g.2.1 0, 8, .inl (fun _ => 0))), ((u4 8), .inl (g.2.1 0, 8, .inl (fun _ => 0))), ((u4 9), .inl (g.2.1 0, 8, .inl (fun _ => 0))), ((u4 10), .inl (g.2.1 0, 8, .inl (fun _ => 0))), ((u4 11), .inl (g.2.1 0, 16, .inl (fun _ => 0))), ((u4 12), .inl (g.2.1 0, 16, .inl (fun _ => 0))), ((u4 13), .inr (8, [.int 0, .ref (g.2.2 0), .int 0])), ((u4 14), .inr (7, [.ref (u4 15), .int 0, .int 0, .int 0])), ((u4 15), .inl (g.2.1 3, 16, .inl (fun _ => 0))), ((u4 16), .inl (g.2.1 1, 26, .inr (.inl (fun _ => 0)))), ((u4 17), .inr (8, [.int 0, .ref (g.2.2 0), .int 0]))]) := E
  refine lv_astore_n (lv' := [(2, .ref q3), (1, .ref q1), (0, .ref sb)]) hx hb dL_law_15 rfl hl (by decide) rfl (fun ls hl => ?_)
  refine lv_iconst (v := 1) hx hb dL_law_16 (by decide) ?_
  refine w_newa (atype := .long) (ty := .long) (a0 := (1, .inr (.inl (fun _ => 0)))) (N' := 1) 1 S hK E hA ac_long rfl rfl (fun C h => by cases h) (fun cA => by first | rfl | (rw [vp_cell_l]; rfl)) (by decide) (by decide) (by decide) (Nat.le_of_ble_eq_true rfl) (Nat.le_of_ble_eq_true rfl) dL_law_17 (fun q5 H E => ?_)
  have E : Ev g _ s.heap H _ ([(q1, .inr (6, [.ref (ad 0), .ref (bd 0), .ref wo, .ref dy])), (wo, .inl (g.2.1 5, 6, .inr (.inr (.inr (.inr (fun _ => none)))))), (dy, .inr (8, [.int 0, .ref (g.2.2 0), .int 0]))] ++ wsW g ad (-1) 1 0 ea σ0 ++ wsW g bd (-1) 0 0 eb σ0 ++ [(q3, .inr (9, [.int 0, .ref (u4 0), .ref (u4 17)])), ((u4 0), .inr (10, [.ref (u4 1), .ref (u4 2), .ref (u4 3), .ref (u4 4), .ref (u4 5), .ref (u4 6), .ref (u4 7), .ref (u4 8), .ref (u4 9), .ref (u4 10), .ref (u4 11), .ref (u4 12), .int 0, .int 0, .int 0, .ref (u4 13), .ref (u4 14), .ref (u4 16)])), ((u4 1), .inl (g.2.1 0, 16, .inl (fun _ => 0))), ((u4 2), .inl (g.2.1 0, 16, .inl (fun _ => 10))), ((u4 3), .inl (g.2.1 0, 16, .inl (fun _ => 0))), ((u4 4), .inl (g.2.1 0, 16, .inl (fun _ => 0))), ((u4 5), .inl (g.2.1 0, 8, .inl (fun _ => 100))), ((u4 6), .inl (g.2.1 0, 2, .inl (fun _ => 4))), ((u4 7), .inl (g.2.1 0, 8, .inl (fun _ => 0))), ((u4 8), .inl (g.2.1 0, 8, .inl (fun _ => 0))), ((u4 9), .inl (g.2.1 0, 8, .inl (fun _ => 0))), ((u4 10), .inl (g.2.1 0, 8, .inl (fun _ => 0))), ((u4 11), .inl (g.2.1 0, 16, .inl (fun _ => 0))), ((u4 12), .inl (g.2.1 0, 16, .inl (fun _ => 0))), ((u4 13), .inr (8, [.int 0, .ref (g.2.2 0), .int 0])), ((u4 14), .inr (7, [.ref (u4 15), .int 0, .int 0, .int 0])), ((u4 15), .inl (g.2.1 3, 16, .inl (fun _ => 0))), ((u4 16), .inl (g.2.1 1, 26, .inr (.inl (fun _ => 0)))), ((u4 17), .inr (8, [.int 0, .ref (g.2.2 0), .int 0])), (q5, .inl (g.2.1 1, 1, .inr (.inl (fun _ => 0))))]) := E
  refine lv_astore_n (lv' := [(3, .ref q5), (2, .ref q3), (1, .ref q1), (0, .ref sb)]) hx hb dL_law_19 rfl hl (by decide) rfl (fun ls hl => ?_)
  refine lv_iconst (v := 0) hx hb dL_law_20 (by decide) ?_
  refine lv_istore (lv' := [(4, .int 0), (3, .ref q5), (2, .ref q3), (1, .ref q1), (0, .ref sb)]) hx hb dL_law_21 hl (by decide) rfl (fun ls hl => ?_)
  have E : Ev g (fun q => s.heap.size ≤ q) s.heap H _ (lawW g q1 dy wo q3 q5 ad bd u4 ea eb (fun _ => 0)) := Ev.sub E [0, 2, 3, 4, 5, 6, 7, 8, 9, 10, 11, 12, 13, 14, 15, 16, 17, 18, 19, 20, 21, 22, 23, 24, 25, 26, 27, 28, 29, 30, 31, 32, 33, 34, 35, 36, 37, 38, 39, 40, 41, 42, 43, 44, 45, 46, 47, 48, 49, 50, 51, 52, 53, 54, 55, 56, 57, 58, 59, 60, 61, 62, 63, 64, 65, 66, 67, 68, 69, 70, 71, 72, 73, 74, 75, 76, 77, 78, 79, 80, 81, 82, 83, 84] rfl rfl
  refine W.widen (k := 400) (n := 3000) (Nat.le_of_ble_eq_true rfl) (Nat.le_of_ble_eq_true rfl) ?_
  exact law_loop hst hL C0 S hK hZ E (lv_sub hl [4, 3, 2, 1, 0] rfl)
