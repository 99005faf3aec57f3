set_option maxHeartbeats 4000000 in
set_option maxRecDepth 100000 in
/-- case 9: setWish -/
theorem law_9 {p : Program} {l : Launch} {e : Env} {s : State} {m : MethodId} {below : List Frame} {meth : Method} {c : Code} {sb : Nat} {xs : Nat → Int32} {H : Heap} {locs : List Loc} {ls : Array Slot} {g : Gm} {x dy wo m0 o : Nat} {ad bd b : Nat → Nat} {ea eb : Nat} {fo : Nat → Int64} (hst : l.stackTraces = false) (C0 : lw_At p s m meth c sb 5 xs) (S : Sta p c cL_law s #[.ref sb] RL m) (hK : va_K g.1 vwC (tysG g) s) (hZ : Zs g (fun q => s.heap.size ≤ q) s s.heap) (E : Ev g (fun q => s.heap.size ≤ q) s.heap H locs (lawW g x dy wo m0 o ad bd b ea eb fo)) (hl : lv_has ls 9 [(0, .ref sb), (1, .ref x), (2, .ref m0), (3, .ref o), (4, .int 0)]) : W p l e room_1 s m #[.ref sb] below meth c H locs 400 3000 (lw_Z below #[.ref sb] s) (F0 m 800 ls []) := by
  have hx := S.1
  have hb := S.2.1
  have hml : c.maxLocals = 9 := C0.2.2.2.1
  have hX : va_X sb 5 xs s s.heap := C0.2.2.2.2.2.2.1
  have hsb : sb < s.heap.size := C0.2.2.2.2.2.2.2.1
  have hbA : ¬ s.heap.size ≤ sb := Nat.not_le.mpr hsb
  have hA : ∀ q : Nat, s.heap.size ≤ q → s.heap.size ≤ q := fun _ h => h
  have E : Ev g (fun q => s.heap.size ≤ q) s.heap H locs [(x, .inr (6, [.ref (ad 0), .ref (bd 0), .ref wo, .ref dy])), ((ad 0), .inr (5, [.ref (ad 1), .ref (ad 2), .ref (ad 3), .ref (ad 4), .ref (ad 29), .ref (ad 5), .ref (ad 6), .ref (ad 7), .int (-1), .int 1, .int 0, .int 0])), ((ad 3), .inr (4, [.ref (ad 18), .ref (ad 19), .ref (ad 20), .ref (ad 21), .ref (ad 22), .ref (ad 23), .ref (ad 24), .ref (ad 25), .ref (ad 26), .ref (ad 27), .int 0])), (m0, .inr (9, [.int 0, .ref (b 0), .ref (b 17)])), ((b 0), .inr (10, [.ref (b 1), .ref (b 2), .ref (b 3), .ref (b 4), .ref (b 5), .ref (b 6), .ref (b 7), .ref (b 8), .ref (b 9), .ref (b 10), .ref (b 11), .ref (b 12), .int 0, .int 0, .int (nI 0), .ref (b 13), .ref (b 14), .ref (b 16)])), ((b 13), .inr (8, [.int 0, .ref (g.2.2 0), .int 0])), (o, .inl (g.2.1 1, 1, .inr (.inl fo)))] := Ev.sub E [0, 2, 5, 64, 65, 78, 83] rfl rfl
  refine lv_aload_n hx hb dL_law_800 rfl (lv_at hl 1 rfl) ?_
  refine lv_aload_n hx hb dL_law_801 rfl (lv_at hl 0 rfl) ?_
  refine lv_iload hx hb dL_law_802 (lv_at hl 4 rfl) ?_
  refine lv_iconst (v := 1) hx hb dL_law_804 (by decide) ?_
  refine k_iadd (v := 1) hx hb (by decide) dL_law_805 ?_
  refine va_sld hx hb hX hsb hbA E.2.2 (i := 1) (by unfold vp_in; decide) dL_law_806 ?_
  have hl := hl
  show W p l e room_1 s m #[.ref sb] below meth c H locs _ _ _ (F0 m 807 ls [.int (xs 1), .ref x])
  refine lv_aload_n hx hb dL_law_807 rfl (lv_at hl 0 rfl) ?_
  refine lv_iload hx hb dL_law_808 (lv_at hl 4 rfl) ?_
  refine lv_iconst (v := 2) hx hb dL_law_810 (by decide) ?_
  refine k_iadd (v := 2) hx hb (by decide) dL_law_811 ?_
  refine va_sld hx hb hX hsb hbA E.2.2 (i := 2) (by unfold vp_in; decide) dL_law_812 ?_
  have hl := hl
  show W p l e room_1 s m #[.ref sb] below meth c H locs _ _ _ (F0 m 813 ls [.int (xs 2), .int (xs 1), .ref x])
  refine lv_aload_n hx hb dL_law_813 rfl (lv_at hl 3 rfl) ?_
  refine y_reti (yrunH (As := [.ref x, .int (xs 1), .int (xs 2), .ref o]) (rest := []) (n := 4) S hml hK (hZ.at E) (Cut.of (wc := [(x, .inr (6, [.ref (ad 0), .ref (bd 0), .ref wo, .ref dy])), ((ad 0), .inr (5, [.ref (ad 1), .ref (ad 2), .ref (ad 3), .ref (ad 4), .ref (ad 29), .ref (ad 5), .ref (ad 6), .ref (ad 7), .int (-1), .int 1, .int 0, .int 0])), ((ad 3), .inr (4, [.ref (ad 18), .ref (ad 19), .ref (ad 20), .ref (ad 21), .ref (ad 22), .ref (ad 23), .ref (ad 24), .ref (ad 25), .ref (ad 26), .ref (ad 27), .int 0])), (o, .inl (g.2.1 1, 1, .inr (.inl fo)))]) (wr := [(m0, .inr (9, [.int 0, .ref (b 0), .ref (b 17)])), ((b 0), .inr (10, [.ref (b 1), .ref (b 2), .ref (b 3), .ref (b 4), .ref (b 5), .ref (b 6), .ref (b 7), .ref (b 8), .ref (b 9), .ref (b 10), .ref (b 11), .ref (b 12), .int 0, .int 0, .int (nI 0), .ref (b 13), .ref (b 14), .ref (b 16)])), ((b 13), .inr (8, [.int 0, .ref (g.2.2 0), .int 0]))]) E hA [0, 1, 2, 6] [3, 4, 5] rfl rfl rfl rfl (by decide)) (c_L_setWish l g hst x (bd 0) wo dy ad (xs 1) (xs 2) o fo _ _) ml_L_140 st_L_setWish in_L rfl co_L_setWish ⟨by decide +kernel, by decide +kernel, by decide +kernel⟩ ⟨Nat.le_of_ble_eq_true rfl, Nat.le_of_ble_eq_true rfl⟩ rfl hl.1 rfl (Nat.le_of_ble_eq_true rfl) dL_law_814 ⟨Nat.le_of_ble_eq_true rfl, Nat.le_of_ble_eq_true rfl⟩) (Cut.of (wc := [(x, .inr (6, [.ref (ad 0), .ref (bd 0), .ref wo, .ref dy])), ((ad 0), .inr (5, [.ref (ad 1), .ref (ad 2), .ref (ad 3), .ref (ad 4), .ref (ad 29), .ref (ad 5), .ref (ad 6), .ref (ad 7), .int (-1), .int 1, .int 0, .int 0])), ((ad 3), .inr (4, [.ref (ad 18), .ref (ad 19), .ref (ad 20), .ref (ad 21), .ref (ad 22), .ref (ad 23), .ref (ad 24), .ref (ad 25), .ref (ad 26), .ref (ad 27), .int 0])), (o, .inl (g.2.1 1, 1, .inr (.inl fo)))]) (wr := [(m0, .inr (9, [.int 0, .ref (b 0), .ref (b 17)])), ((b 0), .inr (10, [.ref (b 1), .ref (b 2), .ref (b 3), .ref (b 4), .ref (b 5), .ref (b 6), .ref (b 7), .ref (b 8), .ref (b 9), .ref (b 10), .ref (b 11), .ref (b 12), .int 0, .int 0, .int (nI 0), .ref (b 13), .ref (b 14), .ref (b 16)])), ((b 13), .inr (8, [.int 0, .ref (g.2.2 0), .int 0]))]) E hA [0, 1, 2, 6] [3, 4, 5] rfl rfl rfl rfl (by decide)) E (fun En ce q9 H locs hp E hce hcv hcl => ?_) (fun r1 u1 H locs hp E => ?_)
  · have E : Ev g _ s.heap H locs [(m0, .inr (9, [.int 0, .ref (b 0), .ref (b 17)])), ((b 0), .inr (10, [.ref (b 1), .ref (b 2), .ref (b 3), .ref (b 4), .ref (b 5), .ref (b 6), .ref (b 7), .ref (b 8), .ref (b 9), .ref (b 10), .ref (b 11), .ref (b 12), .int 0, .int 0, .int (nI 0), .ref (b 13), .ref (b 14), .ref (b 16)])), ((b 13), .inr (8, [.int 0, .ref (g.2.2 0), .int 0]))] := E
    exact False.elim hp
  · skip
    have E : Ev g _ s.heap H locs [(m0, .inr (9, [.int 0, .ref (b 0), .ref (b 17)])), ((b 0), .inr (10, [.ref (b 1), .ref (b 2), .ref (b 3), .ref (b 4), .ref (b 5), .ref (b 6), .ref (b 7), .ref (b 8), .ref (b 9), .ref (b 10), .ref (b 11), .ref (b 12), .int 0, .int 0, .int (nI 0), .ref (b 13), .ref (b 14), .ref (b 16)])), ((b 13), .inr (8, [.int 0, .ref (g.2.2 0), .int 0])), (o, .inl (g.2.1 1, 1, .inr (.inl u1)))] := E
    obtain rfl := hp
    refine lv_istore (lv' := [(5, .int 1), (0, .ref sb), (1, .ref x), (2, .ref m0), (3, .ref o), (4, .int 0)]) hx hb dL_law_817 hl (by decide) rfl (fun ls hl => ?_)
    refine lv_aload_n hx hb dL_law_819 rfl (lv_at hl 3 rfl) ?_
    refine lv_aload_n hx hb dL_law_820 rfl (lv_at hl 1 rfl) ?_
    refine lv_iload hx hb dL_law_821 (lv_at hl 5 rfl) ?_
    refine lv_iconst (v := 1) hx hb dL_law_823 (by decide) ?_
    refine k_iadd (v := 1) hx hb (by decide) dL_law_824 ?_
    refine va_sld hx hb hX hsb hbA E.2.2 (i := 1) (by unfold vp_in; decide) dL_law_825 ?_
    have hl := hl
    show W p l e room_1 s m #[.ref sb] below meth c H locs _ _ _ (F0 m 826 ls [.int (xs 1), .ref m0])
    refine lv_aload_n hx hb dL_law_826 rfl (lv_at hl 1 rfl) ?_
    refine lv_iload hx hb dL_law_827 (lv_at hl 5 rfl) ?_
    refine lv_iconst (v := 2) hx hb dL_law_829 (by decide) ?_
    refine k_iadd (v := 2) hx hb (by decide) dL_law_830 ?_
    refine va_sld hx hb hX hsb hbA E.2.2 (i := 2) (by unfold vp_in; decide) dL_law_831 ?_
    have hl := hl
    show W p l e room_1 s m #[.ref sb] below meth c H locs _ _ _ (F0 m 832 ls [.int (xs 2), .int (xs 1), .ref m0])
    refine w_reti (runV_X (As := [.int (xs 1), .int (xs 2)]) (rest := []) (q0 := 0) (n := 2) S hml hK (hZ.at E) (Cut.of (wc := [(m0, .inr (9, [.int 0, .ref (b 0), .ref (b 17)])), ((b 0), .inr (10, [.ref (b 1), .ref (b 2), .ref (b 3), .ref (b 4), .ref (b 5), .ref (b 6), .ref (b 7), .ref (b 8), .ref (b 9), .ref (b 10), .ref (b 11), .ref (b 12), .int 0, .int 0, .int (nI 0), .ref (b 13), .ref (b 14), .ref (b 16)])), ((b 13), .inr (8, [.int 0, .ref (g.2.2 0), .int 0]))]) (wr := [(o, .inl (g.2.1 1, 1, .inr (.inl u1)))]) E hA [0, 1, 2] [3] rfl rfl rfl rfl (by decide)) (c_X9_setWish l g m0 b (xs 1) (xs 2) _ _) (gi_wsV ml_L_142 im_X9_setWish sl_X9_setWish in_X9 co_X9_setWish) ⟨rfl, by decide +kernel, by decide +kernel, by decide +kernel⟩ ⟨Nat.le_of_ble_eq_true rfl, Nat.le_of_ble_eq_true rfl⟩ rfl rfl rfl hl.1 rfl (Nat.le_of_ble_eq_true rfl) dL_law_832 ⟨Nat.le_of_ble_eq_true rfl, Nat.le_of_ble_eq_true rfl⟩) (Cut.of (wc := [(m0, .inr (9, [.int 0, .ref (b 0), .ref (b 17)])), ((b 0), .inr (10, [.ref (b 1), .ref (b 2), .ref (b 3), .ref (b 4), .ref (b 5), .ref (b 6), .ref (b 7), .ref (b 8), .ref (b 9), .ref (b 10), .ref (b 11), .ref (b 12), .int 0, .int 0, .int (nI 0), .ref (b 13), .ref (b 14), .ref (b 16)])), ((b 13), .inr (8, [.int 0, .ref (g.2.2 0), .int 0]))]) (wr := [(o, .inl (g.2.1 1, 1, .inr (.inl u1)))]) E hA [0, 1, 2] [3] rfl rfl rfl rfl (by decide)) E (fun r3 u3 H locs hp E => ?_)
    have E : Ev g _ s.heap H locs [(o, .inl (g.2.1 1, 1, .inr (.inl u1))), (m0, .inr (9, [.int 1, .ref (b 0), .ref (b 17)]))] := E
    have hT := hp
    refine lv_istore (lv' := [(6, .int r3), (5, .int 1), (0, .ref sb), (1, .ref x), (2, .ref m0), (3, .ref o), (4, .int 0)]) hx hb dL_law_835 hl (by decide) rfl (fun ls hl => ?_)
    refine lv_aload_n hx hb dL_law_837 rfl (lv_at hl 4 rfl) ?_
    refine w_reti (runV_X (As := []) (rest := []) (q0 := 0) (n := 0) S hml hK (hZ.at E) (Cut.of (wc := [(m0, .inr (9, [.int 1, .ref (b 0), .ref (b 17)]))]) (wr := [(o, .inl (g.2.1 1, 1, .inr (.inl u1)))]) E hA [1] [0] rfl rfl rfl rfl (by decide)) (c_X9_thrown l g m0 b 1 _ _) (gi_wsV ml_L_109 im_X9_thrown sl_X9_thrown in_X9 co_X9_thrown) ⟨rfl, by decide +kernel, by decide +kernel, by decide +kernel⟩ ⟨Nat.le_of_ble_eq_true rfl, Nat.le_of_ble_eq_true rfl⟩ rfl rfl rfl hl.1 rfl (Nat.le_of_ble_eq_true rfl) dL_law_838 ⟨Nat.le_of_ble_eq_true rfl, Nat.le_of_ble_eq_true rfl⟩) (Cut.of (wc := [(m0, .inr (9, [.int 1, .ref (b 0), .ref (b 17)]))]) (wr := [(o, .inl (g.2.1 1, 1, .inr (.inl u1)))]) E hA [1] [0] rfl rfl rfl rfl (by decide)) E (fun r4 u4 H locs hp E => ?_)
    have E : Ev g _ s.heap H locs [(o, .inl (g.2.1 1, 1, .inr (.inl u1))), (m0, .inr (9, [.int 1, .ref (b 0), .ref (b 17)]))] := E
    subst hp
    refine lv_iload hx hb dL_law_841 (lv_at hl 1 rfl) ?_
    refine lv_icmp_eq (tgt := 848) hx hb dL_law_843 (by decide) (fun _ => ?_) (fun c_ => absurd rfl c_)
    refine lv_iload hx hb dL_law_848 (lv_at hl 1 rfl) ?_
    refine lv_if_ne (tgt := 865) hx hb dL_law_850 (by decide) (fun _ => ?_) (fun c_ => absurd c_ (show ¬ ((1 : Int32) = 0) by decide))
    refine lv_goto (tgt := 1762) hx hb dL_law_865 (by decide) ?_
    exact law_end C0 hsb hX E.2.2 (lv_sub hl [2, 6] rfl) (Nat.le_of_ble_eq_true rfl) (Nat.le_of_ble_eq_true rfl)
set_option maxHeartbeats 4000000 in
set_option maxRecDepth 100000 in
/-- case 10: transfer -/
theorem law_10 {p : Program} {l : Launch} {e : Env} {s : State} {m : MethodId} {below : List Frame} {meth : Method} {c : Code} {sb : Nat} {xs : Nat → Int32} {H : Heap} {locs : List Loc} {ls : Array Slot} {g : Gm} {x dy wo m0 o : Nat} {ad bd b : Nat → Nat} {ea eb : Nat} {fo : Nat → Int64} (hst : l.stackTraces = false) (C0 : lw_At p s m meth c sb 5 xs) (S : Sta p c cL_law s #[.ref sb] RL m) (hK : va_K g.1 vwC (tysG g) s) (hZ : Zs g (fun q => s.heap.size ≤ q) s s.heap) (E : Ev g (fun q => s.heap.size ≤ q) s.heap H locs (lawW g x dy wo m0 o ad bd b ea eb fo)) (hl : lv_has ls 9 [(0, .ref sb), (1, .ref x), (2, .ref m0), (3, .ref o), (4, .int 0)]) : W p l e room_1 s m #[.ref sb] below meth c H locs 400 3000 (lw_Z below #[.ref sb] s) (F0 m 868 ls []) := by
  have hx := S.1
  have hb := S.2.1
  have hml : c.maxLocals = 9 := C0.2.2.2.1
  have hX : va_X sb 5 xs s s.heap := C0.2.2.2.2.2.2.1
  have hsb : sb < s.heap.size := C0.2.2.2.2.2.2.2.1
  have hbA : ¬ s.heap.size ≤ sb := Nat.not_le.mpr hsb
  have hA : ∀ q : Nat, s.heap.size ≤ q → s.heap.size ≤ q := fun _ h => h
  have E : Ev g (fun q => s.heap.size ≤ q) s.heap H locs [(x, .inr (6, [.ref (ad 0), .ref (bd 0), .ref wo, .ref dy])), ((ad 0), .inr (5, [.ref (ad 1), .ref (ad 2), .ref (ad 3), .ref (ad 4), .ref (ad 29), .ref (ad 5), .ref (ad 6), .ref (ad 7), .int (-1), .int 1, .int 0, .int 0])), ((ad 3), .inr (4, [.ref (ad 18), .ref (ad 19), .ref (ad 20), .ref (ad 21), .ref (ad 22), .ref (ad 23), .ref (ad 24), .ref (ad 25), .ref (ad 26), .ref (ad 27), .int 0])), (m0, .inr (9, [.int 0, .ref (b 0), .ref (b 17)])), ((b 0), .inr (10, [.ref (b 1), .ref (b 2), .ref (b 3), .ref (b 4), .ref (b 5), .ref (b 6), .ref (b 7), .ref (b 8), .ref (b 9), .ref (b 10), .ref (b 11), .ref (b 12), .int 0, .int 0, .int (nI 0), .ref (b 13), .ref (b 14), .ref (b 16)])), ((b 13), .inr (8, [.int 0, .ref (g.2.2 0), .int 0])), (o, .inl (g.2.1 1, 1, .inr (.inl fo)))] := Ev.sub E [0, 2, 5, 64, 65, 78, 83] rfl rfl
  refine lv_aload_n hx hb dL_law_868 rfl (lv_at hl 1 rfl) ?_
  refine lv_aload_n hx hb dL_law_869 rfl (lv_at hl 0 rfl) ?_
  refine lv_iload hx hb dL_law_870 (lv_at hl 4 rfl) ?_
  refine lv_iconst (v := 1) hx hb dL_law_872 (by decide) ?_
  refine k_iadd (v := 1) hx hb (by decide) dL_law_873 ?_
  refine va_sld hx hb hX hsb hbA E.2.2 (i := 1) (by unfold vp_in; decide) dL_law_874 ?_
  have hl := hl
  show W p l e room_1 s m #[.ref sb] below meth c H locs _ _ _ (F0 m 875 ls [.int (xs 1), .ref x])
  refine lv_aload_n hx hb dL_law_875 rfl (lv_at hl 0 rfl) ?_
  refine lv_iload hx hb dL_law_876 (lv_at hl 4 rfl) ?_
  refine lv_iconst (v := 2) hx hb dL_law_878 (by decide) ?_
  refine k_iadd (v := 2) hx hb (by decide) dL_law_879 ?_
  refine va_sld hx hb hX hsb hbA E.2.2 (i := 2) (by unfold vp_in; decide) dL_law_880 ?_
  have hl := hl
  show W p l e room_1 s m #[.ref sb] below meth c H locs _ _ _ (F0 m 881 ls [.int (xs 2), .int (xs 1), .ref x])
  refine lv_aload_n hx hb dL_law_881 rfl (lv_at hl 0 rfl) ?_
  refine lv_iload hx hb dL_law_882 (lv_at hl 4 rfl) ?_
  refine lv_iconst (v := 3) hx hb dL_law_884 (by decide) ?_
  refine k_iadd (v := 3) hx hb (by decide) dL_law_885 ?_
  refine va_sld hx hb hX hsb hbA E.2.2 (i := 3) (by unfold vp_in; decide) dL_law_886 ?_
  have hl := hl
  show W p l e room_1 s m #[.ref sb] below meth c H locs _ _ _ (F0 m 887 ls [.int (xs 3), .int (xs 2), .int (xs 1), .ref x])
  refine lv_aload_n hx hb dL_law_887 rfl (lv_at hl 3 rfl) ?_
  refine y_reti (yrunH (As := [.ref x, .int (xs 1), .int (xs 2), .int (xs 3), .ref o]) (rest := []) (n := 5) S hml hK (hZ.at E) (Cut.of (wc := [(x, .inr (6, [.ref (ad 0), .ref (bd 0), .ref wo, .ref dy])), ((ad 0), .inr (5, [.ref (ad 1), .ref (ad 2), .ref (ad 3), .ref (ad 4), .ref (ad 29), .ref (ad 5), .ref (ad 6), .ref (ad 7), .int (-1), .int 1, .int 0, .int 0])), ((ad 3), .inr (4, [.ref (ad 18), .ref (ad 19), .ref (ad 20), .ref (ad 21), .ref (ad 22), .ref (ad 23), .ref (ad 24), .ref (ad 25), .ref (ad 26), .ref (ad 27), .int 0])), (o, .inl (g.2.1 1, 1, .inr (.inl fo)))]) (wr := [(m0, .inr (9, [.int 0, .ref (b 0), .ref (b 17)])), ((b 0), .inr (10, [.ref (b 1), .ref (b 2), .ref (b 3), .ref (b 4), .ref (b 5), .ref (b 6), .ref (b 7), .ref (b 8), .ref (b 9), .ref (b 10), .ref (b 11), .ref (b 12), .int 0, .int 0, .int (nI 0), .ref (b 13), .ref (b 14), .ref (b 16)])), ((b 13), .inr (8, [.int 0, .ref (g.2.2 0), .int 0]))]) E hA [0, 1, 2, 6] [3, 4, 5] rfl rfl rfl rfl (by decide)) (c_L_transfer l g hst x (bd 0) wo dy ad (xs 1) (xs 2) (xs 3) o fo _ _) ml_L_143 st_L_transfer in_L rfl co_L_transfer ⟨by decide +kernel, by decide +kernel, by decide +kernel⟩ ⟨Nat.le_of_ble_eq_true rfl, Nat.le_of_ble_eq_true rfl⟩ rfl hl.1 rfl (Nat.le_of_ble_eq_true rfl) dL_law_888 ⟨Nat.le_of_ble_eq_true rfl, Nat.le_of_ble_eq_true rfl⟩) (Cut.of (wc := [(x, .inr (6, [.ref (ad 0), .ref (bd 0), .ref wo, .ref dy])), ((ad 0), .inr (5, [.ref (ad 1), .ref (ad 2), .ref (ad 3), .ref (ad 4), .ref (ad 29), .ref (ad 5), .ref (ad 6), .ref (ad 7), .int (-1), .int 1, .int 0, .int 0])), ((ad 3), .inr (4, [.ref (ad 18), .ref (ad 19), .ref (ad 20), .ref (ad 21), .ref (ad 22), .ref (ad 23), .ref (ad 24), .ref (ad 25), .ref (ad 26), .ref (ad 27), .int 0])), (o, .inl (g.2.1 1, 1, .inr (.inl fo)))]) (wr := [(m0, .inr (9, [.int 0, .ref (b 0), .ref (b 17)])), ((b 0), .inr (10, [.ref (b 1), .ref (b 2), .ref (b 3), .ref (b 4), .ref (b 5), .ref (b 6), .ref (b 7), .ref (b 8), .ref (b 9), .ref (b 10), .ref (b 11), .ref (b 12), .int 0, .int 0, .int (nI 0), .ref (b 13), .ref (b 14), .ref (b 16)])), ((b 13), .inr (8, [.int 0, .ref (g.2.2 0), .int 0]))]) E hA [0, 1, 2, 6] [3, 4, 5] rfl rfl rfl rfl (by decide)) E (fun En ce q9 H locs hp E hce hcv hcl => ?_) (fun r1 u1 H locs hp E => ?_)
  · have E : Ev g _ s.heap H locs [(m0, .inr (9, [.int 0, .ref (b 0), .ref (b 17)])), ((b 0), .inr (10, [.ref (b 1), .ref (b 2), .ref (b 3), .ref (b 4), .ref (b 5), .ref (b 6), .ref (b 7), .ref (b 8), .ref (b 9), .ref (b 10), .ref (b 11), .ref (b 12), .int 0, .int 0, .int (nI 0), .ref (b 13), .ref (b 14), .ref (b 16)])), ((b 13), .inr (8, [.int 0, .ref (g.2.2 0), .int 0]))] := E
    exact False.elim hp
  · skip
    have E : Ev g _ s.heap H locs [(m0, .inr (9, [.int 0, .ref (b 0), .ref (b 17)])), ((b 0), .inr (10, [.ref (b 1), .ref (b 2), .ref (b 3), .ref (b 4), .ref (b 5), .ref (b 6), .ref (b 7), .ref (b 8), .ref (b 9), .ref (b 10), .ref (b 11), .ref (b 12), .int 0, .int 0, .int (nI 0), .ref (b 13), .ref (b 14), .ref (b 16)])), ((b 13), .inr (8, [.int 0, .ref (g.2.2 0), .int 0])), (o, .inl (g.2.1 1, 1, .inr (.inl u1)))] := E
    obtain rfl := hp
    refine lv_istore (lv' := [(5, .int 1), (0, .ref sb), (1, .ref x), (2, .ref m0), (3, .ref o), (4, .int 0)]) hx hb dL_law_891 hl (by decide) rfl (fun ls hl => ?_)
    refine lv_aload_n hx hb dL_law_893 rfl (lv_at hl 3 rfl) ?_
    refine lv_aload_n hx hb dL_law_894 rfl (lv_at hl 1 rfl) ?_
    refine lv_iload hx hb dL_law_895 (lv_at hl 5 rfl) ?_
    refine lv_iconst (v := 1) hx hb dL_law_897 (by decide) ?_
    refine k_iadd (v := 1) hx hb (by decide) dL_law_898 ?_
    refine va_sld hx hb hX hsb hbA E.2.2 (i := 1) (by unfold vp_in; decide) dL_law_899 ?_
    have hl := hl
    show W p l e room_1 s m #[.ref sb] below meth c H locs _ _ _ (F0 m 900 ls [.int (xs 1), .ref m0])
    refine lv_aload_n hx hb dL_law_900 rfl (lv_at hl 1 rfl) ?_
    refine lv_iload hx hb dL_law_901 (lv_at hl 5 rfl) ?_
    refine lv_iconst (v := 2) hx hb dL_law_903 (by decide) ?_
    refine k_iadd (v := 2) hx hb (by decide) dL_law_904 ?_
    refine va_sld hx hb hX hsb hbA E.2.2 (i := 2) (by unfold vp_in; decide) dL_law_905 ?_
    have hl := hl
    show W p l e room_1 s m #[.ref sb] below meth c H locs _ _ _ (F0 m 906 ls [.int (xs 2), .int (xs 1), .ref m0])
    refine lv_aload_n hx hb dL_law_906 rfl (lv_at hl 1 rfl) ?_
    refine lv_iload hx hb dL_law_907 (lv_at hl 5 rfl) ?_
    refine lv_iconst (v := 3) hx hb dL_law_909 (by decide) ?_
    refine k_iadd (v := 3) hx hb (by decide) dL_law_910 ?_
    refine va_sld hx hb hX hsb hbA E.2.2 (i := 3) (by unfold vp_in; decide) dL_law_911 ?_
    have hl := hl
    show W p l e room_1 s m #[.ref sb] below meth c H locs _ _ _ (F0 m 912 ls [.int (xs 3), .int (xs 2), .int (xs 1), .ref m0])
    refine w_reti (runV_X (As := [.int (xs 1), .int (xs 2), .int (xs 3)]) (rest := []) (q0 := 0) (n := 3) S hml hK (hZ.at E) (Cut.of (wc := [(m0, .inr (9, [.int 0, .ref (b 0), .ref (b 17)])), ((b 0), .inr (10, [.ref (b 1), .ref (b 2), .ref (b 3), .ref (b 4), .ref (b 5), .ref (b 6), .ref (b 7), .ref (b 8), .ref (b 9), .ref (b 10), .ref (b 11), .ref (b 12), .int 0, .int 0, .int (nI 0), .ref (b 13), .ref (b 14), .ref (b 16)])), ((b 13), .inr (8, [.int 0, .ref (g.2.2 0), .int 0]))]) (wr := [(o, .inl (g.2.1 1, 1, .inr (.inl u1)))]) E hA [0, 1, 2] [3] rfl rfl rfl rfl (by decide)) (c_X9_transfer l g m0 b (xs 1) (xs 2) (xs 3) _ _) (gi_wsV ml_L_145 im_X9_transfer sl_X9_transfer in_X9 co_X9_transfer) ⟨rfl, by decide +kernel, by decide +kernel, by decide +kernel⟩ ⟨Nat.le_of_ble_eq_true rfl, Nat.le_of_ble_eq_true rfl⟩ rfl rfl rfl hl.1 rfl (Nat.le_of_ble_eq_true rfl) dL_law_912 ⟨Nat.le_of_ble_eq_true rfl, Nat.le_of_ble_eq_true rfl⟩) (Cut.of (wc := [(m0, .inr (9, [.int 0, .ref (b 0), .ref (b 17)])), ((b 0), .inr (10, [.ref (b 1), .ref (b 2), .ref (b 3), .ref (b 4), .ref (b 5), .ref (b 6), .ref (b 7), .ref (b 8), .ref (b 9), .ref (b 10), .ref (b 11), .ref (b 12), .int 0, .int 0, .int (nI 0), .ref (b 13), .ref (b 14), .ref (b 16)])), ((b 13), .inr (8, [.int 0, .ref (g.2.2 0), .int 0]))]) (wr := [(o, .inl (g.2.1 1, 1, .inr (.inl u1)))]) E hA [0, 1, 2] [3] rfl rfl rfl rfl (by decide)) E (fun r3 u3 H locs hp E => ?_)
    have E : Ev g _ s.heap H locs [(o, .inl (g.2.1 1, 1, .inr (.inl u1))), (m0, .inr (9, [.int 1, .ref (b 0), .ref (b 17)]))] := E
    have hT := hp
    refine lv_istore (lv' := [(6, .int r3), (5, .int 1), (0, .ref sb), (1, .ref x), (2, .ref m0), (3, .ref o), (4, .int 0)]) hx hb dL_law_915 hl (by decide) rfl (fun ls hl => ?_)
    refine lv_aload_n hx hb dL_law_917 rfl (lv_at hl 4 rfl) ?_
    refine w_reti (runV_X (As := []) (rest := []) (q0 := 0) (n := 0) S hml hK (hZ.at E) (Cut.of (wc := [(m0, .inr (9, [.int 1, .ref (b 0), .ref (b 17)]))]) (wr := [(o, .inl (g.2.1 1, 1, .inr (.inl u1)))]) E hA [1] [0] rfl rfl rfl rfl (by decide)) (c_X9_thrown l g m0 b 1 _ _) (gi_wsV ml_L_109 im_X9_thrown sl_X9_thrown in_X9 co_X9_thrown) ⟨rfl, by decide +kernel, by decide +kernel, by decide +kernel⟩ ⟨Nat.le_of_ble_eq_true rfl, Nat.le_of_ble_eq_true rfl⟩ rfl rfl rfl hl.1 rfl (Nat.le_of_ble_eq_true rfl) dL_law_918 ⟨Nat.le_of_ble_eq_true rfl, Nat.le_of_ble_eq_true rfl⟩) (Cut.of (wc := [(m0, .inr (9, [.int 1, .ref (b 0), .ref (b 17)]))]) (wr := [(o, .inl (g.2.1 1, 1, .inr (.inl u1)))]) E hA [1] [0] rfl rfl rfl rfl (by decide)) E (fun r4 u4 H locs hp E => ?_)
    have E : Ev g _ s.heap H locs [(o, .inl (g.2.1 1, 1, .inr (.inl u1))), (m0, .inr (9, [.int 1, .ref (b 0), .ref (b 17)]))] := E
    subst hp
    refine lv_iload hx hb dL_law_921 (lv_at hl 1 rfl) ?_
    refine lv_icmp_eq (tgt := 928) hx hb dL_law_923 (by decide) (fun _ => ?_) (fun c_ => absurd rfl c_)
    refine lv_iload hx hb dL_law_928 (lv_at hl 1 rfl) ?_
    refine lv_if_ne (tgt := 945) hx hb dL_law_930 (by decide) (fun _ => ?_) (fun c_ => absurd c_ (show ¬ ((1 : Int32) = 0) by decide))
    refine lv_goto (tgt := 1762) hx hb dL_law_945 (by decide) ?_
    exact law_end C0 hsb hX E.2.2 (lv_sub hl [2, 6] rfl) (Nat.le_of_ble_eq_true rfl) (Nat.le_of_ble_eq_true rfl)
set_option maxHeartbeats 4000000 in
set_option maxRecDepth 100000 in
/-- case 11: pass -/
theorem law_11 {p : Program} {l : Launch} {e : Env} {s : State} {m : MethodId} {below : List Frame} {meth : Method} {c : Code} {sb : Nat} {xs : Nat → Int32} {H : Heap} {locs : List Loc} {ls : Array Slot} {g : Gm} {x dy wo m0 o : Nat} {ad bd b : Nat → Nat} {ea eb : Nat} {fo : Nat → Int64} (hst : l.stackTraces = false) (C0 : lw_At p s m meth c sb 5 xs) (S : Sta p c cL_law s #[.ref sb] RL m) (hK : va_K g.1 vwC (tysG g) s) (hZ : Zs g (fun q => s.heap.size ≤ q) s s.heap) (E : Ev g (fun q => s.heap.size ≤ q) s.heap H locs (lawW g x dy wo m0 o ad bd b ea eb fo)) (hl : lv_has ls 9 [(0, .ref sb), (1, .ref x), (2, .ref m0), (3, .ref o), (4, .int 0)]) : W p l e room_1 s m #[.ref sb] below meth c H locs 400 3000 (lw_Z below #[.ref sb] s) (F0 m 948 ls []) := by
  have hx := S.1
  have hb := S.2.1
  have hml : c.maxLocals = 9 := C0.2.2.2.1
  have hX : va_X sb 5 xs s s.heap := C0.2.2.2.2.2.2.1
  have hsb : sb < s.heap.size := C0.2.2.2.2.2.2.2.1
  have hbA : ¬ s.heap.size ≤ sb := Nat.not_le.mpr hsb
  have hA : ∀ q : Nat, s.heap.size ≤ q → s.heap.size ≤ q := fun _ h => h
  have E : Ev g (fun q => s.heap.size ≤ q) s.heap H locs ([(x, .inr (6, [.ref (ad 0), .ref (bd 0), .ref wo, .ref dy])), (dy, .inr (8, [.int 0, .ref (g.2.2 0), .int 0]))] ++ wsW g ad (-1) 1 0 ea σ0 ++ [(m0, .inr (9, [.int 0, .ref (b 0), .ref (b 17)])), ((b 0), .inr (10, [.ref (b 1), .ref (b 2), .ref (b 3), .ref (b 4), .ref (b 5), .ref (b 6), .ref (b 7), .ref (b 8), .ref (b 9), .ref (b 10), .ref (b 11), .ref (b 12), .int 0, .int 0, .int (nI 0), .ref (b 13), .ref (b 14), .ref (b 16)])), ((b 1), .inl (g.2.1 0, 16, .inl (fun _ => 0))), ((b 2), .inl (g.2.1 0, 16, .inl (fun _ => 10))), ((b 3), .inl (g.2.1 0, 16, .inl (fun _ => 0))), ((b 4), .inl (g.2.1 0, 16, .inl (fun _ => 0))), ((b 5), .inl (g.2.1 0, 8, .inl (fun _ => 100))), ((b 6), .inl (g.2.1 0, 2, .inl (fun _ => 4))), ((b 7), .inl (g.2.1 0, 8, .inl (fun _ => 0))), ((b 8), .inl (g.2.1 0, 8, .inl (fun _ => 0))), ((b 9), .inl (g.2.1 0, 8, .inl (fun _ => 0))), ((b 10), .inl (g.2.1 0, 8, .inl (fun _ => 0))), ((b 11), .inl (g.2.1 0, 16, .inl (fun _ => 0))), ((b 12), .inl (g.2.1 0, 16, .inl (fun _ => 0))), ((b 13), .inr (8, [.int 0, .ref (g.2.2 0), .int 0])), ((b 16), .inl (g.2.1 1, 26, .inr (.inl (fun _ => 0)))), ((b 17), .inr (8, [.int 0, .ref (g.2.2 0), .int 0])), (o, .inl (g.2.1 1, 1, .inr (.inl fo)))]) := Ev.sub E [0, 1, 2, 3, 4, 5, 6, 7, 8, 9, 10, 11, 12, 13, 14, 15, 16, 17, 18, 19, 20, 21, 22, 23, 24, 25, 26, 27, 28, 29, 30, 31, 32, 64, 65, 66, 67, 68, 69, 70, 71, 72, 73, 74, 75, 76, 77, 78, 81, 82, 83] rfl rfl
  refine lv_aload_n hx hb dL_law_948 rfl (lv_at hl 1 rfl) ?_
  refine lv_aload_n hx hb dL_law_949 rfl (lv_at hl 0 rfl) ?_
  refine lv_iload hx hb dL_law_950 (lv_at hl 4 rfl) ?_
  refine lv_iconst (v := 1) hx hb dL_law_952 (by decide) ?_
  refine k_iadd (v := 1) hx hb (by decide) dL_law_953 ?_
  refine va_sld hx hb hX hsb hbA E.2.2 (i := 1) (by unfold vp_in; decide) dL_law_954 ?_
  have hl := hl
  show W p l e room_1 s m #[.ref sb] below meth c H locs _ _ _ (F0 m 955 ls [.int (xs 1), .ref x])
  refine lv_aload_n hx hb dL_law_955 rfl (lv_at hl 3 rfl) ?_
  refine y_reti (yrunH (As := [.ref x, .int (xs 1), .ref o]) (rest := []) (n := 3) S hml hK (hZ.at E) (Cut.of (wc := ([(x, .inr (6, [.ref (ad 0), .ref (bd 0), .ref wo, .ref dy])), (dy, .inr (8, [.int 0, .ref (g.2.2 0), .int 0]))] ++ wsW g ad (-1) 1 0 ea σ0 ++ [(o, .inl (g.2.1 1, 1, .inr (.inl fo)))])) (wr := [(m0, .inr (9, [.int 0, .ref (b 0), .ref (b 17)])), ((b 0), .inr (10, [.ref (b 1), .ref (b 2), .ref (b 3), .ref (b 4), .ref (b 5), .ref (b 6), .ref (b 7), .ref (b 8), .ref (b 9), .ref (b 10), .ref (b 11), .ref (b 12), .int 0, .int 0, .int (nI 0), .ref (b 13), .ref (b 14), .ref (b 16)])), ((b 1), .inl (g.2.1 0, 16, .inl (fun _ => 0))), ((b 2), .inl (g.2.1 0, 16, .inl (fun _ => 10))), ((b 3), .inl (g.2.1 0, 16, .inl (fun _ => 0))), ((b 4), .inl (g.2.1 0, 16, .inl (fun _ => 0))), ((b 5), .inl (g.2.1 0, 8, .inl (fun _ => 100))), ((b 6), .inl (g.2.1 0, 2, .inl (fun _ => 4))), ((b 7), .inl (g.2.1 0, 8, .inl (fun _ => 0))), ((b 8), .inl (g.2.1 0, 8, .inl (fun _ => 0))), ((b 9), .inl (g.2.1 0, 8, .inl (fun _ => 0))), ((b 10), .inl (g.2.1 0, 8, .inl (fun _ => 0))), ((b 11), .inl (g.2.1 0, 16, .inl (fun _ => 0))), ((b 12), .inl (g.2.1 0, 16, .inl (fun _ => 0))), ((b 13), .inr (8, [.int 0, .ref (g.2.2 0), .int 0])), ((b 16), .inl (g.2.1 1, 26, .inr (.inl (fun _ => 0)))), ((b 17), .inr (8, [.int 0, .ref (g.2.2 0), .int 0]))]) E hA [0, 1, 2, 3, 4, 5, 6, 7, 8, 9, 10, 11, 12, 13, 14, 15, 16, 17, 18, 19, 20, 21, 22, 23, 24, 25, 26, 27, 28, 29, 30, 31, 32, 50] [33, 34, 35, 36, 37, 38, 39, 40, 41, 42, 43, 44, 45, 46, 47, 48, 49] rfl rfl rfl rfl (by decide)) (c_L_pass l g hst x (bd 0) wo dy ad ea (xs 1) o fo _ _) ml_L_146 st_L_pass in_L rfl co_L_pass ⟨by decide +kernel, by decide +kernel, by decide +kernel⟩ ⟨Nat.le_of_ble_eq_true rfl, Nat.le_of_ble_eq_true rfl⟩ rfl hl.1 rfl (Nat.le_of_ble_eq_true rfl) dL_law_956 ⟨Nat.le_of_ble_eq_true rfl, Nat.le_of_ble_eq_true rfl⟩) (Cut.of (wc := ([(x, .inr (6, [.ref (ad 0), .ref (bd 0), .ref wo, .ref dy])), (dy, .inr (8, [.int 0, .ref (g.2.2 0), .int 0]))] ++ wsW g ad (-1) 1 0 ea σ0 ++ [(o, .inl (g.2.1 1, 1, .inr (.inl fo)))])) (wr := [(m0, .inr (9, [.int 0, .ref (b 0), .ref (b 17)])), ((b 0), .inr (10, [.ref (b 1), .ref (b 2), .ref (b 3), .ref (b 4), .ref (b 5), .ref (b 6), .ref (b 7), .ref (b 8), .ref (b 9), .ref (b 10), .ref (b 11), .ref (b 12), .int 0, .int 0, .int (nI 0), .ref (b 13), .ref (b 14), .ref (b 16)])), ((b 1), .inl (g.2.1 0, 16, .inl (fun _ => 0))), ((b 2), .inl (g.2.1 0, 16, .inl (fun _ => 10))), ((b 3), .inl (g.2.1 0, 16, .inl (fun _ => 0))), ((b 4), .inl (g.2.1 0, 16, .inl (fun _ => 0))), ((b 5), .inl (g.2.1 0, 8, .inl (fun _ => 100))), ((b 6), .inl (g.2.1 0, 2, .inl (fun _ => 4))), ((b 7), .inl (g.2.1 0, 8, .inl (fun _ => 0))), ((b 8), .inl (g.2.1 0, 8, .inl (fun _ => 0))), ((b 9), .inl (g.2.1 0, 8, .inl (fun _ => 0))), ((b 10), .inl (g.2.1 0, 8, .inl (fun _ => 0))), ((b 11), .inl (g.2.1 0, 16, .inl (fun _ => 0))), ((b 12), .inl (g.2.1 0, 16, .inl (fun _ => 0))), ((b 13), .inr (8, [.int 0, .ref (g.2.2 0), .int 0])), ((b 16), .inl (g.2.1 1, 26, .inr (.inl (fun _ => 0)))), ((b 17), .inr (8, [.int 0, .ref (g.2.2 0), .int 0]))]) E hA [0, 1, 2, 3, 4, 5, 6, 7, 8, 9, 10, 11, 12, 13, 14, 15, 16, 17, 18, 19, 20, 21, 22, 23, 24, 25, 26, 27, 28, 29, 30, 31, 32, 50] [33, 34, 35, 36, 37, 38, 39, 40, 41, 42, 43, 44, 45, 46, 47, 48, 49] rfl rfl rfl rfl (by decide)) E (fun En ce q9 H locs hp E hce hcv hcl => ?_) (fun r1 u1 H locs hp E => ?_)
  · have E : Ev g _ s.heap H locs [(m0, .inr (9, [.int 0, .ref (b 0), .ref (b 17)])), ((b 0), .inr (10, [.ref (b 1), .ref (b 2), .ref (b 3), .ref (b 4), .ref (b 5), .ref (b 6), .ref (b 7), .ref (b 8), .ref (b 9), .ref (b 10), .ref (b 11), .ref (b 12), .int 0, .int 0, .int (nI 0), .ref (b 13), .ref (b 14), .ref (b 16)])), ((b 1), .inl (g.2.1 0, 16, .inl (fun _ => 0))), ((b 2), .inl (g.2.1 0, 16, .inl (fun _ => 10))), ((b 3), .inl (g.2.1 0, 16, .inl (fun _ => 0))), ((b 4), .inl (g.2.1 0, 16, .inl (fun _ => 0))), ((b 5), .inl (g.2.1 0, 8, .inl (fun _ => 100))), ((b 6), .inl (g.2.1 0, 2, .inl (fun _ => 4))), ((b 7), .inl (g.2.1 0, 8, .inl (fun _ => 0))), ((b 8), .inl (g.2.1 0, 8, .inl (fun _ => 0))), ((b 9), .inl (g.2.1 0, 8, .inl (fun _ => 0))), ((b 10), .inl (g.2.1 0, 8, .inl (fun _ => 0))), ((b 11), .inl (g.2.1 0, 16, .inl (fun _ => 0))), ((b 12), .inl (g.2.1 0, 16, .inl (fun _ => 0))), ((b 13), .inr (8, [.int 0, .ref (g.2.2 0), .int 0])), ((b 16), .inl (g.2.1 1, 26, .inr (.inl (fun _ => 0)))), ((b 17), .inr (8, [.int 0, .ref (g.2.2 0), .int 0]))] := E
    exact False.elim hp
  · skip
    have E : Ev g _ s.heap H locs [(m0, .inr (9, [.int 0, .ref (b 0), .ref (b 17)])), ((b 0), .inr (10, [.ref (b 1), .ref (b 2), .ref (b 3), .ref (b 4), .ref (b 5), .ref (b 6), .ref (b 7), .ref (b 8), .ref (b 9), .ref (b 10), .ref (b 11), .ref (b 12), .int 0, .int 0, .int (nI 0), .ref (b 13), .ref (b 14), .ref (b 16)])), ((b 1), .inl (g.2.1 0, 16, .inl (fun _ => 0))), ((b 2), .inl (g.2.1 0, 16, .inl (fun _ => 10))), ((b 3), .inl (g.2.1 0, 16, .inl (fun _ => 0))), ((b 4), .inl (g.2.1 0, 16, .inl (fun _ => 0))), ((b 5), .inl (g.2.1 0, 8, .inl (fun _ => 100))), ((b 6), .inl (g.2.1 0, 2, .inl (fun _ => 4))), ((b 7), .inl (g.2.1 0, 8, .inl (fun _ => 0))), ((b 8), .inl (g.2.1 0, 8, .inl (fun _ => 0))), ((b 9), .inl (g.2.1 0, 8, .inl (fun _ => 0))), ((b 10), .inl (g.2.1 0, 8, .inl (fun _ => 0))), ((b 11), .inl (g.2.1 0, 16, .inl (fun _ => 0))), ((b 12), .inl (g.2.1 0, 16, .inl (fun _ => 0))), ((b 13), .inr (8, [.int 0, .ref (g.2.2 0), .int 0])), ((b 16), .inl (g.2.1 1, 26, .inr (.inl (fun _ => 0)))), ((b 17), .inr (8, [.int 0, .ref (g.2.2 0), .int 0])), (o, .inl (g.2.1 1, 1, .inr (.inl u1)))] := E
    obtain ⟨rfl, hU2⟩ := hp
    refine lv_istore (lv' := [(5, .int (kk_pass (xs 1))), (0, .ref sb), (1, .ref x), (2, .ref m0), (3, .ref o), (4, .int 0)]) hx hb dL_law_959 hl (by decide) rfl (fun ls hl => ?_)
    refine lv_aload_n hx hb dL_law_961 rfl (lv_at hl 3 rfl) ?_
    refine lv_aload_n hx hb dL_law_962 rfl (lv_at hl 1 rfl) ?_
    refine lv_iload hx hb dL_law_963 (lv_at hl 5 rfl) ?_
    refine lv_iconst (v := 1) hx hb dL_law_965 (by decide) ?_
    refine k_iadd (v := 1) hx hb (by decide) dL_law_966 ?_
    refine va_sld hx hb hX hsb hbA E.2.2 (i := 1) (by unfold vp_in; decide) dL_law_967 ?_
    have hl := hl
    show W p l e room_1 s m #[.ref sb] below meth c H locs _ _ _ (F0 m 968 ls [.int (xs 1), .ref m0])
    refine w_reti (runV_X (As := [.int (xs 1)]) (rest := []) (q0 := 0) (n := 1) S hml hK (hZ.at E) (Cut.of (wc := [(m0, .inr (9, [.int 0, .ref (b 0), .ref (b 17)])), ((b 17), .inr (8, [.int 0, .ref (g.2.2 0), .int 0])), ((b 0), .inr (10, [.ref (b 1), .ref (b 2), .ref (b 3), .ref (b 4), .ref (b 5), .ref (b 6), .ref (b 7), .ref (b 8), .ref (b 9), .ref (b 10), .ref (b 11), .ref (b 12), .int 0, .int 0, .int (nI 0), .ref (b 13), .ref (b 14), .ref (b 16)])), ((b 1), .inl (g.2.1 0, 16, .inl (fun _ => 0))), ((b 2), .inl (g.2.1 0, 16, .inl (fun _ => 10))), ((b 3), .inl (g.2.1 0, 16, .inl (fun _ => 0))), ((b 4), .inl (g.2.1 0, 16, .inl (fun _ => 0))), ((b 5), .inl (g.2.1 0, 8, .inl (fun _ => 100))), ((b 6), .inl (g.2.1 0, 2, .inl (fun _ => 4))), ((b 7), .inl (g.2.1 0, 8, .inl (fun _ => 0))), ((b 8), .inl (g.2.1 0, 8, .inl (fun _ => 0))), ((b 9), .inl (g.2.1 0, 8, .inl (fun _ => 0))), ((b 10), .inl (g.2.1 0, 8, .inl (fun _ => 0))), ((b 11), .inl (g.2.1 0, 16, .inl (fun _ => 0))), ((b 12), .inl (g.2.1 0, 16, .inl (fun _ => 0))), ((b 13), .inr (8, [.int 0, .ref (g.2.2 0), .int 0])), ((b 16), .inl (g.2.1 1, 26, .inr (.inl (fun _ => 0))))]) (wr := [(o, .inl (g.2.1 1, 1, .inr (.inl u1)))]) E hA [0, 16, 1, 2, 3, 4, 5, 6, 7, 8, 9, 10, 11, 12, 13, 14, 15] [17] rfl rfl rfl rfl (by decide)) (c_X9_pass l g m0 b (xs 1) _ _) (gi_wsV ml_L_148 im_X9_pass sl_X9_pass in_X9 co_X9_pass) ⟨rfl, by decide +kernel, by decide +kernel, by decide +kernel⟩ ⟨Nat.le_of_ble_eq_true rfl, Nat.le_of_ble_eq_true rfl⟩ rfl rfl rfl hl.1 rfl (Nat.le_of_ble_eq_true rfl) dL_law_968 ⟨Nat.le_of_ble_eq_true rfl, Nat.le_of_ble_eq_true rfl⟩) (Cut.of (wc := [(m0, .inr (9, [.int 0, .ref (b 0), .ref (b 17)])), ((b 17), .inr (8, [.int 0, .ref (g.2.2 0), .int 0])), ((b 0), .inr (10, [.ref (b 1), .ref (b 2), .ref (b 3), .ref (b 4), .ref (b 5), .ref (b 6), .ref (b 7), .ref (b 8), .ref (b 9), .ref (b 10), .ref (b 11), .ref (b 12), .int 0, .int 0, .int (nI 0), .ref (b 13), .ref (b 14), .ref (b 16)])), ((b 1), .inl (g.2.1 0, 16, .inl (fun _ => 0))), ((b 2), .inl (g.2.1 0, 16, .inl (fun _ => 10))), ((b 3), .inl (g.2.1 0, 16, .inl (fun _ => 0))), ((b 4), .inl (g.2.1 0, 16, .inl (fun _ => 0))), ((b 5), .inl (g.2.1 0, 8, .inl (fun _ => 100))), ((b 6), .inl (g.2.1 0, 2, .inl (fun _ => 4))), ((b 7), .inl (g.2.1 0, 8, .inl (fun _ => 0))), ((b 8), .inl (g.2.1 0, 8, .inl (fun _ => 0))), ((b 9), .inl (g.2.1 0, 8, .inl (fun _ => 0))), ((b 10), .inl (g.2.1 0, 8, .inl (fun _ => 0))), ((b 11), .inl (g.2.1 0, 16, .inl (fun _ => 0))), ((b 12), .inl (g.2.1 0, 16, .inl (fun _ => 0))), ((b 13), .inr (8, [.int 0, .ref (g.2.2 0), .int 0])), ((b 16), .inl (g.2.1 1, 26, .inr (.inl (fun _ => 0))))]) (wr := [(o, .inl (g.2.1 1, 1, .inr (.inl u1)))]) E hA [0, 16, 1, 2, 3, 4, 5, 6, 7, 8, 9, 10, 11, 12, 13, 14, 15] [17] rfl rfl rfl rfl (by decide)) E (fun r3 u3 H locs hp E => ?_)
    have E : Ev g _ s.heap H locs [(o, .inl (g.2.1 1, 1, .inr (.inl u1))), (m0, .inr (9, [.int u3, .ref (b 0), .ref (b 17)]))] := E
    obtain ⟨rfl, hV4⟩ := hp
    refine lv_istore (lv' := [(6, .int r3), (5, .int (kk_pass (xs 1))), (0, .ref sb), (1, .ref x), (2, .ref m0), (3, .ref o), (4, .int 0)]) hx hb dL_law_971 hl (by decide) rfl (fun ls hl => ?_)
    refine lv_aload_n hx hb dL_law_973 rfl (lv_at hl 4 rfl) ?_
    refine w_reti (runV_X (As := []) (rest := []) (q0 := 0) (n := 0) S hml hK (hZ.at E) (Cut.of (wc := [(m0, .inr (9, [.int (kk_pass (xs 1)), .ref (b 0), .ref (b 17)]))]) (wr := [(o, .inl (g.2.1 1, 1, .inr (.inl u1)))]) E hA [1] [0] rfl rfl rfl rfl (by decide)) (c_X9_thrown l g m0 b (kk_pass (xs 1)) _ _) (gi_wsV ml_L_109 im_X9_thrown sl_X9_thrown in_X9 co_X9_thrown) ⟨rfl, by decide +kernel, by decide +kernel, by decide +kernel⟩ ⟨Nat.le_of_ble_eq_true rfl, Nat.le_of_ble_eq_true rfl⟩ rfl rfl rfl hl.1 rfl (Nat.le_of_ble_eq_true rfl) dL_law_974 ⟨Nat.le_of_ble_eq_true rfl, Nat.le_of_ble_eq_true rfl⟩) (Cut.of (wc := [(m0, .inr (9, [.int (kk_pass (xs 1)), .ref (b 0), .ref (b 17)]))]) (wr := [(o, .inl (g.2.1 1, 1, .inr (.inl u1)))]) E hA [1] [0] rfl rfl rfl rfl (by decide)) E (fun r5 u5 H locs hp E => ?_)
    have E : Ev g _ s.heap H locs [(o, .inl (g.2.1 1, 1, .inr (.inl u1))), (m0, .inr (9, [.int (kk_pass (xs 1)), .ref (b 0), .ref (b 17)]))] := E
    subst hp
    refine lv_iload hx hb dL_law_977 (lv_at hl 1 rfl) ?_
    refine lv_icmp_eq (tgt := 984) hx hb dL_law_979 (by decide) (fun _ => ?_) (fun c_ => absurd rfl c_)
    refine lv_iload hx hb dL_law_984 (lv_at hl 1 rfl) ?_
    refine lv_if_ne (tgt := 1001) hx hb dL_law_986 (by decide) (fun c6 => ?_) (fun c6 => ?_)
    · have c6 : ¬ ((kk_pass (xs 1)) = 0) := c6
      refine lv_goto (tgt := 1762) hx hb dL_law_1001 (by decide) ?_
      exact law_end C0 hsb hX E.2.2 (lv_sub hl [2, 6] rfl) (Nat.le_of_ble_eq_true rfl) (Nat.le_of_ble_eq_true rfl)
    · have c6 : (kk_pass (xs 1)) = 0 := c6
      refine lv_aload_n hx hb dL_law_989 rfl (lv_at hl 5 rfl) ?_
      refine lv_iconst (v := 0) hx hb dL_law_990 (by decide) ?_
      refine w_lld (v := ((xs 1)).toInt64) S hK E 0 1 rfl rfl (show vp_in 0 1 by unfold vp_in; decide) (hU2 c6) dL_law_991 ?_
      refine lv_iload hx hb dL_law_992 (lv_at hl 0 rfl) ?_
      refine lv_i2l (v := ((xs 1)).toInt64) hx hb dL_law_994 (congrArg Int32.toInt64 (hV4 c6)) ?_
      refine k_lcmp (v := 0) hx hb (lg_cmp_self _) dL_law_995 ?_
      refine lv_if_eq (tgt := 1001) hx hb dL_law_996 (by decide) (fun _ => ?_) (fun c_ => absurd (show (0 : Int32) = 0 by decide) c_)
      refine lv_goto (tgt := 1762) hx hb dL_law_1001 (by decide) ?_
      exact law_end C0 hsb hX E.2.2 (lv_sub hl [2, 6] rfl) (Nat.le_of_ble_eq_true rfl) (Nat.le_of_ble_eq_true rfl)
set_option maxHeartbeats 4000000 in
set_option maxRecDepth 100000 in
/-- case 12: level -/
theorem law_12 {p : Program} {l : Launch} {e : Env} {s : State} {m : MethodId} {below : List Frame} {meth : Method} {c : Code} {sb : Nat} {xs : Nat → Int32} {H : Heap} {locs : List Loc} {ls : Array Slot} {g : Gm} {x dy wo m0 o : Nat} {ad bd b : Nat → Nat} {ea eb : Nat} {fo : Nat → Int64} (hst : l.stackTraces = false) (C0 : lw_At p s m meth c sb 5 xs) (S : Sta p c cL_law s #[.ref sb] RL m) (hK : va_K g.1 vwC (tysG g) s) (hZ : Zs g (fun q => s.heap.size ≤ q) s s.heap) (E : Ev g (fun q => s.heap.size ≤ q) s.heap H locs (lawW g x dy wo m0 o ad bd b ea eb fo)) (hl : lv_has ls 9 [(0, .ref sb), (1, .ref x), (2, .ref m0), (3, .ref o), (4, .int 0)]) : W p l e room_1 s m #[.ref sb] below meth c H locs 400 3000 (lw_Z below #[.ref sb] s) (F0 m 1004 ls []) := by
  have hx := S.1
  have hb := S.2.1
  have hml : c.maxLocals = 9 := C0.2.2.2.1
  have hX : va_X sb 5 xs s s.heap := C0.2.2.2.2.2.2.1
  have hsb : sb < s.heap.size := C0.2.2.2.2.2.2.2.1
  have hbA : ¬ s.heap.size ≤ sb := Nat.not_le.mpr hsb
  have hA : ∀ q : Nat, s.heap.size ≤ q → s.heap.size ≤ q := fun _ h => h
  have E : Ev g (fun q => s.heap.size ≤ q) s.heap H locs [(x, .inr (6, [.ref (ad 0), .ref (bd 0), .ref wo, .ref dy])), ((ad 0), .inr (5, [.ref (ad 1), .ref (ad 2), .ref (ad 3), .ref (ad 4), .ref (ad 29), .ref (ad 5), .ref (ad 6), .ref (ad 7), .int (-1), .int 1, .int 0, .int 0])), ((ad 1), .inr (2, [.ref (ad 8), .ref (ad 9), .ref (ad 10), .ref (ad 11)])), ((ad 8), .inl (g.2.1 0, 16, .inl (fun _ => 0))), ((ad 9), .inl (g.2.1 0, 16, .inl (fun _ => 10))), ((ad 10), .inl (g.2.1 0, 16, .inl (fun _ => 0))), (m0, .inr (9, [.int 0, .ref (b 0), .ref (b 17)])), ((b 0), .inr (10, [.ref (b 1), .ref (b 2), .ref (b 3), .ref (b 4), .ref (b 5), .ref (b 6), .ref (b 7), .ref (b 8), .ref (b 9), .ref (b 10), .ref (b 11), .ref (b 12), .int 0, .int 0, .int (nI 0), .ref (b 13), .ref (b 14), .ref (b 16)])), ((b 1), .inl (g.2.1 0, 16, .inl (fun _ => 0))), ((b 2), .inl (g.2.1 0, 16, .inl (fun _ => 10))), ((b 3), .inl (g.2.1 0, 16, .inl (fun _ => 0))), (o, .inl (g.2.1 1, 1, .inr (.inl fo)))] := Ev.sub E [0, 2, 3, 10, 11, 12, 64, 65, 66, 67, 68, 83] rfl rfl
  refine lv_aload_n hx hb dL_law_1004 rfl (lv_at hl 1 rfl) ?_
  refine lv_aload_n hx hb dL_law_1005 rfl (lv_at hl 0 rfl) ?_
  refine lv_iload hx hb dL_law_1006 (lv_at hl 4 rfl) ?_
  refine lv_iconst (v := 1) hx hb dL_law_1008 (by decide) ?_
  refine k_iadd (v := 1) hx hb (by decide) dL_law_1009 ?_
  refine va_sld hx hb hX hsb hbA E.2.2 (i := 1) (by unfold vp_in; decide) dL_law_1010 ?_
  have hl := hl
  show W p l e room_1 s m #[.ref sb] below meth c H locs _ _ _ (F0 m 1011 ls [.int (xs 1), .ref x])
  refine lv_aload_n hx hb dL_law_1011 rfl (lv_at hl 3 rfl) ?_
  refine y_reti (yrunH (As := [.ref x, .int (xs 1), .ref o]) (rest := []) (n := 3) S hml hK (hZ.at E) (Cut.of (wc := [(x, .inr (6, [.ref (ad 0), .ref (bd 0), .ref wo, .ref dy])), ((ad 0), .inr (5, [.ref (ad 1), .ref (ad 2), .ref (ad 3), .ref (ad 4), .ref (ad 29), .ref (ad 5), .ref (ad 6), .ref (ad 7), .int (-1), .int 1, .int 0, .int 0])), ((ad 1), .inr (2, [.ref (ad 8), .ref (ad 9), .ref (ad 10), .ref (ad 11)])), ((ad 8), .inl (g.2.1 0, 16, .inl (fun _ => 0))), ((ad 9), .inl (g.2.1 0, 16, .inl (fun _ => 10))), ((ad 10), .inl (g.2.1 0, 16, .inl (fun _ => 0))), (o, .inl (g.2.1 1, 1, .inr (.inl fo)))]) (wr := [(m0, .inr (9, [.int 0, .ref (b 0), .ref (b 17)])), ((b 0), .inr (10, [.ref (b 1), .ref (b 2), .ref (b 3), .ref (b 4), .ref (b 5), .ref (b 6), .ref (b 7), .ref (b 8), .ref (b 9), .ref (b 10), .ref (b 11), .ref (b 12), .int 0, .int 0, .int (nI 0), .ref (b 13), .ref (b 14), .ref (b 16)])), ((b 1), .inl (g.2.1 0, 16, .inl (fun _ => 0))), ((b 2), .inl (g.2.1 0, 16, .inl (fun _ => 10))), ((b 3), .inl (g.2.1 0, 16, .inl (fun _ => 0)))]) E hA [0, 1, 2, 3, 4, 5, 11] [6, 7, 8, 9, 10] rfl rfl rfl rfl (by decide)) (c_L_level l g hst x (bd 0) wo dy ad (xs 1) o fo _ _) ml_L_149 st_L_level in_L rfl co_L_level ⟨by decide +kernel, by decide +kernel, by decide +kernel⟩ ⟨Nat.le_of_ble_eq_true rfl, Nat.le_of_ble_eq_true rfl⟩ rfl hl.1 rfl (Nat.le_of_ble_eq_true rfl) dL_law_1012 ⟨Nat.le_of_ble_eq_true rfl, Nat.le_of_ble_eq_true rfl⟩) (Cut.of (wc := [(x, .inr (6, [.ref (ad 0), .ref (bd 0), .ref wo, .ref dy])), ((ad 0), .inr (5, [.ref (ad 1), .ref (ad 2), .ref (ad 3), .ref (ad 4), .ref (ad 29), .ref (ad 5), .ref (ad 6), .ref (ad 7), .int (-1), .int 1, .int 0, .int 0])), ((ad 1), .inr (2, [.ref (ad 8), .ref (ad 9), .ref (ad 10), .ref (ad 11)])), ((ad 8), .inl (g.2.1 0, 16, .inl (fun _ => 0))), ((ad 9), .inl (g.2.1 0, 16, .inl (fun _ => 10))), ((ad 10), .inl (g.2.1 0, 16, .inl (fun _ => 0))), (o, .inl (g.2.1 1, 1, .inr (.inl fo)))]) (wr := [(m0, .inr (9, [.int 0, .ref (b 0), .ref (b 17)])), ((b 0), .inr (10, [.ref (b 1), .ref (b 2), .ref (b 3), .ref (b 4), .ref (b 5), .ref (b 6), .ref (b 7), .ref (b 8), .ref (b 9), .ref (b 10), .ref (b 11), .ref (b 12), .int 0, .int 0, .int (nI 0), .ref (b 13), .ref (b 14), .ref (b 16)])), ((b 1), .inl (g.2.1 0, 16, .inl (fun _ => 0))), ((b 2), .inl (g.2.1 0, 16, .inl (fun _ => 10))), ((b 3), .inl (g.2.1 0, 16, .inl (fun _ => 0)))]) E hA [0, 1, 2, 3, 4, 5, 11] [6, 7, 8, 9, 10] rfl rfl rfl rfl (by decide)) E (fun En ce q9 H locs hp E hce hcv hcl => ?_) (fun r1 u1 H locs hp E => ?_)
  · have E : Ev g _ s.heap H locs [(m0, .inr (9, [.int 0, .ref (b 0), .ref (b 17)])), ((b 0), .inr (10, [.ref (b 1), .ref (b 2), .ref (b 3), .ref (b 4), .ref (b 5), .ref (b 6), .ref (b 7), .ref (b 8), .ref (b 9), .ref (b 10), .ref (b 11), .ref (b 12), .int 0, .int 0, .int (nI 0), .ref (b 13), .ref (b 14), .ref (b 16)])), ((b 1), .inl (g.2.1 0, 16, .inl (fun _ => 0))), ((b 2), .inl (g.2.1 0, 16, .inl (fun _ => 10))), ((b 3), .inl (g.2.1 0, 16, .inl (fun _ => 0)))] := E
    exact False.elim hp
  · skip
    have E : Ev g _ s.heap H locs [(m0, .inr (9, [.int 0, .ref (b 0), .ref (b 17)])), ((b 0), .inr (10, [.ref (b 1), .ref (b 2), .ref (b 3), .ref (b 4), .ref (b 5), .ref (b 6), .ref (b 7), .ref (b 8), .ref (b 9), .ref (b 10), .ref (b 11), .ref (b 12), .int 0, .int 0, .int (nI 0), .ref (b 13), .ref (b 14), .ref (b 16)])), ((b 1), .inl (g.2.1 0, 16, .inl (fun _ => 0))), ((b 2), .inl (g.2.1 0, 16, .inl (fun _ => 10))), ((b 3), .inl (g.2.1 0, 16, .inl (fun _ => 0))), (o, .inl (g.2.1 1, 1, .inr (.inl u1)))] := E
    obtain ⟨rfl, hU2⟩ := hp
    refine lv_istore (lv' := [(5, .int (kk_cell (xs 1))), (0, .ref sb), (1, .ref x), (2, .ref m0), (3, .ref o), (4, .int 0)]) hx hb dL_law_1015 hl (by decide) rfl (fun ls hl => ?_)
    refine lv_aload_n hx hb dL_law_1017 rfl (lv_at hl 3 rfl) ?_
    refine lv_aload_n hx hb dL_law_1018 rfl (lv_at hl 1 rfl) ?_
    refine lv_iload hx hb dL_law_1019 (lv_at hl 5 rfl) ?_
    refine lv_iconst (v := 1) hx hb dL_law_1021 (by decide) ?_
    refine k_iadd (v := 1) hx hb (by decide) dL_law_1022 ?_
    refine va_sld hx hb hX hsb hbA E.2.2 (i := 1) (by unfold vp_in; decide) dL_law_1023 ?_
    have hl := hl
    show W p l e room_1 s m #[.ref sb] below meth c H locs _ _ _ (F0 m 1024 ls [.int (xs 1), .ref m0])
    refine w_reti (runV_X (As := [.int (xs 1)]) (rest := []) (q0 := 0) (n := 1) S hml hK (hZ.at E) (Cut.of (wc := [(m0, .inr (9, [.int 0, .ref (b 0), .ref (b 17)])), ((b 0), .inr (10, [.ref (b 1), .ref (b 2), .ref (b 3), .ref (b 4), .ref (b 5), .ref (b 6), .ref (b 7), .ref (b 8), .ref (b 9), .ref (b 10), .ref (b 11), .ref (b 12), .int 0, .int 0, .int (nI 0), .ref (b 13), .ref (b 14), .ref (b 16)])), ((b 1), .inl (g.2.1 0, 16, .inl (fun _ => 0))), ((b 2), .inl (g.2.1 0, 16, .inl (fun _ => 10))), ((b 3), .inl (g.2.1 0, 16, .inl (fun _ => 0)))]) (wr := [(o, .inl (g.2.1 1, 1, .inr (.inl u1)))]) E hA [0, 1, 2, 3, 4] [5] rfl rfl rfl rfl (by decide)) (c_X9_level l g m0 b (xs 1) _ _) (gi_wsV ml_L_151 im_X9_level sl_X9_level in_X9 co_X9_level) ⟨rfl, by decide +kernel, by decide +kernel, by decide +kernel⟩ ⟨Nat.le_of_ble_eq_true rfl, Nat.le_of_ble_eq_true rfl⟩ rfl rfl rfl hl.1 rfl (Nat.le_of_ble_eq_true rfl) dL_law_1024 ⟨Nat.le_of_ble_eq_true rfl, Nat.le_of_ble_eq_true rfl⟩) (Cut.of (wc := [(m0, .inr (9, [.int 0, .ref (b 0), .ref (b 17)])), ((b 0), .inr (10, [.ref (b 1), .ref (b 2), .ref (b 3), .ref (b 4), .ref (b 5), .ref (b 6), .ref (b 7), .ref (b 8), .ref (b 9), .ref (b 10), .ref (b 11), .ref (b 12), .int 0, .int 0, .int (nI 0), .ref (b 13), .ref (b 14), .ref (b 16)])), ((b 1), .inl (g.2.1 0, 16, .inl (fun _ => 0))), ((b 2), .inl (g.2.1 0, 16, .inl (fun _ => 10))), ((b 3), .inl (g.2.1 0, 16, .inl (fun _ => 0)))]) (wr := [(o, .inl (g.2.1 1, 1, .inr (.inl u1)))]) E hA [0, 1, 2, 3, 4] [5] rfl rfl rfl rfl (by decide)) E (fun r3 u3 H locs hp E => ?_)
    have E : Ev g _ s.heap H locs [(o, .inl (g.2.1 1, 1, .inr (.inl u1))), (m0, .inr (9, [.int u3, .ref (b 0), .ref (b 17)]))] := E
    obtain ⟨rfl, rfl⟩ := hp
    refine lv_istore (lv' := [(6, .int 0), (5, .int (kk_cell (xs 1))), (0, .ref sb), (1, .ref x), (2, .ref m0), (3, .ref o), (4, .int 0)]) hx hb dL_law_1027 hl (by decide) rfl (fun ls hl => ?_)
    refine lv_aload_n hx hb dL_law_1029 rfl (lv_at hl 4 rfl) ?_
    refine w_reti (runV_X (As := []) (rest := []) (q0 := 0) (n := 0) S hml hK (hZ.at E) (Cut.of (wc := [(m0, .inr (9, [.int (kk_cell (xs 1)), .ref (b 0), .ref (b 17)]))]) (wr := [(o, .inl (g.2.1 1, 1, .inr (.inl u1)))]) E hA [1] [0] rfl rfl rfl rfl (by decide)) (c_X9_thrown l g m0 b (kk_cell (xs 1)) _ _) (gi_wsV ml_L_109 im_X9_thrown sl_X9_thrown in_X9 co_X9_thrown) ⟨rfl, by decide +kernel, by decide +kernel, by decide +kernel⟩ ⟨Nat.le_of_ble_eq_true rfl, Nat.le_of_ble_eq_true rfl⟩ rfl rfl rfl hl.1 rfl (Nat.le_of_ble_eq_true rfl) dL_law_1030 ⟨Nat.le_of_ble_eq_true rfl, Nat.le_of_ble_eq_true rfl⟩) (Cut.of (wc := [(m0, .inr (9, [.int (kk_cell (xs 1)), .ref (b 0), .ref (b 17)]))]) (wr := [(o, .inl (g.2.1 1, 1, .inr (.inl u1)))]) E hA [1] [0] rfl rfl rfl rfl (by decide)) E (fun r5 u5 H locs hp E => ?_)
    have E : Ev g _ s.heap H locs [(o, .inl (g.2.1 1, 1, .inr (.inl u1))), (m0, .inr (9, [.int (kk_cell (xs 1)), .ref (b 0), .ref (b 17)]))] := E
    subst hp
    refine lv_iload hx hb dL_law_1033 (lv_at hl 1 rfl) ?_
    refine lv_icmp_eq (tgt := 1040) hx hb dL_law_1035 (by decide) (fun _ => ?_) (fun c_ => absurd rfl c_)
    refine lv_iload hx hb dL_law_1040 (lv_at hl 1 rfl) ?_
    refine lv_if_ne (tgt := 1057) hx hb dL_law_1042 (by decide) (fun c6 => ?_) (fun c6 => ?_)
    · have c6 : ¬ ((kk_cell (xs 1)) = 0) := c6
      refine lv_goto (tgt := 1762) hx hb dL_law_1057 (by decide) ?_
      exact law_end C0 hsb hX E.2.2 (lv_sub hl [2, 6] rfl) (Nat.le_of_ble_eq_true rfl) (Nat.le_of_ble_eq_true rfl)
    · have c6 : (kk_cell (xs 1)) = 0 := c6
      refine lv_aload_n hx hb dL_law_1045 rfl (lv_at hl 5 rfl) ?_
      refine lv_iconst (v := 0) hx hb dL_law_1046 (by decide) ?_
      refine w_lld (v := 0) S hK E 0 1 rfl rfl (show vp_in 0 1 by unfold vp_in; decide) (hU2 c6) dL_law_1047 ?_
      refine lv_iload hx hb dL_law_1048 (lv_at hl 0 rfl) ?_
      refine lv_i2l (v := 0) hx hb dL_law_1050 (by decide) ?_
      refine k_lcmp (v := 0) hx hb (by decide) dL_law_1051 ?_
      refine lv_if_eq (tgt := 1057) hx hb dL_law_1052 (by decide) (fun _ => ?_) (fun c_ => absurd (show (0 : Int32) = 0 by decide) c_)
      refine lv_goto (tgt := 1762) hx hb dL_law_1057 (by decide) ?_
      exact law_end C0 hsb hX E.2.2 (lv_sub hl [2, 6] rfl) (Nat.le_of_ble_eq_true rfl) (Nat.le_of_ble_eq_true rfl)
set_option maxHeartbeats 4000000 in
set_option maxRecDepth 100000 in
/-- case 13: water -/
theorem law_13 {p : Program} {l : Launch} {e : Env} {s : State} {m : MethodId} {below : List Frame} {meth : Method} {c : Code} {sb : Nat} {xs : Nat → Int32} {H : Heap} {locs : List Loc} {ls : Array Slot} {g : Gm} {x dy wo m0 o : Nat} {ad bd b : Nat → Nat} {ea eb : Nat} {fo : Nat → Int64} (hst : l.stackTraces = false) (C0 : lw_At p s m meth c sb 5 xs) (S : Sta p c cL_law s #[.ref sb] RL m) (hK : va_K g.1 vwC (tysG g) s) (hZ : Zs g (fun q => s.heap.size ≤ q) s s.heap) (E : Ev g (fun q => s.heap.size ≤ q) s.heap H locs (lawW g x dy wo m0 o ad bd b ea eb fo)) (hl : lv_has ls 9 [(0, .ref sb), (1, .ref x), (2, .ref m0), (3, .ref o), (4, .int 0)]) : W p l e room_1 s m #[.ref sb] below meth c H locs 400 3000 (lw_Z below #[.ref sb] s) (F0 m 1060 ls []) := by
  have hx := S.1
  have hb := S.2.1
  have hml : c.maxLocals = 9 := C0.2.2.2.1
  have hX : va_X sb 5 xs s s.heap := C0.2.2.2.2.2.2.1
  have hsb : sb < s.heap.size := C0.2.2.2.2.2.2.2.1
  have hbA : ¬ s.heap.size ≤ sb := Nat.not_le.mpr hsb
  have hA : ∀ q : Nat, s.heap.size ≤ q → s.heap.size ≤ q := fun _ h => h
  have E : Ev g (fun q => s.heap.size ≤ q) s.heap H locs [(x, .inr (6, [.ref (ad 0), .ref (bd 0), .ref wo, .ref dy])), ((ad 0), .inr (5, [.ref (ad 1), .ref (ad 2), .ref (ad 3), .ref (ad 4), .ref (ad 29), .ref (ad 5), .ref (ad 6), .ref (ad 7), .int (-1), .int 1, .int 0, .int 0])), ((ad 1), .inr (2, [.ref (ad 8), .ref (ad 9), .ref (ad 10), .ref (ad 11)])), ((ad 10), .inl (g.2.1 0, 16, .inl (fun _ => 0))), (m0, .inr (9, [.int 0, .ref (b 0), .ref (b 17)])), ((b 0), .inr (10, [.ref (b 1), .ref (b 2), .ref (b 3), .ref (b 4), .ref (b 5), .ref (b 6), .ref (b 7), .ref (b 8), .ref (b 9), .ref (b 10), .ref (b 11), .ref (b 12), .int 0, .int 0, .int (nI 0), .ref (b 13), .ref (b 14), .ref (b 16)])), ((b 3), .inl (g.2.1 0, 16, .inl (fun _ => 0))), (o, .inl (g.2.1 1, 1, .inr (.inl fo)))] := Ev.sub E [0, 2, 3, 12, 64, 65, 68, 83] rfl rfl
  refine lv_aload_n hx hb dL_law_1060 rfl (lv_at hl 1 rfl) ?_
  refine lv_aload_n hx hb dL_law_1061 rfl (lv_at hl 0 rfl) ?_
  refine lv_iload hx hb dL_law_1062 (lv_at hl 4 rfl) ?_
  refine lv_iconst (v := 1) hx hb dL_law_1064 (by decide) ?_
  refine k_iadd (v := 1) hx hb (by decide) dL_law_1065 ?_
  refine va_sld hx hb hX hsb hbA E.2.2 (i := 1) (by unfold vp_in; decide) dL_law_1066 ?_
  have hl := hl
  show W p l e room_1 s m #[.ref sb] below meth c H locs _ _ _ (F0 m 1067 ls [.int (xs 1), .ref x])
  refine lv_aload_n hx hb dL_law_1067 rfl (lv_at hl 3 rfl) ?_
  refine y_reti (yrunH (As := [.ref x, .int (xs 1), .ref o]) (rest := []) (n := 3) S hml hK (hZ.at E) (Cut.of (wc := [(x, .inr (6, [.ref (ad 0), .ref (bd 0), .ref wo, .ref dy])), ((ad 0), .inr (5, [.ref (ad 1), .ref (ad 2), .ref (ad 3), .ref (ad 4), .ref (ad 29), .ref (ad 5), .ref (ad 6), .ref (ad 7), .int (-1), .int 1, .int 0, .int 0])), ((ad 1), .inr (2, [.ref (ad 8), .ref (ad 9), .ref (ad 10), .ref (ad 11)])), ((ad 10), .inl (g.2.1 0, 16, .inl (fun _ => 0))), (o, .inl (g.2.1 1, 1, .inr (.inl fo)))]) (wr := [(m0, .inr (9, [.int 0, .ref (b 0), .ref (b 17)])), ((b 0), .inr (10, [.ref (b 1), .ref (b 2), .ref (b 3), .ref (b 4), .ref (b 5), .ref (b 6), .ref (b 7), .ref (b 8), .ref (b 9), .ref (b 10), .ref (b 11), .ref (b 12), .int 0, .int 0, .int (nI 0), .ref (b 13), .ref (b 14), .ref (b 16)])), ((b 3), .inl (g.2.1 0, 16, .inl (fun _ => 0)))]) E hA [0, 1, 2, 3, 7] [4, 5, 6] rfl rfl rfl rfl (by decide)) (c_L_water l g hst x (bd 0) wo dy ad (xs 1) o fo _ _) ml_L_152 st_L_water in_L rfl co_L_water ⟨by decide +kernel, by decide +kernel, by decide +kernel⟩ ⟨Nat.le_of_ble_eq_true rfl, Nat.le_of_ble_eq_true rfl⟩ rfl hl.1 rfl (Nat.le_of_ble_eq_true rfl) dL_law_1068 ⟨Nat.le_of_ble_eq_true rfl, Nat.le_of_ble_eq_true rfl⟩) (Cut.of (wc := [(x, .inr (6, [.ref (ad 0), .ref (bd 0), .ref wo, .ref dy])), ((ad 0), .inr (5, [.ref (ad 1), .ref (ad 2), .ref (ad 3), .ref (ad 4), .ref (ad 29), .ref (ad 5), .ref (ad 6), .ref (ad 7), .int (-1), .int 1, .int 0, .int 0])), ((ad 1), .inr (2, [.ref (ad 8), .ref (ad 9), .ref (ad 10), .ref (ad 11)])), ((ad 10), .inl (g.2.1 0, 16, .inl (fun _ => 0))), (o, .inl (g.2.1 1, 1, .inr (.inl fo)))]) (wr := [(m0, .inr (9, [.int 0, .ref (b 0), .ref (b 17)])), ((b 0), .inr (10, [.ref (b 1), .ref (b 2), .ref (b 3), .ref (b 4), .ref (b 5), .ref (b 6), .ref (b 7), .ref (b 8), .ref (b 9), .ref (b 10), .ref (b 11), .ref (b 12), .int 0, .int 0, .int (nI 0), .ref (b 13), .ref (b 14), .ref (b 16)])), ((b 3), .inl (g.2.1 0, 16, .inl (fun _ => 0)))]) E hA [0, 1, 2, 3, 7] [4, 5, 6] rfl rfl rfl rfl (by decide)) E (fun En ce q9 H locs hp E hce hcv hcl => ?_) (fun r1 u1 H locs hp E => ?_)
  · have E : Ev g _ s.heap H locs [(m0, .inr (9, [.int 0, .ref (b 0), .ref (b 17)])), ((b 0), .inr (10, [.ref (b 1), .ref (b 2), .ref (b 3), .ref (b 4), .ref (b 5), .ref (b 6), .ref (b 7), .ref (b 8), .ref (b 9), .ref (b 10), .ref (b 11), .ref (b 12), .int 0, .int 0, .int (nI 0), .ref (b 13), .ref (b 14), .ref (b 16)])), ((b 3), .inl (g.2.1 0, 16, .inl (fun _ => 0)))] := E
    exact False.elim hp
  · skip
    have E : Ev g _ s.heap H locs [(m0, .inr (9, [.int 0, .ref (b 0), .ref (b 17)])), ((b 0), .inr (10, [.ref (b 1), .ref (b 2), .ref (b 3), .ref (b 4), .ref (b 5), .ref (b 6), .ref (b 7), .ref (b 8), .ref (b 9), .ref (b 10), .ref (b 11), .ref (b 12), .int 0, .int 0, .int (nI 0), .ref (b 13), .ref (b 14), .ref (b 16)])), ((b 3), .inl (g.2.1 0, 16, .inl (fun _ => 0))), (o, .inl (g.2.1 1, 1, .inr (.inl u1)))] := E
    obtain ⟨rfl, hU2⟩ := hp
    refine lv_istore (lv' := [(5, .int (kk_cell (xs 1))), (0, .ref sb), (1, .ref x), (2, .ref m0), (3, .ref o), (4, .int 0)]) hx hb dL_law_1071 hl (by decide) rfl (fun ls hl => ?_)
    refine lv_aload_n hx hb dL_law_1073 rfl (lv_at hl 3 rfl) ?_
    refine lv_aload_n hx hb dL_law_1074 rfl (lv_at hl 1 rfl) ?_
    refine lv_iload hx hb dL_law_1075 (lv_at hl 5 rfl) ?_
    refine lv_iconst (v := 1) hx hb dL_law_1077 (by decide) ?_
    refine k_iadd (v := 1) hx hb (by decide) dL_law_1078 ?_
    refine va_sld hx hb hX hsb hbA E.2.2 (i := 1) (by unfold vp_in; decide) dL_law_1079 ?_
    have hl := hl
    show W p l e room_1 s m #[.ref sb] below meth c H locs _ _ _ (F0 m 1080 ls [.int (xs 1), .ref m0])
    refine w_reti (runV_X (As := [.int (xs 1)]) (rest := []) (q0 := 0) (n := 1) S hml hK (hZ.at E) (Cut.of (wc := [(m0, .inr (9, [.int 0, .ref (b 0), .ref (b 17)])), ((b 0), .inr (10, [.ref (b 1), .ref (b 2), .ref (b 3), .ref (b 4), .ref (b 5), .ref (b 6), .ref (b 7), .ref (b 8), .ref (b 9), .ref (b 10), .ref (b 11), .ref (b 12), .int 0, .int 0, .int (nI 0), .ref (b 13), .ref (b 14), .ref (b 16)])), ((b 3), .inl (g.2.1 0, 16, .inl (fun _ => 0)))]) (wr := [(o, .inl (g.2.1 1, 1, .inr (.inl u1)))]) E hA [0, 1, 2] [3] rfl rfl rfl rfl (by decide)) (c_X9_water l g m0 b (xs 1) _ _) (gi_wsV ml_L_154 im_X9_water sl_X9_water in_X9 co_X9_water) ⟨rfl, by decide +kernel, by decide +kernel, by decide +kernel⟩ ⟨Nat.le_of_ble_eq_true rfl, Nat.le_of_ble_eq_true rfl⟩ rfl rfl rfl hl.1 rfl (Nat.le_of_ble_eq_true rfl) dL_law_1080 ⟨Nat.le_of_ble_eq_true rfl, Nat.le_of_ble_eq_true rfl⟩) (Cut.of (wc := [(m0, .inr (9, [.int 0, .ref (b 0), .ref (b 17)])), ((b 0), .inr (10, [.ref (b 1), .ref (b 2), .ref (b 3), .ref (b 4), .ref (b 5), .ref (b 6), .ref (b 7), .ref (b 8), .ref (b 9), .ref (b 10), .ref (b 11), .ref (b 12), .int 0, .int 0, .int (nI 0), .ref (b 13), .ref (b 14), .ref (b 16)])), ((b 3), .inl (g.2.1 0, 16, .inl (fun _ => 0)))]) (wr := [(o, .inl (g.2.1 1, 1, .inr (.inl u1)))]) E hA [0, 1, 2] [3] rfl rfl rfl rfl (by decide)) E (fun r3 u3 H locs hp E => ?_)
    have E : Ev g _ s.heap H locs [(o, .inl (g.2.1 1, 1, .inr (.inl u1))), (m0, .inr (9, [.int u3, .ref (b 0), .ref (b 17)]))] := E
    obtain ⟨rfl, rfl⟩ := hp
    refine lv_istore (lv' := [(6, .int 0), (5, .int (kk_cell (xs 1))), (0, .ref sb), (1, .ref x), (2, .ref m0), (3, .ref o), (4, .int 0)]) hx hb dL_law_1083 hl (by decide) rfl (fun ls hl => ?_)
    refine lv_aload_n hx hb dL_law_1085 rfl (lv_at hl 4 rfl) ?_
    refine w_reti (runV_X (As := []) (rest := []) (q0 := 0) (n := 0) S hml hK (hZ.at E) (Cut.of (wc := [(m0, .inr (9, [.int (kk_cell (xs 1)), .ref (b 0), .ref (b 17)]))]) (wr := [(o, .inl (g.2.1 1, 1, .inr (.inl u1)))]) E hA [1] [0] rfl rfl rfl rfl (by decide)) (c_X9_thrown l g m0 b (kk_cell (xs 1)) _ _) (gi_wsV ml_L_109 im_X9_thrown sl_X9_thrown in_X9 co_X9_thrown) ⟨rfl, by decide +kernel, by decide +kernel, by decide +kernel⟩ ⟨Nat.le_of_ble_eq_true rfl, Nat.le_of_ble_eq_true rfl⟩ rfl rfl rfl hl.1 rfl (Nat.le_of_ble_eq_true rfl) dL_law_1086 ⟨Nat.le_of_ble_eq_true rfl, Nat.le_of_ble_eq_true rfl⟩) (Cut.of (wc := [(m0, .inr (9, [.int (kk_cell (xs 1)), .ref (b 0), .ref (b 17)]))]) (wr := [(o, .inl (g.2.1 1, 1, .inr (.inl u1)))]) E hA [1] [0] rfl rfl rfl rfl (by decide)) E (fun r5 u5 H locs hp E => ?_)
    have E : Ev g _ s.heap H locs [(o, .inl (g.2.1 1, 1, .inr (.inl u1))), (m0, .inr (9, [.int (kk_cell (xs 1)), .ref (b 0), .ref (b 17)]))] := E
    subst hp
    refine lv_iload hx hb dL_law_1089 (lv_at hl 1 rfl) ?_
    refine lv_icmp_eq (tgt := 1096) hx hb dL_law_1091 (by decide) (fun _ => ?_) (fun c_ => absurd rfl c_)
    refine lv_iload hx hb dL_law_1096 (lv_at hl 1 rfl) ?_
    refine lv_if_ne (tgt := 1113) hx hb dL_law_1098 (by decide) (fun c6 => ?_) (fun c6 => ?_)
    · have c6 : ¬ ((kk_cell (xs 1)) = 0) := c6
      refine lv_goto (tgt := 1762) hx hb dL_law_1113 (by decide) ?_
      exact law_end C0 hsb hX E.2.2 (lv_sub hl [2, 6] rfl) (Nat.le_of_ble_eq_true rfl) (Nat.le_of_ble_eq_true rfl)
    · have c6 : (kk_cell (xs 1)) = 0 := c6
      refine lv_aload_n hx hb dL_law_1101 rfl (lv_at hl 5 rfl) ?_
      refine lv_iconst (v := 0) hx hb dL_law_1102 (by decide) ?_
      refine w_lld (v := 0) S hK E 0 1 rfl rfl (show vp_in 0 1 by unfold vp_in; decide) (hU2 c6) dL_law_1103 ?_
      refine lv_iload hx hb dL_law_1104 (lv_at hl 0 rfl) ?_
      refine lv_i2l (v := 0) hx hb dL_law_1106 (by decide) ?_
      refine k_lcmp (v := 0) hx hb (by decide) dL_law_1107 ?_
      refine lv_if_eq (tgt := 1113) hx hb dL_law_1108 (by decide) (fun _ => ?_) (fun c_ => absurd (show (0 : Int32) = 0 by decide) c_)
      refine lv_goto (tgt := 1762) hx hb dL_law_1113 (by decide) ?_
      exact law_end C0 hsb hX E.2.2 (lv_sub hl [2, 6] rfl) (Nat.le_of_ble_eq_true rfl) (Nat.le_of_ble_eq_true rfl)
set_option maxHeartbeats 4000000 in
set_option maxRecDepth 100000 in
/-- case 14: salt -/
theorem law_14 {p : Program} {l : Launch} {e : Env} {s : State} {m : MethodId} {below : List Frame} {meth : Method} {c : Code} {sb : Nat} {xs : Nat → Int32} {H : Heap} {locs : List Loc} {ls : Array Slot} {g : Gm} {x dy wo m0 o : Nat} {ad bd b : Nat → Nat} {ea eb : Nat} {fo : Nat → Int64} (hst : l.stackTraces = false) (C0 : lw_At p s m meth c sb 5 xs) (S : Sta p c cL_law s #[.ref sb] RL m) (hK : va_K g.1 vwC (tysG g) s) (hZ : Zs g (fun q => s.heap.size ≤ q) s s.heap) (E : Ev g (fun q => s.heap.size ≤ q) s.heap H locs (lawW g x dy wo m0 o ad bd b ea eb fo)) (hl : lv_has ls 9 [(0, .ref sb), (1, .ref x), (2, .ref m0), (3, .ref o), (4, .int 0)]) : W p l e room_1 s m #[.ref sb] below meth c H locs 400 3000 (lw_Z below #[.ref sb] s) (F0 m 1116 ls []) := by
  have hx := S.1
  have hb := S.2.1
  have hml : c.maxLocals = 9 := C0.2.2.2.1
  have hX : va_X sb 5 xs s s.heap := C0.2.2.2.2.2.2.1
  have hsb : sb < s.heap.size := C0.2.2.2.2.2.2.2.1
  have hbA : ¬ s.heap.size ≤ sb := Nat.not_le.mpr hsb
  have hA : ∀ q : Nat, s.heap.size ≤ q → s.heap.size ≤ q := fun _ h => h
  have E : Ev g (fun q => s.heap.size ≤ q) s.heap H locs [(x, .inr (6, [.ref (ad 0), .ref (bd 0), .ref wo, .ref dy])), ((ad 0), .inr (5, [.ref (ad 1), .ref (ad 2), .ref (ad 3), .ref (ad 4), .ref (ad 29), .ref (ad 5), .ref (ad 6), .ref (ad 7), .int (-1), .int 1, .int 0, .int 0])), ((ad 1), .inr (2, [.ref (ad 8), .ref (ad 9), .ref (ad 10), .ref (ad 11)])), ((ad 11), .inl (g.2.1 0, 16, .inl (fun _ => 0))), (m0, .inr (9, [.int 0, .ref (b 0), .ref (b 17)])), ((b 0), .inr (10, [.ref (b 1), .ref (b 2), .ref (b 3), .ref (b 4), .ref (b 5), .ref (b 6), .ref (b 7), .ref (b 8), .ref (b 9), .ref (b 10), .ref (b 11), .ref (b 12), .int 0, .int 0, .int (nI 0), .ref (b 13), .ref (b 14), .ref (b 16)])), ((b 4), .inl (g.2.1 0, 16, .inl (fun _ => 0))), (o, .inl (g.2.1 1, 1, .inr (.inl fo)))] := Ev.sub E [0, 2, 3, 13, 64, 65, 69, 83] rfl rfl
  refine lv_aload_n hx hb dL_law_1116 rfl (lv_at hl 1 rfl) ?_
  refine lv_aload_n hx hb dL_law_1117 rfl (lv_at hl 0 rfl) ?_
  refine lv_iload hx hb dL_law_1118 (lv_at hl 4 rfl) ?_
  refine lv_iconst (v := 1) hx hb dL_law_1120 (by decide) ?_
  refine k_iadd (v := 1) hx hb (by decide) dL_law_1121 ?_
  refine va_sld hx hb hX hsb hbA E.2.2 (i := 1) (by unfold vp_in; decide) dL_law_1122 ?_
  have hl := hl
  show W p l e room_1 s m #[.ref sb] below meth c H locs _ _ _ (F0 m 1123 ls [.int (xs 1), .ref x])
  refine lv_aload_n hx hb dL_law_1123 rfl (lv_at hl 3 rfl) ?_
  refine y_reti (yrunH (As := [.ref x, .int (xs 1), .ref o]) (rest := []) (n := 3) S hml hK (hZ.at E) (Cut.of (wc := [(x, .inr (6, [.ref (ad 0), .ref (bd 0), .ref wo, .ref dy])), ((ad 0), .inr (5, [.ref (ad 1), .ref (ad 2), .ref (ad 3), .ref (ad 4), .ref (ad 29), .ref (ad 5), .ref (ad 6), .ref (ad 7), .int (-1), .int 1, .int 0, .int 0])), ((ad 1), .inr (2, [.ref (ad 8), .ref (ad 9), .ref (ad 10), .ref (ad 11)])), ((ad 11), .inl (g.2.1 0, 16, .inl (fun _ => 0))), (o, .inl (g.2.1 1, 1, .inr (.inl fo)))]) (wr := [(m0, .inr (9, [.int 0, .ref (b 0), .ref (b 17)])), ((b 0), .inr (10, [.ref (b 1), .ref (b 2), .ref (b 3), .ref (b 4), .ref (b 5), .ref (b 6), .ref (b 7), .ref (b 8), .ref (b 9), .ref (b 10), .ref (b 11), .ref (b 12), .int 0, .int 0, .int (nI 0), .ref (b 13), .ref (b 14), .ref (b 16)])), ((b 4), .inl (g.2.1 0, 16, .inl (fun _ => 0)))]) E hA [0, 1, 2, 3, 7] [4, 5, 6] rfl rfl rfl rfl (by decide)) (c_L_salt l g hst x (bd 0) wo dy ad (xs 1) o fo _ _) ml_L_155 st_L_salt in_L rfl co_L_salt ⟨by decide +kernel, by decide +kernel, by decide +kernel⟩ ⟨Nat.le_of_ble_eq_true rfl, Nat.le_of_ble_eq_true rfl⟩ rfl hl.1 rfl (Nat.le_of_ble_eq_true rfl) dL_law_1124 ⟨Nat.le_of_ble_eq_true rfl, Nat.le_of_ble_eq_true rfl⟩) (Cut.of (wc := [(x, .inr (6, [.ref (ad 0), .ref (bd 0), .ref wo, .ref dy])), ((ad 0), .inr (5, [.ref (ad 1), .ref (ad 2), .ref (ad 3), .ref (ad 4), .ref (ad 29), .ref (ad 5), .ref (ad 6), .ref (ad 7), .int (-1), .int 1, .int 0, .int 0])), ((ad 1), .inr (2, [.ref (ad 8), .ref (ad 9), .ref (ad 10), .ref (ad 11)])), ((ad 11), .inl (g.2.1 0, 16, .inl (fun _ => 0))), (o, .inl (g.2.1 1, 1, .inr (.inl fo)))]) (wr := [(m0, .inr (9, [.int 0, .ref (b 0), .ref (b 17)])), ((b 0), .inr (10, [.ref (b 1), .ref (b 2), .ref (b 3), .ref (b 4), .ref (b 5), .ref (b 6), .ref (b 7), .ref (b 8), .ref (b 9), .ref (b 10), .ref (b 11), .ref (b 12), .int 0, .int 0, .int (nI 0), .ref (b 13), .ref (b 14), .ref (b 16)])), ((b 4), .inl (g.2.1 0, 16, .inl (fun _ => 0)))]) E hA [0, 1, 2, 3, 7] [4, 5, 6] rfl rfl rfl rfl (by decide)) E (fun En ce q9 H locs hp E hce hcv hcl => ?_) (fun r1 u1 H locs hp E => ?_)
  · have E : Ev g _ s.heap H locs [(m0, .inr (9, [.int 0, .ref (b 0), .ref (b 17)])), ((b 0), .inr (10, [.ref (b 1), .ref (b 2), .ref (b 3), .ref (b 4), .ref (b 5), .ref (b 6), .ref (b 7), .ref (b 8), .ref (b 9), .ref (b 10), .ref (b 11), .ref (b 12), .int 0, .int 0, .int (nI 0), .ref (b 13), .ref (b 14), .ref (b 16)])), ((b 4), .inl (g.2.1 0, 16, .inl (fun _ => 0)))] := E
    exact False.elim hp
  · skip
    have E : Ev g _ s.heap H locs [(m0, .inr (9, [.int 0, .ref (b 0), .ref (b 17)])), ((b 0), .inr (10, [.ref (b 1), .ref (b 2), .ref (b 3), .ref (b 4), .ref (b 5), .ref (b 6), .ref (b 7), .ref (b 8), .ref (b 9), .ref (b 10), .ref (b 11), .ref (b 12), .int 0, .int 0, .int (nI 0), .ref (b 13), .ref (b 14), .ref (b 16)])), ((b 4), .inl (g.2.1 0, 16, .inl (fun _ => 0))), (o, .inl (g.2.1 1, 1, .inr (.inl u1)))] := E
    obtain ⟨rfl, hU2⟩ := hp
    refine lv_istore (lv' := [(5, .int (kk_cell (xs 1))), (0, .ref sb), (1, .ref x), (2, .ref m0), (3, .ref o), (4, .int 0)]) hx hb dL_law_1127 hl (by decide) rfl (fun ls hl => ?_)
    refine lv_aload_n hx hb dL_law_1129 rfl (lv_at hl 3 rfl) ?_
    refine lv_aload_n hx hb dL_law_1130 rfl (lv_at hl 1 rfl) ?_
    refine lv_iload hx hb dL_law_1131 (lv_at hl 5 rfl) ?_
    refine lv_iconst (v := 1) hx hb dL_law_1133 (by decide) ?_
    refine k_iadd (v := 1) hx hb (by decide) dL_law_1134 ?_
    refine va_sld hx hb hX hsb hbA E.2.2 (i := 1) (by unfold vp_in; decide) dL_law_1135 ?_
    have hl := hl
    show W p l e room_1 s m #[.ref sb] below meth c H locs _ _ _ (F0 m 1136 ls [.int (xs 1), .ref m0])
    refine w_reti (runV_X (As := [.int (xs 1)]) (rest := []) (q0 := 0) (n := 1) S hml hK (hZ.at E) (Cut.of (wc := [(m0, .inr (9, [.int 0, .ref (b 0), .ref (b 17)])), ((b 0), .inr (10, [.ref (b 1), .ref (b 2), .ref (b 3), .ref (b 4), .ref (b 5), .ref (b 6), .ref (b 7), .ref (b 8), .ref (b 9), .ref (b 10), .ref (b 11), .ref (b 12), .int 0, .int 0, .int (nI 0), .ref (b 13), .ref (b 14), .ref (b 16)])), ((b 4), .inl (g.2.1 0, 16, .inl (fun _ => 0)))]) (wr := [(o, .inl (g.2.1 1, 1, .inr (.inl u1)))]) E hA [0, 1, 2] [3] rfl rfl rfl rfl (by decide)) (c_X9_salt l g m0 b (xs 1) _ _) (gi_wsV ml_L_157 im_X9_salt sl_X9_salt in_X9 co_X9_salt) ⟨rfl, by decide +kernel, by decide +kernel, by decide +kernel⟩ ⟨Nat.le_of_ble_eq_true rfl, Nat.le_of_ble_eq_true rfl⟩ rfl rfl rfl hl.1 rfl (Nat.le_of_ble_eq_true rfl) dL_law_1136 ⟨Nat.le_of_ble_eq_true rfl, Nat.le_of_ble_eq_true rfl⟩) (Cut.of (wc := [(m0, .inr (9, [.int 0, .ref (b 0), .ref (b 17)])), ((b 0), .inr (10, [.ref (b 1), .ref (b 2), .ref (b 3), .ref (b 4), .ref (b 5), .ref (b 6), .ref (b 7), .ref (b 8), .ref (b 9), .ref (b 10), .ref (b 11), .ref (b 12), .int 0, .int 0, .int (nI 0), .ref (b 13), .ref (b 14), .ref (b 16)])), ((b 4), .inl (g.2.1 0, 16, .inl (fun _ => 0)))]) (wr := [(o, .inl (g.2.1 1, 1, .inr (.inl u1)))]) E hA [0, 1, 2] [3] rfl rfl rfl rfl (by decide)) E (fun r3 u3 H locs hp E => ?_)
    have E : Ev g _ s.heap H locs [(o, .inl (g.2.1 1, 1, .inr (.inl u1))), (m0, .inr (9, [.int u3, .ref (b 0), .ref (b 17)]))] := E
    obtain ⟨rfl, rfl⟩ := hp
    refine lv_istore (lv' := [(6, .int 0), (5, .int (kk_cell (xs 1))), (0, .ref sb), (1, .ref x), (2, .ref m0), (3, .ref o), (4, .int 0)]) hx hb dL_law_1139 hl (by decide) rfl (fun ls hl => ?_)
    refine lv_aload_n hx hb dL_law_1141 rfl (lv_at hl 4 rfl) ?_
    refine w_reti (runV_X (As := []) (rest := []) (q0 := 0) (n := 0) S hml hK (hZ.at E) (Cut.of (wc := [(m0, .inr (9, [.int (kk_cell (xs 1)), .ref (b 0), .ref (b 17)]))]) (wr := [(o, .inl (g.2.1 1, 1, .inr (.inl u1)))]) E hA [1] [0] rfl rfl rfl rfl (by decide)) (c_X9_thrown l g m0 b (kk_cell (xs 1)) _ _) (gi_wsV ml_L_109 im_X9_thrown sl_X9_thrown in_X9 co_X9_thrown) ⟨rfl, by decide +kernel, by decide +kernel, by decide +kernel⟩ ⟨Nat.le_of_ble_eq_true rfl, Nat.le_of_ble_eq_true rfl⟩ rfl rfl rfl hl.1 rfl (Nat.le_of_ble_eq_true rfl) dL_law_1142 ⟨Nat.le_of_ble_eq_true rfl, Nat.le_of_ble_eq_true rfl⟩) (Cut.of (wc := [(m0, .inr (9, [.int (kk_cell (xs 1)), .ref (b 0), .ref (b 17)]))]) (wr := [(o, .inl (g.2.1 1, 1, .inr (.inl u1)))]) E hA [1] [0] rfl rfl rfl rfl (by decide)) E (fun r5 u5 H locs hp E => ?_)
    have E : Ev g _ s.heap H locs [(o, .inl (g.2.1 1, 1, .inr (.inl u1))), (m0, .inr (9, [.int (kk_cell (xs 1)), .ref (b 0), .ref (b 17)]))] := E
    subst hp
    refine lv_iload hx hb dL_law_1145 (lv_at hl 1 rfl) ?_
    refine lv_icmp_eq (tgt := 1152) hx hb dL_law_1147 (by decide) (fun _ => ?_) (fun c_ => absurd rfl c_)
    refine lv_iload hx hb dL_law_1152 (lv_at hl 1 rfl) ?_
    refine lv_if_ne (tgt := 1169) hx hb dL_law_1154 (by decide) (fun c6 => ?_) (fun c6 => ?_)
    · have c6 : ¬ ((kk_cell (xs 1)) = 0) := c6
      refine lv_goto (tgt := 1762) hx hb dL_law_1169 (by decide) ?_
      exact law_end C0 hsb hX E.2.2 (lv_sub hl [2, 6] rfl) (Nat.le_of_ble_eq_true rfl) (Nat.le_of_ble_eq_true rfl)
    · have c6 : (kk_cell (xs 1)) = 0 := c6
      refine lv_aload_n hx hb dL_law_1157 rfl (lv_at hl 5 rfl) ?_
      refine lv_iconst (v := 0) hx hb dL_law_1158 (by decide) ?_
      refine w_lld (v := 0) S hK E 0 1 rfl rfl (show vp_in 0 1 by unfold vp_in; decide) (hU2 c6) dL_law_1159 ?_
      refine lv_iload hx hb dL_law_1160 (lv_at hl 0 rfl) ?_
      refine lv_i2l (v := 0) hx hb dL_law_1162 (by decide) ?_
      refine k_lcmp (v := 0) hx hb (by decide) dL_law_1163 ?_
      refine lv_if_eq (tgt := 1169) hx hb dL_law_1164 (by decide) (fun _ => ?_) (fun c_ => absurd (show (0 : Int32) = 0 by decide) c_)
      refine lv_goto (tgt := 1762) hx hb dL_law_1169 (by decide) ?_
      exact law_end C0 hsb hX E.2.2 (lv_sub hl [2, 6] rfl) (Nat.le_of_ble_eq_true rfl) (Nat.le_of_ble_eq_true rfl)
