set_option maxHeartbeats 4000000 in
set_option maxRecDepth 100000 in
/-- case 0: setCell -/
theorem law_0 {p : Program} {l : Launch} {e : Env} {s : State} {m : MethodId} {below : List Frame} {meth : Method} {c : Code} {sb : Nat} {xs : Nat → Int32} {H : Heap} {locs : List Loc} {ls : Array Slot} {g : Gm} {x dy wo m0 o : Nat} {ad bd b : Nat → Nat} {ea eb : Nat} {fo : Nat → Int64} (hst : l.stackTraces = false) (C0 : lw_At p s m meth c sb 5 xs) (S : Sta p c cL_law s #[.ref sb] RL m) (hK : va_K g.1 vwC (tysG g) s) (hZ : Zs g (fun q => s.heap.size ≤ q) s s.heap) (E : Ev g (fun q => s.heap.size ≤ q) s.heap H locs (lawW g x dy wo m0 o ad bd b ea eb fo)) (hl : lv_has ls 9 [(0, .ref sb), (1, .ref x), (2, .ref m0), (3, .ref o), (4, .int 0)]) : W p l e room_1 s m #[.ref sb] below meth c H locs 400 3000 (lw_Z below #[.ref sb] s) (F0 m 164 ls []) := by
  have hx := S.1
  have hb := S.2.1
  have hml : c.maxLocals = 9 := C0.2.2.2.1
  have hX : va_X sb 5 xs s s.heap := C0.2.2.2.2.2.2.1
  have hsb : sb < s.heap.size := C0.2.2.2.2.2.2.2.1
  have hbA : ¬ s.heap.size ≤ sb := Nat.not_le.mpr hsb
  have hA : ∀ q : Nat, s.heap.size ≤ q → s.heap.size ≤ q := fun _ h => h
  have E : Ev g (fun q => s.heap.size ≤ q) s.heap H locs ([(x, .inr (6, [.ref (ad 0), .ref (bd 0), .ref wo, .ref dy])), (dy, .inr (8, [.int 0, .ref (g.2.2 0), .int 0]))] ++ wsW g ad (-1) 1 0 ea σ0 ++ [(m0, .inr (9, [.int 0, .ref (b 0), .ref (b 17)])), ((b 0), .inr (10, [.ref (b 1), .ref (b 2), .ref (b 3), .ref (b 4), .ref (b 5), .ref (b 6), .ref (b 7), .ref (b 8), .ref (b 9), .ref (b 10), .ref (b 11), .ref (b 12), .int 0, .int 0, .int (nI 0), .ref (b 13), .ref (b 14), .ref (b 16)])), ((b 1), .inl (g.2.1 0, 16, .inl (fun _ => 0))), ((b 2), .inl (g.2.1 0, 16, .inl (fun _ => 10))), ((b 3), .inl (g.2.1 0, 16, .inl (fun _ => 0))), ((b 4), .inl (g.2.1 0, 16, .inl (fun _ => 0))), ((b 16), .inl (g.2.1 1, 26, .inr (.inl (fun _ => 0)))), ((b 17), .inr (8, [.int 0, .ref (g.2.2 0), .int 0])), (o, .inl (g.2.1 1, 1, .inr (.inl fo)))]) := Ev.sub E [0, 1, 2, 3, 4, 5, 6, 7, 8, 9, 10, 11, 12, 13, 14, 15, 16, 17, 18, 19, 20, 21, 22, 23, 24, 25, 26, 27, 28, 29, 30, 31, 32, 64, 65, 66, 67, 68, 69, 81, 82, 83] rfl rfl
  refine lv_aload_n hx hb dL_law_164 rfl (lv_at hl 1 rfl) ?_
  refine lv_aload_n hx hb dL_law_165 rfl (lv_at hl 0 rfl) ?_
  refine lv_iload hx hb dL_law_166 (lv_at hl 4 rfl) ?_
  refine lv_iconst (v := 1) hx hb dL_law_168 (by decide) ?_
  refine k_iadd (v := 1) hx hb (by decide) dL_law_169 ?_
  refine va_sld hx hb hX hsb hbA E.2.2 (i := 1) (by unfold vp_in; decide) dL_law_170 ?_
  have hl := hl
  show W p l e room_1 s m #[.ref sb] below meth c H locs _ _ _ (F0 m 171 ls [.int (xs 1), .ref x])
  refine lv_aload_n hx hb dL_law_171 rfl (lv_at hl 0 rfl) ?_
  refine lv_iload hx hb dL_law_172 (lv_at hl 4 rfl) ?_
  refine lv_iconst (v := 2) hx hb dL_law_174 (by decide) ?_
  refine k_iadd (v := 2) hx hb (by decide) dL_law_175 ?_
  refine va_sld hx hb hX hsb hbA E.2.2 (i := 2) (by unfold vp_in; decide) dL_law_176 ?_
  have hl := hl
  show W p l e room_1 s m #[.ref sb] below meth c H locs _ _ _ (F0 m 177 ls [.int (xs 2), .int (xs 1), .ref x])
  refine lv_aload_n hx hb dL_law_177 rfl (lv_at hl 0 rfl) ?_
  refine lv_iload hx hb dL_law_178 (lv_at hl 4 rfl) ?_
  refine lv_iconst (v := 3) hx hb dL_law_180 (by decide) ?_
  refine k_iadd (v := 3) hx hb (by decide) dL_law_181 ?_
  refine va_sld hx hb hX hsb hbA E.2.2 (i := 3) (by unfold vp_in; decide) dL_law_182 ?_
  have hl := hl
  show W p l e room_1 s m #[.ref sb] below meth c H locs _ _ _ (F0 m 183 ls [.int (xs 3), .int (xs 2), .int (xs 1), .ref x])
  refine lv_aload_n hx hb dL_law_183 rfl (lv_at hl 0 rfl) ?_
  refine lv_iload hx hb dL_law_184 (lv_at hl 4 rfl) ?_
  refine lv_iconst (v := 4) hx hb dL_law_186 (by decide) ?_
  refine k_iadd (v := 4) hx hb (by decide) dL_law_187 ?_
  refine va_sld hx hb hX hsb hbA E.2.2 (i := 4) (by unfold vp_in; decide) dL_law_188 ?_
  have hl := hl
  show W p l e room_1 s m #[.ref sb] below meth c H locs _ _ _ (F0 m 189 ls [.int (xs 4), .int (xs 3), .int (xs 2), .int (xs 1), .ref x])
  refine lv_aload_n hx hb dL_law_189 rfl (lv_at hl 3 rfl) ?_
  refine y_reti (yrunH (As := [.ref x, .int (xs 1), .int (xs 2), .int (xs 3), .int (xs 4), .ref o]) (rest := []) (n := 6) S hml hK (hZ.at E) (Cut.of (wc := ([(x, .inr (6, [.ref (ad 0), .ref (bd 0), .ref wo, .ref dy])), (dy, .inr (8, [.int 0, .ref (g.2.2 0), .int 0]))] ++ wsW g ad (-1) 1 0 ea σ0 ++ [(o, .inl (g.2.1 1, 1, .inr (.inl fo)))])) (wr := [(m0, .inr (9, [.int 0, .ref (b 0), .ref (b 17)])), ((b 0), .inr (10, [.ref (b 1), .ref (b 2), .ref (b 3), .ref (b 4), .ref (b 5), .ref (b 6), .ref (b 7), .ref (b 8), .ref (b 9), .ref (b 10), .ref (b 11), .ref (b 12), .int 0, .int 0, .int (nI 0), .ref (b 13), .ref (b 14), .ref (b 16)])), ((b 1), .inl (g.2.1 0, 16, .inl (fun _ => 0))), ((b 2), .inl (g.2.1 0, 16, .inl (fun _ => 10))), ((b 3), .inl (g.2.1 0, 16, .inl (fun _ => 0))), ((b 4), .inl (g.2.1 0, 16, .inl (fun _ => 0))), ((b 16), .inl (g.2.1 1, 26, .inr (.inl (fun _ => 0)))), ((b 17), .inr (8, [.int 0, .ref (g.2.2 0), .int 0]))]) E hA [0, 1, 2, 3, 4, 5, 6, 7, 8, 9, 10, 11, 12, 13, 14, 15, 16, 17, 18, 19, 20, 21, 22, 23, 24, 25, 26, 27, 28, 29, 30, 31, 32, 41] [33, 34, 35, 36, 37, 38, 39, 40] rfl rfl rfl rfl (by decide)) (c_L_setCell l g hst x (bd 0) wo dy ad ea (xs 1) (xs 2) (xs 3) (xs 4) o fo _ _) ml_L_103 st_L_setCell in_L rfl co_L_setCell ⟨by decide +kernel, by decide +kernel, by decide +kernel⟩ ⟨Nat.le_of_ble_eq_true rfl, Nat.le_of_ble_eq_true rfl⟩ rfl hl.1 rfl (Nat.le_of_ble_eq_true rfl) dL_law_190 ⟨Nat.le_of_ble_eq_true rfl, Nat.le_of_ble_eq_true rfl⟩) (Cut.of (wc := ([(x, .inr (6, [.ref (ad 0), .ref (bd 0), .ref wo, .ref dy])), (dy, .inr (8, [.int 0, .ref (g.2.2 0), .int 0]))] ++ wsW g ad (-1) 1 0 ea σ0 ++ [(o, .inl (g.2.1 1, 1, .inr (.inl fo)))])) (wr := [(m0, .inr (9, [.int 0, .ref (b 0), .ref (b 17)])), ((b 0), .inr (10, [.ref (b 1), .ref (b 2), .ref (b 3), .ref (b 4), .ref (b 5), .ref (b 6), .ref (b 7), .ref (b 8), .ref (b 9), .ref (b 10), .ref (b 11), .ref (b 12), .int 0, .int 0, .int (nI 0), .ref (b 13), .ref (b 14), .ref (b 16)])), ((b 1), .inl (g.2.1 0, 16, .inl (fun _ => 0))), ((b 2), .inl (g.2.1 0, 16, .inl (fun _ => 10))), ((b 3), .inl (g.2.1 0, 16, .inl (fun _ => 0))), ((b 4), .inl (g.2.1 0, 16, .inl (fun _ => 0))), ((b 16), .inl (g.2.1 1, 26, .inr (.inl (fun _ => 0)))), ((b 17), .inr (8, [.int 0, .ref (g.2.2 0), .int 0]))]) E hA [0, 1, 2, 3, 4, 5, 6, 7, 8, 9, 10, 11, 12, 13, 14, 15, 16, 17, 18, 19, 20, 21, 22, 23, 24, 25, 26, 27, 28, 29, 30, 31, 32, 41] [33, 34, 35, 36, 37, 38, 39, 40] rfl rfl rfl rfl (by decide)) E (fun En ce q9 H locs hp E hce hcv hcl => ?_) (fun r1 u1 H locs hp E => ?_)
  · have E : Ev g _ s.heap H locs [(m0, .inr (9, [.int 0, .ref (b 0), .ref (b 17)])), ((b 0), .inr (10, [.ref (b 1), .ref (b 2), .ref (b 3), .ref (b 4), .ref (b 5), .ref (b 6), .ref (b 7), .ref (b 8), .ref (b 9), .ref (b 10), .ref (b 11), .ref (b 12), .int 0, .int 0, .int (nI 0), .ref (b 13), .ref (b 14), .ref (b 16)])), ((b 1), .inl (g.2.1 0, 16, .inl (fun _ => 0))), ((b 2), .inl (g.2.1 0, 16, .inl (fun _ => 10))), ((b 3), .inl (g.2.1 0, 16, .inl (fun _ => 0))), ((b 4), .inl (g.2.1 0, 16, .inl (fun _ => 0))), ((b 16), .inl (g.2.1 1, 26, .inr (.inl (fun _ => 0)))), ((b 17), .inr (8, [.int 0, .ref (g.2.2 0), .int 0]))] := E
    exact False.elim hp
  · skip
    have E : Ev g _ s.heap H locs [(m0, .inr (9, [.int 0, .ref (b 0), .ref (b 17)])), ((b 0), .inr (10, [.ref (b 1), .ref (b 2), .ref (b 3), .ref (b 4), .ref (b 5), .ref (b 6), .ref (b 7), .ref (b 8), .ref (b 9), .ref (b 10), .ref (b 11), .ref (b 12), .int 0, .int 0, .int (nI 0), .ref (b 13), .ref (b 14), .ref (b 16)])), ((b 1), .inl (g.2.1 0, 16, .inl (fun _ => 0))), ((b 2), .inl (g.2.1 0, 16, .inl (fun _ => 10))), ((b 3), .inl (g.2.1 0, 16, .inl (fun _ => 0))), ((b 4), .inl (g.2.1 0, 16, .inl (fun _ => 0))), ((b 16), .inl (g.2.1 1, 26, .inr (.inl (fun _ => 0)))), ((b 17), .inr (8, [.int 0, .ref (g.2.2 0), .int 0])), (o, .inl (g.2.1 1, 1, .inr (.inl u1)))] := E
    obtain ⟨rfl, hU2⟩ := hp
    refine lv_istore (lv' := [(5, .int (kk_setCell (xs 1) (xs 2) (xs 3) (xs 4))), (0, .ref sb), (1, .ref x), (2, .ref m0), (3, .ref o), (4, .int 0)]) hx hb dL_law_193 hl (by decide) rfl (fun ls hl => ?_)
    refine lv_aload_n hx hb dL_law_195 rfl (lv_at hl 3 rfl) ?_
    refine lv_aload_n hx hb dL_law_196 rfl (lv_at hl 1 rfl) ?_
    refine lv_iload hx hb dL_law_197 (lv_at hl 5 rfl) ?_
    refine lv_iconst (v := 1) hx hb dL_law_199 (by decide) ?_
    refine k_iadd (v := 1) hx hb (by decide) dL_law_200 ?_
    refine va_sld hx hb hX hsb hbA E.2.2 (i := 1) (by unfold vp_in; decide) dL_law_201 ?_
    have hl := hl
    show W p l e room_1 s m #[.ref sb] below meth c H locs _ _ _ (F0 m 202 ls [.int (xs 1), .ref m0])
    refine lv_aload_n hx hb dL_law_202 rfl (lv_at hl 1 rfl) ?_
    refine lv_iload hx hb dL_law_203 (lv_at hl 5 rfl) ?_
    refine lv_iconst (v := 2) hx hb dL_law_205 (by decide) ?_
    refine k_iadd (v := 2) hx hb (by decide) dL_law_206 ?_
    refine va_sld hx hb hX hsb hbA E.2.2 (i := 2) (by unfold vp_in; decide) dL_law_207 ?_
    have hl := hl
    show W p l e room_1 s m #[.ref sb] below meth c H locs _ _ _ (F0 m 208 ls [.int (xs 2), .int (xs 1), .ref m0])
    refine lv_aload_n hx hb dL_law_208 rfl (lv_at hl 1 rfl) ?_
    refine lv_iload hx hb dL_law_209 (lv_at hl 5 rfl) ?_
    refine lv_iconst (v := 3) hx hb dL_law_211 (by decide) ?_
    refine k_iadd (v := 3) hx hb (by decide) dL_law_212 ?_
    refine va_sld hx hb hX hsb hbA E.2.2 (i := 3) (by unfold vp_in; decide) dL_law_213 ?_
    have hl := hl
    show W p l e room_1 s m #[.ref sb] below meth c H locs _ _ _ (F0 m 214 ls [.int (xs 3), .int (xs 2), .int (xs 1), .ref m0])
    refine lv_aload_n hx hb dL_law_214 rfl (lv_at hl 1 rfl) ?_
    refine lv_iload hx hb dL_law_215 (lv_at hl 5 rfl) ?_
    refine lv_iconst (v := 4) hx hb dL_law_217 (by decide) ?_
    refine k_iadd (v := 4) hx hb (by decide) dL_law_218 ?_
    refine va_sld hx hb hX hsb hbA E.2.2 (i := 4) (by unfold vp_in; decide) dL_law_219 ?_
    have hl := hl
    show W p l e room_1 s m #[.ref sb] below meth c H locs _ _ _ (F0 m 220 ls [.int (xs 4), .int (xs 3), .int (xs 2), .int (xs 1), .ref m0])
    refine w_reti (runV_X (As := [.int (xs 1), .int (xs 2), .int (xs 3), .int (xs 4)]) (rest := []) (q0 := 0) (n := 4) S hml hK (hZ.at E) (Cut.of (wc := [(m0, .inr (9, [.int 0, .ref (b 0), .ref (b 17)])), ((b 17), .inr (8, [.int 0, .ref (g.2.2 0), .int 0])), ((b 0), .inr (10, [.ref (b 1), .ref (b 2), .ref (b 3), .ref (b 4), .ref (b 5), .ref (b 6), .ref (b 7), .ref (b 8), .ref (b 9), .ref (b 10), .ref (b 11), .ref (b 12), .int 0, .int 0, .int (nI 0), .ref (b 13), .ref (b 14), .ref (b 16)])), ((b 1), .inl (g.2.1 0, 16, .inl (fun _ => 0))), ((b 2), .inl (g.2.1 0, 16, .inl (fun _ => 10))), ((b 3), .inl (g.2.1 0, 16, .inl (fun _ => 0))), ((b 4), .inl (g.2.1 0, 16, .inl (fun _ => 0))), ((b 16), .inl (g.2.1 1, 26, .inr (.inl (fun _ => 0))))]) (wr := [(o, .inl (g.2.1 1, 1, .inr (.inl u1)))]) E hA [0, 7, 1, 2, 3, 4, 5, 6] [8] rfl rfl rfl rfl (by decide)) (c_X9_setCell l g m0 b (xs 1) (xs 2) (xs 3) (xs 4) _ _) (gi_wsV ml_L_108 im_X9_setCell sl_X9_setCell in_X9 co_X9_setCell) ⟨rfl, by decide +kernel, by decide +kernel, by decide +kernel⟩ ⟨Nat.le_of_ble_eq_true rfl, Nat.le_of_ble_eq_true rfl⟩ rfl rfl rfl hl.1 rfl (Nat.le_of_ble_eq_true rfl) dL_law_220 ⟨Nat.le_of_ble_eq_true rfl, Nat.le_of_ble_eq_true rfl⟩) (Cut.of (wc := [(m0, .inr (9, [.int 0, .ref (b 0), .ref (b 17)])), ((b 17), .inr (8, [.int 0, .ref (g.2.2 0), .int 0])), ((b 0), .inr (10, [.ref (b 1), .ref (b 2), .ref (b 3), .ref (b 4), .ref (b 5), .ref (b 6), .ref (b 7), .ref (b 8), .ref (b 9), .ref (b 10), .ref (b 11), .ref (b 12), .int 0, .int 0, .int (nI 0), .ref (b 13), .ref (b 14), .ref (b 16)])), ((b 1), .inl (g.2.1 0, 16, .inl (fun _ => 0))), ((b 2), .inl (g.2.1 0, 16, .inl (fun _ => 10))), ((b 3), .inl (g.2.1 0, 16, .inl (fun _ => 0))), ((b 4), .inl (g.2.1 0, 16, .inl (fun _ => 0))), ((b 16), .inl (g.2.1 1, 26, .inr (.inl (fun _ => 0))))]) (wr := [(o, .inl (g.2.1 1, 1, .inr (.inl u1)))]) E hA [0, 7, 1, 2, 3, 4, 5, 6] [8] rfl rfl rfl rfl (by decide)) E (fun r3 u3 H locs hp E => ?_)
    have E : Ev g _ s.heap H locs [(o, .inl (g.2.1 1, 1, .inr (.inl u1))), (m0, .inr (9, [.int u3, .ref (b 0), .ref (b 17)]))] := E
    obtain ⟨rfl, hV4⟩ := hp
    refine lv_istore (lv' := [(6, .int r3), (5, .int (kk_setCell (xs 1) (xs 2) (xs 3) (xs 4))), (0, .ref sb), (1, .ref x), (2, .ref m0), (3, .ref o), (4, .int 0)]) hx hb dL_law_223 hl (by decide) rfl (fun ls hl => ?_)
    refine lv_aload_n hx hb dL_law_225 rfl (lv_at hl 4 rfl) ?_
    refine w_reti (runV_X (As := []) (rest := []) (q0 := 0) (n := 0) S hml hK (hZ.at E) (Cut.of (wc := [(m0, .inr (9, [.int (kk_setCell (xs 1) (xs 2) (xs 3) (xs 4)), .ref (b 0), .ref (b 17)]))]) (wr := [(o, .inl (g.2.1 1, 1, .inr (.inl u1)))]) E hA [1] [0] rfl rfl rfl rfl (by decide)) (c_X9_thrown l g m0 b (kk_setCell (xs 1) (xs 2) (xs 3) (xs 4)) _ _) (gi_wsV ml_L_109 im_X9_thrown sl_X9_thrown in_X9 co_X9_thrown) ⟨rfl, by decide +kernel, by decide +kernel, by decide +kernel⟩ ⟨Nat.le_of_ble_eq_true rfl, Nat.le_of_ble_eq_true rfl⟩ rfl rfl rfl hl.1 rfl (Nat.le_of_ble_eq_true rfl) dL_law_226 ⟨Nat.le_of_ble_eq_true rfl, Nat.le_of_ble_eq_true rfl⟩) (Cut.of (wc := [(m0, .inr (9, [.int (kk_setCell (xs 1) (xs 2) (xs 3) (xs 4)), .ref (b 0), .ref (b 17)]))]) (wr := [(o, .inl (g.2.1 1, 1, .inr (.inl u1)))]) E hA [1] [0] rfl rfl rfl rfl (by decide)) E (fun r5 u5 H locs hp E => ?_)
    have E : Ev g _ s.heap H locs [(o, .inl (g.2.1 1, 1, .inr (.inl u1))), (m0, .inr (9, [.int (kk_setCell (xs 1) (xs 2) (xs 3) (xs 4)), .ref (b 0), .ref (b 17)]))] := E
    subst hp
    refine lv_iload hx hb dL_law_229 (lv_at hl 1 rfl) ?_
    refine lv_icmp_eq (tgt := 236) hx hb dL_law_231 (by decide) (fun _ => ?_) (fun c_ => absurd rfl c_)
    refine lv_iload hx hb dL_law_236 (lv_at hl 1 rfl) ?_
    refine lv_if_ne (tgt := 253) hx hb dL_law_238 (by decide) (fun c6 => ?_) (fun c6 => ?_)
    · have c6 : ¬ ((kk_setCell (xs 1) (xs 2) (xs 3) (xs 4)) = 0) := c6
      refine lv_goto (tgt := 1762) hx hb dL_law_253 (by decide) ?_
      exact law_end C0 hsb hX E.2.2 (lv_sub hl [2, 6] rfl) (Nat.le_of_ble_eq_true rfl) (Nat.le_of_ble_eq_true rfl)
    · have c6 : (kk_setCell (xs 1) (xs 2) (xs 3) (xs 4)) = 0 := c6
      refine lv_aload_n hx hb dL_law_241 rfl (lv_at hl 5 rfl) ?_
      refine lv_iconst (v := 0) hx hb dL_law_242 (by decide) ?_
      refine w_lld (v := 0) S hK E 0 1 rfl rfl (show vp_in 0 1 by unfold vp_in; decide) (hU2 c6) dL_law_243 ?_
      refine lv_iload hx hb dL_law_244 (lv_at hl 0 rfl) ?_
      refine lv_i2l (v := 0) hx hb dL_law_246 ((congrArg Int32.toInt64 (hV4 c6)).trans (by decide)) ?_
      refine k_lcmp (v := 0) hx hb (by decide) dL_law_247 ?_
      refine lv_if_eq (tgt := 253) hx hb dL_law_248 (by decide) (fun _ => ?_) (fun c_ => absurd (show (0 : Int32) = 0 by decide) c_)
      refine lv_goto (tgt := 1762) hx hb dL_law_253 (by decide) ?_
      exact law_end C0 hsb hX E.2.2 (lv_sub hl [2, 6] rfl) (Nat.le_of_ble_eq_true rfl) (Nat.le_of_ble_eq_true rfl)
set_option maxHeartbeats 4000000 in
set_option maxRecDepth 100000 in
/-- case 1: setGround -/
theorem law_1 {p : Program} {l : Launch} {e : Env} {s : State} {m : MethodId} {below : List Frame} {meth : Method} {c : Code} {sb : Nat} {xs : Nat → Int32} {H : Heap} {locs : List Loc} {ls : Array Slot} {g : Gm} {x dy wo m0 o : Nat} {ad bd b : Nat → Nat} {ea eb : Nat} {fo : Nat → Int64} (hst : l.stackTraces = false) (C0 : lw_At p s m meth c sb 5 xs) (S : Sta p c cL_law s #[.ref sb] RL m) (hK : va_K g.1 vwC (tysG g) s) (hZ : Zs g (fun q => s.heap.size ≤ q) s s.heap) (E : Ev g (fun q => s.heap.size ≤ q) s.heap H locs (lawW g x dy wo m0 o ad bd b ea eb fo)) (hl : lv_has ls 9 [(0, .ref sb), (1, .ref x), (2, .ref m0), (3, .ref o), (4, .int 0)]) : W p l e room_1 s m #[.ref sb] below meth c H locs 400 3000 (lw_Z below #[.ref sb] s) (F0 m 256 ls []) := by
  have hx := S.1
  have hb := S.2.1
  have hml : c.maxLocals = 9 := C0.2.2.2.1
  have hX : va_X sb 5 xs s s.heap := C0.2.2.2.2.2.2.1
  have hsb : sb < s.heap.size := C0.2.2.2.2.2.2.2.1
  have hbA : ¬ s.heap.size ≤ sb := Nat.not_le.mpr hsb
  have hA : ∀ q : Nat, s.heap.size ≤ q → s.heap.size ≤ q := fun _ h => h
  have E : Ev g (fun q => s.heap.size ≤ q) s.heap H locs ([(x, .inr (6, [.ref (ad 0), .ref (bd 0), .ref wo, .ref dy])), (dy, .inr (8, [.int 0, .ref (g.2.2 0), .int 0]))] ++ wsW g ad (-1) 1 0 ea σ0 ++ [(m0, .inr (9, [.int 0, .ref (b 0), .ref (b 17)])), ((b 0), .inr (10, [.ref (b 1), .ref (b 2), .ref (b 3), .ref (b 4), .ref (b 5), .ref (b 6), .ref (b 7), .ref (b 8), .ref (b 9), .ref (b 10), .ref (b 11), .ref (b 12), .int 0, .int 0, .int (nI 0), .ref (b 13), .ref (b 14), .ref (b 16)])), ((b 5), .inl (g.2.1 0, 8, .inl (fun _ => 100))), ((b 17), .inr (8, [.int 0, .ref (g.2.2 0), .int 0])), (o, .inl (g.2.1 1, 1, .inr (.inl fo)))]) := Ev.sub E [0, 1, 2, 3, 4, 5, 6, 7, 8, 9, 10, 11, 12, 13, 14, 15, 16, 17, 18, 19, 20, 21, 22, 23, 24, 25, 26, 27, 28, 29, 30, 31, 32, 64, 65, 70, 82, 83] rfl rfl
  refine lv_aload_n hx hb dL_law_256 rfl (lv_at hl 1 rfl) ?_
  refine lv_aload_n hx hb dL_law_257 rfl (lv_at hl 0 rfl) ?_
  refine lv_iload hx hb dL_law_258 (lv_at hl 4 rfl) ?_
  refine lv_iconst (v := 1) hx hb dL_law_260 (by decide) ?_
  refine k_iadd (v := 1) hx hb (by decide) dL_law_261 ?_
  refine va_sld hx hb hX hsb hbA E.2.2 (i := 1) (by unfold vp_in; decide) dL_law_262 ?_
  have hl := hl
  show W p l e room_1 s m #[.ref sb] below meth c H locs _ _ _ (F0 m 263 ls [.int (xs 1), .ref x])
  refine lv_aload_n hx hb dL_law_263 rfl (lv_at hl 0 rfl) ?_
  refine lv_iload hx hb dL_law_264 (lv_at hl 4 rfl) ?_
  refine lv_iconst (v := 2) hx hb dL_law_266 (by decide) ?_
  refine k_iadd (v := 2) hx hb (by decide) dL_law_267 ?_
  refine va_sld hx hb hX hsb hbA E.2.2 (i := 2) (by unfold vp_in; decide) dL_law_268 ?_
  have hl := hl
  show W p l e room_1 s m #[.ref sb] below meth c H locs _ _ _ (F0 m 269 ls [.int (xs 2), .int (xs 1), .ref x])
  refine lv_aload_n hx hb dL_law_269 rfl (lv_at hl 3 rfl) ?_
  refine y_reti (yrunH (As := [.ref x, .int (xs 1), .int (xs 2), .ref o]) (rest := []) (n := 4) S hml hK (hZ.at E) (Cut.of (wc := ([(x, .inr (6, [.ref (ad 0), .ref (bd 0), .ref wo, .ref dy])), (dy, .inr (8, [.int 0, .ref (g.2.2 0), .int 0]))] ++ wsW g ad (-1) 1 0 ea σ0 ++ [(o, .inl (g.2.1 1, 1, .inr (.inl fo)))])) (wr := [(m0, .inr (9, [.int 0, .ref (b 0), .ref (b 17)])), ((b 0), .inr (10, [.ref (b 1), .ref (b 2), .ref (b 3), .ref (b 4), .ref (b 5), .ref (b 6), .ref (b 7), .ref (b 8), .ref (b 9), .ref (b 10), .ref (b 11), .ref (b 12), .int 0, .int 0, .int (nI 0), .ref (b 13), .ref (b 14), .ref (b 16)])), ((b 5), .inl (g.2.1 0, 8, .inl (fun _ => 100))), ((b 17), .inr (8, [.int 0, .ref (g.2.2 0), .int 0]))]) E hA [0, 1, 2, 3, 4, 5, 6, 7, 8, 9, 10, 11, 12, 13, 14, 15, 16, 17, 18, 19, 20, 21, 22, 23, 24, 25, 26, 27, 28, 29, 30, 31, 32, 37] [33, 34, 35, 36] rfl rfl rfl rfl (by decide)) (c_L_setGround l g hst x (bd 0) wo dy ad ea (xs 1) (xs 2) o fo _ _) ml_L_113 st_L_setGround in_L rfl co_L_setGround ⟨by decide +kernel, by decide +kernel, by decide +kernel⟩ ⟨Nat.le_of_ble_eq_true rfl, Nat.le_of_ble_eq_true rfl⟩ rfl hl.1 rfl (Nat.le_of_ble_eq_true rfl) dL_law_270 ⟨Nat.le_of_ble_eq_true rfl, Nat.le_of_ble_eq_true rfl⟩) (Cut.of (wc := ([(x, .inr (6, [.ref (ad 0), .ref (bd 0), .ref wo, .ref dy])), (dy, .inr (8, [.int 0, .ref (g.2.2 0), .int 0]))] ++ wsW g ad (-1) 1 0 ea σ0 ++ [(o, .inl (g.2.1 1, 1, .inr (.inl fo)))])) (wr := [(m0, .inr (9, [.int 0, .ref (b 0), .ref (b 17)])), ((b 0), .inr (10, [.ref (b 1), .ref (b 2), .ref (b 3), .ref (b 4), .ref (b 5), .ref (b 6), .ref (b 7), .ref (b 8), .ref (b 9), .ref (b 10), .ref (b 11), .ref (b 12), .int 0, .int 0, .int (nI 0), .ref (b 13), .ref (b 14), .ref (b 16)])), ((b 5), .inl (g.2.1 0, 8, .inl (fun _ => 100))), ((b 17), .inr (8, [.int 0, .ref (g.2.2 0), .int 0]))]) E hA [0, 1, 2, 3, 4, 5, 6, 7, 8, 9, 10, 11, 12, 13, 14, 15, 16, 17, 18, 19, 20, 21, 22, 23, 24, 25, 26, 27, 28, 29, 30, 31, 32, 37] [33, 34, 35, 36] rfl rfl rfl rfl (by decide)) E (fun En ce q9 H locs hp E hce hcv hcl => ?_) (fun r1 u1 H locs hp E => ?_)
  · have E : Ev g _ s.heap H locs [(m0, .inr (9, [.int 0, .ref (b 0), .ref (b 17)])), ((b 0), .inr (10, [.ref (b 1), .ref (b 2), .ref (b 3), .ref (b 4), .ref (b 5), .ref (b 6), .ref (b 7), .ref (b 8), .ref (b 9), .ref (b 10), .ref (b 11), .ref (b 12), .int 0, .int 0, .int (nI 0), .ref (b 13), .ref (b 14), .ref (b 16)])), ((b 5), .inl (g.2.1 0, 8, .inl (fun _ => 100))), ((b 17), .inr (8, [.int 0, .ref (g.2.2 0), .int 0]))] := E
    exact False.elim hp
  · skip
    have E : Ev g _ s.heap H locs [(m0, .inr (9, [.int 0, .ref (b 0), .ref (b 17)])), ((b 0), .inr (10, [.ref (b 1), .ref (b 2), .ref (b 3), .ref (b 4), .ref (b 5), .ref (b 6), .ref (b 7), .ref (b 8), .ref (b 9), .ref (b 10), .ref (b 11), .ref (b 12), .int 0, .int 0, .int (nI 0), .ref (b 13), .ref (b 14), .ref (b 16)])), ((b 5), .inl (g.2.1 0, 8, .inl (fun _ => 100))), ((b 17), .inr (8, [.int 0, .ref (g.2.2 0), .int 0])), (o, .inl (g.2.1 1, 1, .inr (.inl u1)))] := E
    obtain ⟨rfl, hU2⟩ := hp
    refine lv_istore (lv' := [(5, .int (kk_setGround (xs 1) (xs 2))), (0, .ref sb), (1, .ref x), (2, .ref m0), (3, .ref o), (4, .int 0)]) hx hb dL_law_273 hl (by decide) rfl (fun ls hl => ?_)
    refine lv_aload_n hx hb dL_law_275 rfl (lv_at hl 3 rfl) ?_
    refine lv_aload_n hx hb dL_law_276 rfl (lv_at hl 1 rfl) ?_
    refine lv_iload hx hb dL_law_277 (lv_at hl 5 rfl) ?_
    refine lv_iconst (v := 1) hx hb dL_law_279 (by decide) ?_
    refine k_iadd (v := 1) hx hb (by decide) dL_law_280 ?_
    refine va_sld hx hb hX hsb hbA E.2.2 (i := 1) (by unfold vp_in; decide) dL_law_281 ?_
    have hl := hl
    show W p l e room_1 s m #[.ref sb] below meth c H locs _ _ _ (F0 m 282 ls [.int (xs 1), .ref m0])
    refine lv_aload_n hx hb dL_law_282 rfl (lv_at hl 1 rfl) ?_
    refine lv_iload hx hb dL_law_283 (lv_at hl 5 rfl) ?_
    refine lv_iconst (v := 2) hx hb dL_law_285 (by decide) ?_
    refine k_iadd (v := 2) hx hb (by decide) dL_law_286 ?_
    refine va_sld hx hb hX hsb hbA E.2.2 (i := 2) (by unfold vp_in; decide) dL_law_287 ?_
    have hl := hl
    show W p l e room_1 s m #[.ref sb] below meth c H locs _ _ _ (F0 m 288 ls [.int (xs 2), .int (xs 1), .ref m0])
    refine w_reti (runV_X (As := [.int (xs 1), .int (xs 2)]) (rest := []) (q0 := 0) (n := 2) S hml hK (hZ.at E) (Cut.of (wc := [(m0, .inr (9, [.int 0, .ref (b 0), .ref (b 17)])), ((b 17), .inr (8, [.int 0, .ref (g.2.2 0), .int 0])), ((b 0), .inr (10, [.ref (b 1), .ref (b 2), .ref (b 3), .ref (b 4), .ref (b 5), .ref (b 6), .ref (b 7), .ref (b 8), .ref (b 9), .ref (b 10), .ref (b 11), .ref (b 12), .int 0, .int 0, .int (nI 0), .ref (b 13), .ref (b 14), .ref (b 16)])), ((b 5), .inl (g.2.1 0, 8, .inl (fun _ => 100)))]) (wr := [(o, .inl (g.2.1 1, 1, .inr (.inl u1)))]) E hA [0, 3, 1, 2] [4] rfl rfl rfl rfl (by decide)) (c_X9_setGround l g m0 b (xs 1) (xs 2) _ _) (gi_wsV ml_L_116 im_X9_setGround sl_X9_setGround in_X9 co_X9_setGround) ⟨rfl, by decide +kernel, by decide +kernel, by decide +kernel⟩ ⟨Nat.le_of_ble_eq_true rfl, Nat.le_of_ble_eq_true rfl⟩ rfl rfl rfl hl.1 rfl (Nat.le_of_ble_eq_true rfl) dL_law_288 ⟨Nat.le_of_ble_eq_true rfl, Nat.le_of_ble_eq_true rfl⟩) (Cut.of (wc := [(m0, .inr (9, [.int 0, .ref (b 0), .ref (b 17)])), ((b 17), .inr (8, [.int 0, .ref (g.2.2 0), .int 0])), ((b 0), .inr (10, [.ref (b 1), .ref (b 2), .ref (b 3), .ref (b 4), .ref (b 5), .ref (b 6), .ref (b 7), .ref (b 8), .ref (b 9), .ref (b 10), .ref (b 11), .ref (b 12), .int 0, .int 0, .int (nI 0), .ref (b 13), .ref (b 14), .ref (b 16)])), ((b 5), .inl (g.2.1 0, 8, .inl (fun _ => 100)))]) (wr := [(o, .inl (g.2.1 1, 1, .inr (.inl u1)))]) E hA [0, 3, 1, 2] [4] rfl rfl rfl rfl (by decide)) E (fun r3 u3 H locs hp E => ?_)
    have E : Ev g _ s.heap H locs [(o, .inl (g.2.1 1, 1, .inr (.inl u1))), (m0, .inr (9, [.int u3, .ref (b 0), .ref (b 17)]))] := E
    obtain ⟨rfl, hV4⟩ := hp
    refine lv_istore (lv' := [(6, .int r3), (5, .int (kk_setGround (xs 1) (xs 2))), (0, .ref sb), (1, .ref x), (2, .ref m0), (3, .ref o), (4, .int 0)]) hx hb dL_law_291 hl (by decide) rfl (fun ls hl => ?_)
    refine lv_aload_n hx hb dL_law_293 rfl (lv_at hl 4 rfl) ?_
    refine w_reti (runV_X (As := []) (rest := []) (q0 := 0) (n := 0) S hml hK (hZ.at E) (Cut.of (wc := [(m0, .inr (9, [.int (kk_setGround (xs 1) (xs 2)), .ref (b 0), .ref (b 17)]))]) (wr := [(o, .inl (g.2.1 1, 1, .inr (.inl u1)))]) E hA [1] [0] rfl rfl rfl rfl (by decide)) (c_X9_thrown l g m0 b (kk_setGround (xs 1) (xs 2)) _ _) (gi_wsV ml_L_109 im_X9_thrown sl_X9_thrown in_X9 co_X9_thrown) ⟨rfl, by decide +kernel, by decide +kernel, by decide +kernel⟩ ⟨Nat.le_of_ble_eq_true rfl, Nat.le_of_ble_eq_true rfl⟩ rfl rfl rfl hl.1 rfl (Nat.le_of_ble_eq_true rfl) dL_law_294 ⟨Nat.le_of_ble_eq_true rfl, Nat.le_of_ble_eq_true rfl⟩) (Cut.of (wc := [(m0, .inr (9, [.int (kk_setGround (xs 1) (xs 2)), .ref (b 0), .ref (b 17)]))]) (wr := [(o, .inl (g.2.1 1, 1, .inr (.inl u1)))]) E hA [1] [0] rfl rfl rfl rfl (by decide)) E (fun r5 u5 H locs hp E => ?_)
    have E : Ev g _ s.heap H locs [(o, .inl (g.2.1 1, 1, .inr (.inl u1))), (m0, .inr (9, [.int (kk_setGround (xs 1) (xs 2)), .ref (b 0), .ref (b 17)]))] := E
    subst hp
    refine lv_iload hx hb dL_law_297 (lv_at hl 1 rfl) ?_
    refine lv_icmp_eq (tgt := 304) hx hb dL_law_299 (by decide) (fun _ => ?_) (fun c_ => absurd rfl c_)
    refine lv_iload hx hb dL_law_304 (lv_at hl 1 rfl) ?_
    refine lv_if_ne (tgt := 321) hx hb dL_law_306 (by decide) (fun c6 => ?_) (fun c6 => ?_)
    · have c6 : ¬ ((kk_setGround (xs 1) (xs 2)) = 0) := c6
      refine lv_goto (tgt := 1762) hx hb dL_law_321 (by decide) ?_
      exact law_end C0 hsb hX E.2.2 (lv_sub hl [2, 6] rfl) (Nat.le_of_ble_eq_true rfl) (Nat.le_of_ble_eq_true rfl)
    · have c6 : (kk_setGround (xs 1) (xs 2)) = 0 := c6
      refine lv_aload_n hx hb dL_law_309 rfl (lv_at hl 5 rfl) ?_
      refine lv_iconst (v := 0) hx hb dL_law_310 (by decide) ?_
      refine w_lld (v := 100) S hK E 0 1 rfl rfl (show vp_in 0 1 by unfold vp_in; decide) (hU2 c6) dL_law_311 ?_
      refine lv_iload hx hb dL_law_312 (lv_at hl 0 rfl) ?_
      refine lv_i2l (v := 100) hx hb dL_law_314 ((congrArg Int32.toInt64 (hV4 c6)).trans (by decide)) ?_
      refine k_lcmp (v := 0) hx hb (by decide) dL_law_315 ?_
      refine lv_if_eq (tgt := 321) hx hb dL_law_316 (by decide) (fun _ => ?_) (fun c_ => absurd (show (0 : Int32) = 0 by decide) c_)
      refine lv_goto (tgt := 1762) hx hb dL_law_321 (by decide) ?_
      exact law_end C0 hsb hX E.2.2 (lv_sub hl [2, 6] rfl) (Nat.le_of_ble_eq_true rfl) (Nat.le_of_ble_eq_true rfl)
set_option maxHeartbeats 4000000 in
set_option maxRecDepth 100000 in
/-- case 2: setConductance -/
theorem law_2 {p : Program} {l : Launch} {e : Env} {s : State} {m : MethodId} {below : List Frame} {meth : Method} {c : Code} {sb : Nat} {xs : Nat → Int32} {H : Heap} {locs : List Loc} {ls : Array Slot} {g : Gm} {x dy wo m0 o : Nat} {ad bd b : Nat → Nat} {ea eb : Nat} {fo : Nat → Int64} (hst : l.stackTraces = false) (C0 : lw_At p s m meth c sb 5 xs) (S : Sta p c cL_law s #[.ref sb] RL m) (hK : va_K g.1 vwC (tysG g) s) (hZ : Zs g (fun q => s.heap.size ≤ q) s s.heap) (E : Ev g (fun q => s.heap.size ≤ q) s.heap H locs (lawW g x dy wo m0 o ad bd b ea eb fo)) (hl : lv_has ls 9 [(0, .ref sb), (1, .ref x), (2, .ref m0), (3, .ref o), (4, .int 0)]) : W p l e room_1 s m #[.ref sb] below meth c H locs 400 3000 (lw_Z below #[.ref sb] s) (F0 m 324 ls []) := by
  have hx := S.1
  have hb := S.2.1
  have hml : c.maxLocals = 9 := C0.2.2.2.1
  have hX : va_X sb 5 xs s s.heap := C0.2.2.2.2.2.2.1
  have hsb : sb < s.heap.size := C0.2.2.2.2.2.2.2.1
  have hbA : ¬ s.heap.size ≤ sb := Nat.not_le.mpr hsb
  have hA : ∀ q : Nat, s.heap.size ≤ q → s.heap.size ≤ q := fun _ h => h
  have E : Ev g (fun q => s.heap.size ≤ q) s.heap H locs ([(x, .inr (6, [.ref (ad 0), .ref (bd 0), .ref wo, .ref dy])), (dy, .inr (8, [.int 0, .ref (g.2.2 0), .int 0]))] ++ wsW g ad (-1) 1 0 ea σ0 ++ [(m0, .inr (9, [.int 0, .ref (b 0), .ref (b 17)])), ((b 0), .inr (10, [.ref (b 1), .ref (b 2), .ref (b 3), .ref (b 4), .ref (b 5), .ref (b 6), .ref (b 7), .ref (b 8), .ref (b 9), .ref (b 10), .ref (b 11), .ref (b 12), .int 0, .int 0, .int (nI 0), .ref (b 13), .ref (b 14), .ref (b 16)])), ((b 6), .inl (g.2.1 0, 2, .inl (fun _ => 4))), ((b 17), .inr (8, [.int 0, .ref (g.2.2 0), .int 0])), (o, .inl (g.2.1 1, 1, .inr (.inl fo)))]) := Ev.sub E [0, 1, 2, 3, 4, 5, 6, 7, 8, 9, 10, 11, 12, 13, 14, 15, 16, 17, 18, 19, 20, 21, 22, 23, 24, 25, 26, 27, 28, 29, 30, 31, 32, 64, 65, 71, 82, 83] rfl rfl
  refine lv_aload_n hx hb dL_law_324 rfl (lv_at hl 1 rfl) ?_
  refine lv_aload_n hx hb dL_law_325 rfl (lv_at hl 0 rfl) ?_
  refine lv_iload hx hb dL_law_326 (lv_at hl 4 rfl) ?_
  refine lv_iconst (v := 1) hx hb dL_law_328 (by decide) ?_
  refine k_iadd (v := 1) hx hb (by decide) dL_law_329 ?_
  refine va_sld hx hb hX hsb hbA E.2.2 (i := 1) (by unfold vp_in; decide) dL_law_330 ?_
  have hl := hl
  show W p l e room_1 s m #[.ref sb] below meth c H locs _ _ _ (F0 m 331 ls [.int (xs 1), .ref x])
  refine lv_aload_n hx hb dL_law_331 rfl (lv_at hl 0 rfl) ?_
  refine lv_iload hx hb dL_law_332 (lv_at hl 4 rfl) ?_
  refine lv_iconst (v := 2) hx hb dL_law_334 (by decide) ?_
  refine k_iadd (v := 2) hx hb (by decide) dL_law_335 ?_
  refine va_sld hx hb hX hsb hbA E.2.2 (i := 2) (by unfold vp_in; decide) dL_law_336 ?_
  have hl := hl
  show W p l e room_1 s m #[.ref sb] below meth c H locs _ _ _ (F0 m 337 ls [.int (xs 2), .int (xs 1), .ref x])
  refine lv_aload_n hx hb dL_law_337 rfl (lv_at hl 3 rfl) ?_
  refine y_reti (yrunH (As := [.ref x, .int (xs 1), .int (xs 2), .ref o]) (rest := []) (n := 4) S hml hK (hZ.at E) (Cut.of (wc := ([(x, .inr (6, [.ref (ad 0), .ref (bd 0), .ref wo, .ref dy])), (dy, .inr (8, [.int 0, .ref (g.2.2 0), .int 0]))] ++ wsW g ad (-1) 1 0 ea σ0 ++ [(o, .inl (g.2.1 1, 1, .inr (.inl fo)))])) (wr := [(m0, .inr (9, [.int 0, .ref (b 0), .ref (b 17)])), ((b 0), .inr (10, [.ref (b 1), .ref (b 2), .ref (b 3), .ref (b 4), .ref (b 5), .ref (b 6), .ref (b 7), .ref (b 8), .ref (b 9), .ref (b 10), .ref (b 11), .ref (b 12), .int 0, .int 0, .int (nI 0), .ref (b 13), .ref (b 14), .ref (b 16)])), ((b 6), .inl (g.2.1 0, 2, .inl (fun _ => 4))), ((b 17), .inr (8, [.int 0, .ref (g.2.2 0), .int 0]))]) E hA [0, 1, 2, 3, 4, 5, 6, 7, 8, 9, 10, 11, 12, 13, 14, 15, 16, 17, 18, 19, 20, 21, 22, 23, 24, 25, 26, 27, 28, 29, 30, 31, 32, 37] [33, 34, 35, 36] rfl rfl rfl rfl (by decide)) (c_L_setConductance l g hst x (bd 0) wo dy ad ea (xs 1) (xs 2) o fo _ _) ml_L_117 st_L_setConductance in_L rfl co_L_setConductance ⟨by decide +kernel, by decide +kernel, by decide +kernel⟩ ⟨Nat.le_of_ble_eq_true rfl, Nat.le_of_ble_eq_true rfl⟩ rfl hl.1 rfl (Nat.le_of_ble_eq_true rfl) dL_law_338 ⟨Nat.le_of_ble_eq_true rfl, Nat.le_of_ble_eq_true rfl⟩) (Cut.of (wc := ([(x, .inr (6, [.ref (ad 0), .ref (bd 0), .ref wo, .ref dy])), (dy, .inr (8, [.int 0, .ref (g.2.2 0), .int 0]))] ++ wsW g ad (-1) 1 0 ea σ0 ++ [(o, .inl (g.2.1 1, 1, .inr (.inl fo)))])) (wr := [(m0, .inr (9, [.int 0, .ref (b 0), .ref (b 17)])), ((b 0), .inr (10, [.ref (b 1), .ref (b 2), .ref (b 3), .ref (b 4), .ref (b 5), .ref (b 6), .ref (b 7), .ref (b 8), .ref (b 9), .ref (b 10), .ref (b 11), .ref (b 12), .int 0, .int 0, .int (nI 0), .ref (b 13), .ref (b 14), .ref (b 16)])), ((b 6), .inl (g.2.1 0, 2, .inl (fun _ => 4))), ((b 17), .inr (8, [.int 0, .ref (g.2.2 0), .int 0]))]) E hA [0, 1, 2, 3, 4, 5, 6, 7, 8, 9, 10, 11, 12, 13, 14, 15, 16, 17, 18, 19, 20, 21, 22, 23, 24, 25, 26, 27, 28, 29, 30, 31, 32, 37] [33, 34, 35, 36] rfl rfl rfl rfl (by decide)) E (fun En ce q9 H locs hp E hce hcv hcl => ?_) (fun r1 u1 H locs hp E => ?_)
  · have E : Ev g _ s.heap H locs [(m0, .inr (9, [.int 0, .ref (b 0), .ref (b 17)])), ((b 0), .inr (10, [.ref (b 1), .ref (b 2), .ref (b 3), .ref (b 4), .ref (b 5), .ref (b 6), .ref (b 7), .ref (b 8), .ref (b 9), .ref (b 10), .ref (b 11), .ref (b 12), .int 0, .int 0, .int (nI 0), .ref (b 13), .ref (b 14), .ref (b 16)])), ((b 6), .inl (g.2.1 0, 2, .inl (fun _ => 4))), ((b 17), .inr (8, [.int 0, .ref (g.2.2 0), .int 0]))] := E
    exact False.elim hp
  · skip
    have E : Ev g _ s.heap H locs [(m0, .inr (9, [.int 0, .ref (b 0), .ref (b 17)])), ((b 0), .inr (10, [.ref (b 1), .ref (b 2), .ref (b 3), .ref (b 4), .ref (b 5), .ref (b 6), .ref (b 7), .ref (b 8), .ref (b 9), .ref (b 10), .ref (b 11), .ref (b 12), .int 0, .int 0, .int (nI 0), .ref (b 13), .ref (b 14), .ref (b 16)])), ((b 6), .inl (g.2.1 0, 2, .inl (fun _ => 4))), ((b 17), .inr (8, [.int 0, .ref (g.2.2 0), .int 0])), (o, .inl (g.2.1 1, 1, .inr (.inl u1)))] := E
    obtain ⟨rfl, hU2⟩ := hp
    refine lv_istore (lv' := [(5, .int (kk_setConductance (xs 1) (xs 2))), (0, .ref sb), (1, .ref x), (2, .ref m0), (3, .ref o), (4, .int 0)]) hx hb dL_law_341 hl (by decide) rfl (fun ls hl => ?_)
    refine lv_aload_n hx hb dL_law_343 rfl (lv_at hl 3 rfl) ?_
    refine lv_aload_n hx hb dL_law_344 rfl (lv_at hl 1 rfl) ?_
    refine lv_iload hx hb dL_law_345 (lv_at hl 5 rfl) ?_
    refine lv_iconst (v := 1) hx hb dL_law_347 (by decide) ?_
    refine k_iadd (v := 1) hx hb (by decide) dL_law_348 ?_
    refine va_sld hx hb hX hsb hbA E.2.2 (i := 1) (by unfold vp_in; decide) dL_law_349 ?_
    have hl := hl
    show W p l e room_1 s m #[.ref sb] below meth c H locs _ _ _ (F0 m 350 ls [.int (xs 1), .ref m0])
    refine lv_aload_n hx hb dL_law_350 rfl (lv_at hl 1 rfl) ?_
    refine lv_iload hx hb dL_law_351 (lv_at hl 5 rfl) ?_
    refine lv_iconst (v := 2) hx hb dL_law_353 (by decide) ?_
    refine k_iadd (v := 2) hx hb (by decide) dL_law_354 ?_
    refine va_sld hx hb hX hsb hbA E.2.2 (i := 2) (by unfold vp_in; decide) dL_law_355 ?_
    have hl := hl
    show W p l e room_1 s m #[.ref sb] below meth c H locs _ _ _ (F0 m 356 ls [.int (xs 2), .int (xs 1), .ref m0])
    refine w_reti (runV_X (As := [.int (xs 1), .int (xs 2)]) (rest := []) (q0 := 0) (n := 2) S hml hK (hZ.at E) (Cut.of (wc := [(m0, .inr (9, [.int 0, .ref (b 0), .ref (b 17)])), ((b 17), .inr (8, [.int 0, .ref (g.2.2 0), .int 0])), ((b 0), .inr (10, [.ref (b 1), .ref (b 2), .ref (b 3), .ref (b 4), .ref (b 5), .ref (b 6), .ref (b 7), .ref (b 8), .ref (b 9), .ref (b 10), .ref (b 11), .ref (b 12), .int 0, .int 0, .int (nI 0), .ref (b 13), .ref (b 14), .ref (b 16)])), ((b 6), .inl (g.2.1 0, 2, .inl (fun _ => 4)))]) (wr := [(o, .inl (g.2.1 1, 1, .inr (.inl u1)))]) E hA [0, 3, 1, 2] [4] rfl rfl rfl rfl (by decide)) (c_X9_setConductance l g m0 b (xs 1) (xs 2) _ _) (gi_wsV ml_L_119 im_X9_setConductance sl_X9_setConductance in_X9 co_X9_setConductance) ⟨rfl, by decide +kernel, by decide +kernel, by decide +kernel⟩ ⟨Nat.le_of_ble_eq_true rfl, Nat.le_of_ble_eq_true rfl⟩ rfl rfl rfl hl.1 rfl (Nat.le_of_ble_eq_true rfl) dL_law_356 ⟨Nat.le_of_ble_eq_true rfl, Nat.le_of_ble_eq_true rfl⟩) (Cut.of (wc := [(m0, .inr (9, [.int 0, .ref (b 0), .ref (b 17)])), ((b 17), .inr (8, [.int 0, .ref (g.2.2 0), .int 0])), ((b 0), .inr (10, [.ref (b 1), .ref (b 2), .ref (b 3), .ref (b 4), .ref (b 5), .ref (b 6), .ref (b 7), .ref (b 8), .ref (b 9), .ref (b 10), .ref (b 11), .ref (b 12), .int 0, .int 0, .int (nI 0), .ref (b 13), .ref (b 14), .ref (b 16)])), ((b 6), .inl (g.2.1 0, 2, .inl (fun _ => 4)))]) (wr := [(o, .inl (g.2.1 1, 1, .inr (.inl u1)))]) E hA [0, 3, 1, 2] [4] rfl rfl rfl rfl (by decide)) E (fun r3 u3 H locs hp E => ?_)
    have E : Ev g _ s.heap H locs [(o, .inl (g.2.1 1, 1, .inr (.inl u1))), (m0, .inr (9, [.int u3, .ref (b 0), .ref (b 17)]))] := E
    obtain ⟨rfl, hV4⟩ := hp
    refine lv_istore (lv' := [(6, .int r3), (5, .int (kk_setConductance (xs 1) (xs 2))), (0, .ref sb), (1, .ref x), (2, .ref m0), (3, .ref o), (4, .int 0)]) hx hb dL_law_359 hl (by decide) rfl (fun ls hl => ?_)
    refine lv_aload_n hx hb dL_law_361 rfl (lv_at hl 4 rfl) ?_
    refine w_reti (runV_X (As := []) (rest := []) (q0 := 0) (n := 0) S hml hK (hZ.at E) (Cut.of (wc := [(m0, .inr (9, [.int (kk_setConductance (xs 1) (xs 2)), .ref (b 0), .ref (b 17)]))]) (wr := [(o, .inl (g.2.1 1, 1, .inr (.inl u1)))]) E hA [1] [0] rfl rfl rfl rfl (by decide)) (c_X9_thrown l g m0 b (kk_setConductance (xs 1) (xs 2)) _ _) (gi_wsV ml_L_109 im_X9_thrown sl_X9_thrown in_X9 co_X9_thrown) ⟨rfl, by decide +kernel, by decide +kernel, by decide +kernel⟩ ⟨Nat.le_of_ble_eq_true rfl, Nat.le_of_ble_eq_true rfl⟩ rfl rfl rfl hl.1 rfl (Nat.le_of_ble_eq_true rfl) dL_law_362 ⟨Nat.le_of_ble_eq_true rfl, Nat.le_of_ble_eq_true rfl⟩) (Cut.of (wc := [(m0, .inr (9, [.int (kk_setConductance (xs 1) (xs 2)), .ref (b 0), .ref (b 17)]))]) (wr := [(o, .inl (g.2.1 1, 1, .inr (.inl u1)))]) E hA [1] [0] rfl rfl rfl rfl (by decide)) E (fun r5 u5 H locs hp E => ?_)
    have E : Ev g _ s.heap H locs [(o, .inl (g.2.1 1, 1, .inr (.inl u1))), (m0, .inr (9, [.int (kk_setConductance (xs 1) (xs 2)), .ref (b 0), .ref (b 17)]))] := E
    subst hp
    refine lv_iload hx hb dL_law_365 (lv_at hl 1 rfl) ?_
    refine lv_icmp_eq (tgt := 372) hx hb dL_law_367 (by decide) (fun _ => ?_) (fun c_ => absurd rfl c_)
    refine lv_iload hx hb dL_law_372 (lv_at hl 1 rfl) ?_
    refine lv_if_ne (tgt := 389) hx hb dL_law_374 (by decide) (fun c6 => ?_) (fun c6 => ?_)
    · have c6 : ¬ ((kk_setConductance (xs 1) (xs 2)) = 0) := c6
      refine lv_goto (tgt := 1762) hx hb dL_law_389 (by decide) ?_
      exact law_end C0 hsb hX E.2.2 (lv_sub hl [2, 6] rfl) (Nat.le_of_ble_eq_true rfl) (Nat.le_of_ble_eq_true rfl)
    · have c6 : (kk_setConductance (xs 1) (xs 2)) = 0 := c6
      refine lv_aload_n hx hb dL_law_377 rfl (lv_at hl 5 rfl) ?_
      refine lv_iconst (v := 0) hx hb dL_law_378 (by decide) ?_
      refine w_lld (v := 4) S hK E 0 1 rfl rfl (show vp_in 0 1 by unfold vp_in; decide) (hU2 c6) dL_law_379 ?_
      refine lv_iload hx hb dL_law_380 (lv_at hl 0 rfl) ?_
      refine lv_i2l (v := 4) hx hb dL_law_382 ((congrArg Int32.toInt64 (hV4 c6)).trans (by decide)) ?_
      refine k_lcmp (v := 0) hx hb (by decide) dL_law_383 ?_
      refine lv_if_eq (tgt := 389) hx hb dL_law_384 (by decide) (fun _ => ?_) (fun c_ => absurd (show (0 : Int32) = 0 by decide) c_)
      refine lv_goto (tgt := 1762) hx hb dL_law_389 (by decide) ?_
      exact law_end C0 hsb hX E.2.2 (lv_sub hl [2, 6] rfl) (Nat.le_of_ble_eq_true rfl) (Nat.le_of_ble_eq_true rfl)
set_option maxHeartbeats 4000000 in
set_option maxRecDepth 100000 in
/-- case 3: setLeakage -/
theorem law_3 {p : Program} {l : Launch} {e : Env} {s : State} {m : MethodId} {below : List Frame} {meth : Method} {c : Code} {sb : Nat} {xs : Nat → Int32} {H : Heap} {locs : List Loc} {ls : Array Slot} {g : Gm} {x dy wo m0 o : Nat} {ad bd b : Nat → Nat} {ea eb : Nat} {fo : Nat → Int64} (hst : l.stackTraces = false) (C0 : lw_At p s m meth c sb 5 xs) (S : Sta p c cL_law s #[.ref sb] RL m) (hK : va_K g.1 vwC (tysG g) s) (hZ : Zs g (fun q => s.heap.size ≤ q) s s.heap) (E : Ev g (fun q => s.heap.size ≤ q) s.heap H locs (lawW g x dy wo m0 o ad bd b ea eb fo)) (hl : lv_has ls 9 [(0, .ref sb), (1, .ref x), (2, .ref m0), (3, .ref o), (4, .int 0)]) : W p l e room_1 s m #[.ref sb] below meth c H locs 400 3000 (lw_Z below #[.ref sb] s) (F0 m 392 ls []) := by
  have hx := S.1
  have hb := S.2.1
  have hml : c.maxLocals = 9 := C0.2.2.2.1
  have hX : va_X sb 5 xs s s.heap := C0.2.2.2.2.2.2.1
  have hsb : sb < s.heap.size := C0.2.2.2.2.2.2.2.1
  have hbA : ¬ s.heap.size ≤ sb := Nat.not_le.mpr hsb
  have hA : ∀ q : Nat, s.heap.size ≤ q → s.heap.size ≤ q := fun _ h => h
  have E : Ev g (fun q => s.heap.size ≤ q) s.heap H locs ([(x, .inr (6, [.ref (ad 0), .ref (bd 0), .ref wo, .ref dy])), (dy, .inr (8, [.int 0, .ref (g.2.2 0), .int 0]))] ++ wsW g ad (-1) 1 0 ea σ0 ++ [(m0, .inr (9, [.int 0, .ref (b 0), .ref (b 17)])), ((b 0), .inr (10, [.ref (b 1), .ref (b 2), .ref (b 3), .ref (b 4), .ref (b 5), .ref (b 6), .ref (b 7), .ref (b 8), .ref (b 9), .ref (b 10), .ref (b 11), .ref (b 12), .int 0, .int 0, .int (nI 0), .ref (b 13), .ref (b 14), .ref (b 16)])), ((b 7), .inl (g.2.1 0, 8, .inl (fun _ => 0))), ((b 17), .inr (8, [.int 0, .ref (g.2.2 0), .int 0])), (o, .inl (g.2.1 1, 1, .inr (.inl fo)))]) := Ev.sub E [0, 1, 2, 3, 4, 5, 6, 7, 8, 9, 10, 11, 12, 13, 14, 15, 16, 17, 18, 19, 20, 21, 22, 23, 24, 25, 26, 27, 28, 29, 30, 31, 32, 64, 65, 72, 82, 83] rfl rfl
  refine lv_aload_n hx hb dL_law_392 rfl (lv_at hl 1 rfl) ?_
  refine lv_aload_n hx hb dL_law_393 rfl (lv_at hl 0 rfl) ?_
  refine lv_iload hx hb dL_law_394 (lv_at hl 4 rfl) ?_
  refine lv_iconst (v := 1) hx hb dL_law_396 (by decide) ?_
  refine k_iadd (v := 1) hx hb (by decide) dL_law_397 ?_
  refine va_sld hx hb hX hsb hbA E.2.2 (i := 1) (by unfold vp_in; decide) dL_law_398 ?_
  have hl := hl
  show W p l e room_1 s m #[.ref sb] below meth c H locs _ _ _ (F0 m 399 ls [.int (xs 1), .ref x])
  refine lv_aload_n hx hb dL_law_399 rfl (lv_at hl 0 rfl) ?_
  refine lv_iload hx hb dL_law_400 (lv_at hl 4 rfl) ?_
  refine lv_iconst (v := 2) hx hb dL_law_402 (by decide) ?_
  refine k_iadd (v := 2) hx hb (by decide) dL_law_403 ?_
  refine va_sld hx hb hX hsb hbA E.2.2 (i := 2) (by unfold vp_in; decide) dL_law_404 ?_
  have hl := hl
  show W p l e room_1 s m #[.ref sb] below meth c H locs _ _ _ (F0 m 405 ls [.int (xs 2), .int (xs 1), .ref x])
  refine lv_aload_n hx hb dL_law_405 rfl (lv_at hl 3 rfl) ?_
  refine y_reti (yrunH (As := [.ref x, .int (xs 1), .int (xs 2), .ref o]) (rest := []) (n := 4) S hml hK (hZ.at E) (Cut.of (wc := ([(x, .inr (6, [.ref (ad 0), .ref (bd 0), .ref wo, .ref dy])), (dy, .inr (8, [.int 0, .ref (g.2.2 0), .int 0]))] ++ wsW g ad (-1) 1 0 ea σ0 ++ [(o, .inl (g.2.1 1, 1, .inr (.inl fo)))])) (wr := [(m0, .inr (9, [.int 0, .ref (b 0), .ref (b 17)])), ((b 0), .inr (10, [.ref (b 1), .ref (b 2), .ref (b 3), .ref (b 4), .ref (b 5), .ref (b 6), .ref (b 7), .ref (b 8), .ref (b 9), .ref (b 10), .ref (b 11), .ref (b 12), .int 0, .int 0, .int (nI 0), .ref (b 13), .ref (b 14), .ref (b 16)])), ((b 7), .inl (g.2.1 0, 8, .inl (fun _ => 0))), ((b 17), .inr (8, [.int 0, .ref (g.2.2 0), .int 0]))]) E hA [0, 1, 2, 3, 4, 5, 6, 7, 8, 9, 10, 11, 12, 13, 14, 15, 16, 17, 18, 19, 20, 21, 22, 23, 24, 25, 26, 27, 28, 29, 30, 31, 32, 37] [33, 34, 35, 36] rfl rfl rfl rfl (by decide)) (c_L_setLeakage l g hst x (bd 0) wo dy ad ea (xs 1) (xs 2) o fo _ _) ml_L_120 st_L_setLeakage in_L rfl co_L_setLeakage ⟨by decide +kernel, by decide +kernel, by decide +kernel⟩ ⟨Nat.le_of_ble_eq_true rfl, Nat.le_of_ble_eq_true rfl⟩ rfl hl.1 rfl (Nat.le_of_ble_eq_true rfl) dL_law_406 ⟨Nat.le_of_ble_eq_true rfl, Nat.le_of_ble_eq_true rfl⟩) (Cut.of (wc := ([(x, .inr (6, [.ref (ad 0), .ref (bd 0), .ref wo, .ref dy])), (dy, .inr (8, [.int 0, .ref (g.2.2 0), .int 0]))] ++ wsW g ad (-1) 1 0 ea σ0 ++ [(o, .inl (g.2.1 1, 1, .inr (.inl fo)))])) (wr := [(m0, .inr (9, [.int 0, .ref (b 0), .ref (b 17)])), ((b 0), .inr (10, [.ref (b 1), .ref (b 2), .ref (b 3), .ref (b 4), .ref (b 5), .ref (b 6), .ref (b 7), .ref (b 8), .ref (b 9), .ref (b 10), .ref (b 11), .ref (b 12), .int 0, .int 0, .int (nI 0), .ref (b 13), .ref (b 14), .ref (b 16)])), ((b 7), .inl (g.2.1 0, 8, .inl (fun _ => 0))), ((b 17), .inr (8, [.int 0, .ref (g.2.2 0), .int 0]))]) E hA [0, 1, 2, 3, 4, 5, 6, 7, 8, 9, 10, 11, 12, 13, 14, 15, 16, 17, 18, 19, 20, 21, 22, 23, 24, 25, 26, 27, 28, 29, 30, 31, 32, 37] [33, 34, 35, 36] rfl rfl rfl rfl (by decide)) E (fun En ce q9 H locs hp E hce hcv hcl => ?_) (fun r1 u1 H locs hp E => ?_)
  · have E : Ev g _ s.heap H locs [(m0, .inr (9, [.int 0, .ref (b 0), .ref (b 17)])), ((b 0), .inr (10, [.ref (b 1), .ref (b 2), .ref (b 3), .ref (b 4), .ref (b 5), .ref (b 6), .ref (b 7), .ref (b 8), .ref (b 9), .ref (b 10), .ref (b 11), .ref (b 12), .int 0, .int 0, .int (nI 0), .ref (b 13), .ref (b 14), .ref (b 16)])), ((b 7), .inl (g.2.1 0, 8, .inl (fun _ => 0))), ((b 17), .inr (8, [.int 0, .ref (g.2.2 0), .int 0]))] := E
    exact False.elim hp
  · skip
    have E : Ev g _ s.heap H locs [(m0, .inr (9, [.int 0, .ref (b 0), .ref (b 17)])), ((b 0), .inr (10, [.ref (b 1), .ref (b 2), .ref (b 3), .ref (b 4), .ref (b 5), .ref (b 6), .ref (b 7), .ref (b 8), .ref (b 9), .ref (b 10), .ref (b 11), .ref (b 12), .int 0, .int 0, .int (nI 0), .ref (b 13), .ref (b 14), .ref (b 16)])), ((b 7), .inl (g.2.1 0, 8, .inl (fun _ => 0))), ((b 17), .inr (8, [.int 0, .ref (g.2.2 0), .int 0])), (o, .inl (g.2.1 1, 1, .inr (.inl u1)))] := E
    obtain ⟨rfl, hU2⟩ := hp
    refine lv_istore (lv' := [(5, .int (kk_setLeakage (xs 1) (xs 2))), (0, .ref sb), (1, .ref x), (2, .ref m0), (3, .ref o), (4, .int 0)]) hx hb dL_law_409 hl (by decide) rfl (fun ls hl => ?_)
    refine lv_aload_n hx hb dL_law_411 rfl (lv_at hl 3 rfl) ?_
    refine lv_aload_n hx hb dL_law_412 rfl (lv_at hl 1 rfl) ?_
    refine lv_iload hx hb dL_law_413 (lv_at hl 5 rfl) ?_
    refine lv_iconst (v := 1) hx hb dL_law_415 (by decide) ?_
    refine k_iadd (v := 1) hx hb (by decide) dL_law_416 ?_
    refine va_sld hx hb hX hsb hbA E.2.2 (i := 1) (by unfold vp_in; decide) dL_law_417 ?_
    have hl := hl
    show W p l e room_1 s m #[.ref sb] below meth c H locs _ _ _ (F0 m 418 ls [.int (xs 1), .ref m0])
    refine lv_aload_n hx hb dL_law_418 rfl (lv_at hl 1 rfl) ?_
    refine lv_iload hx hb dL_law_419 (lv_at hl 5 rfl) ?_
    refine lv_iconst (v := 2) hx hb dL_law_421 (by decide) ?_
    refine k_iadd (v := 2) hx hb (by decide) dL_law_422 ?_
    refine va_sld hx hb hX hsb hbA E.2.2 (i := 2) (by unfold vp_in; decide) dL_law_423 ?_
    have hl := hl
    show W p l e room_1 s m #[.ref sb] below meth c H locs _ _ _ (F0 m 424 ls [.int (xs 2), .int (xs 1), .ref m0])
    refine w_reti (runV_X (As := [.int (xs 1), .int (xs 2)]) (rest := []) (q0 := 0) (n := 2) S hml hK (hZ.at E) (Cut.of (wc := [(m0, .inr (9, [.int 0, .ref (b 0), .ref (b 17)])), ((b 17), .inr (8, [.int 0, .ref (g.2.2 0), .int 0])), ((b 0), .inr (10, [.ref (b 1), .ref (b 2), .ref (b 3), .ref (b 4), .ref (b 5), .ref (b 6), .ref (b 7), .ref (b 8), .ref (b 9), .ref (b 10), .ref (b 11), .ref (b 12), .int 0, .int 0, .int (nI 0), .ref (b 13), .ref (b 14), .ref (b 16)])), ((b 7), .inl (g.2.1 0, 8, .inl (fun _ => 0)))]) (wr := [(o, .inl (g.2.1 1, 1, .inr (.inl u1)))]) E hA [0, 3, 1, 2] [4] rfl rfl rfl rfl (by decide)) (c_X9_setLeakage l g m0 b (xs 1) (xs 2) _ _) (gi_wsV ml_L_122 im_X9_setLeakage sl_X9_setLeakage in_X9 co_X9_setLeakage) ⟨rfl, by decide +kernel, by decide +kernel, by decide +kernel⟩ ⟨Nat.le_of_ble_eq_true rfl, Nat.le_of_ble_eq_true rfl⟩ rfl rfl rfl hl.1 rfl (Nat.le_of_ble_eq_true rfl) dL_law_424 ⟨Nat.le_of_ble_eq_true rfl, Nat.le_of_ble_eq_true rfl⟩) (Cut.of (wc := [(m0, .inr (9, [.int 0, .ref (b 0), .ref (b 17)])), ((b 17), .inr (8, [.int 0, .ref (g.2.2 0), .int 0])), ((b 0), .inr (10, [.ref (b 1), .ref (b 2), .ref (b 3), .ref (b 4), .ref (b 5), .ref (b 6), .ref (b 7), .ref (b 8), .ref (b 9), .ref (b 10), .ref (b 11), .ref (b 12), .int 0, .int 0, .int (nI 0), .ref (b 13), .ref (b 14), .ref (b 16)])), ((b 7), .inl (g.2.1 0, 8, .inl (fun _ => 0)))]) (wr := [(o, .inl (g.2.1 1, 1, .inr (.inl u1)))]) E hA [0, 3, 1, 2] [4] rfl rfl rfl rfl (by decide)) E (fun r3 u3 H locs hp E => ?_)
    have E : Ev g _ s.heap H locs [(o, .inl (g.2.1 1, 1, .inr (.inl u1))), (m0, .inr (9, [.int u3, .ref (b 0), .ref (b 17)]))] := E
    obtain ⟨rfl, hV4⟩ := hp
    refine lv_istore (lv' := [(6, .int r3), (5, .int (kk_setLeakage (xs 1) (xs 2))), (0, .ref sb), (1, .ref x), (2, .ref m0), (3, .ref o), (4, .int 0)]) hx hb dL_law_427 hl (by decide) rfl (fun ls hl => ?_)
    refine lv_aload_n hx hb dL_law_429 rfl (lv_at hl 4 rfl) ?_
    refine w_reti (runV_X (As := []) (rest := []) (q0 := 0) (n := 0) S hml hK (hZ.at E) (Cut.of (wc := [(m0, .inr (9, [.int (kk_setLeakage (xs 1) (xs 2)), .ref (b 0), .ref (b 17)]))]) (wr := [(o, .inl (g.2.1 1, 1, .inr (.inl u1)))]) E hA [1] [0] rfl rfl rfl rfl (by decide)) (c_X9_thrown l g m0 b (kk_setLeakage (xs 1) (xs 2)) _ _) (gi_wsV ml_L_109 im_X9_thrown sl_X9_thrown in_X9 co_X9_thrown) ⟨rfl, by decide +kernel, by decide +kernel, by decide +kernel⟩ ⟨Nat.le_of_ble_eq_true rfl, Nat.le_of_ble_eq_true rfl⟩ rfl rfl rfl hl.1 rfl (Nat.le_of_ble_eq_true rfl) dL_law_430 ⟨Nat.le_of_ble_eq_true rfl, Nat.le_of_ble_eq_true rfl⟩) (Cut.of (wc := [(m0, .inr (9, [.int (kk_setLeakage (xs 1) (xs 2)), .ref (b 0), .ref (b 17)]))]) (wr := [(o, .inl (g.2.1 1, 1, .inr (.inl u1)))]) E hA [1] [0] rfl rfl rfl rfl (by decide)) E (fun r5 u5 H locs hp E => ?_)
    have E : Ev g _ s.heap H locs [(o, .inl (g.2.1 1, 1, .inr (.inl u1))), (m0, .inr (9, [.int (kk_setLeakage (xs 1) (xs 2)), .ref (b 0), .ref (b 17)]))] := E
    subst hp
    refine lv_iload hx hb dL_law_433 (lv_at hl 1 rfl) ?_
    refine lv_icmp_eq (tgt := 440) hx hb dL_law_435 (by decide) (fun _ => ?_) (fun c_ => absurd rfl c_)
    refine lv_iload hx hb dL_law_440 (lv_at hl 1 rfl) ?_
    refine lv_if_ne (tgt := 457) hx hb dL_law_442 (by decide) (fun c6 => ?_) (fun c6 => ?_)
    · have c6 : ¬ ((kk_setLeakage (xs 1) (xs 2)) = 0) := c6
      refine lv_goto (tgt := 1762) hx hb dL_law_457 (by decide) ?_
      exact law_end C0 hsb hX E.2.2 (lv_sub hl [2, 6] rfl) (Nat.le_of_ble_eq_true rfl) (Nat.le_of_ble_eq_true rfl)
    · have c6 : (kk_setLeakage (xs 1) (xs 2)) = 0 := c6
      refine lv_aload_n hx hb dL_law_445 rfl (lv_at hl 5 rfl) ?_
      refine lv_iconst (v := 0) hx hb dL_law_446 (by decide) ?_
      refine w_lld (v := 0) S hK E 0 1 rfl rfl (show vp_in 0 1 by unfold vp_in; decide) (hU2 c6) dL_law_447 ?_
      refine lv_iload hx hb dL_law_448 (lv_at hl 0 rfl) ?_
      refine lv_i2l (v := 0) hx hb dL_law_450 ((congrArg Int32.toInt64 (hV4 c6)).trans (by decide)) ?_
      refine k_lcmp (v := 0) hx hb (by decide) dL_law_451 ?_
      refine lv_if_eq (tgt := 457) hx hb dL_law_452 (by decide) (fun _ => ?_) (fun c_ => absurd (show (0 : Int32) = 0 by decide) c_)
      refine lv_goto (tgt := 1762) hx hb dL_law_457 (by decide) ?_
      exact law_end C0 hsb hX E.2.2 (lv_sub hl [2, 6] rfl) (Nat.le_of_ble_eq_true rfl) (Nat.le_of_ble_eq_true rfl)
set_option maxHeartbeats 4000000 in
set_option maxRecDepth 100000 in
/-- case 4: setRain -/
theorem law_4 {p : Program} {l : Launch} {e : Env} {s : State} {m : MethodId} {below : List Frame} {meth : Method} {c : Code} {sb : Nat} {xs : Nat → Int32} {H : Heap} {locs : List Loc} {ls : Array Slot} {g : Gm} {x dy wo m0 o : Nat} {ad bd b : Nat → Nat} {ea eb : Nat} {fo : Nat → Int64} (hst : l.stackTraces = false) (C0 : lw_At p s m meth c sb 5 xs) (S : Sta p c cL_law s #[.ref sb] RL m) (hK : va_K g.1 vwC (tysG g) s) (hZ : Zs g (fun q => s.heap.size ≤ q) s s.heap) (E : Ev g (fun q => s.heap.size ≤ q) s.heap H locs (lawW g x dy wo m0 o ad bd b ea eb fo)) (hl : lv_has ls 9 [(0, .ref sb), (1, .ref x), (2, .ref m0), (3, .ref o), (4, .int 0)]) : W p l e room_1 s m #[.ref sb] below meth c H locs 400 3000 (lw_Z below #[.ref sb] s) (F0 m 460 ls []) := by
  have hx := S.1
  have hb := S.2.1
  have hml : c.maxLocals = 9 := C0.2.2.2.1
  have hX : va_X sb 5 xs s s.heap := C0.2.2.2.2.2.2.1
  have hsb : sb < s.heap.size := C0.2.2.2.2.2.2.2.1
  have hbA : ¬ s.heap.size ≤ sb := Nat.not_le.mpr hsb
  have hA : ∀ q : Nat, s.heap.size ≤ q → s.heap.size ≤ q := fun _ h => h
  have E : Ev g (fun q => s.heap.size ≤ q) s.heap H locs ([(x, .inr (6, [.ref (ad 0), .ref (bd 0), .ref wo, .ref dy])), (dy, .inr (8, [.int 0, .ref (g.2.2 0), .int 0]))] ++ wsW g ad (-1) 1 0 ea σ0 ++ [(m0, .inr (9, [.int 0, .ref (b 0), .ref (b 17)])), ((b 0), .inr (10, [.ref (b 1), .ref (b 2), .ref (b 3), .ref (b 4), .ref (b 5), .ref (b 6), .ref (b 7), .ref (b 8), .ref (b 9), .ref (b 10), .ref (b 11), .ref (b 12), .int 0, .int 0, .int (nI 0), .ref (b 13), .ref (b 14), .ref (b 16)])), ((b 8), .inl (g.2.1 0, 8, .inl (fun _ => 0))), ((b 17), .inr (8, [.int 0, .ref (g.2.2 0), .int 0])), (o, .inl (g.2.1 1, 1, .inr (.inl fo)))]) := Ev.sub E [0, 1, 2, 3, 4, 5, 6, 7, 8, 9, 10, 11, 12, 13, 14, 15, 16, 17, 18, 19, 20, 21, 22, 23, 24, 25, 26, 27, 28, 29, 30, 31, 32, 64, 65, 73, 82, 83] rfl rfl
  refine lv_aload_n hx hb dL_law_460 rfl (lv_at hl 1 rfl) ?_
  refine lv_aload_n hx hb dL_law_461 rfl (lv_at hl 0 rfl) ?_
  refine lv_iload hx hb dL_law_462 (lv_at hl 4 rfl) ?_
  refine lv_iconst (v := 1) hx hb dL_law_464 (by decide) ?_
  refine k_iadd (v := 1) hx hb (by decide) dL_law_465 ?_
  refine va_sld hx hb hX hsb hbA E.2.2 (i := 1) (by unfold vp_in; decide) dL_law_466 ?_
  have hl := hl
  show W p l e room_1 s m #[.ref sb] below meth c H locs _ _ _ (F0 m 467 ls [.int (xs 1), .ref x])
  refine lv_aload_n hx hb dL_law_467 rfl (lv_at hl 0 rfl) ?_
  refine lv_iload hx hb dL_law_468 (lv_at hl 4 rfl) ?_
  refine lv_iconst (v := 2) hx hb dL_law_470 (by decide) ?_
  refine k_iadd (v := 2) hx hb (by decide) dL_law_471 ?_
  refine va_sld hx hb hX hsb hbA E.2.2 (i := 2) (by unfold vp_in; decide) dL_law_472 ?_
  have hl := hl
  show W p l e room_1 s m #[.ref sb] below meth c H locs _ _ _ (F0 m 473 ls [.int (xs 2), .int (xs 1), .ref x])
  refine lv_aload_n hx hb dL_law_473 rfl (lv_at hl 3 rfl) ?_
  refine y_reti (yrunH (As := [.ref x, .int (xs 1), .int (xs 2), .ref o]) (rest := []) (n := 4) S hml hK (hZ.at E) (Cut.of (wc := ([(x, .inr (6, [.ref (ad 0), .ref (bd 0), .ref wo, .ref dy])), (dy, .inr (8, [.int 0, .ref (g.2.2 0), .int 0]))] ++ wsW g ad (-1) 1 0 ea σ0 ++ [(o, .inl (g.2.1 1, 1, .inr (.inl fo)))])) (wr := [(m0, .inr (9, [.int 0, .ref (b 0), .ref (b 17)])), ((b 0), .inr (10, [.ref (b 1), .ref (b 2), .ref (b 3), .ref (b 4), .ref (b 5), .ref (b 6), .ref (b 7), .ref (b 8), .ref (b 9), .ref (b 10), .ref (b 11), .ref (b 12), .int 0, .int 0, .int (nI 0), .ref (b 13), .ref (b 14), .ref (b 16)])), ((b 8), .inl (g.2.1 0, 8, .inl (fun _ => 0))), ((b 17), .inr (8, [.int 0, .ref (g.2.2 0), .int 0]))]) E hA [0, 1, 2, 3, 4, 5, 6, 7, 8, 9, 10, 11, 12, 13, 14, 15, 16, 17, 18, 19, 20, 21, 22, 23, 24, 25, 26, 27, 28, 29, 30, 31, 32, 37] [33, 34, 35, 36] rfl rfl rfl rfl (by decide)) (c_L_setRain l g hst x (bd 0) wo dy ad ea (xs 1) (xs 2) o fo _ _) ml_L_123 st_L_setRain in_L rfl co_L_setRain ⟨by decide +kernel, by decide +kernel, by decide +kernel⟩ ⟨Nat.le_of_ble_eq_true rfl, Nat.le_of_ble_eq_true rfl⟩ rfl hl.1 rfl (Nat.le_of_ble_eq_true rfl) dL_law_474 ⟨Nat.le_of_ble_eq_true rfl, Nat.le_of_ble_eq_true rfl⟩) (Cut.of (wc := ([(x, .inr (6, [.ref (ad 0), .ref (bd 0), .ref wo, .ref dy])), (dy, .inr (8, [.int 0, .ref (g.2.2 0), .int 0]))] ++ wsW g ad (-1) 1 0 ea σ0 ++ [(o, .inl (g.2.1 1, 1, .inr (.inl fo)))])) (wr := [(m0, .inr (9, [.int 0, .ref (b 0), .ref (b 17)])), ((b 0), .inr (10, [.ref (b 1), .ref (b 2), .ref (b 3), .ref (b 4), .ref (b 5), .ref (b 6), .ref (b 7), .ref (b 8), .ref (b 9), .ref (b 10), .ref (b 11), .ref (b 12), .int 0, .int 0, .int (nI 0), .ref (b 13), .ref (b 14), .ref (b 16)])), ((b 8), .inl (g.2.1 0, 8, .inl (fun _ => 0))), ((b 17), .inr (8, [.int 0, .ref (g.2.2 0), .int 0]))]) E hA [0, 1, 2, 3, 4, 5, 6, 7, 8, 9, 10, 11, 12, 13, 14, 15, 16, 17, 18, 19, 20, 21, 22, 23, 24, 25, 26, 27, 28, 29, 30, 31, 32, 37] [33, 34, 35, 36] rfl rfl rfl rfl (by decide)) E (fun En ce q9 H locs hp E hce hcv hcl => ?_) (fun r1 u1 H locs hp E => ?_)
  · have E : Ev g _ s.heap H locs [(m0, .inr (9, [.int 0, .ref (b 0), .ref (b 17)])), ((b 0), .inr (10, [.ref (b 1), .ref (b 2), .ref (b 3), .ref (b 4), .ref (b 5), .ref (b 6), .ref (b 7), .ref (b 8), .ref (b 9), .ref (b 10), .ref (b 11), .ref (b 12), .int 0, .int 0, .int (nI 0), .ref (b 13), .ref (b 14), .ref (b 16)])), ((b 8), .inl (g.2.1 0, 8, .inl (fun _ => 0))), ((b 17), .inr (8, [.int 0, .ref (g.2.2 0), .int 0]))] := E
    exact False.elim hp
  · skip
    have E : Ev g _ s.heap H locs [(m0, .inr (9, [.int 0, .ref (b 0), .ref (b 17)])), ((b 0), .inr (10, [.ref (b 1), .ref (b 2), .ref (b 3), .ref (b 4), .ref (b 5), .ref (b 6), .ref (b 7), .ref (b 8), .ref (b 9), .ref (b 10), .ref (b 11), .ref (b 12), .int 0, .int 0, .int (nI 0), .ref (b 13), .ref (b 14), .ref (b 16)])), ((b 8), .inl (g.2.1 0, 8, .inl (fun _ => 0))), ((b 17), .inr (8, [.int 0, .ref (g.2.2 0), .int 0])), (o, .inl (g.2.1 1, 1, .inr (.inl u1)))] := E
    obtain ⟨rfl, hU2⟩ := hp
    refine lv_istore (lv' := [(5, .int (kk_setRain (xs 1) (xs 2))), (0, .ref sb), (1, .ref x), (2, .ref m0), (3, .ref o), (4, .int 0)]) hx hb dL_law_477 hl (by decide) rfl (fun ls hl => ?_)
    refine lv_aload_n hx hb dL_law_479 rfl (lv_at hl 3 rfl) ?_
    refine lv_aload_n hx hb dL_law_480 rfl (lv_at hl 1 rfl) ?_
    refine lv_iload hx hb dL_law_481 (lv_at hl 5 rfl) ?_
    refine lv_iconst (v := 1) hx hb dL_law_483 (by decide) ?_
    refine k_iadd (v := 1) hx hb (by decide) dL_law_484 ?_
    refine va_sld hx hb hX hsb hbA E.2.2 (i := 1) (by unfold vp_in; decide) dL_law_485 ?_
    have hl := hl
    show W p l e room_1 s m #[.ref sb] below meth c H locs _ _ _ (F0 m 486 ls [.int (xs 1), .ref m0])
    refine lv_aload_n hx hb dL_law_486 rfl (lv_at hl 1 rfl) ?_
    refine lv_iload hx hb dL_law_487 (lv_at hl 5 rfl) ?_
    refine lv_iconst (v := 2) hx hb dL_law_489 (by decide) ?_
    refine k_iadd (v := 2) hx hb (by decide) dL_law_490 ?_
    refine va_sld hx hb hX hsb hbA E.2.2 (i := 2) (by unfold vp_in; decide) dL_law_491 ?_
    have hl := hl
    show W p l e room_1 s m #[.ref sb] below meth c H locs _ _ _ (F0 m 492 ls [.int (xs 2), .int (xs 1), .ref m0])
    refine w_reti (runV_X (As := [.int (xs 1), .int (xs 2)]) (rest := []) (q0 := 0) (n := 2) S hml hK (hZ.at E) (Cut.of (wc := [(m0, .inr (9, [.int 0, .ref (b 0), .ref (b 17)])), ((b 17), .inr (8, [.int 0, .ref (g.2.2 0), .int 0])), ((b 0), .inr (10, [.ref (b 1), .ref (b 2), .ref (b 3), .ref (b 4), .ref (b 5), .ref (b 6), .ref (b 7), .ref (b 8), .ref (b 9), .ref (b 10), .ref (b 11), .ref (b 12), .int 0, .int 0, .int (nI 0), .ref (b 13), .ref (b 14), .ref (b 16)])), ((b 8), .inl (g.2.1 0, 8, .inl (fun _ => 0)))]) (wr := [(o, .inl (g.2.1 1, 1, .inr (.inl u1)))]) E hA [0, 3, 1, 2] [4] rfl rfl rfl rfl (by decide)) (c_X9_setRain l g m0 b (xs 1) (xs 2) _ _) (gi_wsV ml_L_125 im_X9_setRain sl_X9_setRain in_X9 co_X9_setRain) ⟨rfl, by decide +kernel, by decide +kernel, by decide +kernel⟩ ⟨Nat.le_of_ble_eq_true rfl, Nat.le_of_ble_eq_true rfl⟩ rfl rfl rfl hl.1 rfl (Nat.le_of_ble_eq_true rfl) dL_law_492 ⟨Nat.le_of_ble_eq_true rfl, Nat.le_of_ble_eq_true rfl⟩) (Cut.of (wc := [(m0, .inr (9, [.int 0, .ref (b 0), .ref (b 17)])), ((b 17), .inr (8, [.int 0, .ref (g.2.2 0), .int 0])), ((b 0), .inr (10, [.ref (b 1), .ref (b 2), .ref (b 3), .ref (b 4), .ref (b 5), .ref (b 6), .ref (b 7), .ref (b 8), .ref (b 9), .ref (b 10), .ref (b 11), .ref (b 12), .int 0, .int 0, .int (nI 0), .ref (b 13), .ref (b 14), .ref (b 16)])), ((b 8), .inl (g.2.1 0, 8, .inl (fun _ => 0)))]) (wr := [(o, .inl (g.2.1 1, 1, .inr (.inl u1)))]) E hA [0, 3, 1, 2] [4] rfl rfl rfl rfl (by decide)) E (fun r3 u3 H locs hp E => ?_)
    have E : Ev g _ s.heap H locs [(o, .inl (g.2.1 1, 1, .inr (.inl u1))), (m0, .inr (9, [.int u3, .ref (b 0), .ref (b 17)]))] := E
    obtain ⟨rfl, hV4⟩ := hp
    refine lv_istore (lv' := [(6, .int r3), (5, .int (kk_setRain (xs 1) (xs 2))), (0, .ref sb), (1, .ref x), (2, .ref m0), (3, .ref o), (4, .int 0)]) hx hb dL_law_495 hl (by decide) rfl (fun ls hl => ?_)
    refine lv_aload_n hx hb dL_law_497 rfl (lv_at hl 4 rfl) ?_
    refine w_reti (runV_X (As := []) (rest := []) (q0 := 0) (n := 0) S hml hK (hZ.at E) (Cut.of (wc := [(m0, .inr (9, [.int (kk_setRain (xs 1) (xs 2)), .ref (b 0), .ref (b 17)]))]) (wr := [(o, .inl (g.2.1 1, 1, .inr (.inl u1)))]) E hA [1] [0] rfl rfl rfl rfl (by decide)) (c_X9_thrown l g m0 b (kk_setRain (xs 1) (xs 2)) _ _) (gi_wsV ml_L_109 im_X9_thrown sl_X9_thrown in_X9 co_X9_thrown) ⟨rfl, by decide +kernel, by decide +kernel, by decide +kernel⟩ ⟨Nat.le_of_ble_eq_true rfl, Nat.le_of_ble_eq_true rfl⟩ rfl rfl rfl hl.1 rfl (Nat.le_of_ble_eq_true rfl) dL_law_498 ⟨Nat.le_of_ble_eq_true rfl, Nat.le_of_ble_eq_true rfl⟩) (Cut.of (wc := [(m0, .inr (9, [.int (kk_setRain (xs 1) (xs 2)), .ref (b 0), .ref (b 17)]))]) (wr := [(o, .inl (g.2.1 1, 1, .inr (.inl u1)))]) E hA [1] [0] rfl rfl rfl rfl (by decide)) E (fun r5 u5 H locs hp E => ?_)
    have E : Ev g _ s.heap H locs [(o, .inl (g.2.1 1, 1, .inr (.inl u1))), (m0, .inr (9, [.int (kk_setRain (xs 1) (xs 2)), .ref (b 0), .ref (b 17)]))] := E
    subst hp
    refine lv_iload hx hb dL_law_501 (lv_at hl 1 rfl) ?_
    refine lv_icmp_eq (tgt := 508) hx hb dL_law_503 (by decide) (fun _ => ?_) (fun c_ => absurd rfl c_)
    refine lv_iload hx hb dL_law_508 (lv_at hl 1 rfl) ?_
    refine lv_if_ne (tgt := 525) hx hb dL_law_510 (by decide) (fun c6 => ?_) (fun c6 => ?_)
    · have c6 : ¬ ((kk_setRain (xs 1) (xs 2)) = 0) := c6
      refine lv_goto (tgt := 1762) hx hb dL_law_525 (by decide) ?_
      exact law_end C0 hsb hX E.2.2 (lv_sub hl [2, 6] rfl) (Nat.le_of_ble_eq_true rfl) (Nat.le_of_ble_eq_true rfl)
    · have c6 : (kk_setRain (xs 1) (xs 2)) = 0 := c6
      refine lv_aload_n hx hb dL_law_513 rfl (lv_at hl 5 rfl) ?_
      refine lv_iconst (v := 0) hx hb dL_law_514 (by decide) ?_
      refine w_lld (v := 0) S hK E 0 1 rfl rfl (show vp_in 0 1 by unfold vp_in; decide) (hU2 c6) dL_law_515 ?_
      refine lv_iload hx hb dL_law_516 (lv_at hl 0 rfl) ?_
      refine lv_i2l (v := 0) hx hb dL_law_518 ((congrArg Int32.toInt64 (hV4 c6)).trans (by decide)) ?_
      refine k_lcmp (v := 0) hx hb (by decide) dL_law_519 ?_
      refine lv_if_eq (tgt := 525) hx hb dL_law_520 (by decide) (fun _ => ?_) (fun c_ => absurd (show (0 : Int32) = 0 by decide) c_)
      refine lv_goto (tgt := 1762) hx hb dL_law_525 (by decide) ?_
      exact law_end C0 hsb hX E.2.2 (lv_sub hl [2, 6] rfl) (Nat.le_of_ble_eq_true rfl) (Nat.le_of_ble_eq_true rfl)
