/-! THE CLASS AT ITS BEGINNING: what sets -/
set_option maxHeartbeats 4000000 in
set_option maxRecDepth 100000 in
/-- requireIndex -/
theorem c_X6_requireIndex (l : Launch) (g : Gm) (hst : l.stackTraces = false) (i : Int32) (n : Int32) : YXv (S := Unit) l g yX6_requireIndex cX6_requireIndex 2 ({ frames := 6, cells := 1, slots := 6, locals := 82 } : Room) [.int i, .int n] [] (fun _ => ixOK i n) (fun _ => []) (fun _ => (0, 0)) [] (fun En => En = "java/lang/IndexOutOfBoundsException" ∧ ¬ ixOK i n) := by
  intro sz tt
  refine ofY RX6 rfl (by decide +kernel) (Nat.le_of_ble_eq_true rfl) (fun p e s m args below meth c hargs S hml hr hlk hex hsz htt hK hA hZ E ls hl => ?_)
  have hx := S.1
  have hb := S.2.1
  have hl : lv_has ls 2 [(0, .int i), (1, .int n)] := hl
  refine lv_iload_n hx hb dX6_requireIndex_0 rfl (lv_at hl 0 rfl) ?_
  refine lv_if_lt (tgt := 9) hx hb dX6_requireIndex_1 (by decide) (fun c1 => ?_) (fun c1 => ?_)
  · have c1 : i < 0 := c1
    exact y_throw (text := "there is no such index") (names := ["java/lang/RuntimeException", "java/lang/Exception"]) S hst hml hl hex hlk hK hZ E rfl ⟨rfl, fun z => le_nlt z.1 c1⟩ (by decide +kernel) (by decide +kernel) cl_X6_224 in__java_lang_IndexOutOfBoundsException (by decide +kernel) at_ioob dX6_requireIndex_9 dX6_requireIndex_12 dX6_requireIndex_13 dX6_requireIndex_15 dX6_requireIndex_18 (Nat.le_of_ble_eq_true rfl) (Nat.le_of_ble_eq_true rfl) ⟨Nat.le_of_ble_eq_true rfl, Nat.le_of_ble_eq_true rfl⟩ ⟨Nat.le_of_ble_eq_true rfl, Nat.le_of_ble_eq_true rfl⟩
  · have c1 : ¬ (i < 0) := c1
    refine lv_iload_n hx hb dX6_requireIndex_4 rfl (lv_at hl 0 rfl) ?_
    refine lv_iload_n hx hb dX6_requireIndex_5 rfl (lv_at hl 1 rfl) ?_
    refine lv_icmp_lt (tgt := 19) hx hb dX6_requireIndex_6 (by decide) (fun c2 => ?_) (fun c2 => ?_)
    · have c2 : i < n := c2
      exact vx_ret (x_vret () S hr hlk hsz htt hK E dX6_requireIndex_19 ⟨nlt_le c1, c2⟩ rfl ⟨Nat.le_of_ble_eq_true rfl, Nat.le_of_ble_eq_true rfl⟩ ⟨Nat.le_of_ble_eq_true rfl, Nat.le_of_ble_eq_true rfl⟩)
    · have c2 : ¬ (i < n) := c2
      exact y_throw (text := "there is no such index") (names := ["java/lang/RuntimeException", "java/lang/Exception"]) S hst hml hl hex hlk hK hZ E rfl ⟨rfl, fun z => c2 z.2⟩ (by decide +kernel) (by decide +kernel) cl_X6_224 in__java_lang_IndexOutOfBoundsException (by decide +kernel) at_ioob dX6_requireIndex_9 dX6_requireIndex_12 dX6_requireIndex_13 dX6_requireIndex_15 dX6_requireIndex_18 (Nat.le_of_ble_eq_true rfl) (Nat.le_of_ble_eq_true rfl) ⟨Nat.le_of_ble_eq_true rfl, Nat.le_of_ble_eq_true rfl⟩ ⟨Nat.le_of_ble_eq_true rfl, Nat.le_of_ble_eq_true rfl⟩

set_option maxHeartbeats 4000000 in
set_option maxRecDepth 100000 in
/-- requireRange -/
theorem c_X6_requireRange (l : Launch) (g : Gm) (hst : l.stackTraces = false) (v : Int32) (lo : Int32) (hi : Int32) : YXv (S := Unit) l g yX6_requireRange cX6_requireRange 3 ({ frames := 6, cells := 1, slots := 6, locals := 82 } : Room) [.int v, .int lo, .int hi] [] (fun _ => rgOK v lo hi) (fun _ => []) (fun _ => (0, 0)) [] (fun En => En = "java/lang/IllegalArgumentException" ∧ ¬ rgOK v lo hi) := by
  intro sz tt
  refine ofY RX6 rfl (by decide +kernel) (Nat.le_of_ble_eq_true rfl) (fun p e s m args below meth c hargs S hml hr hlk hex hsz htt hK hA hZ E ls hl => ?_)
  have hx := S.1
  have hb := S.2.1
  have hl : lv_has ls 3 [(0, .int v), (1, .int lo), (2, .int hi)] := hl
  refine lv_iload_n hx hb dX6_requireRange_0 rfl (lv_at hl 0 rfl) ?_
  refine lv_iload_n hx hb dX6_requireRange_1 rfl (lv_at hl 1 rfl) ?_
  refine lv_icmp_lt (tgt := 10) hx hb dX6_requireRange_2 (by decide) (fun c1 => ?_) (fun c1 => ?_)
  · have c1 : v < lo := c1
    exact y_throw (text := "a number is out of range") (names := ["java/lang/RuntimeException", "java/lang/Exception"]) S hst hml hl hex hlk hK hZ E rfl ⟨rfl, fun z => le_nlt z.1 c1⟩ (by decide +kernel) (by decide +kernel) cl_X6_189 in__java_lang_IllegalArgumentException (by decide +kernel) at_iae dX6_requireRange_10 dX6_requireRange_13 dX6_requireRange_14 dX6_requireRange_16 dX6_requireRange_19 (Nat.le_of_ble_eq_true rfl) (Nat.le_of_ble_eq_true rfl) ⟨Nat.le_of_ble_eq_true rfl, Nat.le_of_ble_eq_true rfl⟩ ⟨Nat.le_of_ble_eq_true rfl, Nat.le_of_ble_eq_true rfl⟩
  · have c1 : ¬ (v < lo) := c1
    refine lv_iload_n hx hb dX6_requireRange_5 rfl (lv_at hl 0 rfl) ?_
    refine lv_iload_n hx hb dX6_requireRange_6 rfl (lv_at hl 2 rfl) ?_
    refine lv_icmp_le (tgt := 20) hx hb dX6_requireRange_7 (by decide) (fun c2 => ?_) (fun c2 => ?_)
    · have c2 : v ≤ hi := c2
      exact vx_ret (x_vret () S hr hlk hsz htt hK E dX6_requireRange_20 ⟨nlt_le c1, c2⟩ rfl ⟨Nat.le_of_ble_eq_true rfl, Nat.le_of_ble_eq_true rfl⟩ ⟨Nat.le_of_ble_eq_true rfl, Nat.le_of_ble_eq_true rfl⟩)
    · have c2 : ¬ (v ≤ hi) := c2
      exact y_throw (text := "a number is out of range") (names := ["java/lang/RuntimeException", "java/lang/Exception"]) S hst hml hl hex hlk hK hZ E rfl ⟨rfl, fun z => c2 z.2⟩ (by decide +kernel) (by decide +kernel) cl_X6_189 in__java_lang_IllegalArgumentException (by decide +kernel) at_iae dX6_requireRange_10 dX6_requireRange_13 dX6_requireRange_14 dX6_requireRange_16 dX6_requireRange_19 (Nat.le_of_ble_eq_true rfl) (Nat.le_of_ble_eq_true rfl) ⟨Nat.le_of_ble_eq_true rfl, Nat.le_of_ble_eq_true rfl⟩ ⟨Nat.le_of_ble_eq_true rfl, Nat.le_of_ble_eq_true rfl⟩

set_option maxHeartbeats 4000000 in
set_option maxRecDepth 100000 in
/-- carryOut, kind 0 -/
theorem c_co0 (l : Launch) (g : Gm) (x : Nat) (ag : Nat) (wo : Nat) (dy : Nat) (ad : Nat → Nat) (ea : Nat) (cl : Nat) (p0 : Int32) (p1 : Int32) (p2 : Int32) (p3 : Int32) (hp0 : vp_in p0 16) : MXv (S := Unit) l g yX6_carryOut cX6_carryOut 2 ({ frames := 5, cells := 13, slots := 100010, locals := 101 } : Room) [.ref x, .ref cl] ([(x, .inr (6, [.ref (ad 0), .ref ag, .ref wo, .ref dy])), (dy, .inr (8, [.int 0, .ref (g.2.2 0), .int 0])), (cl, .inr (1, [.int 0, .int p0, .int p1, .int p2, .int p3]))] ++ wsW g ad (-1) 1 0 ea σ0) (fun _ => True) (fun _ => [(x, .inr (6, [.ref (ad 0), .ref ag, .ref wo, .ref dy]))]) (fun _ => (13, 100010)) := by
  intro sz tt
  refine ofX RX6 rfl (by decide +kernel) (Nat.le_of_ble_eq_true rfl) (fun p e s m args below meth c hargs S hml hr hlk hnm hsz htt hK hA hZ E ls hl => ?_)
  have hx := S.1
  have hb := S.2.1
  have hl : lv_has ls 2 [(0, .ref x), (1, .ref cl)] := hl
  refine lv_aload_n hx hb dX6_carryOut_0 rfl (lv_at hl 0 rfl) ?_
  refine wg_X6_28 (v := .ref dy) S hK E 0 rfl rfl dX6_carryOut_1 ?_
  refine w_reti (runV_X (As := []) (rest := []) (q0 := 0) (n := 0) S hml hK (hZ.at E) (Cut.of (wc := [(dy, .inr (8, [.int 0, .ref (g.2.2 0), .int 0]))]) (wr := ([(x, .inr (6, [.ref (ad 0), .ref ag, .ref wo, .ref dy])), (cl, .inr (1, [.int 0, .int p0, .int p1, .int p2, .int p3]))] ++ wsW g ad (-1) 1 0 ea σ0)) E hA [1] [0, 2, 3, 4, 5, 6, 7, 8, 9, 10, 11, 12, 13, 14, 15, 16, 17, 18, 19, 20, 21, 22, 23, 24, 25, 26, 27, 28, 29, 30, 31, 32, 33] rfl rfl rfl rfl (by decide)) (c_Jx4a65c_size_8abf5 l g dy 0 0 (g.2.2 0) _ _) (gi_wsV ml_X6_229 im_Jx4a65c_size_8abf5 sl_Jx4a65c_size_8abf5 in_Jx4a65c co_Jx4a65c_size_8abf5) ⟨rfl, by decide +kernel, by decide +kernel, by decide +kernel⟩ ⟨Nat.le_of_ble_eq_true rfl, Nat.le_of_ble_eq_true rfl⟩ rfl rfl rfl hl.1 rfl (Nat.le_of_ble_eq_true rfl) dX6_carryOut_4 ⟨Nat.le_of_ble_eq_true rfl, Nat.le_of_ble_eq_true rfl⟩) (Cut.of (wc := [(dy, .inr (8, [.int 0, .ref (g.2.2 0), .int 0]))]) (wr := ([(x, .inr (6, [.ref (ad 0), .ref ag, .ref wo, .ref dy])), (cl, .inr (1, [.int 0, .int p0, .int p1, .int p2, .int p3]))] ++ wsW g ad (-1) 1 0 ea σ0)) E hA [1] [0, 2, 3, 4, 5, 6, 7, 8, 9, 10, 11, 12, 13, 14, 15, 16, 17, 18, 19, 20, 21, 22, 23, 24, 25, 26, 27, 28, 29, 30, 31, 32, 33] rfl rfl rfl rfl (by decide)) E (fun r1 u1 H locs hp E => ?_)
  have E : Ev g _ s.heap H locs ([(x, .inr (6, [.ref (ad 0), .ref ag, .ref wo, .ref dy])), (cl, .inr (1, [.int 0, .int p0, .int p1, .int p2, .int p3]))] ++ wsW g ad (-1) 1 0 ea σ0 ++ [(dy, .inr (8, [.int 0, .ref (g.2.2 0), .int 0]))]) := E
  subst hp
  refine lv_sipush (v := 512) hx hb dX6_carryOut_7 (by decide) ?_
  refine lv_icmp_ge (tgt := 22) hx hb dX6_carryOut_10 (by decide) (fun c_ => absurd c_ (show ¬ ((512 : Int32) ≤ (0 : Int32)) by decide)) (fun _ => ?_)
  refine lv_aload_n hx hb dX6_carryOut_13 rfl (lv_at hl 0 rfl) ?_
  refine wg_X6_28 (v := .ref dy) S hK E 0 rfl rfl dX6_carryOut_14 ?_
  refine lv_aload_n hx hb dX6_carryOut_17 rfl (lv_at hl 1 rfl) ?_
  refine w_reti (runV_X (As := [.ref cl]) (rest := []) (q0 := 0) (n := 1) S hml hK (hZ.at E) (Cut.of (wc := [(dy, .inr (8, [.int 0, .ref (g.2.2 0), .int 0])), (cl, .inr (1, [.int 0, .int p0, .int p1, .int p2, .int p3]))]) (wr := ([(x, .inr (6, [.ref (ad 0), .ref ag, .ref wo, .ref dy]))] ++ wsW g ad (-1) 1 0 ea σ0)) E hA [33, 1] [0, 2, 3, 4, 5, 6, 7, 8, 9, 10, 11, 12, 13, 14, 15, 16, 17, 18, 19, 20, 21, 22, 23, 24, 25, 26, 27, 28, 29, 30, 31, 32] rfl rfl rfl rfl (by decide)) (c_ad1 l g dy cl (.inr (1, [.int 0, .int p0, .int p1, .int p2, .int p3])) any_X1 _ _) (gi_wsV ml_X6_232 im_Jx4a65c_add_9ea2d sl_Jx4a65c_add_9ea2d in_Jx4a65c co_Jx4a65c_add_9ea2d) ⟨rfl, by decide +kernel, by decide +kernel, by decide +kernel⟩ ⟨Nat.le_of_ble_eq_true rfl, Nat.le_of_ble_eq_true rfl⟩ rfl rfl rfl hl.1 rfl (Nat.le_of_ble_eq_true rfl) dX6_carryOut_18 ⟨Nat.le_of_ble_eq_true rfl, Nat.le_of_ble_eq_true rfl⟩) (Cut.of (wc := [(dy, .inr (8, [.int 0, .ref (g.2.2 0), .int 0])), (cl, .inr (1, [.int 0, .int p0, .int p1, .int p2, .int p3]))]) (wr := ([(x, .inr (6, [.ref (ad 0), .ref ag, .ref wo, .ref dy]))] ++ wsW g ad (-1) 1 0 ea σ0)) E hA [33, 1] [0, 2, 3, 4, 5, 6, 7, 8, 9, 10, 11, 12, 13, 14, 15, 16, 17, 18, 19, 20, 21, 22, 23, 24, 25, 26, 27, 28, 29, 30, 31, 32] rfl rfl rfl rfl (by decide)) E (fun r2 u2 H locs hp E => ?_)
  have E : Ev g _ s.heap H locs ([(x, .inr (6, [.ref (ad 0), .ref ag, .ref wo, .ref dy]))] ++ wsW g ad (-1) 1 0 ea σ0 ++ [(dy, .inr (8, [.int 1, .ref u2, .int 1])), (cl, .inr (1, [.int 0, .int p0, .int p1, .int p2, .int p3])), (u2, .inl (g.2.1 4, 10, .inr (.inr (.inr (.inr (va_up (fun _ => none) (0 : Int32).toNatClampNeg (some cl)))))))]) := E
  subst hp
  refine lv_pop hx hb dX6_carryOut_21 rfl ?_
  refine lv_aload_n hx hb dX6_carryOut_22 rfl (lv_at hl 0 rfl) ?_
  refine wg_X6_14 (v := .ref (ad 0)) S hK E 0 rfl rfl dX6_carryOut_23 ?_
  refine lv_aload_n hx hb dX6_carryOut_26 rfl (lv_at hl 1 rfl) ?_
  refine w_retvM (runV_X (As := [.ref cl]) (rest := []) (q0 := 0) (n := 1) S hml hK (hZ.at E) (Cut.of (wc := (wsF g ad (-1) 1 0 (cl, .inr (1, [.int 0, .int p0, .int p1, .int p2, .int p3])) ea σ0)) (wr := [(x, .inr (6, [.ref (ad 0), .ref ag, .ref wo, .ref dy])), (dy, .inr (8, [.int 1, .ref u2, .int 1])), (u2, .inl (g.2.1 4, 10, .inr (.inr (.inr (.inr (va_up (fun _ => none) (0 : Int32).toNatClampNeg (some cl)))))))]) E hA [1, 2, 3, 4, 5, 6, 7, 8, 9, 10, 11, 12, 13, 14, 15, 16, 17, 18, 19, 20, 21, 22, 23, 24, 25, 26, 27, 28, 29, 30, 31, 33] [0, 32, 34] rfl rfl rfl rfl (by decide)) (c_X5_follow_0 l g cl ad (-1) 1 0 ea σ0 p0 p1 p2 p3 hp0 σ0_wf (Or.inr rfl) σ0_ev (by decide) _ _) (gi_wsV ml_X6_236 im_X5_follow sl_X5_follow in_X5 co_X5_follow) ⟨rfl, by decide +kernel, by decide +kernel, by decide +kernel⟩ ⟨Nat.le_of_ble_eq_true rfl, Nat.le_of_ble_eq_true rfl⟩ rfl rfl rfl hl.1 rfl (Nat.le_of_ble_eq_true rfl) dX6_carryOut_27 ⟨Nat.le_of_ble_eq_true rfl, Nat.le_of_ble_eq_true rfl⟩) (Cut.of (wc := (wsF g ad (-1) 1 0 (cl, .inr (1, [.int 0, .int p0, .int p1, .int p2, .int p3])) ea σ0)) (wr := [(x, .inr (6, [.ref (ad 0), .ref ag, .ref wo, .ref dy])), (dy, .inr (8, [.int 1, .ref u2, .int 1])), (u2, .inl (g.2.1 4, 10, .inr (.inr (.inr (.inr (va_up (fun _ => none) (0 : Int32).toNatClampNeg (some cl)))))))]) E hA [1, 2, 3, 4, 5, 6, 7, 8, 9, 10, 11, 12, 13, 14, 15, 16, 17, 18, 19, 20, 21, 22, 23, 24, 25, 26, 27, 28, 29, 30, 31, 33] [0, 32, 34] rfl rfl rfl rfl (by decide)) E (fun u H locs hp E => ?_)
  obtain ⟨u1, ea1⟩ := u
  have hp : u1 = f_X5_follow_0 σ0 (-1) p0 p1 p2 p3 := hp
  have E : Ev g _ s.heap H locs [(x, .inr (6, [.ref (ad 0), .ref ag, .ref wo, .ref dy]))] := Ev.sub E [0] rfl rfl
  exact x_vret () S hr hlk hsz htt hK E dX6_carryOut_30 trivial rfl ⟨Nat.le_of_ble_eq_true rfl, Nat.le_of_ble_eq_true rfl⟩ ⟨Nat.le_of_ble_eq_true rfl, Nat.le_of_ble_eq_true rfl⟩

set_option maxHeartbeats 4000000 in
set_option maxRecDepth 100000 in
/-- carryOut, kind 1 -/
theorem c_co1 (l : Launch) (g : Gm) (x : Nat) (ag : Nat) (wo : Nat) (dy : Nat) (ad : Nat → Nat) (ea : Nat) (cl : Nat) (p0 : Int32) (p1 : Int32) (hp0 : vp_in p0 8) : MXv (S := Unit) l g yX6_carryOut cX6_carryOut 2 ({ frames := 5, cells := 13, slots := 100010, locals := 101 } : Room) [.ref x, .ref cl] ([(x, .inr (6, [.ref (ad 0), .ref ag, .ref wo, .ref dy])), (dy, .inr (8, [.int 0, .ref (g.2.2 0), .int 0])), (cl, .inr (1, [.int 1, .int p0, .int p1, .int 0, .int 0]))] ++ wsW g ad (-1) 1 0 ea σ0) (fun _ => True) (fun _ => [(x, .inr (6, [.ref (ad 0), .ref ag, .ref wo, .ref dy]))]) (fun _ => (13, 100010)) := by
  intro sz tt
  refine ofX RX6 rfl (by decide +kernel) (Nat.le_of_ble_eq_true rfl) (fun p e s m args below meth c hargs S hml hr hlk hnm hsz htt hK hA hZ E ls hl => ?_)
  have hx := S.1
  have hb := S.2.1
  have hl : lv_has ls 2 [(0, .ref x), (1, .ref cl)] := hl
  refine lv_aload_n hx hb dX6_carryOut_0 rfl (lv_at hl 0 rfl) ?_
  refine wg_X6_28 (v := .ref dy) S hK E 0 rfl rfl dX6_carryOut_1 ?_
  refine w_reti (runV_X (As := []) (rest := []) (q0 := 0) (n := 0) S hml hK (hZ.at E) (Cut.of (wc := [(dy, .inr (8, [.int 0, .ref (g.2.2 0), .int 0]))]) (wr := ([(x, .inr (6, [.ref (ad 0), .ref ag, .ref wo, .ref dy])), (cl, .inr (1, [.int 1, .int p0, .int p1, .int 0, .int 0]))] ++ wsW g ad (-1) 1 0 ea σ0)) E hA [1] [0, 2, 3, 4, 5, 6, 7, 8, 9, 10, 11, 12, 13, 14, 15, 16, 17, 18, 19, 20, 21, 22, 23, 24, 25, 26, 27, 28, 29, 30, 31, 32, 33] rfl rfl rfl rfl (by decide)) (c_Jx4a65c_size_8abf5 l g dy 0 0 (g.2.2 0) _ _) (gi_wsV ml_X6_229 im_Jx4a65c_size_8abf5 sl_Jx4a65c_size_8abf5 in_Jx4a65c co_Jx4a65c_size_8abf5) ⟨rfl, by decide +kernel, by decide +kernel, by decide +kernel⟩ ⟨Nat.le_of_ble_eq_true rfl, Nat.le_of_ble_eq_true rfl⟩ rfl rfl rfl hl.1 rfl (Nat.le_of_ble_eq_true rfl) dX6_carryOut_4 ⟨Nat.le_of_ble_eq_true rfl, Nat.le_of_ble_eq_true rfl⟩) (Cut.of (wc := [(dy, .inr (8, [.int 0, .ref (g.2.2 0), .int 0]))]) (wr := ([(x, .inr (6, [.ref (ad 0), .ref ag, .ref wo, .ref dy])), (cl, .inr (1, [.int 1, .int p0, .int p1, .int 0, .int 0]))] ++ wsW g ad (-1) 1 0 ea σ0)) E hA [1] [0, 2, 3, 4, 5, 6, 7, 8, 9, 10, 11, 12, 13, 14, 15, 16, 17, 18, 19, 20, 21, 22, 23, 24, 25, 26, 27, 28, 29, 30, 31, 32, 33] rfl rfl rfl rfl (by decide)) E (fun r1 u1 H locs hp E => ?_)
  have E : Ev g _ s.heap H locs ([(x, .inr (6, [.ref (ad 0), .ref ag, .ref wo, .ref dy])), (cl, .inr (1, [.int 1, .int p0, .int p1, .int 0, .int 0]))] ++ wsW g ad (-1) 1 0 ea σ0 ++ [(dy, .inr (8, [.int 0, .ref (g.2.2 0), .int 0]))]) := E
  subst hp
  refine lv_sipush (v := 512) hx hb dX6_carryOut_7 (by decide) ?_
  refine lv_icmp_ge (tgt := 22) hx hb dX6_carryOut_10 (by decide) (fun c_ => absurd c_ (show ¬ ((512 : Int32) ≤ (0 : Int32)) by decide)) (fun _ => ?_)
  refine lv_aload_n hx hb dX6_carryOut_13 rfl (lv_at hl 0 rfl) ?_
  refine wg_X6_28 (v := .ref dy) S hK E 0 rfl rfl dX6_carryOut_14 ?_
  refine lv_aload_n hx hb dX6_carryOut_17 rfl (lv_at hl 1 rfl) ?_
  refine w_reti (runV_X (As := [.ref cl]) (rest := []) (q0 := 0) (n := 1) S hml hK (hZ.at E) (Cut.of (wc := [(dy, .inr (8, [.int 0, .ref (g.2.2 0), .int 0])), (cl, .inr (1, [.int 1, .int p0, .int p1, .int 0, .int 0]))]) (wr := ([(x, .inr (6, [.ref (ad 0), .ref ag, .ref wo, .ref dy]))] ++ wsW g ad (-1) 1 0 ea σ0)) E hA [33, 1] [0, 2, 3, 4, 5, 6, 7, 8, 9, 10, 11, 12, 13, 14, 15, 16, 17, 18, 19, 20, 21, 22, 23, 24, 25, 26, 27, 28, 29, 30, 31, 32] rfl rfl rfl rfl (by decide)) (c_ad1 l g dy cl (.inr (1, [.int 1, .int p0, .int p1, .int 0, .int 0])) any_X1 _ _) (gi_wsV ml_X6_232 im_Jx4a65c_add_9ea2d sl_Jx4a65c_add_9ea2d in_Jx4a65c co_Jx4a65c_add_9ea2d) ⟨rfl, by decide +kernel, by decide +kernel, by decide +kernel⟩ ⟨Nat.le_of_ble_eq_true rfl, Nat.le_of_ble_eq_true rfl⟩ rfl rfl rfl hl.1 rfl (Nat.le_of_ble_eq_true rfl) dX6_carryOut_18 ⟨Nat.le_of_ble_eq_true rfl, Nat.le_of_ble_eq_true rfl⟩) (Cut.of (wc := [(dy, .inr (8, [.int 0, .ref (g.2.2 0), .int 0])), (cl, .inr (1, [.int 1, .int p0, .int p1, .int 0, .int 0]))]) (wr := ([(x, .inr (6, [.ref (ad 0), .ref ag, .ref wo, .ref dy]))] ++ wsW g ad (-1) 1 0 ea σ0)) E hA [33, 1] [0, 2, 3, 4, 5, 6, 7, 8, 9, 10, 11, 12, 13, 14, 15, 16, 17, 18, 19, 20, 21, 22, 23, 24, 25, 26, 27, 28, 29, 30, 31, 32] rfl rfl rfl rfl (by decide)) E (fun r2 u2 H locs hp E => ?_)
  have E : Ev g _ s.heap H locs ([(x, .inr (6, [.ref (ad 0), .ref ag, .ref wo, .ref dy]))] ++ wsW g ad (-1) 1 0 ea σ0 ++ [(dy, .inr (8, [.int 1, .ref u2, .int 1])), (cl, .inr (1, [.int 1, .int p0, .int p1, .int 0, .int 0])), (u2, .inl (g.2.1 4, 10, .inr (.inr (.inr (.inr (va_up (fun _ => none) (0 : Int32).toNatClampNeg (some cl)))))))]) := E
  subst hp
  refine lv_pop hx hb dX6_carryOut_21 rfl ?_
  refine lv_aload_n hx hb dX6_carryOut_22 rfl (lv_at hl 0 rfl) ?_
  refine wg_X6_14 (v := .ref (ad 0)) S hK E 0 rfl rfl dX6_carryOut_23 ?_
  refine lv_aload_n hx hb dX6_carryOut_26 rfl (lv_at hl 1 rfl) ?_
  refine w_retvM (runV_X (As := [.ref cl]) (rest := []) (q0 := 0) (n := 1) S hml hK (hZ.at E) (Cut.of (wc := (wsF g ad (-1) 1 0 (cl, .inr (1, [.int 1, .int p0, .int p1, .int 0, .int 0])) ea σ0)) (wr := [(x, .inr (6, [.ref (ad 0), .ref ag, .ref wo, .ref dy])), (dy, .inr (8, [.int 1, .ref u2, .int 1])), (u2, .inl (g.2.1 4, 10, .inr (.inr (.inr (.inr (va_up (fun _ => none) (0 : Int32).toNatClampNeg (some cl)))))))]) E hA [1, 2, 3, 4, 5, 6, 7, 8, 9, 10, 11, 12, 13, 14, 15, 16, 17, 18, 19, 20, 21, 22, 23, 24, 25, 26, 27, 28, 29, 30, 31, 33] [0, 32, 34] rfl rfl rfl rfl (by decide)) (c_X5_follow_1 l g cl ad (-1) 1 0 ea σ0 p0 p1 0 0 hp0 σ0_wf (Or.inr rfl) σ0_ev (by decide) _ _) (gi_wsV ml_X6_236 im_X5_follow sl_X5_follow in_X5 co_X5_follow) ⟨rfl, by decide +kernel, by decide +kernel, by decide +kernel⟩ ⟨Nat.le_of_ble_eq_true rfl, Nat.le_of_ble_eq_true rfl⟩ rfl rfl rfl hl.1 rfl (Nat.le_of_ble_eq_true rfl) dX6_carryOut_27 ⟨Nat.le_of_ble_eq_true rfl, Nat.le_of_ble_eq_true rfl⟩) (Cut.of (wc := (wsF g ad (-1) 1 0 (cl, .inr (1, [.int 1, .int p0, .int p1, .int 0, .int 0])) ea σ0)) (wr := [(x, .inr (6, [.ref (ad 0), .ref ag, .ref wo, .ref dy])), (dy, .inr (8, [.int 1, .ref u2, .int 1])), (u2, .inl (g.2.1 4, 10, .inr (.inr (.inr (.inr (va_up (fun _ => none) (0 : Int32).toNatClampNeg (some cl)))))))]) E hA [1, 2, 3, 4, 5, 6, 7, 8, 9, 10, 11, 12, 13, 14, 15, 16, 17, 18, 19, 20, 21, 22, 23, 24, 25, 26, 27, 28, 29, 30, 31, 33] [0, 32, 34] rfl rfl rfl rfl (by decide)) E (fun u H locs hp E => ?_)
  obtain ⟨u1, ea1⟩ := u
  have hp : u1 = f_X5_follow_1 σ0 (-1) p0 p1 0 0 := hp
  have E : Ev g _ s.heap H locs [(x, .inr (6, [.ref (ad 0), .ref ag, .ref wo, .ref dy]))] := Ev.sub E [0] rfl rfl
  exact x_vret () S hr hlk hsz htt hK E dX6_carryOut_30 trivial rfl ⟨Nat.le_of_ble_eq_true rfl, Nat.le_of_ble_eq_true rfl⟩ ⟨Nat.le_of_ble_eq_true rfl, Nat.le_of_ble_eq_true rfl⟩

set_option maxHeartbeats 4000000 in
set_option maxRecDepth 100000 in
/-- carryOut, kind 2 -/
theorem c_co2 (l : Launch) (g : Gm) (x : Nat) (ag : Nat) (wo : Nat) (dy : Nat) (ad : Nat → Nat) (ea : Nat) (cl : Nat) (p0 : Int32) (p1 : Int32) (hp0 : vp_in p0 2) : MXv (S := Unit) l g yX6_carryOut cX6_carryOut 2 ({ frames := 5, cells := 13, slots := 100010, locals := 101 } : Room) [.ref x, .ref cl] ([(x, .inr (6, [.ref (ad 0), .ref ag, .ref wo, .ref dy])), (dy, .inr (8, [.int 0, .ref (g.2.2 0), .int 0])), (cl, .inr (1, [.int 2, .int p0, .int p1, .int 0, .int 0]))] ++ wsW g ad (-1) 1 0 ea σ0) (fun _ => True) (fun _ => [(x, .inr (6, [.ref (ad 0), .ref ag, .ref wo, .ref dy]))]) (fun _ => (13, 100010)) := by
  intro sz tt
  refine ofX RX6 rfl (by decide +kernel) (Nat.le_of_ble_eq_true rfl) (fun p e s m args below meth c hargs S hml hr hlk hnm hsz htt hK hA hZ E ls hl => ?_)
  have hx := S.1
  have hb := S.2.1
  have hl : lv_has ls 2 [(0, .ref x), (1, .ref cl)] := hl
  refine lv_aload_n hx hb dX6_carryOut_0 rfl (lv_at hl 0 rfl) ?_
  refine wg_X6_28 (v := .ref dy) S hK E 0 rfl rfl dX6_carryOut_1 ?_
  refine w_reti (runV_X (As := []) (rest := []) (q0 := 0) (n := 0) S hml hK (hZ.at E) (Cut.of (wc := [(dy, .inr (8, [.int 0, .ref (g.2.2 0), .int 0]))]) (wr := ([(x, .inr (6, [.ref (ad 0), .ref ag, .ref wo, .ref dy])), (cl, .inr (1, [.int 2, .int p0, .int p1, .int 0, .int 0]))] ++ wsW g ad (-1) 1 0 ea σ0)) E hA [1] [0, 2, 3, 4, 5, 6, 7, 8, 9, 10, 11, 12, 13, 14, 15, 16, 17, 18, 19, 20, 21, 22, 23, 24, 25, 26, 27, 28, 29, 30, 31, 32, 33] rfl rfl rfl rfl (by decide)) (c_Jx4a65c_size_8abf5 l g dy 0 0 (g.2.2 0) _ _) (gi_wsV ml_X6_229 im_Jx4a65c_size_8abf5 sl_Jx4a65c_size_8abf5 in_Jx4a65c co_Jx4a65c_size_8abf5) ⟨rfl, by decide +kernel, by decide +kernel, by decide +kernel⟩ ⟨Nat.le_of_ble_eq_true rfl, Nat.le_of_ble_eq_true rfl⟩ rfl rfl rfl hl.1 rfl (Nat.le_of_ble_eq_true rfl) dX6_carryOut_4 ⟨Nat.le_of_ble_eq_true rfl, Nat.le_of_ble_eq_true rfl⟩) (Cut.of (wc := [(dy, .inr (8, [.int 0, .ref (g.2.2 0), .int 0]))]) (wr := ([(x, .inr (6, [.ref (ad 0), .ref ag, .ref wo, .ref dy])), (cl, .inr (1, [.int 2, .int p0, .int p1, .int 0, .int 0]))] ++ wsW g ad (-1) 1 0 ea σ0)) E hA [1] [0, 2, 3, 4, 5, 6, 7, 8, 9, 10, 11, 12, 13, 14, 15, 16, 17, 18, 19, 20, 21, 22, 23, 24, 25, 26, 27, 28, 29, 30, 31, 32, 33] rfl rfl rfl rfl (by decide)) E (fun r1 u1 H locs hp E => ?_)
  have E : Ev g _ s.heap H locs ([(x, .inr (6, [.ref (ad 0), .ref ag, .ref wo, .ref dy])), (cl, .inr (1, [.int 2, .int p0, .int p1, .int 0, .int 0]))] ++ wsW g ad (-1) 1 0 ea σ0 ++ [(dy, .inr (8, [.int 0, .ref (g.2.2 0), .int 0]))]) := E
  subst hp
  refine lv_sipush (v := 512) hx hb dX6_carryOut_7 (by decide) ?_
  refine lv_icmp_ge (tgt := 22) hx hb dX6_carryOut_10 (by decide) (fun c_ => absurd c_ (show ¬ ((512 : Int32) ≤ (0 : Int32)) by decide)) (fun _ => ?_)
  refine lv_aload_n hx hb dX6_carryOut_13 rfl (lv_at hl 0 rfl) ?_
  refine wg_X6_28 (v := .ref dy) S hK E 0 rfl rfl dX6_carryOut_14 ?_
  refine lv_aload_n hx hb dX6_carryOut_17 rfl (lv_at hl 1 rfl) ?_
  refine w_reti (runV_X (As := [.ref cl]) (rest := []) (q0 := 0) (n := 1) S hml hK (hZ.at E) (Cut.of (wc := [(dy, .inr (8, [.int 0, .ref (g.2.2 0), .int 0])), (cl, .inr (1, [.int 2, .int p0, .int p1, .int 0, .int 0]))]) (wr := ([(x, .inr (6, [.ref (ad 0), .ref ag, .ref wo, .ref dy]))] ++ wsW g ad (-1) 1 0 ea σ0)) E hA [33, 1] [0, 2, 3, 4, 5, 6, 7, 8, 9, 10, 11, 12, 13, 14, 15, 16, 17, 18, 19, 20, 21, 22, 23, 24, 25, 26, 27, 28, 29, 30, 31, 32] rfl rfl rfl rfl (by decide)) (c_ad1 l g dy cl (.inr (1, [.int 2, .int p0, .int p1, .int 0, .int 0])) any_X1 _ _) (gi_wsV ml_X6_232 im_Jx4a65c_add_9ea2d sl_Jx4a65c_add_9ea2d in_Jx4a65c co_Jx4a65c_add_9ea2d) ⟨rfl, by decide +kernel, by decide +kernel, by decide +kernel⟩ ⟨Nat.le_of_ble_eq_true rfl, Nat.le_of_ble_eq_true rfl⟩ rfl rfl rfl hl.1 rfl (Nat.le_of_ble_eq_true rfl) dX6_carryOut_18 ⟨Nat.le_of_ble_eq_true rfl, Nat.le_of_ble_eq_true rfl⟩) (Cut.of (wc := [(dy, .inr (8, [.int 0, .ref (g.2.2 0), .int 0])), (cl, .inr (1, [.int 2, .int p0, .int p1, .int 0, .int 0]))]) (wr := ([(x, .inr (6, [.ref (ad 0), .ref ag, .ref wo, .ref dy]))] ++ wsW g ad (-1) 1 0 ea σ0)) E hA [33, 1] [0, 2, 3, 4, 5, 6, 7, 8, 9, 10, 11, 12, 13, 14, 15, 16, 17, 18, 19, 20, 21, 22, 23, 24, 25, 26, 27, 28, 29, 30, 31, 32] rfl rfl rfl rfl (by decide)) E (fun r2 u2 H locs hp E => ?_)
  have E : Ev g _ s.heap H locs ([(x, .inr (6, [.ref (ad 0), .ref ag, .ref wo, .ref dy]))] ++ wsW g ad (-1) 1 0 ea σ0 ++ [(dy, .inr (8, [.int 1, .ref u2, .int 1])), (cl, .inr (1, [.int 2, .int p0, .int p1, .int 0, .int 0])), (u2, .inl (g.2.1 4, 10, .inr (.inr (.inr (.inr (va_up (fun _ => none) (0 : Int32).toNatClampNeg (some cl)))))))]) := E
  subst hp
  refine lv_pop hx hb dX6_carryOut_21 rfl ?_
  refine lv_aload_n hx hb dX6_carryOut_22 rfl (lv_at hl 0 rfl) ?_
  refine wg_X6_14 (v := .ref (ad 0)) S hK E 0 rfl rfl dX6_carryOut_23 ?_
  refine lv_aload_n hx hb dX6_carryOut_26 rfl (lv_at hl 1 rfl) ?_
  refine w_retvM (runV_X (As := [.ref cl]) (rest := []) (q0 := 0) (n := 1) S hml hK (hZ.at E) (Cut.of (wc := (wsF g ad (-1) 1 0 (cl, .inr (1, [.int 2, .int p0, .int p1, .int 0, .int 0])) ea σ0)) (wr := [(x, .inr (6, [.ref (ad 0), .ref ag, .ref wo, .ref dy])), (dy, .inr (8, [.int 1, .ref u2, .int 1])), (u2, .inl (g.2.1 4, 10, .inr (.inr (.inr (.inr (va_up (fun _ => none) (0 : Int32).toNatClampNeg (some cl)))))))]) E hA [1, 2, 3, 4, 5, 6, 7, 8, 9, 10, 11, 12, 13, 14, 15, 16, 17, 18, 19, 20, 21, 22, 23, 24, 25, 26, 27, 28, 29, 30, 31, 33] [0, 32, 34] rfl rfl rfl rfl (by decide)) (c_X5_follow_2 l g cl ad (-1) 1 0 ea σ0 p0 p1 0 0 hp0 σ0_wf (Or.inr rfl) σ0_ev (by decide) _ _) (gi_wsV ml_X6_236 im_X5_follow sl_X5_follow in_X5 co_X5_follow) ⟨rfl, by decide +kernel, by decide +kernel, by decide +kernel⟩ ⟨Nat.le_of_ble_eq_true rfl, Nat.le_of_ble_eq_true rfl⟩ rfl rfl rfl hl.1 rfl (Nat.le_of_ble_eq_true rfl) dX6_carryOut_27 ⟨Nat.le_of_ble_eq_true rfl, Nat.le_of_ble_eq_true rfl⟩) (Cut.of (wc := (wsF g ad (-1) 1 0 (cl, .inr (1, [.int 2, .int p0, .int p1, .int 0, .int 0])) ea σ0)) (wr := [(x, .inr (6, [.ref (ad 0), .ref ag, .ref wo, .ref dy])), (dy, .inr (8, [.int 1, .ref u2, .int 1])), (u2, .inl (g.2.1 4, 10, .inr (.inr (.inr (.inr (va_up (fun _ => none) (0 : Int32).toNatClampNeg (some cl)))))))]) E hA [1, 2, 3, 4, 5, 6, 7, 8, 9, 10, 11, 12, 13, 14, 15, 16, 17, 18, 19, 20, 21, 22, 23, 24, 25, 26, 27, 28, 29, 30, 31, 33] [0, 32, 34] rfl rfl rfl rfl (by decide)) E (fun u H locs hp E => ?_)
  obtain ⟨u1, ea1⟩ := u
  have hp : u1 = f_X5_follow_2 σ0 (-1) p0 p1 0 0 := hp
  have E : Ev g _ s.heap H locs [(x, .inr (6, [.ref (ad 0), .ref ag, .ref wo, .ref dy]))] := Ev.sub E [0] rfl rfl
  exact x_vret () S hr hlk hsz htt hK E dX6_carryOut_30 trivial rfl ⟨Nat.le_of_ble_eq_true rfl, Nat.le_of_ble_eq_true rfl⟩ ⟨Nat.le_of_ble_eq_true rfl, Nat.le_of_ble_eq_true rfl⟩

set_option maxHeartbeats 4000000 in
set_option maxRecDepth 100000 in
/-- carryOut, kind 3 -/
theorem c_co3 (l : Launch) (g : Gm) (x : Nat) (ag : Nat) (wo : Nat) (dy : Nat) (ad : Nat → Nat) (ea : Nat) (cl : Nat) (p0 : Int32) (p1 : Int32) (hp0 : vp_in p0 8) : MXv (S := Unit) l g yX6_carryOut cX6_carryOut 2 ({ frames := 5, cells := 13, slots := 100010, locals := 101 } : Room) [.ref x, .ref cl] ([(x, .inr (6, [.ref (ad 0), .ref ag, .ref wo, .ref dy])), (dy, .inr (8, [.int 0, .ref (g.2.2 0), .int 0])), (cl, .inr (1, [.int 3, .int p0, .int p1, .int 0, .int 0]))] ++ wsW g ad (-1) 1 0 ea σ0) (fun _ => True) (fun _ => [(x, .inr (6, [.ref (ad 0), .ref ag, .ref wo, .ref dy]))]) (fun _ => (13, 100010)) := by
  intro sz tt
  refine ofX RX6 rfl (by decide +kernel) (Nat.le_of_ble_eq_true rfl) (fun p e s m args below meth c hargs S hml hr hlk hnm hsz htt hK hA hZ E ls hl => ?_)
  have hx := S.1
  have hb := S.2.1
  have hl : lv_has ls 2 [(0, .ref x), (1, .ref cl)] := hl
  refine lv_aload_n hx hb dX6_carryOut_0 rfl (lv_at hl 0 rfl) ?_
  refine wg_X6_28 (v := .ref dy) S hK E 0 rfl rfl dX6_carryOut_1 ?_
  refine w_reti (runV_X (As := []) (rest := []) (q0 := 0) (n := 0) S hml hK (hZ.at E) (Cut.of (wc := [(dy, .inr (8, [.int 0, .ref (g.2.2 0), .int 0]))]) (wr := ([(x, .inr (6, [.ref (ad 0), .ref ag, .ref wo, .ref dy])), (cl, .inr (1, [.int 3, .int p0, .int p1, .int 0, .int 0]))] ++ wsW g ad (-1) 1 0 ea σ0)) E hA [1] [0, 2, 3, 4, 5, 6, 7, 8, 9, 10, 11, 12, 13, 14, 15, 16, 17, 18, 19, 20, 21, 22, 23, 24, 25, 26, 27, 28, 29, 30, 31, 32, 33] rfl rfl rfl rfl (by decide)) (c_Jx4a65c_size_8abf5 l g dy 0 0 (g.2.2 0) _ _) (gi_wsV ml_X6_229 im_Jx4a65c_size_8abf5 sl_Jx4a65c_size_8abf5 in_Jx4a65c co_Jx4a65c_size_8abf5) ⟨rfl, by decide +kernel, by decide +kernel, by decide +kernel⟩ ⟨Nat.le_of_ble_eq_true rfl, Nat.le_of_ble_eq_true rfl⟩ rfl rfl rfl hl.1 rfl (Nat.le_of_ble_eq_true rfl) dX6_carryOut_4 ⟨Nat.le_of_ble_eq_true rfl, Nat.le_of_ble_eq_true rfl⟩) (Cut.of (wc := [(dy, .inr (8, [.int 0, .ref (g.2.2 0), .int 0]))]) (wr := ([(x, .inr (6, [.ref (ad 0), .ref ag, .ref wo, .ref dy])), (cl, .inr (1, [.int 3, .int p0, .int p1, .int 0, .int 0]))] ++ wsW g ad (-1) 1 0 ea σ0)) E hA [1] [0, 2, 3, 4, 5, 6, 7, 8, 9, 10, 11, 12, 13, 14, 15, 16, 17, 18, 19, 20, 21, 22, 23, 24, 25, 26, 27, 28, 29, 30, 31, 32, 33] rfl rfl rfl rfl (by decide)) E (fun r1 u1 H locs hp E => ?_)
  have E : Ev g _ s.heap H locs ([(x, .inr (6, [.ref (ad 0), .ref ag, .ref wo, .ref dy])), (cl, .inr (1, [.int 3, .int p0, .int p1, .int 0, .int 0]))] ++ wsW g ad (-1) 1 0 ea σ0 ++ [(dy, .inr (8, [.int 0, .ref (g.2.2 0), .int 0]))]) := E
  subst hp
  refine lv_sipush (v := 512) hx hb dX6_carryOut_7 (by decide) ?_
  refine lv_icmp_ge (tgt := 22) hx hb dX6_carryOut_10 (by decide) (fun c_ => absurd c_ (show ¬ ((512 : Int32) ≤ (0 : Int32)) by decide)) (fun _ => ?_)
  refine lv_aload_n hx hb dX6_carryOut_13 rfl (lv_at hl 0 rfl) ?_
  refine wg_X6_28 (v := .ref dy) S hK E 0 rfl rfl dX6_carryOut_14 ?_
  refine lv_aload_n hx hb dX6_carryOut_17 rfl (lv_at hl 1 rfl) ?_
  refine w_reti (runV_X (As := [.ref cl]) (rest := []) (q0 := 0) (n := 1) S hml hK (hZ.at E) (Cut.of (wc := [(dy, .inr (8, [.int 0, .ref (g.2.2 0), .int 0])), (cl, .inr (1, [.int 3, .int p0, .int p1, .int 0, .int 0]))]) (wr := ([(x, .inr (6, [.ref (ad 0), .ref ag, .ref wo, .ref dy]))] ++ wsW g ad (-1) 1 0 ea σ0)) E hA [33, 1] [0, 2, 3, 4, 5, 6, 7, 8, 9, 10, 11, 12, 13, 14, 15, 16, 17, 18, 19, 20, 21, 22, 23, 24, 25, 26, 27, 28, 29, 30, 31, 32] rfl rfl rfl rfl (by decide)) (c_ad1 l g dy cl (.inr (1, [.int 3, .int p0, .int p1, .int 0, .int 0])) any_X1 _ _) (gi_wsV ml_X6_232 im_Jx4a65c_add_9ea2d sl_Jx4a65c_add_9ea2d in_Jx4a65c co_Jx4a65c_add_9ea2d) ⟨rfl, by decide +kernel, by decide +kernel, by decide +kernel⟩ ⟨Nat.le_of_ble_eq_true rfl, Nat.le_of_ble_eq_true rfl⟩ rfl rfl rfl hl.1 rfl (Nat.le_of_ble_eq_true rfl) dX6_carryOut_18 ⟨Nat.le_of_ble_eq_true rfl, Nat.le_of_ble_eq_true rfl⟩) (Cut.of (wc := [(dy, .inr (8, [.int 0, .ref (g.2.2 0), .int 0])), (cl, .inr (1, [.int 3, .int p0, .int p1, .int 0, .int 0]))]) (wr := ([(x, .inr (6, [.ref (ad 0), .ref ag, .ref wo, .ref dy]))] ++ wsW g ad (-1) 1 0 ea σ0)) E hA [33, 1] [0, 2, 3, 4, 5, 6, 7, 8, 9, 10, 11, 12, 13, 14, 15, 16, 17, 18, 19, 20, 21, 22, 23, 24, 25, 26, 27, 28, 29, 30, 31, 32] rfl rfl rfl rfl (by decide)) E (fun r2 u2 H locs hp E => ?_)
  have E : Ev g _ s.heap H locs ([(x, .inr (6, [.ref (ad 0), .ref ag, .ref wo, .ref dy]))] ++ wsW g ad (-1) 1 0 ea σ0 ++ [(dy, .inr (8, [.int 1, .ref u2, .int 1])), (cl, .inr (1, [.int 3, .int p0, .int p1, .int 0, .int 0])), (u2, .inl (g.2.1 4, 10, .inr (.inr (.inr (.inr (va_up (fun _ => none) (0 : Int32).toNatClampNeg (some cl)))))))]) := E
  subst hp
  refine lv_pop hx hb dX6_carryOut_21 rfl ?_
  refine lv_aload_n hx hb dX6_carryOut_22 rfl (lv_at hl 0 rfl) ?_
  refine wg_X6_14 (v := .ref (ad 0)) S hK E 0 rfl rfl dX6_carryOut_23 ?_
  refine lv_aload_n hx hb dX6_carryOut_26 rfl (lv_at hl 1 rfl) ?_
  refine w_retvM (runV_X (As := [.ref cl]) (rest := []) (q0 := 0) (n := 1) S hml hK (hZ.at E) (Cut.of (wc := (wsF g ad (-1) 1 0 (cl, .inr (1, [.int 3, .int p0, .int p1, .int 0, .int 0])) ea σ0)) (wr := [(x, .inr (6, [.ref (ad 0), .ref ag, .ref wo, .ref dy])), (dy, .inr (8, [.int 1, .ref u2, .int 1])), (u2, .inl (g.2.1 4, 10, .inr (.inr (.inr (.inr (va_up (fun _ => none) (0 : Int32).toNatClampNeg (some cl)))))))]) E hA [1, 2, 3, 4, 5, 6, 7, 8, 9, 10, 11, 12, 13, 14, 15, 16, 17, 18, 19, 20, 21, 22, 23, 24, 25, 26, 27, 28, 29, 30, 31, 33] [0, 32, 34] rfl rfl rfl rfl (by decide)) (c_X5_follow_3 l g cl ad (-1) 1 0 ea σ0 p0 p1 0 0 hp0 σ0_wf (Or.inr rfl) σ0_ev (by decide) _ _) (gi_wsV ml_X6_236 im_X5_follow sl_X5_follow in_X5 co_X5_follow) ⟨rfl, by decide +kernel, by decide +kernel, by decide +kernel⟩ ⟨Nat.le_of_ble_eq_true rfl, Nat.le_of_ble_eq_true rfl⟩ rfl rfl rfl hl.1 rfl (Nat.le_of_ble_eq_true rfl) dX6_carryOut_27 ⟨Nat.le_of_ble_eq_true rfl, Nat.le_of_ble_eq_true rfl⟩) (Cut.of (wc := (wsF g ad (-1) 1 0 (cl, .inr (1, [.int 3, .int p0, .int p1, .int 0, .int 0])) ea σ0)) (wr := [(x, .inr (6, [.ref (ad 0), .ref ag, .ref wo, .ref dy])), (dy, .inr (8, [.int 1, .ref u2, .int 1])), (u2, .inl (g.2.1 4, 10, .inr (.inr (.inr (.inr (va_up (fun _ => none) (0 : Int32).toNatClampNeg (some cl)))))))]) E hA [1, 2, 3, 4, 5, 6, 7, 8, 9, 10, 11, 12, 13, 14, 15, 16, 17, 18, 19, 20, 21, 22, 23, 24, 25, 26, 27, 28, 29, 30, 31, 33] [0, 32, 34] rfl rfl rfl rfl (by decide)) E (fun u H locs hp E => ?_)
  obtain ⟨u1, ea1⟩ := u
  have hp : u1 = f_X5_follow_3 σ0 (-1) p0 p1 0 0 := hp
  have E : Ev g _ s.heap H locs [(x, .inr (6, [.ref (ad 0), .ref ag, .ref wo, .ref dy]))] := Ev.sub E [0] rfl rfl
  exact x_vret () S hr hlk hsz htt hK E dX6_carryOut_30 trivial rfl ⟨Nat.le_of_ble_eq_true rfl, Nat.le_of_ble_eq_true rfl⟩ ⟨Nat.le_of_ble_eq_true rfl, Nat.le_of_ble_eq_true rfl⟩

set_option maxHeartbeats 4000000 in
set_option maxRecDepth 100000 in
/-- carryOut, kind 4 -/
theorem c_co4 (l : Launch) (g : Gm) (x : Nat) (ag : Nat) (wo : Nat) (dy : Nat) (ad : Nat → Nat) (ea : Nat) (cl : Nat) (p0 : Int32) (p1 : Int32) (hp0 : vp_in p0 8) : MXv (S := Unit) l g yX6_carryOut cX6_carryOut 2 ({ frames := 5, cells := 13, slots := 100010, locals := 101 } : Room) [.ref x, .ref cl] ([(x, .inr (6, [.ref (ad 0), .ref ag, .ref wo, .ref dy])), (dy, .inr (8, [.int 0, .ref (g.2.2 0), .int 0])), (cl, .inr (1, [.int 4, .int p0, .int p1, .int 0, .int 0]))] ++ wsW g ad (-1) 1 0 ea σ0) (fun _ => True) (fun _ => [(x, .inr (6, [.ref (ad 0), .ref ag, .ref wo, .ref dy]))]) (fun _ => (13, 100010)) := by
  intro sz tt
  refine ofX RX6 rfl (by decide +kernel) (Nat.le_of_ble_eq_true rfl) (fun p e s m args below meth c hargs S hml hr hlk hnm hsz htt hK hA hZ E ls hl => ?_)
  have hx := S.1
  have hb := S.2.1
  have hl : lv_has ls 2 [(0, .ref x), (1, .ref cl)] := hl
  refine lv_aload_n hx hb dX6_carryOut_0 rfl (lv_at hl 0 rfl) ?_
  refine wg_X6_28 (v := .ref dy) S hK E 0 rfl rfl dX6_carryOut_1 ?_
  refine w_reti (runV_X (As := []) (rest := []) (q0 := 0) (n := 0) S hml hK (hZ.at E) (Cut.of (wc := [(dy, .inr (8, [.int 0, .ref (g.2.2 0), .int 0]))]) (wr := ([(x, .inr (6, [.ref (ad 0), .ref ag, .ref wo, .ref dy])), (cl, .inr (1, [.int 4, .int p0, .int p1, .int 0, .int 0]))] ++ wsW g ad (-1) 1 0 ea σ0)) E hA [1] [0, 2, 3, 4, 5, 6, 7, 8, 9, 10, 11, 12, 13, 14, 15, 16, 17, 18, 19, 20, 21, 22, 23, 24, 25, 26, 27, 28, 29, 30, 31, 32, 33] rfl rfl rfl rfl (by decide)) (c_Jx4a65c_size_8abf5 l g dy 0 0 (g.2.2 0) _ _) (gi_wsV ml_X6_229 im_Jx4a65c_size_8abf5 sl_Jx4a65c_size_8abf5 in_Jx4a65c co_Jx4a65c_size_8abf5) ⟨rfl, by decide +kernel, by decide +kernel, by decide +kernel⟩ ⟨Nat.le_of_ble_eq_true rfl, Nat.le_of_ble_eq_true rfl⟩ rfl rfl rfl hl.1 rfl (Nat.le_of_ble_eq_true rfl) dX6_carryOut_4 ⟨Nat.le_of_ble_eq_true rfl, Nat.le_of_ble_eq_true rfl⟩) (Cut.of (wc := [(dy, .inr (8, [.int 0, .ref (g.2.2 0), .int 0]))]) (wr := ([(x, .inr (6, [.ref (ad 0), .ref ag, .ref wo, .ref dy])), (cl, .inr (1, [.int 4, .int p0, .int p1, .int 0, .int 0]))] ++ wsW g ad (-1) 1 0 ea σ0)) E hA [1] [0, 2, 3, 4, 5, 6, 7, 8, 9, 10, 11, 12, 13, 14, 15, 16, 17, 18, 19, 20, 21, 22, 23, 24, 25, 26, 27, 28, 29, 30, 31, 32, 33] rfl rfl rfl rfl (by decide)) E (fun r1 u1 H locs hp E => ?_)
  have E : Ev g _ s.heap H locs ([(x, .inr (6, [.ref (ad 0), .ref ag, .ref wo, .ref dy])), (cl, .inr (1, [.int 4, .int p0, .int p1, .int 0, .int 0]))] ++ wsW g ad (-1) 1 0 ea σ0 ++ [(dy, .inr (8, [.int 0, .ref (g.2.2 0), .int 0]))]) := E
  subst hp
  refine lv_sipush (v := 512) hx hb dX6_carryOut_7 (by decide) ?_
  refine lv_icmp_ge (tgt := 22) hx hb dX6_carryOut_10 (by decide) (fun c_ => absurd c_ (show ¬ ((512 : Int32) ≤ (0 : Int32)) by decide)) (fun _ => ?_)
  refine lv_aload_n hx hb dX6_carryOut_13 rfl (lv_at hl 0 rfl) ?_
  refine wg_X6_28 (v := .ref dy) S hK E 0 rfl rfl dX6_carryOut_14 ?_
  refine lv_aload_n hx hb dX6_carryOut_17 rfl (lv_at hl 1 rfl) ?_
  refine w_reti (runV_X (As := [.ref cl]) (rest := []) (q0 := 0) (n := 1) S hml hK (hZ.at E) (Cut.of (wc := [(dy, .inr (8, [.int 0, .ref (g.2.2 0), .int 0])), (cl, .inr (1, [.int 4, .int p0, .int p1, .int 0, .int 0]))]) (wr := ([(x, .inr (6, [.ref (ad 0), .ref ag, .ref wo, .ref dy]))] ++ wsW g ad (-1) 1 0 ea σ0)) E hA [33, 1] [0, 2, 3, 4, 5, 6, 7, 8, 9, 10, 11, 12, 13, 14, 15, 16, 17, 18, 19, 20, 21, 22, 23, 24, 25, 26, 27, 28, 29, 30, 31, 32] rfl rfl rfl rfl (by decide)) (c_ad1 l g dy cl (.inr (1, [.int 4, .int p0, .int p1, .int 0, .int 0])) any_X1 _ _) (gi_wsV ml_X6_232 im_Jx4a65c_add_9ea2d sl_Jx4a65c_add_9ea2d in_Jx4a65c co_Jx4a65c_add_9ea2d) ⟨rfl, by decide +kernel, by decide +kernel, by decide +kernel⟩ ⟨Nat.le_of_ble_eq_true rfl, Nat.le_of_ble_eq_true rfl⟩ rfl rfl rfl hl.1 rfl (Nat.le_of_ble_eq_true rfl) dX6_carryOut_18 ⟨Nat.le_of_ble_eq_true rfl, Nat.le_of_ble_eq_true rfl⟩) (Cut.of (wc := [(dy, .inr (8, [.int 0, .ref (g.2.2 0), .int 0])), (cl, .inr (1, [.int 4, .int p0, .int p1, .int 0, .int 0]))]) (wr := ([(x, .inr (6, [.ref (ad 0), .ref ag, .ref wo, .ref dy]))] ++ wsW g ad (-1) 1 0 ea σ0)) E hA [33, 1] [0, 2, 3, 4, 5, 6, 7, 8, 9, 10, 11, 12, 13, 14, 15, 16, 17, 18, 19, 20, 21, 22, 23, 24, 25, 26, 27, 28, 29, 30, 31, 32] rfl rfl rfl rfl (by decide)) E (fun r2 u2 H locs hp E => ?_)
  have E : Ev g _ s.heap H locs ([(x, .inr (6, [.ref (ad 0), .ref ag, .ref wo, .ref dy]))] ++ wsW g ad (-1) 1 0 ea σ0 ++ [(dy, .inr (8, [.int 1, .ref u2, .int 1])), (cl, .inr (1, [.int 4, .int p0, .int p1, .int 0, .int 0])), (u2, .inl (g.2.1 4, 10, .inr (.inr (.inr (.inr (va_up (fun _ => none) (0 : Int32).toNatClampNeg (some cl)))))))]) := E
  subst hp
  refine lv_pop hx hb dX6_carryOut_21 rfl ?_
  refine lv_aload_n hx hb dX6_carryOut_22 rfl (lv_at hl 0 rfl) ?_
  refine wg_X6_14 (v := .ref (ad 0)) S hK E 0 rfl rfl dX6_carryOut_23 ?_
  refine lv_aload_n hx hb dX6_carryOut_26 rfl (lv_at hl 1 rfl) ?_
  refine w_retvM (runV_X (As := [.ref cl]) (rest := []) (q0 := 0) (n := 1) S hml hK (hZ.at E) (Cut.of (wc := (wsF g ad (-1) 1 0 (cl, .inr (1, [.int 4, .int p0, .int p1, .int 0, .int 0])) ea σ0)) (wr := [(x, .inr (6, [.ref (ad 0), .ref ag, .ref wo, .ref dy])), (dy, .inr (8, [.int 1, .ref u2, .int 1])), (u2, .inl (g.2.1 4, 10, .inr (.inr (.inr (.inr (va_up (fun _ => none) (0 : Int32).toNatClampNeg (some cl)))))))]) E hA [1, 2, 3, 4, 5, 6, 7, 8, 9, 10, 11, 12, 13, 14, 15, 16, 17, 18, 19, 20, 21, 22, 23, 24, 25, 26, 27, 28, 29, 30, 31, 33] [0, 32, 34] rfl rfl rfl rfl (by decide)) (c_X5_follow_4 l g cl ad (-1) 1 0 ea σ0 p0 p1 0 0 hp0 σ0_wf (Or.inr rfl) σ0_ev (by decide) _ _) (gi_wsV ml_X6_236 im_X5_follow sl_X5_follow in_X5 co_X5_follow) ⟨rfl, by decide +kernel, by decide +kernel, by decide +kernel⟩ ⟨Nat.le_of_ble_eq_true rfl, Nat.le_of_ble_eq_true rfl⟩ rfl rfl rfl hl.1 rfl (Nat.le_of_ble_eq_true rfl) dX6_carryOut_27 ⟨Nat.le_of_ble_eq_true rfl, Nat.le_of_ble_eq_true rfl⟩) (Cut.of (wc := (wsF g ad (-1) 1 0 (cl, .inr (1, [.int 4, .int p0, .int p1, .int 0, .int 0])) ea σ0)) (wr := [(x, .inr (6, [.ref (ad 0), .ref ag, .ref wo, .ref dy])), (dy, .inr (8, [.int 1, .ref u2, .int 1])), (u2, .inl (g.2.1 4, 10, .inr (.inr (.inr (.inr (va_up (fun _ => none) (0 : Int32).toNatClampNeg (some cl)))))))]) E hA [1, 2, 3, 4, 5, 6, 7, 8, 9, 10, 11, 12, 13, 14, 15, 16, 17, 18, 19, 20, 21, 22, 23, 24, 25, 26, 27, 28, 29, 30, 31, 33] [0, 32, 34] rfl rfl rfl rfl (by decide)) E (fun u H locs hp E => ?_)
  obtain ⟨u1, ea1⟩ := u
  have hp : u1 = f_X5_follow_4 σ0 (-1) p0 p1 0 0 := hp
  have E : Ev g _ s.heap H locs [(x, .inr (6, [.ref (ad 0), .ref ag, .ref wo, .ref dy]))] := Ev.sub E [0] rfl rfl
  exact x_vret () S hr hlk hsz htt hK E dX6_carryOut_30 trivial rfl ⟨Nat.le_of_ble_eq_true rfl, Nat.le_of_ble_eq_true rfl⟩ ⟨Nat.le_of_ble_eq_true rfl, Nat.le_of_ble_eq_true rfl⟩

set_option maxHeartbeats 4000000 in
set_option maxRecDepth 100000 in
/-- carryOut, kind 5 -/
theorem c_co5 (l : Launch) (g : Gm) (x : Nat) (ag : Nat) (wo : Nat) (dy : Nat) (ad : Nat → Nat) (ea : Nat) (cl : Nat) (p0 : Int32) (p1 : Int32) (p2 : Int32) (hp0 : vp_in p0 8) : MXv (S := Unit) l g yX6_carryOut cX6_carryOut 2 ({ frames := 5, cells := 13, slots := 100010, locals := 101 } : Room) [.ref x, .ref cl] ([(x, .inr (6, [.ref (ad 0), .ref ag, .ref wo, .ref dy])), (dy, .inr (8, [.int 0, .ref (g.2.2 0), .int 0])), (cl, .inr (1, [.int 5, .int p0, .int p1, .int p2, .int 0]))] ++ wsW g ad (-1) 1 0 ea σ0) (fun _ => True) (fun _ => [(x, .inr (6, [.ref (ad 0), .ref ag, .ref wo, .ref dy]))]) (fun _ => (13, 100010)) := by
  intro sz tt
  refine ofX RX6 rfl (by decide +kernel) (Nat.le_of_ble_eq_true rfl) (fun p e s m args below meth c hargs S hml hr hlk hnm hsz htt hK hA hZ E ls hl => ?_)
  have hx := S.1
  have hb := S.2.1
  have hl : lv_has ls 2 [(0, .ref x), (1, .ref cl)] := hl
  refine lv_aload_n hx hb dX6_carryOut_0 rfl (lv_at hl 0 rfl) ?_
  refine wg_X6_28 (v := .ref dy) S hK E 0 rfl rfl dX6_carryOut_1 ?_
  refine w_reti (runV_X (As := []) (rest := []) (q0 := 0) (n := 0) S hml hK (hZ.at E) (Cut.of (wc := [(dy, .inr (8, [.int 0, .ref (g.2.2 0), .int 0]))]) (wr := ([(x, .inr (6, [.ref (ad 0), .ref ag, .ref wo, .ref dy])), (cl, .inr (1, [.int 5, .int p0, .int p1, .int p2, .int 0]))] ++ wsW g ad (-1) 1 0 ea σ0)) E hA [1] [0, 2, 3, 4, 5, 6, 7, 8, 9, 10, 11, 12, 13, 14, 15, 16, 17, 18, 19, 20, 21, 22, 23, 24, 25, 26, 27, 28, 29, 30, 31, 32, 33] rfl rfl rfl rfl (by decide)) (c_Jx4a65c_size_8abf5 l g dy 0 0 (g.2.2 0) _ _) (gi_wsV ml_X6_229 im_Jx4a65c_size_8abf5 sl_Jx4a65c_size_8abf5 in_Jx4a65c co_Jx4a65c_size_8abf5) ⟨rfl, by decide +kernel, by decide +kernel, by decide +kernel⟩ ⟨Nat.le_of_ble_eq_true rfl, Nat.le_of_ble_eq_true rfl⟩ rfl rfl rfl hl.1 rfl (Nat.le_of_ble_eq_true rfl) dX6_carryOut_4 ⟨Nat.le_of_ble_eq_true rfl, Nat.le_of_ble_eq_true rfl⟩) (Cut.of (wc := [(dy, .inr (8, [.int 0, .ref (g.2.2 0), .int 0]))]) (wr := ([(x, .inr (6, [.ref (ad 0), .ref ag, .ref wo, .ref dy])), (cl, .inr (1, [.int 5, .int p0, .int p1, .int p2, .int 0]))] ++ wsW g ad (-1) 1 0 ea σ0)) E hA [1] [0, 2, 3, 4, 5, 6, 7, 8, 9, 10, 11, 12, 13, 14, 15, 16, 17, 18, 19, 20, 21, 22, 23, 24, 25, 26, 27, 28, 29, 30, 31, 32, 33] rfl rfl rfl rfl (by decide)) E (fun r1 u1 H locs hp E => ?_)
  have E : Ev g _ s.heap H locs ([(x, .inr (6, [.ref (ad 0), .ref ag, .ref wo, .ref dy])), (cl, .inr (1, [.int 5, .int p0, .int p1, .int p2, .int 0]))] ++ wsW g ad (-1) 1 0 ea σ0 ++ [(dy, .inr (8, [.int 0, .ref (g.2.2 0), .int 0]))]) := E
  subst hp
  refine lv_sipush (v := 512) hx hb dX6_carryOut_7 (by decide) ?_
  refine lv_icmp_ge (tgt := 22) hx hb dX6_carryOut_10 (by decide) (fun c_ => absurd c_ (show ¬ ((512 : Int32) ≤ (0 : Int32)) by decide)) (fun _ => ?_)
  refine lv_aload_n hx hb dX6_carryOut_13 rfl (lv_at hl 0 rfl) ?_
  refine wg_X6_28 (v := .ref dy) S hK E 0 rfl rfl dX6_carryOut_14 ?_
  refine lv_aload_n hx hb dX6_carryOut_17 rfl (lv_at hl 1 rfl) ?_
  refine w_reti (runV_X (As := [.ref cl]) (rest := []) (q0 := 0) (n := 1) S hml hK (hZ.at E) (Cut.of (wc := [(dy, .inr (8, [.int 0, .ref (g.2.2 0), .int 0])), (cl, .inr (1, [.int 5, .int p0, .int p1, .int p2, .int 0]))]) (wr := ([(x, .inr (6, [.ref (ad 0), .ref ag, .ref wo, .ref dy]))] ++ wsW g ad (-1) 1 0 ea σ0)) E hA [33, 1] [0, 2, 3, 4, 5, 6, 7, 8, 9, 10, 11, 12, 13, 14, 15, 16, 17, 18, 19, 20, 21, 22, 23, 24, 25, 26, 27, 28, 29, 30, 31, 32] rfl rfl rfl rfl (by decide)) (c_ad1 l g dy cl (.inr (1, [.int 5, .int p0, .int p1, .int p2, .int 0])) any_X1 _ _) (gi_wsV ml_X6_232 im_Jx4a65c_add_9ea2d sl_Jx4a65c_add_9ea2d in_Jx4a65c co_Jx4a65c_add_9ea2d) ⟨rfl, by decide +kernel, by decide +kernel, by decide +kernel⟩ ⟨Nat.le_of_ble_eq_true rfl, Nat.le_of_ble_eq_true rfl⟩ rfl rfl rfl hl.1 rfl (Nat.le_of_ble_eq_true rfl) dX6_carryOut_18 ⟨Nat.le_of_ble_eq_true rfl, Nat.le_of_ble_eq_true rfl⟩) (Cut.of (wc := [(dy, .inr (8, [.int 0, .ref (g.2.2 0), .int 0])), (cl, .inr (1, [.int 5, .int p0, .int p1, .int p2, .int 0]))]) (wr := ([(x, .inr (6, [.ref (ad 0), .ref ag, .ref wo, .ref dy]))] ++ wsW g ad (-1) 1 0 ea σ0)) E hA [33, 1] [0, 2, 3, 4, 5, 6, 7, 8, 9, 10, 11, 12, 13, 14, 15, 16, 17, 18, 19, 20, 21, 22, 23, 24, 25, 26, 27, 28, 29, 30, 31, 32] rfl rfl rfl rfl (by decide)) E (fun r2 u2 H locs hp E => ?_)
  have E : Ev g _ s.heap H locs ([(x, .inr (6, [.ref (ad 0), .ref ag, .ref wo, .ref dy]))] ++ wsW g ad (-1) 1 0 ea σ0 ++ [(dy, .inr (8, [.int 1, .ref u2, .int 1])), (cl, .inr (1, [.int 5, .int p0, .int p1, .int p2, .int 0])), (u2, .inl (g.2.1 4, 10, .inr (.inr (.inr (.inr (va_up (fun _ => none) (0 : Int32).toNatClampNeg (some cl)))))))]) := E
  subst hp
  refine lv_pop hx hb dX6_carryOut_21 rfl ?_
  refine lv_aload_n hx hb dX6_carryOut_22 rfl (lv_at hl 0 rfl) ?_
  refine wg_X6_14 (v := .ref (ad 0)) S hK E 0 rfl rfl dX6_carryOut_23 ?_
  refine lv_aload_n hx hb dX6_carryOut_26 rfl (lv_at hl 1 rfl) ?_
  refine w_retvM (runV_X (As := [.ref cl]) (rest := []) (q0 := 0) (n := 1) S hml hK (hZ.at E) (Cut.of (wc := (wsF g ad (-1) 1 0 (cl, .inr (1, [.int 5, .int p0, .int p1, .int p2, .int 0])) ea σ0)) (wr := [(x, .inr (6, [.ref (ad 0), .ref ag, .ref wo, .ref dy])), (dy, .inr (8, [.int 1, .ref u2, .int 1])), (u2, .inl (g.2.1 4, 10, .inr (.inr (.inr (.inr (va_up (fun _ => none) (0 : Int32).toNatClampNeg (some cl)))))))]) E hA [1, 2, 3, 4, 5, 6, 7, 8, 9, 10, 11, 12, 13, 14, 15, 16, 17, 18, 19, 20, 21, 22, 23, 24, 25, 26, 27, 28, 29, 30, 31, 33] [0, 32, 34] rfl rfl rfl rfl (by decide)) (c_X5_follow_5 l g cl ad (-1) 1 0 ea σ0 p0 p1 p2 0 hp0 σ0_wf (Or.inr rfl) σ0_ev (by decide) _ _) (gi_wsV ml_X6_236 im_X5_follow sl_X5_follow in_X5 co_X5_follow) ⟨rfl, by decide +kernel, by decide +kernel, by decide +kernel⟩ ⟨Nat.le_of_ble_eq_true rfl, Nat.le_of_ble_eq_true rfl⟩ rfl rfl rfl hl.1 rfl (Nat.le_of_ble_eq_true rfl) dX6_carryOut_27 ⟨Nat.le_of_ble_eq_true rfl, Nat.le_of_ble_eq_true rfl⟩) (Cut.of (wc := (wsF g ad (-1) 1 0 (cl, .inr (1, [.int 5, .int p0, .int p1, .int p2, .int 0])) ea σ0)) (wr := [(x, .inr (6, [.ref (ad 0), .ref ag, .ref wo, .ref dy])), (dy, .inr (8, [.int 1, .ref u2, .int 1])), (u2, .inl (g.2.1 4, 10, .inr (.inr (.inr (.inr (va_up (fun _ => none) (0 : Int32).toNatClampNeg (some cl)))))))]) E hA [1, 2, 3, 4, 5, 6, 7, 8, 9, 10, 11, 12, 13, 14, 15, 16, 17, 18, 19, 20, 21, 22, 23, 24, 25, 26, 27, 28, 29, 30, 31, 33] [0, 32, 34] rfl rfl rfl rfl (by decide)) E (fun u H locs hp E => ?_)
  obtain ⟨u1, ea1⟩ := u
  have hp : u1 = f_X5_follow_5 σ0 (-1) p0 p1 p2 0 := hp
  have E : Ev g _ s.heap H locs [(x, .inr (6, [.ref (ad 0), .ref ag, .ref wo, .ref dy]))] := Ev.sub E [0] rfl rfl
  exact x_vret () S hr hlk hsz htt hK E dX6_carryOut_30 trivial rfl ⟨Nat.le_of_ble_eq_true rfl, Nat.le_of_ble_eq_true rfl⟩ ⟨Nat.le_of_ble_eq_true rfl, Nat.le_of_ble_eq_true rfl⟩

set_option maxHeartbeats 4000000 in
set_option maxRecDepth 100000 in
/-- carryOut, kind 6 -/
theorem c_co6 (l : Launch) (g : Gm) (x : Nat) (ag : Nat) (wo : Nat) (dy : Nat) (ad : Nat → Nat) (ea : Nat) (cl : Nat) (p0 : Int32) : MXv (S := Unit) l g yX6_carryOut cX6_carryOut 2 ({ frames := 5, cells := 13, slots := 100010, locals := 101 } : Room) [.ref x, .ref cl] ([(x, .inr (6, [.ref (ad 0), .ref ag, .ref wo, .ref dy])), (dy, .inr (8, [.int 0, .ref (g.2.2 0), .int 0])), (cl, .inr (1, [.int 6, .int p0, .int 0, .int 0, .int 0]))] ++ wsW g ad (-1) 1 0 ea σ0) (fun _ => True) (fun _ => [(x, .inr (6, [.ref (ad 0), .ref ag, .ref wo, .ref dy]))]) (fun _ => (13, 100010)) := by
  intro sz tt
  refine ofX RX6 rfl (by decide +kernel) (Nat.le_of_ble_eq_true rfl) (fun p e s m args below meth c hargs S hml hr hlk hnm hsz htt hK hA hZ E ls hl => ?_)
  have hx := S.1
  have hb := S.2.1
  have hl : lv_has ls 2 [(0, .ref x), (1, .ref cl)] := hl
  refine lv_aload_n hx hb dX6_carryOut_0 rfl (lv_at hl 0 rfl) ?_
  refine wg_X6_28 (v := .ref dy) S hK E 0 rfl rfl dX6_carryOut_1 ?_
  refine w_reti (runV_X (As := []) (rest := []) (q0 := 0) (n := 0) S hml hK (hZ.at E) (Cut.of (wc := [(dy, .inr (8, [.int 0, .ref (g.2.2 0), .int 0]))]) (wr := ([(x, .inr (6, [.ref (ad 0), .ref ag, .ref wo, .ref dy])), (cl, .inr (1, [.int 6, .int p0, .int 0, .int 0, .int 0]))] ++ wsW g ad (-1) 1 0 ea σ0)) E hA [1] [0, 2, 3, 4, 5, 6, 7, 8, 9, 10, 11, 12, 13, 14, 15, 16, 17, 18, 19, 20, 21, 22, 23, 24, 25, 26, 27, 28, 29, 30, 31, 32, 33] rfl rfl rfl rfl (by decide)) (c_Jx4a65c_size_8abf5 l g dy 0 0 (g.2.2 0) _ _) (gi_wsV ml_X6_229 im_Jx4a65c_size_8abf5 sl_Jx4a65c_size_8abf5 in_Jx4a65c co_Jx4a65c_size_8abf5) ⟨rfl, by decide +kernel, by decide +kernel, by decide +kernel⟩ ⟨Nat.le_of_ble_eq_true rfl, Nat.le_of_ble_eq_true rfl⟩ rfl rfl rfl hl.1 rfl (Nat.le_of_ble_eq_true rfl) dX6_carryOut_4 ⟨Nat.le_of_ble_eq_true rfl, Nat.le_of_ble_eq_true rfl⟩) (Cut.of (wc := [(dy, .inr (8, [.int 0, .ref (g.2.2 0), .int 0]))]) (wr := ([(x, .inr (6, [.ref (ad 0), .ref ag, .ref wo, .ref dy])), (cl, .inr (1, [.int 6, .int p0, .int 0, .int 0, .int 0]))] ++ wsW g ad (-1) 1 0 ea σ0)) E hA [1] [0, 2, 3, 4, 5, 6, 7, 8, 9, 10, 11, 12, 13, 14, 15, 16, 17, 18, 19, 20, 21, 22, 23, 24, 25, 26, 27, 28, 29, 30, 31, 32, 33] rfl rfl rfl rfl (by decide)) E (fun r1 u1 H locs hp E => ?_)
  have E : Ev g _ s.heap H locs ([(x, .inr (6, [.ref (ad 0), .ref ag, .ref wo, .ref dy])), (cl, .inr (1, [.int 6, .int p0, .int 0, .int 0, .int 0]))] ++ wsW g ad (-1) 1 0 ea σ0 ++ [(dy, .inr (8, [.int 0, .ref (g.2.2 0), .int 0]))]) := E
  subst hp
  refine lv_sipush (v := 512) hx hb dX6_carryOut_7 (by decide) ?_
  refine lv_icmp_ge (tgt := 22) hx hb dX6_carryOut_10 (by decide) (fun c_ => absurd c_ (show ¬ ((512 : Int32) ≤ (0 : Int32)) by decide)) (fun _ => ?_)
  refine lv_aload_n hx hb dX6_carryOut_13 rfl (lv_at hl 0 rfl) ?_
  refine wg_X6_28 (v := .ref dy) S hK E 0 rfl rfl dX6_carryOut_14 ?_
  refine lv_aload_n hx hb dX6_carryOut_17 rfl (lv_at hl 1 rfl) ?_
  refine w_reti (runV_X (As := [.ref cl]) (rest := []) (q0 := 0) (n := 1) S hml hK (hZ.at E) (Cut.of (wc := [(dy, .inr (8, [.int 0, .ref (g.2.2 0), .int 0])), (cl, .inr (1, [.int 6, .int p0, .int 0, .int 0, .int 0]))]) (wr := ([(x, .inr (6, [.ref (ad 0), .ref ag, .ref wo, .ref dy]))] ++ wsW g ad (-1) 1 0 ea σ0)) E hA [33, 1] [0, 2, 3, 4, 5, 6, 7, 8, 9, 10, 11, 12, 13, 14, 15, 16, 17, 18, 19, 20, 21, 22, 23, 24, 25, 26, 27, 28, 29, 30, 31, 32] rfl rfl rfl rfl (by decide)) (c_ad1 l g dy cl (.inr (1, [.int 6, .int p0, .int 0, .int 0, .int 0])) any_X1 _ _) (gi_wsV ml_X6_232 im_Jx4a65c_add_9ea2d sl_Jx4a65c_add_9ea2d in_Jx4a65c co_Jx4a65c_add_9ea2d) ⟨rfl, by decide +kernel, by decide +kernel, by decide +kernel⟩ ⟨Nat.le_of_ble_eq_true rfl, Nat.le_of_ble_eq_true rfl⟩ rfl rfl rfl hl.1 rfl (Nat.le_of_ble_eq_true rfl) dX6_carryOut_18 ⟨Nat.le_of_ble_eq_true rfl, Nat.le_of_ble_eq_true rfl⟩) (Cut.of (wc := [(dy, .inr (8, [.int 0, .ref (g.2.2 0), .int 0])), (cl, .inr (1, [.int 6, .int p0, .int 0, .int 0, .int 0]))]) (wr := ([(x, .inr (6, [.ref (ad 0), .ref ag, .ref wo, .ref dy]))] ++ wsW g ad (-1) 1 0 ea σ0)) E hA [33, 1] [0, 2, 3, 4, 5, 6, 7, 8, 9, 10, 11, 12, 13, 14, 15, 16, 17, 18, 19, 20, 21, 22, 23, 24, 25, 26, 27, 28, 29, 30, 31, 32] rfl rfl rfl rfl (by decide)) E (fun r2 u2 H locs hp E => ?_)
  have E : Ev g _ s.heap H locs ([(x, .inr (6, [.ref (ad 0), .ref ag, .ref wo, .ref dy]))] ++ wsW g ad (-1) 1 0 ea σ0 ++ [(dy, .inr (8, [.int 1, .ref u2, .int 1])), (cl, .inr (1, [.int 6, .int p0, .int 0, .int 0, .int 0])), (u2, .inl (g.2.1 4, 10, .inr (.inr (.inr (.inr (va_up (fun _ => none) (0 : Int32).toNatClampNeg (some cl)))))))]) := E
  subst hp
  refine lv_pop hx hb dX6_carryOut_21 rfl ?_
  refine lv_aload_n hx hb dX6_carryOut_22 rfl (lv_at hl 0 rfl) ?_
  refine wg_X6_14 (v := .ref (ad 0)) S hK E 0 rfl rfl dX6_carryOut_23 ?_
  refine lv_aload_n hx hb dX6_carryOut_26 rfl (lv_at hl 1 rfl) ?_
  refine w_retvM (runV_X (As := [.ref cl]) (rest := []) (q0 := 0) (n := 1) S hml hK (hZ.at E) (Cut.of (wc := (wsF g ad (-1) 1 0 (cl, .inr (1, [.int 6, .int p0, .int 0, .int 0, .int 0])) ea σ0)) (wr := [(x, .inr (6, [.ref (ad 0), .ref ag, .ref wo, .ref dy])), (dy, .inr (8, [.int 1, .ref u2, .int 1])), (u2, .inl (g.2.1 4, 10, .inr (.inr (.inr (.inr (va_up (fun _ => none) (0 : Int32).toNatClampNeg (some cl)))))))]) E hA [1, 2, 3, 4, 5, 6, 7, 8, 9, 10, 11, 12, 13, 14, 15, 16, 17, 18, 19, 20, 21, 22, 23, 24, 25, 26, 27, 28, 29, 30, 31, 33] [0, 32, 34] rfl rfl rfl rfl (by decide)) (c_X5_follow_6 l g cl ad (-1) 1 0 ea σ0 p0 0 0 0  σ0_wf (Or.inr rfl) σ0_ev (by decide) _ _) (gi_wsV ml_X6_236 im_X5_follow sl_X5_follow in_X5 co_X5_follow) ⟨rfl, by decide +kernel, by decide +kernel, by decide +kernel⟩ ⟨Nat.le_of_ble_eq_true rfl, Nat.le_of_ble_eq_true rfl⟩ rfl rfl rfl hl.1 rfl (Nat.le_of_ble_eq_true rfl) dX6_carryOut_27 ⟨Nat.le_of_ble_eq_true rfl, Nat.le_of_ble_eq_true rfl⟩) (Cut.of (wc := (wsF g ad (-1) 1 0 (cl, .inr (1, [.int 6, .int p0, .int 0, .int 0, .int 0])) ea σ0)) (wr := [(x, .inr (6, [.ref (ad 0), .ref ag, .ref wo, .ref dy])), (dy, .inr (8, [.int 1, .ref u2, .int 1])), (u2, .inl (g.2.1 4, 10, .inr (.inr (.inr (.inr (va_up (fun _ => none) (0 : Int32).toNatClampNeg (some cl)))))))]) E hA [1, 2, 3, 4, 5, 6, 7, 8, 9, 10, 11, 12, 13, 14, 15, 16, 17, 18, 19, 20, 21, 22, 23, 24, 25, 26, 27, 28, 29, 30, 31, 33] [0, 32, 34] rfl rfl rfl rfl (by decide)) E (fun u H locs hp E => ?_)
  obtain ⟨u1, ea1⟩ := u
  have hp : u1 = f_X5_follow_6 σ0 (-1) p0 0 0 0 := hp
  have E : Ev g _ s.heap H locs [(x, .inr (6, [.ref (ad 0), .ref ag, .ref wo, .ref dy]))] := Ev.sub E [0] rfl rfl
  exact x_vret () S hr hlk hsz htt hK E dX6_carryOut_30 trivial rfl ⟨Nat.le_of_ble_eq_true rfl, Nat.le_of_ble_eq_true rfl⟩ ⟨Nat.le_of_ble_eq_true rfl, Nat.le_of_ble_eq_true rfl⟩

set_option maxHeartbeats 4000000 in
set_option maxRecDepth 100000 in
/-- carryOut, kind 7 -/
theorem c_co7 (l : Launch) (g : Gm) (x : Nat) (ag : Nat) (wo : Nat) (dy : Nat) (ad : Nat → Nat) (ea : Nat) (cl : Nat) (p0 : Int32) : MXv (S := Unit) l g yX6_carryOut cX6_carryOut 2 ({ frames := 5, cells := 13, slots := 100010, locals := 101 } : Room) [.ref x, .ref cl] ([(x, .inr (6, [.ref (ad 0), .ref ag, .ref wo, .ref dy])), (dy, .inr (8, [.int 0, .ref (g.2.2 0), .int 0])), (cl, .inr (1, [.int 7, .int p0, .int 0, .int 0, .int 0]))] ++ wsW g ad (-1) 1 0 ea σ0) (fun _ => True) (fun _ => [(x, .inr (6, [.ref (ad 0), .ref ag, .ref wo, .ref dy]))]) (fun _ => (13, 100010)) := by
  intro sz tt
  refine ofX RX6 rfl (by decide +kernel) (Nat.le_of_ble_eq_true rfl) (fun p e s m args below meth c hargs S hml hr hlk hnm hsz htt hK hA hZ E ls hl => ?_)
  have hx := S.1
  have hb := S.2.1
  have hl : lv_has ls 2 [(0, .ref x), (1, .ref cl)] := hl
  refine lv_aload_n hx hb dX6_carryOut_0 rfl (lv_at hl 0 rfl) ?_
  refine wg_X6_28 (v := .ref dy) S hK E 0 rfl rfl dX6_carryOut_1 ?_
  refine w_reti (runV_X (As := []) (rest := []) (q0 := 0) (n := 0) S hml hK (hZ.at E) (Cut.of (wc := [(dy, .inr (8, [.int 0, .ref (g.2.2 0), .int 0]))]) (wr := ([(x, .inr (6, [.ref (ad 0), .ref ag, .ref wo, .ref dy])), (cl, .inr (1, [.int 7, .int p0, .int 0, .int 0, .int 0]))] ++ wsW g ad (-1) 1 0 ea σ0)) E hA [1] [0, 2, 3, 4, 5, 6, 7, 8, 9, 10, 11, 12, 13, 14, 15, 16, 17, 18, 19, 20, 21, 22, 23, 24, 25, 26, 27, 28, 29, 30, 31, 32, 33] rfl rfl rfl rfl (by decide)) (c_Jx4a65c_size_8abf5 l g dy 0 0 (g.2.2 0) _ _) (gi_wsV ml_X6_229 im_Jx4a65c_size_8abf5 sl_Jx4a65c_size_8abf5 in_Jx4a65c co_Jx4a65c_size_8abf5) ⟨rfl, by decide +kernel, by decide +kernel, by decide +kernel⟩ ⟨Nat.le_of_ble_eq_true rfl, Nat.le_of_ble_eq_true rfl⟩ rfl rfl rfl hl.1 rfl (Nat.le_of_ble_eq_true rfl) dX6_carryOut_4 ⟨Nat.le_of_ble_eq_true rfl, Nat.le_of_ble_eq_true rfl⟩) (Cut.of (wc := [(dy, .inr (8, [.int 0, .ref (g.2.2 0), .int 0]))]) (wr := ([(x, .inr (6, [.ref (ad 0), .ref ag, .ref wo, .ref dy])), (cl, .inr (1, [.int 7, .int p0, .int 0, .int 0, .int 0]))] ++ wsW g ad (-1) 1 0 ea σ0)) E hA [1] [0, 2, 3, 4, 5, 6, 7, 8, 9, 10, 11, 12, 13, 14, 15, 16, 17, 18, 19, 20, 21, 22, 23, 24, 25, 26, 27, 28, 29, 30, 31, 32, 33] rfl rfl rfl rfl (by decide)) E (fun r1 u1 H locs hp E => ?_)
  have E : Ev g _ s.heap H locs ([(x, .inr (6, [.ref (ad 0), .ref ag, .ref wo, .ref dy])), (cl, .inr (1, [.int 7, .int p0, .int 0, .int 0, .int 0]))] ++ wsW g ad (-1) 1 0 ea σ0 ++ [(dy, .inr (8, [.int 0, .ref (g.2.2 0), .int 0]))]) := E
  subst hp
  refine lv_sipush (v := 512) hx hb dX6_carryOut_7 (by decide) ?_
  refine lv_icmp_ge (tgt := 22) hx hb dX6_carryOut_10 (by decide) (fun c_ => absurd c_ (show ¬ ((512 : Int32) ≤ (0 : Int32)) by decide)) (fun _ => ?_)
  refine lv_aload_n hx hb dX6_carryOut_13 rfl (lv_at hl 0 rfl) ?_
  refine wg_X6_28 (v := .ref dy) S hK E 0 rfl rfl dX6_carryOut_14 ?_
  refine lv_aload_n hx hb dX6_carryOut_17 rfl (lv_at hl 1 rfl) ?_
  refine w_reti (runV_X (As := [.ref cl]) (rest := []) (q0 := 0) (n := 1) S hml hK (hZ.at E) (Cut.of (wc := [(dy, .inr (8, [.int 0, .ref (g.2.2 0), .int 0])), (cl, .inr (1, [.int 7, .int p0, .int 0, .int 0, .int 0]))]) (wr := ([(x, .inr (6, [.ref (ad 0), .ref ag, .ref wo, .ref dy]))] ++ wsW g ad (-1) 1 0 ea σ0)) E hA [33, 1] [0, 2, 3, 4, 5, 6, 7, 8, 9, 10, 11, 12, 13, 14, 15, 16, 17, 18, 19, 20, 21, 22, 23, 24, 25, 26, 27, 28, 29, 30, 31, 32] rfl rfl rfl rfl (by decide)) (c_ad1 l g dy cl (.inr (1, [.int 7, .int p0, .int 0, .int 0, .int 0])) any_X1 _ _) (gi_wsV ml_X6_232 im_Jx4a65c_add_9ea2d sl_Jx4a65c_add_9ea2d in_Jx4a65c co_Jx4a65c_add_9ea2d) ⟨rfl, by decide +kernel, by decide +kernel, by decide +kernel⟩ ⟨Nat.le_of_ble_eq_true rfl, Nat.le_of_ble_eq_true rfl⟩ rfl rfl rfl hl.1 rfl (Nat.le_of_ble_eq_true rfl) dX6_carryOut_18 ⟨Nat.le_of_ble_eq_true rfl, Nat.le_of_ble_eq_true rfl⟩) (Cut.of (wc := [(dy, .inr (8, [.int 0, .ref (g.2.2 0), .int 0])), (cl, .inr (1, [.int 7, .int p0, .int 0, .int 0, .int 0]))]) (wr := ([(x, .inr (6, [.ref (ad 0), .ref ag, .ref wo, .ref dy]))] ++ wsW g ad (-1) 1 0 ea σ0)) E hA [33, 1] [0, 2, 3, 4, 5, 6, 7, 8, 9, 10, 11, 12, 13, 14, 15, 16, 17, 18, 19, 20, 21, 22, 23, 24, 25, 26, 27, 28, 29, 30, 31, 32] rfl rfl rfl rfl (by decide)) E (fun r2 u2 H locs hp E => ?_)
  have E : Ev g _ s.heap H locs ([(x, .inr (6, [.ref (ad 0), .ref ag, .ref wo, .ref dy]))] ++ wsW g ad (-1) 1 0 ea σ0 ++ [(dy, .inr (8, [.int 1, .ref u2, .int 1])), (cl, .inr (1, [.int 7, .int p0, .int 0, .int 0, .int 0])), (u2, .inl (g.2.1 4, 10, .inr (.inr (.inr (.inr (va_up (fun _ => none) (0 : Int32).toNatClampNeg (some cl)))))))]) := E
  subst hp
  refine lv_pop hx hb dX6_carryOut_21 rfl ?_
  refine lv_aload_n hx hb dX6_carryOut_22 rfl (lv_at hl 0 rfl) ?_
  refine wg_X6_14 (v := .ref (ad 0)) S hK E 0 rfl rfl dX6_carryOut_23 ?_
  refine lv_aload_n hx hb dX6_carryOut_26 rfl (lv_at hl 1 rfl) ?_
  refine w_retvM (runV_X (As := [.ref cl]) (rest := []) (q0 := 0) (n := 1) S hml hK (hZ.at E) (Cut.of (wc := (wsF g ad (-1) 1 0 (cl, .inr (1, [.int 7, .int p0, .int 0, .int 0, .int 0])) ea σ0)) (wr := [(x, .inr (6, [.ref (ad 0), .ref ag, .ref wo, .ref dy])), (dy, .inr (8, [.int 1, .ref u2, .int 1])), (u2, .inl (g.2.1 4, 10, .inr (.inr (.inr (.inr (va_up (fun _ => none) (0 : Int32).toNatClampNeg (some cl)))))))]) E hA [1, 2, 3, 4, 5, 6, 7, 8, 9, 10, 11, 12, 13, 14, 15, 16, 17, 18, 19, 20, 21, 22, 23, 24, 25, 26, 27, 28, 29, 30, 31, 33] [0, 32, 34] rfl rfl rfl rfl (by decide)) (c_X5_follow_7 l g cl ad (-1) 1 0 ea σ0 p0 0 0 0  σ0_wf (Or.inr rfl) σ0_ev (by decide) _ _) (gi_wsV ml_X6_236 im_X5_follow sl_X5_follow in_X5 co_X5_follow) ⟨rfl, by decide +kernel, by decide +kernel, by decide +kernel⟩ ⟨Nat.le_of_ble_eq_true rfl, Nat.le_of_ble_eq_true rfl⟩ rfl rfl rfl hl.1 rfl (Nat.le_of_ble_eq_true rfl) dX6_carryOut_27 ⟨Nat.le_of_ble_eq_true rfl, Nat.le_of_ble_eq_true rfl⟩) (Cut.of (wc := (wsF g ad (-1) 1 0 (cl, .inr (1, [.int 7, .int p0, .int 0, .int 0, .int 0])) ea σ0)) (wr := [(x, .inr (6, [.ref (ad 0), .ref ag, .ref wo, .ref dy])), (dy, .inr (8, [.int 1, .ref u2, .int 1])), (u2, .inl (g.2.1 4, 10, .inr (.inr (.inr (.inr (va_up (fun _ => none) (0 : Int32).toNatClampNeg (some cl)))))))]) E hA [1, 2, 3, 4, 5, 6, 7, 8, 9, 10, 11, 12, 13, 14, 15, 16, 17, 18, 19, 20, 21, 22, 23, 24, 25, 26, 27, 28, 29, 30, 31, 33] [0, 32, 34] rfl rfl rfl rfl (by decide)) E (fun u H locs hp E => ?_)
  obtain ⟨u1, ea1⟩ := u
  have hp : u1 = f_X5_follow_7 σ0 (-1) p0 0 0 0 := hp
  have E : Ev g _ s.heap H locs [(x, .inr (6, [.ref (ad 0), .ref ag, .ref wo, .ref dy]))] := Ev.sub E [0] rfl rfl
  exact x_vret () S hr hlk hsz htt hK E dX6_carryOut_30 trivial rfl ⟨Nat.le_of_ble_eq_true rfl, Nat.le_of_ble_eq_true rfl⟩ ⟨Nat.le_of_ble_eq_true rfl, Nat.le_of_ble_eq_true rfl⟩

set_option maxHeartbeats 4000000 in
set_option maxRecDepth 100000 in
/-- carryOut, kind 8 -/
theorem c_co8 (l : Launch) (g : Gm) (x : Nat) (ag : Nat) (wo : Nat) (dy : Nat) (ad : Nat → Nat) (ea : Nat) (cl : Nat) (p0 : Int32) (p1 : Int32) (p2 : Int32) (hp0 : vp_in p0 16) : MXv (S := Unit) l g yX6_carryOut cX6_carryOut 2 ({ frames := 5, cells := 13, slots := 100010, locals := 101 } : Room) [.ref x, .ref cl] ([(x, .inr (6, [.ref (ad 0), .ref ag, .ref wo, .ref dy])), (dy, .inr (8, [.int 0, .ref (g.2.2 0), .int 0])), (cl, .inr (1, [.int 8, .int p0, .int p1, .int p2, .int 0]))] ++ wsW g ad (-1) 1 0 ea σ0) (fun _ => True) (fun _ => [(x, .inr (6, [.ref (ad 0), .ref ag, .ref wo, .ref dy]))]) (fun _ => (13, 100010)) := by
  intro sz tt
  refine ofX RX6 rfl (by decide +kernel) (Nat.le_of_ble_eq_true rfl) (fun p e s m args below meth c hargs S hml hr hlk hnm hsz htt hK hA hZ E ls hl => ?_)
  have hx := S.1
  have hb := S.2.1
  have hl : lv_has ls 2 [(0, .ref x), (1, .ref cl)] := hl
  refine lv_aload_n hx hb dX6_carryOut_0 rfl (lv_at hl 0 rfl) ?_
  refine wg_X6_28 (v := .ref dy) S hK E 0 rfl rfl dX6_carryOut_1 ?_
  refine w_reti (runV_X (As := []) (rest := []) (q0 := 0) (n := 0) S hml hK (hZ.at E) (Cut.of (wc := [(dy, .inr (8, [.int 0, .ref (g.2.2 0), .int 0]))]) (wr := ([(x, .inr (6, [.ref (ad 0), .ref ag, .ref wo, .ref dy])), (cl, .inr (1, [.int 8, .int p0, .int p1, .int p2, .int 0]))] ++ wsW g ad (-1) 1 0 ea σ0)) E hA [1] [0, 2, 3, 4, 5, 6, 7, 8, 9, 10, 11, 12, 13, 14, 15, 16, 17, 18, 19, 20, 21, 22, 23, 24, 25, 26, 27, 28, 29, 30, 31, 32, 33] rfl rfl rfl rfl (by decide)) (c_Jx4a65c_size_8abf5 l g dy 0 0 (g.2.2 0) _ _) (gi_wsV ml_X6_229 im_Jx4a65c_size_8abf5 sl_Jx4a65c_size_8abf5 in_Jx4a65c co_Jx4a65c_size_8abf5) ⟨rfl, by decide +kernel, by decide +kernel, by decide +kernel⟩ ⟨Nat.le_of_ble_eq_true rfl, Nat.le_of_ble_eq_true rfl⟩ rfl rfl rfl hl.1 rfl (Nat.le_of_ble_eq_true rfl) dX6_carryOut_4 ⟨Nat.le_of_ble_eq_true rfl, Nat.le_of_ble_eq_true rfl⟩) (Cut.of (wc := [(dy, .inr (8, [.int 0, .ref (g.2.2 0), .int 0]))]) (wr := ([(x, .inr (6, [.ref (ad 0), .ref ag, .ref wo, .ref dy])), (cl, .inr (1, [.int 8, .int p0, .int p1, .int p2, .int 0]))] ++ wsW g ad (-1) 1 0 ea σ0)) E hA [1] [0, 2, 3, 4, 5, 6, 7, 8, 9, 10, 11, 12, 13, 14, 15, 16, 17, 18, 19, 20, 21, 22, 23, 24, 25, 26, 27, 28, 29, 30, 31, 32, 33] rfl rfl rfl rfl (by decide)) E (fun r1 u1 H locs hp E => ?_)
  have E : Ev g _ s.heap H locs ([(x, .inr (6, [.ref (ad 0), .ref ag, .ref wo, .ref dy])), (cl, .inr (1, [.int 8, .int p0, .int p1, .int p2, .int 0]))] ++ wsW g ad (-1) 1 0 ea σ0 ++ [(dy, .inr (8, [.int 0, .ref (g.2.2 0), .int 0]))]) := E
  subst hp
  refine lv_sipush (v := 512) hx hb dX6_carryOut_7 (by decide) ?_
  refine lv_icmp_ge (tgt := 22) hx hb dX6_carryOut_10 (by decide) (fun c_ => absurd c_ (show ¬ ((512 : Int32) ≤ (0 : Int32)) by decide)) (fun _ => ?_)
  refine lv_aload_n hx hb dX6_carryOut_13 rfl (lv_at hl 0 rfl) ?_
  refine wg_X6_28 (v := .ref dy) S hK E 0 rfl rfl dX6_carryOut_14 ?_
  refine lv_aload_n hx hb dX6_carryOut_17 rfl (lv_at hl 1 rfl) ?_
  refine w_reti (runV_X (As := [.ref cl]) (rest := []) (q0 := 0) (n := 1) S hml hK (hZ.at E) (Cut.of (wc := [(dy, .inr (8, [.int 0, .ref (g.2.2 0), .int 0])), (cl, .inr (1, [.int 8, .int p0, .int p1, .int p2, .int 0]))]) (wr := ([(x, .inr (6, [.ref (ad 0), .ref ag, .ref wo, .ref dy]))] ++ wsW g ad (-1) 1 0 ea σ0)) E hA [33, 1] [0, 2, 3, 4, 5, 6, 7, 8, 9, 10, 11, 12, 13, 14, 15, 16, 17, 18, 19, 20, 21, 22, 23, 24, 25, 26, 27, 28, 29, 30, 31, 32] rfl rfl rfl rfl (by decide)) (c_ad1 l g dy cl (.inr (1, [.int 8, .int p0, .int p1, .int p2, .int 0])) any_X1 _ _) (gi_wsV ml_X6_232 im_Jx4a65c_add_9ea2d sl_Jx4a65c_add_9ea2d in_Jx4a65c co_Jx4a65c_add_9ea2d) ⟨rfl, by decide +kernel, by decide +kernel, by decide +kernel⟩ ⟨Nat.le_of_ble_eq_true rfl, Nat.le_of_ble_eq_true rfl⟩ rfl rfl rfl hl.1 rfl (Nat.le_of_ble_eq_true rfl) dX6_carryOut_18 ⟨Nat.le_of_ble_eq_true rfl, Nat.le_of_ble_eq_true rfl⟩) (Cut.of (wc := [(dy, .inr (8, [.int 0, .ref (g.2.2 0), .int 0])), (cl, .inr (1, [.int 8, .int p0, .int p1, .int p2, .int 0]))]) (wr := ([(x, .inr (6, [.ref (ad 0), .ref ag, .ref wo, .ref dy]))] ++ wsW g ad (-1) 1 0 ea σ0)) E hA [33, 1] [0, 2, 3, 4, 5, 6, 7, 8, 9, 10, 11, 12, 13, 14, 15, 16, 17, 18, 19, 20, 21, 22, 23, 24, 25, 26, 27, 28, 29, 30, 31, 32] rfl rfl rfl rfl (by decide)) E (fun r2 u2 H locs hp E => ?_)
  have E : Ev g _ s.heap H locs ([(x, .inr (6, [.ref (ad 0), .ref ag, .ref wo, .ref dy]))] ++ wsW g ad (-1) 1 0 ea σ0 ++ [(dy, .inr (8, [.int 1, .ref u2, .int 1])), (cl, .inr (1, [.int 8, .int p0, .int p1, .int p2, .int 0])), (u2, .inl (g.2.1 4, 10, .inr (.inr (.inr (.inr (va_up (fun _ => none) (0 : Int32).toNatClampNeg (some cl)))))))]) := E
  subst hp
  refine lv_pop hx hb dX6_carryOut_21 rfl ?_
  refine lv_aload_n hx hb dX6_carryOut_22 rfl (lv_at hl 0 rfl) ?_
  refine wg_X6_14 (v := .ref (ad 0)) S hK E 0 rfl rfl dX6_carryOut_23 ?_
  refine lv_aload_n hx hb dX6_carryOut_26 rfl (lv_at hl 1 rfl) ?_
  refine w_retvM (runV_X (As := [.ref cl]) (rest := []) (q0 := 0) (n := 1) S hml hK (hZ.at E) (Cut.of (wc := (wsF g ad (-1) 1 0 (cl, .inr (1, [.int 8, .int p0, .int p1, .int p2, .int 0])) ea σ0)) (wr := [(x, .inr (6, [.ref (ad 0), .ref ag, .ref wo, .ref dy])), (dy, .inr (8, [.int 1, .ref u2, .int 1])), (u2, .inl (g.2.1 4, 10, .inr (.inr (.inr (.inr (va_up (fun _ => none) (0 : Int32).toNatClampNeg (some cl)))))))]) E hA [1, 2, 3, 4, 5, 6, 7, 8, 9, 10, 11, 12, 13, 14, 15, 16, 17, 18, 19, 20, 21, 22, 23, 24, 25, 26, 27, 28, 29, 30, 31, 33] [0, 32, 34] rfl rfl rfl rfl (by decide)) (c_X5_follow_8 l g cl ad (-1) 1 0 ea σ0 p0 p1 p2 0 hp0 σ0_wf (Or.inr rfl) σ0_ev (by decide) _ _) (gi_wsV ml_X6_236 im_X5_follow sl_X5_follow in_X5 co_X5_follow) ⟨rfl, by decide +kernel, by decide +kernel, by decide +kernel⟩ ⟨Nat.le_of_ble_eq_true rfl, Nat.le_of_ble_eq_true rfl⟩ rfl rfl rfl hl.1 rfl (Nat.le_of_ble_eq_true rfl) dX6_carryOut_27 ⟨Nat.le_of_ble_eq_true rfl, Nat.le_of_ble_eq_true rfl⟩) (Cut.of (wc := (wsF g ad (-1) 1 0 (cl, .inr (1, [.int 8, .int p0, .int p1, .int p2, .int 0])) ea σ0)) (wr := [(x, .inr (6, [.ref (ad 0), .ref ag, .ref wo, .ref dy])), (dy, .inr (8, [.int 1, .ref u2, .int 1])), (u2, .inl (g.2.1 4, 10, .inr (.inr (.inr (.inr (va_up (fun _ => none) (0 : Int32).toNatClampNeg (some cl)))))))]) E hA [1, 2, 3, 4, 5, 6, 7, 8, 9, 10, 11, 12, 13, 14, 15, 16, 17, 18, 19, 20, 21, 22, 23, 24, 25, 26, 27, 28, 29, 30, 31, 33] [0, 32, 34] rfl rfl rfl rfl (by decide)) E (fun u H locs hp E => ?_)
  obtain ⟨u1, ea1⟩ := u
  have hp : u1 = f_X5_follow_8 σ0 (-1) p0 p1 p2 0 := hp
  have E : Ev g _ s.heap H locs [(x, .inr (6, [.ref (ad 0), .ref ag, .ref wo, .ref dy]))] := Ev.sub E [0] rfl rfl
  exact x_vret () S hr hlk hsz htt hK E dX6_carryOut_30 trivial rfl ⟨Nat.le_of_ble_eq_true rfl, Nat.le_of_ble_eq_true rfl⟩ ⟨Nat.le_of_ble_eq_true rfl, Nat.le_of_ble_eq_true rfl⟩

set_option maxHeartbeats 4000000 in
set_option maxRecDepth 100000 in
/-- carryOut, months -/
theorem c_co11 (l : Launch) (g : Gm) (x : Nat) (ag : Nat) (wo : Nat) (dy : Nat) (ad : Nat → Nat) (ea : Nat) (cl : Nat) (mm : Nat) (hm : mm ≤ 24) : MXv (S := Sg) l g yX6_carryOut cX6_carryOut 2 ({ frames := 11, cells := 50, slots := 500012, locals := 1110 } : Room) [.ref x, .ref cl] ([(x, .inr (6, [.ref (ad 0), .ref ag, .ref wo, .ref dy])), (dy, .inr (8, [.int 0, .ref (g.2.2 0), .int 0])), (cl, .inr (1, [.int 11, .int (nI mm), .int 0, .int 0, .int 0]))] ++ wsW g ad (-1) 1 0 ea σ0) (fun u => u = f_X5_follow_11 σ0 (-1) mm 0 0 0) (fun u => [(x, .inr (6, [.ref (ad 0), .ref ag, .ref wo, .ref dy])), ((ad 0), .inr (5, [.ref (ad 1), .ref (ad 2), .ref (ad 3), .ref (ad 4), .ref (ad 29), .ref (ad 5), .ref (ad 6), .ref (ad 7), .int (-1), .int 1, .int (gs u 0), .int 0]))]) (fun _ => (50, 500012)) := by
  intro sz tt
  refine ofX RX6 rfl (by decide +kernel) (Nat.le_of_ble_eq_true rfl) (fun p e s m args below meth c hargs S hml hr hlk hnm hsz htt hK hA hZ E ls hl => ?_)
  have hx := S.1
  have hb := S.2.1
  have hl : lv_has ls 2 [(0, .ref x), (1, .ref cl)] := hl
  refine lv_aload_n hx hb dX6_carryOut_0 rfl (lv_at hl 0 rfl) ?_
  refine wg_X6_28 (v := .ref dy) S hK E 0 rfl rfl dX6_carryOut_1 ?_
  refine w_reti (runV_X (As := []) (rest := []) (q0 := 0) (n := 0) S hml hK (hZ.at E) (Cut.of (wc := [(dy, .inr (8, [.int 0, .ref (g.2.2 0), .int 0]))]) (wr := ([(x, .inr (6, [.ref (ad 0), .ref ag, .ref wo, .ref dy])), (cl, .inr (1, [.int 11, .int (nI mm), .int 0, .int 0, .int 0]))] ++ wsW g ad (-1) 1 0 ea σ0)) E hA [1] [0, 2, 3, 4, 5, 6, 7, 8, 9, 10, 11, 12, 13, 14, 15, 16, 17, 18, 19, 20, 21, 22, 23, 24, 25, 26, 27, 28, 29, 30, 31, 32, 33] rfl rfl rfl rfl (by decide)) (c_Jx4a65c_size_8abf5 l g dy 0 0 (g.2.2 0) _ _) (gi_wsV ml_X6_229 im_Jx4a65c_size_8abf5 sl_Jx4a65c_size_8abf5 in_Jx4a65c co_Jx4a65c_size_8abf5) ⟨rfl, by decide +kernel, by decide +kernel, by decide +kernel⟩ ⟨Nat.le_of_ble_eq_true rfl, Nat.le_of_ble_eq_true rfl⟩ rfl rfl rfl hl.1 rfl (Nat.le_of_ble_eq_true rfl) dX6_carryOut_4 ⟨Nat.le_of_ble_eq_true rfl, Nat.le_of_ble_eq_true rfl⟩) (Cut.of (wc := [(dy, .inr (8, [.int 0, .ref (g.2.2 0), .int 0]))]) (wr := ([(x, .inr (6, [.ref (ad 0), .ref ag, .ref wo, .ref dy])), (cl, .inr (1, [.int 11, .int (nI mm), .int 0, .int 0, .int 0]))] ++ wsW g ad (-1) 1 0 ea σ0)) E hA [1] [0, 2, 3, 4, 5, 6, 7, 8, 9, 10, 11, 12, 13, 14, 15, 16, 17, 18, 19, 20, 21, 22, 23, 24, 25, 26, 27, 28, 29, 30, 31, 32, 33] rfl rfl rfl rfl (by decide)) E (fun r1 u1 H locs hp E => ?_)
  have E : Ev g _ s.heap H locs ([(x, .inr (6, [.ref (ad 0), .ref ag, .ref wo, .ref dy])), (cl, .inr (1, [.int 11, .int (nI mm), .int 0, .int 0, .int 0]))] ++ wsW g ad (-1) 1 0 ea σ0 ++ [(dy, .inr (8, [.int 0, .ref (g.2.2 0), .int 0]))]) := E
  subst hp
  refine lv_sipush (v := 512) hx hb dX6_carryOut_7 (by decide) ?_
  refine lv_icmp_ge (tgt := 22) hx hb dX6_carryOut_10 (by decide) (fun c_ => absurd c_ (show ¬ ((512 : Int32) ≤ (0 : Int32)) by decide)) (fun _ => ?_)
  refine lv_aload_n hx hb dX6_carryOut_13 rfl (lv_at hl 0 rfl) ?_
  refine wg_X6_28 (v := .ref dy) S hK E 0 rfl rfl dX6_carryOut_14 ?_
  refine lv_aload_n hx hb dX6_carryOut_17 rfl (lv_at hl 1 rfl) ?_
  refine w_reti (runV_X (As := [.ref cl]) (rest := []) (q0 := 0) (n := 1) S hml hK (hZ.at E) (Cut.of (wc := [(dy, .inr (8, [.int 0, .ref (g.2.2 0), .int 0])), (cl, .inr (1, [.int 11, .int (nI mm), .int 0, .int 0, .int 0]))]) (wr := ([(x, .inr (6, [.ref (ad 0), .ref ag, .ref wo, .ref dy]))] ++ wsW g ad (-1) 1 0 ea σ0)) E hA [33, 1] [0, 2, 3, 4, 5, 6, 7, 8, 9, 10, 11, 12, 13, 14, 15, 16, 17, 18, 19, 20, 21, 22, 23, 24, 25, 26, 27, 28, 29, 30, 31, 32] rfl rfl rfl rfl (by decide)) (c_ad1 l g dy cl (.inr (1, [.int 11, .int (nI mm), .int 0, .int 0, .int 0])) any_X1 _ _) (gi_wsV ml_X6_232 im_Jx4a65c_add_9ea2d sl_Jx4a65c_add_9ea2d in_Jx4a65c co_Jx4a65c_add_9ea2d) ⟨rfl, by decide +kernel, by decide +kernel, by decide +kernel⟩ ⟨Nat.le_of_ble_eq_true rfl, Nat.le_of_ble_eq_true rfl⟩ rfl rfl rfl hl.1 rfl (Nat.le_of_ble_eq_true rfl) dX6_carryOut_18 ⟨Nat.le_of_ble_eq_true rfl, Nat.le_of_ble_eq_true rfl⟩) (Cut.of (wc := [(dy, .inr (8, [.int 0, .ref (g.2.2 0), .int 0])), (cl, .inr (1, [.int 11, .int (nI mm), .int 0, .int 0, .int 0]))]) (wr := ([(x, .inr (6, [.ref (ad 0), .ref ag, .ref wo, .ref dy]))] ++ wsW g ad (-1) 1 0 ea σ0)) E hA [33, 1] [0, 2, 3, 4, 5, 6, 7, 8, 9, 10, 11, 12, 13, 14, 15, 16, 17, 18, 19, 20, 21, 22, 23, 24, 25, 26, 27, 28, 29, 30, 31, 32] rfl rfl rfl rfl (by decide)) E (fun r2 u2 H locs hp E => ?_)
  have E : Ev g _ s.heap H locs ([(x, .inr (6, [.ref (ad 0), .ref ag, .ref wo, .ref dy]))] ++ wsW g ad (-1) 1 0 ea σ0 ++ [(dy, .inr (8, [.int 1, .ref u2, .int 1])), (cl, .inr (1, [.int 11, .int (nI mm), .int 0, .int 0, .int 0])), (u2, .inl (g.2.1 4, 10, .inr (.inr (.inr (.inr (va_up (fun _ => none) (0 : Int32).toNatClampNeg (some cl)))))))]) := E
  subst hp
  refine lv_pop hx hb dX6_carryOut_21 rfl ?_
  refine lv_aload_n hx hb dX6_carryOut_22 rfl (lv_at hl 0 rfl) ?_
  refine wg_X6_14 (v := .ref (ad 0)) S hK E 0 rfl rfl dX6_carryOut_23 ?_
  refine lv_aload_n hx hb dX6_carryOut_26 rfl (lv_at hl 1 rfl) ?_
  refine w_retvM (runV_X (As := [.ref cl]) (rest := []) (q0 := 0) (n := 1) S hml hK (hZ.at E) (Cut.of (wc := (wsF g ad (-1) 1 0 (cl, .inr (1, [.int 11, .int (nI mm), .int 0, .int 0, .int 0])) ea σ0)) (wr := [(x, .inr (6, [.ref (ad 0), .ref ag, .ref wo, .ref dy])), (dy, .inr (8, [.int 1, .ref u2, .int 1])), (u2, .inl (g.2.1 4, 10, .inr (.inr (.inr (.inr (va_up (fun _ => none) (0 : Int32).toNatClampNeg (some cl)))))))]) E hA [1, 2, 3, 4, 5, 6, 7, 8, 9, 10, 11, 12, 13, 14, 15, 16, 17, 18, 19, 20, 21, 22, 23, 24, 25, 26, 27, 28, 29, 30, 31, 33] [0, 32, 34] rfl rfl rfl rfl (by decide)) (c_X5_follow_11 l g cl ad (-1) 1 0 ea σ0 mm 0 0 0 σ0_wf (Or.inr rfl) σ0_ev (by have : en σ0 = 0 := rfl; omega) _ _) (gi_wsV ml_X6_236 im_X5_follow sl_X5_follow in_X5 co_X5_follow) ⟨rfl, by decide +kernel, by decide +kernel, by decide +kernel⟩ ⟨Nat.le_of_ble_eq_true rfl, Nat.le_of_ble_eq_true rfl⟩ rfl rfl rfl hl.1 rfl (Nat.le_of_ble_eq_true rfl) dX6_carryOut_27 ⟨Nat.le_of_ble_eq_true rfl, Nat.le_of_ble_eq_true rfl⟩) (Cut.of (wc := (wsF g ad (-1) 1 0 (cl, .inr (1, [.int 11, .int (nI mm), .int 0, .int 0, .int 0])) ea σ0)) (wr := [(x, .inr (6, [.ref (ad 0), .ref ag, .ref wo, .ref dy])), (dy, .inr (8, [.int 1, .ref u2, .int 1])), (u2, .inl (g.2.1 4, 10, .inr (.inr (.inr (.inr (va_up (fun _ => none) (0 : Int32).toNatClampNeg (some cl)))))))]) E hA [1, 2, 3, 4, 5, 6, 7, 8, 9, 10, 11, 12, 13, 14, 15, 16, 17, 18, 19, 20, 21, 22, 23, 24, 25, 26, 27, 28, 29, 30, 31, 33] [0, 32, 34] rfl rfl rfl rfl (by decide)) E (fun u H locs hp E => ?_)
  obtain ⟨u1, ea1⟩ := u
  have hp : u1 = f_X5_follow_11 σ0 (-1) mm 0 0 0 := hp
  have E : Ev g _ s.heap H locs [(x, .inr (6, [.ref (ad 0), .ref ag, .ref wo, .ref dy])), ((ad 0), .inr (5, [.ref (ad 1), .ref (ad 2), .ref (ad 3), .ref (ad 4), .ref (ad 29), .ref (ad 5), .ref (ad 6), .ref (ad 7), .int (-1), .int 1, .int (gs u1 0), .int 0]))] := Ev.sub E [0, 3] rfl rfl
  exact x_vret u1 S hr hlk hsz htt hK E dX6_carryOut_30 hp rfl ⟨Nat.le_of_ble_eq_true rfl, Nat.le_of_ble_eq_true rfl⟩ ⟨Nat.le_of_ble_eq_true rfl, Nat.le_of_ble_eq_true rfl⟩

set_option maxHeartbeats 4000000 in
set_option maxRecDepth 100000 in
/-- setCell -/
theorem c_X6_setCell (l : Launch) (g : Gm) (hst : l.stackTraces = false) (x : Nat) (ag : Nat) (wo : Nat) (dy : Nat) (ad : Nat → Nat) (ea : Nat) (p0 : Int32) (p1 : Int32) (p2 : Int32) (p3 : Int32) : YXi (S := Unit) l g yX6_setCell cX6_setCell 6 .int ({ frames := 7, cells := 14, slots := 100015, locals := 122 } : Room) [.ref x, .int p0, .int p1, .int p2, .int p3] ([(x, .inr (6, [.ref (ad 0), .ref ag, .ref wo, .ref dy])), (dy, .inr (8, [.int 0, .ref (g.2.2 0), .int 0]))] ++ wsW g ad (-1) 1 0 ea σ0) (fun r _ => r = 0 ∧ rgOK p0 0 15 ∧ rgOK p1 (-100) 100 ∧ rgOK p2 1 50 ∧ rgOK p3 0 5000) (fun _ => [(x, .inr (6, [.ref (ad 0), .ref ag, .ref wo, .ref dy]))]) (fun _ => (14, 100015)) ([(x, .inr (6, [.ref (ad 0), .ref ag, .ref wo, .ref dy])), (dy, .inr (8, [.int 0, .ref (g.2.2 0), .int 0]))] ++ wsW g ad (-1) 1 0 ea σ0) (fun En => (En = "java/lang/IndexOutOfBoundsException" ∧ ¬ rgOK p0 0 15) ∨ (En = "java/lang/IllegalArgumentException" ∧ rgOK p0 0 15 ∧ ¬ (rgOK p1 (-100) 100 ∧ rgOK p2 1 50 ∧ rgOK p3 0 5000))) := by
  intro sz tt
  refine ofY RX6 rfl (by decide +kernel) (Nat.le_of_ble_eq_true rfl) (fun p e s m args below meth c hargs S hml hr hlk hex hsz htt hK hA hZ E ls hl => ?_)
  have hx := S.1
  have hb := S.2.1
  have hl : lv_has ls 6 [(0, .ref x), (1, .int p0), (2, .int p1), (3, .int p2), (4, .int p3)] := hl
  refine lv_iload_n hx hb dX6_setCell_0 rfl (lv_at hl 1 rfl) ?_
  refine lv_bipush (v := 16) hx hb dX6_setCell_1 (by decide) ?_
  refine y_retv (yrunS (As := [.int p0, .int 16]) (rest := []) (n := 2) S hml hK (hZ.at E) (Cut.of (wc := []) (wr := ([(x, .inr (6, [.ref (ad 0), .ref ag, .ref wo, .ref dy])), (dy, .inr (8, [.int 0, .ref (g.2.2 0), .int 0]))] ++ wsW g ad (-1) 1 0 ea σ0)) E hA [] [0, 1, 2, 3, 4, 5, 6, 7, 8, 9, 10, 11, 12, 13, 14, 15, 16, 17, 18, 19, 20, 21, 22, 23, 24, 25, 26, 27, 28, 29, 30, 31, 32] rfl rfl rfl rfl (by decide)) (c_X6_requireIndex l g hst p0 16 _ _) ml_X6_32 st_X6_requireIndex in_X6 co_X6_requireIndex ⟨by decide +kernel, by decide +kernel, by decide +kernel⟩ ⟨Nat.le_of_ble_eq_true rfl, Nat.le_of_ble_eq_true rfl⟩ rfl hl.1 rfl (Nat.le_of_ble_eq_true rfl) dX6_setCell_3 ⟨Nat.le_of_ble_eq_true rfl, Nat.le_of_ble_eq_true rfl⟩) (Cut.of (wc := []) (wr := ([(x, .inr (6, [.ref (ad 0), .ref ag, .ref wo, .ref dy])), (dy, .inr (8, [.int 0, .ref (g.2.2 0), .int 0]))] ++ wsW g ad (-1) 1 0 ea σ0)) E hA [] [0, 1, 2, 3, 4, 5, 6, 7, 8, 9, 10, 11, 12, 13, 14, 15, 16, 17, 18, 19, 20, 21, 22, 23, 24, 25, 26, 27, 28, 29, 30, 31, 32] rfl rfl rfl rfl (by decide)) E (fun En ce q9 H locs hp E hce hcv hcl => ?_) (fun u1 H locs hp E => ?_)
  · have E : Ev g _ s.heap H locs ([(x, .inr (6, [.ref (ad 0), .ref ag, .ref wo, .ref dy])), (dy, .inr (8, [.int 0, .ref (g.2.2 0), .int 0]))] ++ wsW g ad (-1) 1 0 ea σ0) := E
    exact y_out hex hlk hK E rfl (Or.inl ⟨hp.1, fun z => hp.2 (ix16.mpr z)⟩) hce hcv hcl ⟨Nat.le_of_ble_eq_true rfl, Nat.le_of_ble_eq_true rfl⟩
  · skip
    have E : Ev g _ s.heap H locs ([(x, .inr (6, [.ref (ad 0), .ref ag, .ref wo, .ref dy])), (dy, .inr (8, [.int 0, .ref (g.2.2 0), .int 0]))] ++ wsW g ad (-1) 1 0 ea σ0) := E
    have hx2 := hp
    have hA2 := ix16.mp hx2
    refine lv_iload_n hx hb dX6_setCell_6 rfl (lv_at hl 2 rfl) ?_
    refine lv_bipush (v := (-100)) hx hb dX6_setCell_7 (by decide) ?_
    refine lv_bipush (v := 100) hx hb dX6_setCell_9 (by decide) ?_
    refine y_retv (yrunS (As := [.int p1, .int (-100), .int 100]) (rest := []) (n := 3) S hml hK (hZ.at E) (Cut.of (wc := []) (wr := ([(x, .inr (6, [.ref (ad 0), .ref ag, .ref wo, .ref dy])), (dy, .inr (8, [.int 0, .ref (g.2.2 0), .int 0]))] ++ wsW g ad (-1) 1 0 ea σ0)) E hA [] [0, 1, 2, 3, 4, 5, 6, 7, 8, 9, 10, 11, 12, 13, 14, 15, 16, 17, 18, 19, 20, 21, 22, 23, 24, 25, 26, 27, 28, 29, 30, 31, 32] rfl rfl rfl rfl (by decide)) (c_X6_requireRange l g hst p1 (-100) 100 _ _) ml_X6_36 st_X6_requireRange in_X6 co_X6_requireRange ⟨by decide +kernel, by decide +kernel, by decide +kernel⟩ ⟨Nat.le_of_ble_eq_true rfl, Nat.le_of_ble_eq_true rfl⟩ rfl hl.1 rfl (Nat.le_of_ble_eq_true rfl) dX6_setCell_11 ⟨Nat.le_of_ble_eq_true rfl, Nat.le_of_ble_eq_true rfl⟩) (Cut.of (wc := []) (wr := ([(x, .inr (6, [.ref (ad 0), .ref ag, .ref wo, .ref dy])), (dy, .inr (8, [.int 0, .ref (g.2.2 0), .int 0]))] ++ wsW g ad (-1) 1 0 ea σ0)) E hA [] [0, 1, 2, 3, 4, 5, 6, 7, 8, 9, 10, 11, 12, 13, 14, 15, 16, 17, 18, 19, 20, 21, 22, 23, 24, 25, 26, 27, 28, 29, 30, 31, 32] rfl rfl rfl rfl (by decide)) E (fun En ce q9 H locs hp E hce hcv hcl => ?_) (fun u3 H locs hp E => ?_)
    · have E : Ev g _ s.heap H locs ([(x, .inr (6, [.ref (ad 0), .ref ag, .ref wo, .ref dy])), (dy, .inr (8, [.int 0, .ref (g.2.2 0), .int 0]))] ++ wsW g ad (-1) 1 0 ea σ0) := E
      exact y_out hex hlk hK E rfl (Or.inr ⟨hp.1, hA2, fun z => hp.2 z.1⟩) hce hcv hcl ⟨Nat.le_of_ble_eq_true rfl, Nat.le_of_ble_eq_true rfl⟩
    · skip
      have E : Ev g _ s.heap H locs ([(x, .inr (6, [.ref (ad 0), .ref ag, .ref wo, .ref dy])), (dy, .inr (8, [.int 0, .ref (g.2.2 0), .int 0]))] ++ wsW g ad (-1) 1 0 ea σ0) := E
      have hB4 := hp
      refine lv_iload_n hx hb dX6_setCell_14 rfl (lv_at hl 3 rfl) ?_
      refine lv_iconst (v := 1) hx hb dX6_setCell_15 (by decide) ?_
      refine lv_bipush (v := 50) hx hb dX6_setCell_16 (by decide) ?_
      refine y_retv (yrunS (As := [.int p2, .int 1, .int 50]) (rest := []) (n := 3) S hml hK (hZ.at E) (Cut.of (wc := []) (wr := ([(x, .inr (6, [.ref (ad 0), .ref ag, .ref wo, .ref dy])), (dy, .inr (8, [.int 0, .ref (g.2.2 0), .int 0]))] ++ wsW g ad (-1) 1 0 ea σ0)) E hA [] [0, 1, 2, 3, 4, 5, 6, 7, 8, 9, 10, 11, 12, 13, 14, 15, 16, 17, 18, 19, 20, 21, 22, 23, 24, 25, 26, 27, 28, 29, 30, 31, 32] rfl rfl rfl rfl (by decide)) (c_X6_requireRange l g hst p2 1 50 _ _) ml_X6_36 st_X6_requireRange in_X6 co_X6_requireRange ⟨by decide +kernel, by decide +kernel, by decide +kernel⟩ ⟨Nat.le_of_ble_eq_true rfl, Nat.le_of_ble_eq_true rfl⟩ rfl hl.1 rfl (Nat.le_of_ble_eq_true rfl) dX6_setCell_18 ⟨Nat.le_of_ble_eq_true rfl, Nat.le_of_ble_eq_true rfl⟩) (Cut.of (wc := []) (wr := ([(x, .inr (6, [.ref (ad 0), .ref ag, .ref wo, .ref dy])), (dy, .inr (8, [.int 0, .ref (g.2.2 0), .int 0]))] ++ wsW g ad (-1) 1 0 ea σ0)) E hA [] [0, 1, 2, 3, 4, 5, 6, 7, 8, 9, 10, 11, 12, 13, 14, 15, 16, 17, 18, 19, 20, 21, 22, 23, 24, 25, 26, 27, 28, 29, 30, 31, 32] rfl rfl rfl rfl (by decide)) E (fun En ce q9 H locs hp E hce hcv hcl => ?_) (fun u5 H locs hp E => ?_)
      · have E : Ev g _ s.heap H locs ([(x, .inr (6, [.ref (ad 0), .ref ag, .ref wo, .ref dy])), (dy, .inr (8, [.int 0, .ref (g.2.2 0), .int 0]))] ++ wsW g ad (-1) 1 0 ea σ0) := E
        exact y_out hex hlk hK E rfl (Or.inr ⟨hp.1, hA2, fun z => hp.2 z.2.1⟩) hce hcv hcl ⟨Nat.le_of_ble_eq_true rfl, Nat.le_of_ble_eq_true rfl⟩
      · skip
        have E : Ev g _ s.heap H locs ([(x, .inr (6, [.ref (ad 0), .ref ag, .ref wo, .ref dy])), (dy, .inr (8, [.int 0, .ref (g.2.2 0), .int 0]))] ++ wsW g ad (-1) 1 0 ea σ0) := E
        have hB6 := hp
        refine lv_iload hx hb dX6_setCell_21 (lv_at hl 4 rfl) ?_
        refine lv_iconst (v := 0) hx hb dX6_setCell_23 (by decide) ?_
        refine lv_sipush (v := 5000) hx hb dX6_setCell_24 (by decide) ?_
        refine y_retv (yrunS (As := [.int p3, .int 0, .int 5000]) (rest := []) (n := 3) S hml hK (hZ.at E) (Cut.of (wc := []) (wr := ([(x, .inr (6, [.ref (ad 0), .ref ag, .ref wo, .ref dy])), (dy, .inr (8, [.int 0, .ref (g.2.2 0), .int 0]))] ++ wsW g ad (-1) 1 0 ea σ0)) E hA [] [0, 1, 2, 3, 4, 5, 6, 7, 8, 9, 10, 11, 12, 13, 14, 15, 16, 17, 18, 19, 20, 21, 22, 23, 24, 25, 26, 27, 28, 29, 30, 31, 32] rfl rfl rfl rfl (by decide)) (c_X6_requireRange l g hst p3 0 5000 _ _) ml_X6_36 st_X6_requireRange in_X6 co_X6_requireRange ⟨by decide +kernel, by decide +kernel, by decide +kernel⟩ ⟨Nat.le_of_ble_eq_true rfl, Nat.le_of_ble_eq_true rfl⟩ rfl hl.1 rfl (Nat.le_of_ble_eq_true rfl) dX6_setCell_27 ⟨Nat.le_of_ble_eq_true rfl, Nat.le_of_ble_eq_true rfl⟩) (Cut.of (wc := []) (wr := ([(x, .inr (6, [.ref (ad 0), .ref ag, .ref wo, .ref dy])), (dy, .inr (8, [.int 0, .ref (g.2.2 0), .int 0]))] ++ wsW g ad (-1) 1 0 ea σ0)) E hA [] [0, 1, 2, 3, 4, 5, 6, 7, 8, 9, 10, 11, 12, 13, 14, 15, 16, 17, 18, 19, 20, 21, 22, 23, 24, 25, 26, 27, 28, 29, 30, 31, 32] rfl rfl rfl rfl (by decide)) E (fun En ce q9 H locs hp E hce hcv hcl => ?_) (fun u7 H locs hp E => ?_)
        · have E : Ev g _ s.heap H locs ([(x, .inr (6, [.ref (ad 0), .ref ag, .ref wo, .ref dy])), (dy, .inr (8, [.int 0, .ref (g.2.2 0), .int 0]))] ++ wsW g ad (-1) 1 0 ea σ0) := E
          exact y_out hex hlk hK E rfl (Or.inr ⟨hp.1, hA2, fun z => hp.2 z.2.2⟩) hce hcv hcl ⟨Nat.le_of_ble_eq_true rfl, Nat.le_of_ble_eq_true rfl⟩
        · skip
          have E : Ev g _ s.heap H locs ([(x, .inr (6, [.ref (ad 0), .ref ag, .ref wo, .ref dy])), (dy, .inr (8, [.int 0, .ref (g.2.2 0), .int 0]))] ++ wsW g ad (-1) 1 0 ea σ0) := E
          have hB8 := hp
          refine lv_aload_n hx hb dX6_setCell_30 rfl (lv_at hl 0 rfl) ?_
          refine wg_X6_14 (v := .ref (ad 0)) S hK E 0 rfl rfl dX6_setCell_31 ?_
          refine wg_X6_40 (v := .ref (ad 1)) S hK E 2 rfl rfl dX6_setCell_34 ?_
          refine wg_X6_44 (v := .ref (ad 10)) S hK E 3 rfl rfl dX6_setCell_37 ?_
          refine lv_iload_n hx hb dX6_setCell_40 rfl (lv_at hl 1 rfl) ?_
          refine w_ild (v := 0) S hK E 12 0 rfl rfl (rg_in 15 (by decide) (by decide) (by decide) hA2) rfl dX6_setCell_41 ?_
          refine lv_istore (lv' := [(5, .int 0), (0, .ref x), (1, .int p0), (2, .int p1), (3, .int p2), (4, .int p3)]) hx hb dX6_setCell_42 hl (by decide) rfl (fun ls hl => ?_)
          refine lv_aload_n hx hb dX6_setCell_44 rfl (lv_at hl 1 rfl) ?_
          refine w_new (ci := 1) (fs := [.int 0, .int 0, .int 0, .int 0, .int 0]) (C := RX1) (T := TX1) (N := 5) S hK E hA fw_X1 tyX1 tyX1_ok cl_X6_50 ib_X1 in_X1 rfl (fun j hj => by rcases (show j = 0 ∨ j = 1 ∨ j = 2 ∨ j = 3 ∨ j = 4 by omega) with rfl | rfl | rfl | rfl | rfl <;> rfl) (Nat.le_of_ble_eq_true rfl) (Nat.le_of_ble_eq_true rfl) dX6_setCell_45 (fun q9 H E => ?_)
          have E : Ev g _ s.heap H _ ([(x, .inr (6, [.ref (ad 0), .ref ag, .ref wo, .ref dy])), (dy, .inr (8, [.int 0, .ref (g.2.2 0), .int 0]))] ++ wsW g ad (-1) 1 0 ea σ0 ++ [(q9, .inr (1, [.int 0, .int 0, .int 0, .int 0, .int 0]))]) := E
          refine lv_dup hx hb dX6_setCell_48 rfl ?_
          refine lv_iconst (v := 0) hx hb dX6_setCell_49 (by decide) ?_
          refine lv_iload_n hx hb dX6_setCell_50 rfl (lv_at hl 2 rfl) ?_
          refine lv_iload_n hx hb dX6_setCell_51 rfl (lv_at hl 3 rfl) ?_
          refine lv_iload_n hx hb dX6_setCell_52 rfl (lv_at hl 4 rfl) ?_
          refine lv_iload hx hb dX6_setCell_53 (lv_at hl 5 rfl) ?_
          refine w_retv (runI_X (As := [.int 0, .int p0, .int p1, .int p2, .int p3]) (rest := [.ref q9, .ref x]) (n := 5) S hml hK (hZ.at E) (Cut.of (wc := [(q9, .inr (1, [.int 0, .int 0, .int 0, .int 0, .int 0]))]) (wr := ([(x, .inr (6, [.ref (ad 0), .ref ag, .ref wo, .ref dy])), (dy, .inr (8, [.int 0, .ref (g.2.2 0), .int 0]))] ++ wsW g ad (-1) 1 0 ea σ0)) E hA [33] [0, 1, 2, 3, 4, 5, 6, 7, 8, 9, 10, 11, 12, 13, 14, 15, 16, 17, 18, 19, 20, 21, 22, 23, 24, 25, 26, 27, 28, 29, 30, 31, 32] rfl rfl rfl rfl (by decide)) (c_X1_init l g q9 0 0 0 0 0 0 p0 p1 p2 p3 _ _) ml_X6_52 im_X1_init in_X1 co_X1_init rfl ⟨by decide +kernel, by decide +kernel, by decide +kernel⟩ ⟨Nat.le_of_ble_eq_true rfl, Nat.le_of_ble_eq_true rfl⟩ rfl hl.1 rfl (Nat.le_of_ble_eq_true rfl) dX6_setCell_55 ⟨Nat.le_of_ble_eq_true rfl, Nat.le_of_ble_eq_true rfl⟩) (Cut.of (wc := [(q9, .inr (1, [.int 0, .int 0, .int 0, .int 0, .int 0]))]) (wr := ([(x, .inr (6, [.ref (ad 0), .ref ag, .ref wo, .ref dy])), (dy, .inr (8, [.int 0, .ref (g.2.2 0), .int 0]))] ++ wsW g ad (-1) 1 0 ea σ0)) E hA [33] [0, 1, 2, 3, 4, 5, 6, 7, 8, 9, 10, 11, 12, 13, 14, 15, 16, 17, 18, 19, 20, 21, 22, 23, 24, 25, 26, 27, 28, 29, 30, 31, 32] rfl rfl rfl rfl (by decide)) E (fun u10 H locs hp E => ?_)
          have E : Ev g _ s.heap H locs ([(x, .inr (6, [.ref (ad 0), .ref ag, .ref wo, .ref dy])), (dy, .inr (8, [.int 0, .ref (g.2.2 0), .int 0]))] ++ wsW g ad (-1) 1 0 ea σ0 ++ [(q9, .inr (1, [.int 0, .int p0, .int p1, .int p2, .int p3]))]) := E
          refine w_retv (runV_X (As := [.ref q9]) (rest := []) (q0 := 0) (n := 1) S hml hK (hZ.at E) (Cut.of (wc := ([(x, .inr (6, [.ref (ad 0), .ref ag, .ref wo, .ref dy])), (dy, .inr (8, [.int 0, .ref (g.2.2 0), .int 0])), (q9, .inr (1, [.int 0, .int p0, .int p1, .int p2, .int p3]))] ++ wsW g ad (-1) 1 0 ea σ0)) (wr := []) E hA [0, 1, 33, 2, 3, 4, 5, 6, 7, 8, 9, 10, 11, 12, 13, 14, 15, 16, 17, 18, 19, 20, 21, 22, 23, 24, 25, 26, 27, 28, 29, 30, 31, 32] [] rfl rfl rfl rfl (by decide)) (c_co0 l g x ag wo dy ad ea q9 p0 p1 p2 p3 (rg_in 15 (by decide) (by decide) (by decide) hA2) _ _) (gi_wsV ml_X6_55 im_X6_carryOut sl_X6_carryOut in_X6 co_X6_carryOut) ⟨rfl, by decide +kernel, by decide +kernel, by decide +kernel⟩ ⟨Nat.le_of_ble_eq_true rfl, Nat.le_of_ble_eq_true rfl⟩ rfl rfl rfl hl.1 rfl (Nat.le_of_ble_eq_true rfl) dX6_setCell_58 ⟨Nat.le_of_ble_eq_true rfl, Nat.le_of_ble_eq_true rfl⟩) (Cut.of (wc := ([(x, .inr (6, [.ref (ad 0), .ref ag, .ref wo, .ref dy])), (dy, .inr (8, [.int 0, .ref (g.2.2 0), .int 0])), (q9, .inr (1, [.int 0, .int p0, .int p1, .int p2, .int p3]))] ++ wsW g ad (-1) 1 0 ea σ0)) (wr := []) E hA [0, 1, 33, 2, 3, 4, 5, 6, 7, 8, 9, 10, 11, 12, 13, 14, 15, 16, 17, 18, 19, 20, 21, 22, 23, 24, 25, 26, 27, 28, 29, 30, 31, 32] [] rfl rfl rfl rfl (by decide)) E (fun u11 H locs hp E => ?_)
          have E : Ev g _ s.heap H locs [(x, .inr (6, [.ref (ad 0), .ref ag, .ref wo, .ref dy]))] := E
          refine lv_iload hx hb dX6_setCell_61 (lv_at hl 0 rfl) ?_
          exact vx_ret (x_iret () S hr hlk hsz htt hK E dX6_setCell_63 ⟨rfl, ⟨hA2, hB4, hB6, hB8⟩⟩ rfl ⟨Nat.le_of_ble_eq_true rfl, Nat.le_of_ble_eq_true rfl⟩ ⟨Nat.le_of_ble_eq_true rfl, Nat.le_of_ble_eq_true rfl⟩)

set_option maxHeartbeats 4000000 in
set_option maxRecDepth 100000 in
/-- setGround -/
theorem c_X6_setGround (l : Launch) (g : Gm) (hst : l.stackTraces = false) (x : Nat) (ag : Nat) (wo : Nat) (dy : Nat) (ad : Nat → Nat) (ea : Nat) (p0 : Int32) (p1 : Int32) : YXi (S := Unit) l g yX6_setGround cX6_setGround 4 .int ({ frames := 7, cells := 14, slots := 100015, locals := 122 } : Room) [.ref x, .int p0, .int p1] ([(x, .inr (6, [.ref (ad 0), .ref ag, .ref wo, .ref dy])), (dy, .inr (8, [.int 0, .ref (g.2.2 0), .int 0]))] ++ wsW g ad (-1) 1 0 ea σ0) (fun r _ => r = 100 ∧ rgOK p0 0 7 ∧ rgOK p1 (-100) 200) (fun _ => [(x, .inr (6, [.ref (ad 0), .ref ag, .ref wo, .ref dy]))]) (fun _ => (14, 100015)) ([(x, .inr (6, [.ref (ad 0), .ref ag, .ref wo, .ref dy])), (dy, .inr (8, [.int 0, .ref (g.2.2 0), .int 0]))] ++ wsW g ad (-1) 1 0 ea σ0) (fun En => (En = "java/lang/IndexOutOfBoundsException" ∧ ¬ rgOK p0 0 7) ∨ (En = "java/lang/IllegalArgumentException" ∧ rgOK p0 0 7 ∧ ¬ (rgOK p1 (-100) 200))) := by
  intro sz tt
  refine ofY RX6 rfl (by decide +kernel) (Nat.le_of_ble_eq_true rfl) (fun p e s m args below meth c hargs S hml hr hlk hex hsz htt hK hA hZ E ls hl => ?_)
  have hx := S.1
  have hb := S.2.1
  have hl : lv_has ls 4 [(0, .ref x), (1, .int p0), (2, .int p1)] := hl
  refine lv_iload_n hx hb dX6_setGround_0 rfl (lv_at hl 1 rfl) ?_
  refine lv_bipush (v := 8) hx hb dX6_setGround_1 (by decide) ?_
  refine y_retv (yrunS (As := [.int p0, .int 8]) (rest := []) (n := 2) S hml hK (hZ.at E) (Cut.of (wc := []) (wr := ([(x, .inr (6, [.ref (ad 0), .ref ag, .ref wo, .ref dy])), (dy, .inr (8, [.int 0, .ref (g.2.2 0), .int 0]))] ++ wsW g ad (-1) 1 0 ea σ0)) E hA [] [0, 1, 2, 3, 4, 5, 6, 7, 8, 9, 10, 11, 12, 13, 14, 15, 16, 17, 18, 19, 20, 21, 22, 23, 24, 25, 26, 27, 28, 29, 30, 31, 32] rfl rfl rfl rfl (by decide)) (c_X6_requireIndex l g hst p0 8 _ _) ml_X6_32 st_X6_requireIndex in_X6 co_X6_requireIndex ⟨by decide +kernel, by decide +kernel, by decide +kernel⟩ ⟨Nat.le_of_ble_eq_true rfl, Nat.le_of_ble_eq_true rfl⟩ rfl hl.1 rfl (Nat.le_of_ble_eq_true rfl) dX6_setGround_3 ⟨Nat.le_of_ble_eq_true rfl, Nat.le_of_ble_eq_true rfl⟩) (Cut.of (wc := []) (wr := ([(x, .inr (6, [.ref (ad 0), .ref ag, .ref wo, .ref dy])), (dy, .inr (8, [.int 0, .ref (g.2.2 0), .int 0]))] ++ wsW g ad (-1) 1 0 ea σ0)) E hA [] [0, 1, 2, 3, 4, 5, 6, 7, 8, 9, 10, 11, 12, 13, 14, 15, 16, 17, 18, 19, 20, 21, 22, 23, 24, 25, 26, 27, 28, 29, 30, 31, 32] rfl rfl rfl rfl (by decide)) E (fun En ce q9 H locs hp E hce hcv hcl => ?_) (fun u1 H locs hp E => ?_)
  · have E : Ev g _ s.heap H locs ([(x, .inr (6, [.ref (ad 0), .ref ag, .ref wo, .ref dy])), (dy, .inr (8, [.int 0, .ref (g.2.2 0), .int 0]))] ++ wsW g ad (-1) 1 0 ea σ0) := E
    exact y_out hex hlk hK E rfl (Or.inl ⟨hp.1, fun z => hp.2 (ix8.mpr z)⟩) hce hcv hcl ⟨Nat.le_of_ble_eq_true rfl, Nat.le_of_ble_eq_true rfl⟩
  · skip
    have E : Ev g _ s.heap H locs ([(x, .inr (6, [.ref (ad 0), .ref ag, .ref wo, .ref dy])), (dy, .inr (8, [.int 0, .ref (g.2.2 0), .int 0]))] ++ wsW g ad (-1) 1 0 ea σ0) := E
    have hx2 := hp
    have hA2 := ix8.mp hx2
    refine lv_iload_n hx hb dX6_setGround_6 rfl (lv_at hl 2 rfl) ?_
    refine lv_bipush (v := (-100)) hx hb dX6_setGround_7 (by decide) ?_
    refine lv_sipush (v := 200) hx hb dX6_setGround_9 (by decide) ?_
    refine y_retv (yrunS (As := [.int p1, .int (-100), .int 200]) (rest := []) (n := 3) S hml hK (hZ.at E) (Cut.of (wc := []) (wr := ([(x, .inr (6, [.ref (ad 0), .ref ag, .ref wo, .ref dy])), (dy, .inr (8, [.int 0, .ref (g.2.2 0), .int 0]))] ++ wsW g ad (-1) 1 0 ea σ0)) E hA [] [0, 1, 2, 3, 4, 5, 6, 7, 8, 9, 10, 11, 12, 13, 14, 15, 16, 17, 18, 19, 20, 21, 22, 23, 24, 25, 26, 27, 28, 29, 30, 31, 32] rfl rfl rfl rfl (by decide)) (c_X6_requireRange l g hst p1 (-100) 200 _ _) ml_X6_36 st_X6_requireRange in_X6 co_X6_requireRange ⟨by decide +kernel, by decide +kernel, by decide +kernel⟩ ⟨Nat.le_of_ble_eq_true rfl, Nat.le_of_ble_eq_true rfl⟩ rfl hl.1 rfl (Nat.le_of_ble_eq_true rfl) dX6_setGround_12 ⟨Nat.le_of_ble_eq_true rfl, Nat.le_of_ble_eq_true rfl⟩) (Cut.of (wc := []) (wr := ([(x, .inr (6, [.ref (ad 0), .ref ag, .ref wo, .ref dy])), (dy, .inr (8, [.int 0, .ref (g.2.2 0), .int 0]))] ++ wsW g ad (-1) 1 0 ea σ0)) E hA [] [0, 1, 2, 3, 4, 5, 6, 7, 8, 9, 10, 11, 12, 13, 14, 15, 16, 17, 18, 19, 20, 21, 22, 23, 24, 25, 26, 27, 28, 29, 30, 31, 32] rfl rfl rfl rfl (by decide)) E (fun En ce q9 H locs hp E hce hcv hcl => ?_) (fun u3 H locs hp E => ?_)
    · have E : Ev g _ s.heap H locs ([(x, .inr (6, [.ref (ad 0), .ref ag, .ref wo, .ref dy])), (dy, .inr (8, [.int 0, .ref (g.2.2 0), .int 0]))] ++ wsW g ad (-1) 1 0 ea σ0) := E
      exact y_out hex hlk hK E rfl (Or.inr ⟨hp.1, hA2, fun z => hp.2 z⟩) hce hcv hcl ⟨Nat.le_of_ble_eq_true rfl, Nat.le_of_ble_eq_true rfl⟩
    · skip
      have E : Ev g _ s.heap H locs ([(x, .inr (6, [.ref (ad 0), .ref ag, .ref wo, .ref dy])), (dy, .inr (8, [.int 0, .ref (g.2.2 0), .int 0]))] ++ wsW g ad (-1) 1 0 ea σ0) := E
      have hB4 := hp
      refine lv_aload_n hx hb dX6_setGround_15 rfl (lv_at hl 0 rfl) ?_
      refine wg_X6_14 (v := .ref (ad 0)) S hK E 0 rfl rfl dX6_setGround_16 ?_
      refine wg_X6_59 (v := .ref (ad 2)) S hK E 2 rfl rfl dX6_setGround_19 ?_
      refine wg_X6_63 (v := .ref (ad 12)) S hK E 4 rfl rfl dX6_setGround_22 ?_
      refine lv_iload_n hx hb dX6_setGround_25 rfl (lv_at hl 1 rfl) ?_
      refine w_ild (v := 100) S hK E 14 0 rfl rfl (rg_in 7 (by decide) (by decide) (by decide) hA2) rfl dX6_setGround_26 ?_
      refine lv_istore_n (lv' := [(3, .int 100), (0, .ref x), (1, .int p0), (2, .int p1)]) hx hb dX6_setGround_27 rfl hl (by decide) rfl (fun ls hl => ?_)
      refine lv_aload_n hx hb dX6_setGround_28 rfl (lv_at hl 1 rfl) ?_
      refine w_new (ci := 1) (fs := [.int 0, .int 0, .int 0, .int 0, .int 0]) (C := RX1) (T := TX1) (N := 5) S hK E hA fw_X1 tyX1 tyX1_ok cl_X6_50 ib_X1 in_X1 rfl (fun j hj => by rcases (show j = 0 ∨ j = 1 ∨ j = 2 ∨ j = 3 ∨ j = 4 by omega) with rfl | rfl | rfl | rfl | rfl <;> rfl) (Nat.le_of_ble_eq_true rfl) (Nat.le_of_ble_eq_true rfl) dX6_setGround_29 (fun q5 H E => ?_)
      have E : Ev g _ s.heap H _ ([(x, .inr (6, [.ref (ad 0), .ref ag, .ref wo, .ref dy])), (dy, .inr (8, [.int 0, .ref (g.2.2 0), .int 0]))] ++ wsW g ad (-1) 1 0 ea σ0 ++ [(q5, .inr (1, [.int 0, .int 0, .int 0, .int 0, .int 0]))]) := E
      refine lv_dup hx hb dX6_setGround_32 rfl ?_
      refine lv_iconst (v := 1) hx hb dX6_setGround_33 (by decide) ?_
      refine lv_iload_n hx hb dX6_setGround_34 rfl (lv_at hl 2 rfl) ?_
      refine lv_iload_n hx hb dX6_setGround_35 rfl (lv_at hl 3 rfl) ?_
      refine lv_iconst (v := 0) hx hb dX6_setGround_36 (by decide) ?_
      refine lv_iconst (v := 0) hx hb dX6_setGround_37 (by decide) ?_
      refine w_retv (runI_X (As := [.int 1, .int p0, .int p1, .int 0, .int 0]) (rest := [.ref q5, .ref x]) (n := 5) S hml hK (hZ.at E) (Cut.of (wc := [(q5, .inr (1, [.int 0, .int 0, .int 0, .int 0, .int 0]))]) (wr := ([(x, .inr (6, [.ref (ad 0), .ref ag, .ref wo, .ref dy])), (dy, .inr (8, [.int 0, .ref (g.2.2 0), .int 0]))] ++ wsW g ad (-1) 1 0 ea σ0)) E hA [33] [0, 1, 2, 3, 4, 5, 6, 7, 8, 9, 10, 11, 12, 13, 14, 15, 16, 17, 18, 19, 20, 21, 22, 23, 24, 25, 26, 27, 28, 29, 30, 31, 32] rfl rfl rfl rfl (by decide)) (c_X1_init l g q5 0 0 0 0 0 1 p0 p1 0 0 _ _) ml_X6_52 im_X1_init in_X1 co_X1_init rfl ⟨by decide +kernel, by decide +kernel, by decide +kernel⟩ ⟨Nat.le_of_ble_eq_true rfl, Nat.le_of_ble_eq_true rfl⟩ rfl hl.1 rfl (Nat.le_of_ble_eq_true rfl) dX6_setGround_38 ⟨Nat.le_of_ble_eq_true rfl, Nat.le_of_ble_eq_true rfl⟩) (Cut.of (wc := [(q5, .inr (1, [.int 0, .int 0, .int 0, .int 0, .int 0]))]) (wr := ([(x, .inr (6, [.ref (ad 0), .ref ag, .ref wo, .ref dy])), (dy, .inr (8, [.int 0, .ref (g.2.2 0), .int 0]))] ++ wsW g ad (-1) 1 0 ea σ0)) E hA [33] [0, 1, 2, 3, 4, 5, 6, 7, 8, 9, 10, 11, 12, 13, 14, 15, 16, 17, 18, 19, 20, 21, 22, 23, 24, 25, 26, 27, 28, 29, 30, 31, 32] rfl rfl rfl rfl (by decide)) E (fun u6 H locs hp E => ?_)
      have E : Ev g _ s.heap H locs ([(x, .inr (6, [.ref (ad 0), .ref ag, .ref wo, .ref dy])), (dy, .inr (8, [.int 0, .ref (g.2.2 0), .int 0]))] ++ wsW g ad (-1) 1 0 ea σ0 ++ [(q5, .inr (1, [.int 1, .int p0, .int p1, .int 0, .int 0]))]) := E
      refine w_retv (runV_X (As := [.ref q5]) (rest := []) (q0 := 0) (n := 1) S hml hK (hZ.at E) (Cut.of (wc := ([(x, .inr (6, [.ref (ad 0), .ref ag, .ref wo, .ref dy])), (dy, .inr (8, [.int 0, .ref (g.2.2 0), .int 0])), (q5, .inr (1, [.int 1, .int p0, .int p1, .int 0, .int 0]))] ++ wsW g ad (-1) 1 0 ea σ0)) (wr := []) E hA [0, 1, 33, 2, 3, 4, 5, 6, 7, 8, 9, 10, 11, 12, 13, 14, 15, 16, 17, 18, 19, 20, 21, 22, 23, 24, 25, 26, 27, 28, 29, 30, 31, 32] [] rfl rfl rfl rfl (by decide)) (c_co1 l g x ag wo dy ad ea q5 p0 p1 (rg_in 7 (by decide) (by decide) (by decide) hA2) _ _) (gi_wsV ml_X6_55 im_X6_carryOut sl_X6_carryOut in_X6 co_X6_carryOut) ⟨rfl, by decide +kernel, by decide +kernel, by decide +kernel⟩ ⟨Nat.le_of_ble_eq_true rfl, Nat.le_of_ble_eq_true rfl⟩ rfl rfl rfl hl.1 rfl (Nat.le_of_ble_eq_true rfl) dX6_setGround_41 ⟨Nat.le_of_ble_eq_true rfl, Nat.le_of_ble_eq_true rfl⟩) (Cut.of (wc := ([(x, .inr (6, [.ref (ad 0), .ref ag, .ref wo, .ref dy])), (dy, .inr (8, [.int 0, .ref (g.2.2 0), .int 0])), (q5, .inr (1, [.int 1, .int p0, .int p1, .int 0, .int 0]))] ++ wsW g ad (-1) 1 0 ea σ0)) (wr := []) E hA [0, 1, 33, 2, 3, 4, 5, 6, 7, 8, 9, 10, 11, 12, 13, 14, 15, 16, 17, 18, 19, 20, 21, 22, 23, 24, 25, 26, 27, 28, 29, 30, 31, 32] [] rfl rfl rfl rfl (by decide)) E (fun u7 H locs hp E => ?_)
      have E : Ev g _ s.heap H locs [(x, .inr (6, [.ref (ad 0), .ref ag, .ref wo, .ref dy]))] := E
      refine lv_iload_n hx hb dX6_setGround_44 rfl (lv_at hl 0 rfl) ?_
      exact vx_ret (x_iret () S hr hlk hsz htt hK E dX6_setGround_45 ⟨rfl, ⟨hA2, hB4⟩⟩ rfl ⟨Nat.le_of_ble_eq_true rfl, Nat.le_of_ble_eq_true rfl⟩ ⟨Nat.le_of_ble_eq_true rfl, Nat.le_of_ble_eq_true rfl⟩)

set_option maxHeartbeats 4000000 in
set_option maxRecDepth 100000 in
/-- setConductance -/
theorem c_X6_setConductance (l : Launch) (g : Gm) (hst : l.stackTraces = false) (x : Nat) (ag : Nat) (wo : Nat) (dy : Nat) (ad : Nat → Nat) (ea : Nat) (p0 : Int32) (p1 : Int32) : YXi (S := Unit) l g yX6_setConductance cX6_setConductance 4 .int ({ frames := 7, cells := 14, slots := 100015, locals := 122 } : Room) [.ref x, .int p0, .int p1] ([(x, .inr (6, [.ref (ad 0), .ref ag, .ref wo, .ref dy])), (dy, .inr (8, [.int 0, .ref (g.2.2 0), .int 0]))] ++ wsW g ad (-1) 1 0 ea σ0) (fun r _ => r = 4 ∧ rgOK p0 0 1 ∧ rgOK p1 0 9) (fun _ => [(x, .inr (6, [.ref (ad 0), .ref ag, .ref wo, .ref dy]))]) (fun _ => (14, 100015)) ([(x, .inr (6, [.ref (ad 0), .ref ag, .ref wo, .ref dy])), (dy, .inr (8, [.int 0, .ref (g.2.2 0), .int 0]))] ++ wsW g ad (-1) 1 0 ea σ0) (fun En => (En = "java/lang/IndexOutOfBoundsException" ∧ ¬ rgOK p0 0 1) ∨ (En = "java/lang/IllegalArgumentException" ∧ rgOK p0 0 1 ∧ ¬ (rgOK p1 0 9))) := by
  intro sz tt
  refine ofY RX6 rfl (by decide +kernel) (Nat.le_of_ble_eq_true rfl) (fun p e s m args below meth c hargs S hml hr hlk hex hsz htt hK hA hZ E ls hl => ?_)
  have hx := S.1
  have hb := S.2.1
  have hl : lv_has ls 4 [(0, .ref x), (1, .int p0), (2, .int p1)] := hl
  refine lv_iload_n hx hb dX6_setConductance_0 rfl (lv_at hl 1 rfl) ?_
  refine lv_iconst (v := 2) hx hb dX6_setConductance_1 (by decide) ?_
  refine y_retv (yrunS (As := [.int p0, .int 2]) (rest := []) (n := 2) S hml hK (hZ.at E) (Cut.of (wc := []) (wr := ([(x, .inr (6, [.ref (ad 0), .ref ag, .ref wo, .ref dy])), (dy, .inr (8, [.int 0, .ref (g.2.2 0), .int 0]))] ++ wsW g ad (-1) 1 0 ea σ0)) E hA [] [0, 1, 2, 3, 4, 5, 6, 7, 8, 9, 10, 11, 12, 13, 14, 15, 16, 17, 18, 19, 20, 21, 22, 23, 24, 25, 26, 27, 28, 29, 30, 31, 32] rfl rfl rfl rfl (by decide)) (c_X6_requireIndex l g hst p0 2 _ _) ml_X6_32 st_X6_requireIndex in_X6 co_X6_requireIndex ⟨by decide +kernel, by decide +kernel, by decide +kernel⟩ ⟨Nat.le_of_ble_eq_true rfl, Nat.le_of_ble_eq_true rfl⟩ rfl hl.1 rfl (Nat.le_of_ble_eq_true rfl) dX6_setConductance_2 ⟨Nat.le_of_ble_eq_true rfl, Nat.le_of_ble_eq_true rfl⟩) (Cut.of (wc := []) (wr := ([(x, .inr (6, [.ref (ad 0), .ref ag, .ref wo, .ref dy])), (dy, .inr (8, [.int 0, .ref (g.2.2 0), .int 0]))] ++ wsW g ad (-1) 1 0 ea σ0)) E hA [] [0, 1, 2, 3, 4, 5, 6, 7, 8, 9, 10, 11, 12, 13, 14, 15, 16, 17, 18, 19, 20, 21, 22, 23, 24, 25, 26, 27, 28, 29, 30, 31, 32] rfl rfl rfl rfl (by decide)) E (fun En ce q9 H locs hp E hce hcv hcl => ?_) (fun u1 H locs hp E => ?_)
  · have E : Ev g _ s.heap H locs ([(x, .inr (6, [.ref (ad 0), .ref ag, .ref wo, .ref dy])), (dy, .inr (8, [.int 0, .ref (g.2.2 0), .int 0]))] ++ wsW g ad (-1) 1 0 ea σ0) := E
    exact y_out hex hlk hK E rfl (Or.inl ⟨hp.1, fun z => hp.2 (ix2.mpr z)⟩) hce hcv hcl ⟨Nat.le_of_ble_eq_true rfl, Nat.le_of_ble_eq_true rfl⟩
  · skip
    have E : Ev g _ s.heap H locs ([(x, .inr (6, [.ref (ad 0), .ref ag, .ref wo, .ref dy])), (dy, .inr (8, [.int 0, .ref (g.2.2 0), .int 0]))] ++ wsW g ad (-1) 1 0 ea σ0) := E
    have hx2 := hp
    have hA2 := ix2.mp hx2
    refine lv_iload_n hx hb dX6_setConductance_5 rfl (lv_at hl 2 rfl) ?_
    refine lv_iconst (v := 0) hx hb dX6_setConductance_6 (by decide) ?_
    refine lv_bipush (v := 9) hx hb dX6_setConductance_7 (by decide) ?_
    refine y_retv (yrunS (As := [.int p1, .int 0, .int 9]) (rest := []) (n := 3) S hml hK (hZ.at E) (Cut.of (wc := []) (wr := ([(x, .inr (6, [.ref (ad 0), .ref ag, .ref wo, .ref dy])), (dy, .inr (8, [.int 0, .ref (g.2.2 0), .int 0]))] ++ wsW g ad (-1) 1 0 ea σ0)) E hA [] [0, 1, 2, 3, 4, 5, 6, 7, 8, 9, 10, 11, 12, 13, 14, 15, 16, 17, 18, 19, 20, 21, 22, 23, 24, 25, 26, 27, 28, 29, 30, 31, 32] rfl rfl rfl rfl (by decide)) (c_X6_requireRange l g hst p1 0 9 _ _) ml_X6_36 st_X6_requireRange in_X6 co_X6_requireRange ⟨by decide +kernel, by decide +kernel, by decide +kernel⟩ ⟨Nat.le_of_ble_eq_true rfl, Nat.le_of_ble_eq_true rfl⟩ rfl hl.1 rfl (Nat.le_of_ble_eq_true rfl) dX6_setConductance_9 ⟨Nat.le_of_ble_eq_true rfl, Nat.le_of_ble_eq_true rfl⟩) (Cut.of (wc := []) (wr := ([(x, .inr (6, [.ref (ad 0), .ref ag, .ref wo, .ref dy])), (dy, .inr (8, [.int 0, .ref (g.2.2 0), .int 0]))] ++ wsW g ad (-1) 1 0 ea σ0)) E hA [] [0, 1, 2, 3, 4, 5, 6, 7, 8, 9, 10, 11, 12, 13, 14, 15, 16, 17, 18, 19, 20, 21, 22, 23, 24, 25, 26, 27, 28, 29, 30, 31, 32] rfl rfl rfl rfl (by decide)) E (fun En ce q9 H locs hp E hce hcv hcl => ?_) (fun u3 H locs hp E => ?_)
    · have E : Ev g _ s.heap H locs ([(x, .inr (6, [.ref (ad 0), .ref ag, .ref wo, .ref dy])), (dy, .inr (8, [.int 0, .ref (g.2.2 0), .int 0]))] ++ wsW g ad (-1) 1 0 ea σ0) := E
      exact y_out hex hlk hK E rfl (Or.inr ⟨hp.1, hA2, fun z => hp.2 z⟩) hce hcv hcl ⟨Nat.le_of_ble_eq_true rfl, Nat.le_of_ble_eq_true rfl⟩
    · skip
      have E : Ev g _ s.heap H locs ([(x, .inr (6, [.ref (ad 0), .ref ag, .ref wo, .ref dy])), (dy, .inr (8, [.int 0, .ref (g.2.2 0), .int 0]))] ++ wsW g ad (-1) 1 0 ea σ0) := E
      have hB4 := hp
      refine lv_aload_n hx hb dX6_setConductance_12 rfl (lv_at hl 0 rfl) ?_
      refine wg_X6_14 (v := .ref (ad 0)) S hK E 0 rfl rfl dX6_setConductance_13 ?_
      refine wg_X6_59 (v := .ref (ad 2)) S hK E 2 rfl rfl dX6_setConductance_16 ?_
      refine wg_X6_68 (v := .ref (ad 13)) S hK E 4 rfl rfl dX6_setConductance_19 ?_
      refine lv_iload_n hx hb dX6_setConductance_22 rfl (lv_at hl 1 rfl) ?_
      refine w_ild (v := 4) S hK E 15 0 rfl rfl (rg_in 1 (by decide) (by decide) (by decide) hA2) rfl dX6_setConductance_23 ?_
      refine lv_istore_n (lv' := [(3, .int 4), (0, .ref x), (1, .int p0), (2, .int p1)]) hx hb dX6_setConductance_24 rfl hl (by decide) rfl (fun ls hl => ?_)
      refine lv_aload_n hx hb dX6_setConductance_25 rfl (lv_at hl 1 rfl) ?_
      refine w_new (ci := 1) (fs := [.int 0, .int 0, .int 0, .int 0, .int 0]) (C := RX1) (T := TX1) (N := 5) S hK E hA fw_X1 tyX1 tyX1_ok cl_X6_50 ib_X1 in_X1 rfl (fun j hj => by rcases (show j = 0 ∨ j = 1 ∨ j = 2 ∨ j = 3 ∨ j = 4 by omega) with rfl | rfl | rfl | rfl | rfl <;> rfl) (Nat.le_of_ble_eq_true rfl) (Nat.le_of_ble_eq_true rfl) dX6_setConductance_26 (fun q5 H E => ?_)
      have E : Ev g _ s.heap H _ ([(x, .inr (6, [.ref (ad 0), .ref ag, .ref wo, .ref dy])), (dy, .inr (8, [.int 0, .ref (g.2.2 0), .int 0]))] ++ wsW g ad (-1) 1 0 ea σ0 ++ [(q5, .inr (1, [.int 0, .int 0, .int 0, .int 0, .int 0]))]) := E
      refine lv_dup hx hb dX6_setConductance_29 rfl ?_
      refine lv_iconst (v := 2) hx hb dX6_setConductance_30 (by decide) ?_
      refine lv_iload_n hx hb dX6_setConductance_31 rfl (lv_at hl 2 rfl) ?_
      refine lv_iload_n hx hb dX6_setConductance_32 rfl (lv_at hl 3 rfl) ?_
      refine lv_iconst (v := 0) hx hb dX6_setConductance_33 (by decide) ?_
      refine lv_iconst (v := 0) hx hb dX6_setConductance_34 (by decide) ?_
      refine w_retv (runI_X (As := [.int 2, .int p0, .int p1, .int 0, .int 0]) (rest := [.ref q5, .ref x]) (n := 5) S hml hK (hZ.at E) (Cut.of (wc := [(q5, .inr (1, [.int 0, .int 0, .int 0, .int 0, .int 0]))]) (wr := ([(x, .inr (6, [.ref (ad 0), .ref ag, .ref wo, .ref dy])), (dy, .inr (8, [.int 0, .ref (g.2.2 0), .int 0]))] ++ wsW g ad (-1) 1 0 ea σ0)) E hA [33] [0, 1, 2, 3, 4, 5, 6, 7, 8, 9, 10, 11, 12, 13, 14, 15, 16, 17, 18, 19, 20, 21, 22, 23, 24, 25, 26, 27, 28, 29, 30, 31, 32] rfl rfl rfl rfl (by decide)) (c_X1_init l g q5 0 0 0 0 0 2 p0 p1 0 0 _ _) ml_X6_52 im_X1_init in_X1 co_X1_init rfl ⟨by decide +kernel, by decide +kernel, by decide +kernel⟩ ⟨Nat.le_of_ble_eq_true rfl, Nat.le_of_ble_eq_true rfl⟩ rfl hl.1 rfl (Nat.le_of_ble_eq_true rfl) dX6_setConductance_35 ⟨Nat.le_of_ble_eq_true rfl, Nat.le_of_ble_eq_true rfl⟩) (Cut.of (wc := [(q5, .inr (1, [.int 0, .int 0, .int 0, .int 0, .int 0]))]) (wr := ([(x, .inr (6, [.ref (ad 0), .ref ag, .ref wo, .ref dy])), (dy, .inr (8, [.int 0, .ref (g.2.2 0), .int 0]))] ++ wsW g ad (-1) 1 0 ea σ0)) E hA [33] [0, 1, 2, 3, 4, 5, 6, 7, 8, 9, 10, 11, 12, 13, 14, 15, 16, 17, 18, 19, 20, 21, 22, 23, 24, 25, 26, 27, 28, 29, 30, 31, 32] rfl rfl rfl rfl (by decide)) E (fun u6 H locs hp E => ?_)
      have E : Ev g _ s.heap H locs ([(x, .inr (6, [.ref (ad 0), .ref ag, .ref wo, .ref dy])), (dy, .inr (8, [.int 0, .ref (g.2.2 0), .int 0]))] ++ wsW g ad (-1) 1 0 ea σ0 ++ [(q5, .inr (1, [.int 2, .int p0, .int p1, .int 0, .int 0]))]) := E
      refine w_retv (runV_X (As := [.ref q5]) (rest := []) (q0 := 0) (n := 1) S hml hK (hZ.at E) (Cut.of (wc := ([(x, .inr (6, [.ref (ad 0), .ref ag, .ref wo, .ref dy])), (dy, .inr (8, [.int 0, .ref (g.2.2 0), .int 0])), (q5, .inr (1, [.int 2, .int p0, .int p1, .int 0, .int 0]))] ++ wsW g ad (-1) 1 0 ea σ0)) (wr := []) E hA [0, 1, 33, 2, 3, 4, 5, 6, 7, 8, 9, 10, 11, 12, 13, 14, 15, 16, 17, 18, 19, 20, 21, 22, 23, 24, 25, 26, 27, 28, 29, 30, 31, 32] [] rfl rfl rfl rfl (by decide)) (c_co2 l g x ag wo dy ad ea q5 p0 p1 (rg_in 1 (by decide) (by decide) (by decide) hA2) _ _) (gi_wsV ml_X6_55 im_X6_carryOut sl_X6_carryOut in_X6 co_X6_carryOut) ⟨rfl, by decide +kernel, by decide +kernel, by decide +kernel⟩ ⟨Nat.le_of_ble_eq_true rfl, Nat.le_of_ble_eq_true rfl⟩ rfl rfl rfl hl.1 rfl (Nat.le_of_ble_eq_true rfl) dX6_setConductance_38 ⟨Nat.le_of_ble_eq_true rfl, Nat.le_of_ble_eq_true rfl⟩) (Cut.of (wc := ([(x, .inr (6, [.ref (ad 0), .ref ag, .ref wo, .ref dy])), (dy, .inr (8, [.int 0, .ref (g.2.2 0), .int 0])), (q5, .inr (1, [.int 2, .int p0, .int p1, .int 0, .int 0]))] ++ wsW g ad (-1) 1 0 ea σ0)) (wr := []) E hA [0, 1, 33, 2, 3, 4, 5, 6, 7, 8, 9, 10, 11, 12, 13, 14, 15, 16, 17, 18, 19, 20, 21, 22, 23, 24, 25, 26, 27, 28, 29, 30, 31, 32] [] rfl rfl rfl rfl (by decide)) E (fun u7 H locs hp E => ?_)
      have E : Ev g _ s.heap H locs [(x, .inr (6, [.ref (ad 0), .ref ag, .ref wo, .ref dy]))] := E
      refine lv_iload_n hx hb dX6_setConductance_41 rfl (lv_at hl 0 rfl) ?_
      exact vx_ret (x_iret () S hr hlk hsz htt hK E dX6_setConductance_42 ⟨rfl, ⟨hA2, hB4⟩⟩ rfl ⟨Nat.le_of_ble_eq_true rfl, Nat.le_of_ble_eq_true rfl⟩ ⟨Nat.le_of_ble_eq_true rfl, Nat.le_of_ble_eq_true rfl⟩)

set_option maxHeartbeats 4000000 in
set_option maxRecDepth 100000 in
/-- setLeakage -/
theorem c_X6_setLeakage (l : Launch) (g : Gm) (hst : l.stackTraces = false) (x : Nat) (ag : Nat) (wo : Nat) (dy : Nat) (ad : Nat → Nat) (ea : Nat) (p0 : Int32) (p1 : Int32) : YXi (S := Unit) l g yX6_setLeakage cX6_setLeakage 4 .int ({ frames := 7, cells := 14, slots := 100015, locals := 122 } : Room) [.ref x, .int p0, .int p1] ([(x, .inr (6, [.ref (ad 0), .ref ag, .ref wo, .ref dy])), (dy, .inr (8, [.int 0, .ref (g.2.2 0), .int 0]))] ++ wsW g ad (-1) 1 0 ea σ0) (fun r _ => r = 0 ∧ rgOK p0 0 7 ∧ rgOK p1 0 9) (fun _ => [(x, .inr (6, [.ref (ad 0), .ref ag, .ref wo, .ref dy]))]) (fun _ => (14, 100015)) ([(x, .inr (6, [.ref (ad 0), .ref ag, .ref wo, .ref dy])), (dy, .inr (8, [.int 0, .ref (g.2.2 0), .int 0]))] ++ wsW g ad (-1) 1 0 ea σ0) (fun En => (En = "java/lang/IndexOutOfBoundsException" ∧ ¬ rgOK p0 0 7) ∨ (En = "java/lang/IllegalArgumentException" ∧ rgOK p0 0 7 ∧ ¬ (rgOK p1 0 9))) := by
  intro sz tt
  refine ofY RX6 rfl (by decide +kernel) (Nat.le_of_ble_eq_true rfl) (fun p e s m args below meth c hargs S hml hr hlk hex hsz htt hK hA hZ E ls hl => ?_)
  have hx := S.1
  have hb := S.2.1
  have hl : lv_has ls 4 [(0, .ref x), (1, .int p0), (2, .int p1)] := hl
  refine lv_iload_n hx hb dX6_setLeakage_0 rfl (lv_at hl 1 rfl) ?_
  refine lv_bipush (v := 8) hx hb dX6_setLeakage_1 (by decide) ?_
  refine y_retv (yrunS (As := [.int p0, .int 8]) (rest := []) (n := 2) S hml hK (hZ.at E) (Cut.of (wc := []) (wr := ([(x, .inr (6, [.ref (ad 0), .ref ag, .ref wo, .ref dy])), (dy, .inr (8, [.int 0, .ref (g.2.2 0), .int 0]))] ++ wsW g ad (-1) 1 0 ea σ0)) E hA [] [0, 1, 2, 3, 4, 5, 6, 7, 8, 9, 10, 11, 12, 13, 14, 15, 16, 17, 18, 19, 20, 21, 22, 23, 24, 25, 26, 27, 28, 29, 30, 31, 32] rfl rfl rfl rfl (by decide)) (c_X6_requireIndex l g hst p0 8 _ _) ml_X6_32 st_X6_requireIndex in_X6 co_X6_requireIndex ⟨by decide +kernel, by decide +kernel, by decide +kernel⟩ ⟨Nat.le_of_ble_eq_true rfl, Nat.le_of_ble_eq_true rfl⟩ rfl hl.1 rfl (Nat.le_of_ble_eq_true rfl) dX6_setLeakage_3 ⟨Nat.le_of_ble_eq_true rfl, Nat.le_of_ble_eq_true rfl⟩) (Cut.of (wc := []) (wr := ([(x, .inr (6, [.ref (ad 0), .ref ag, .ref wo, .ref dy])), (dy, .inr (8, [.int 0, .ref (g.2.2 0), .int 0]))] ++ wsW g ad (-1) 1 0 ea σ0)) E hA [] [0, 1, 2, 3, 4, 5, 6, 7, 8, 9, 10, 11, 12, 13, 14, 15, 16, 17, 18, 19, 20, 21, 22, 23, 24, 25, 26, 27, 28, 29, 30, 31, 32] rfl rfl rfl rfl (by decide)) E (fun En ce q9 H locs hp E hce hcv hcl => ?_) (fun u1 H locs hp E => ?_)
  · have E : Ev g _ s.heap H locs ([(x, .inr (6, [.ref (ad 0), .ref ag, .ref wo, .ref dy])), (dy, .inr (8, [.int 0, .ref (g.2.2 0), .int 0]))] ++ wsW g ad (-1) 1 0 ea σ0) := E
    exact y_out hex hlk hK E rfl (Or.inl ⟨hp.1, fun z => hp.2 (ix8.mpr z)⟩) hce hcv hcl ⟨Nat.le_of_ble_eq_true rfl, Nat.le_of_ble_eq_true rfl⟩
  · skip
    have E : Ev g _ s.heap H locs ([(x, .inr (6, [.ref (ad 0), .ref ag, .ref wo, .ref dy])), (dy, .inr (8, [.int 0, .ref (g.2.2 0), .int 0]))] ++ wsW g ad (-1) 1 0 ea σ0) := E
    have hx2 := hp
    have hA2 := ix8.mp hx2
    refine lv_iload_n hx hb dX6_setLeakage_6 rfl (lv_at hl 2 rfl) ?_
    refine lv_iconst (v := 0) hx hb dX6_setLeakage_7 (by decide) ?_
    refine lv_bipush (v := 9) hx hb dX6_setLeakage_8 (by decide) ?_
    refine y_retv (yrunS (As := [.int p1, .int 0, .int 9]) (rest := []) (n := 3) S hml hK (hZ.at E) (Cut.of (wc := []) (wr := ([(x, .inr (6, [.ref (ad 0), .ref ag, .ref wo, .ref dy])), (dy, .inr (8, [.int 0, .ref (g.2.2 0), .int 0]))] ++ wsW g ad (-1) 1 0 ea σ0)) E hA [] [0, 1, 2, 3, 4, 5, 6, 7, 8, 9, 10, 11, 12, 13, 14, 15, 16, 17, 18, 19, 20, 21, 22, 23, 24, 25, 26, 27, 28, 29, 30, 31, 32] rfl rfl rfl rfl (by decide)) (c_X6_requireRange l g hst p1 0 9 _ _) ml_X6_36 st_X6_requireRange in_X6 co_X6_requireRange ⟨by decide +kernel, by decide +kernel, by decide +kernel⟩ ⟨Nat.le_of_ble_eq_true rfl, Nat.le_of_ble_eq_true rfl⟩ rfl hl.1 rfl (Nat.le_of_ble_eq_true rfl) dX6_setLeakage_10 ⟨Nat.le_of_ble_eq_true rfl, Nat.le_of_ble_eq_true rfl⟩) (Cut.of (wc := []) (wr := ([(x, .inr (6, [.ref (ad 0), .ref ag, .ref wo, .ref dy])), (dy, .inr (8, [.int 0, .ref (g.2.2 0), .int 0]))] ++ wsW g ad (-1) 1 0 ea σ0)) E hA [] [0, 1, 2, 3, 4, 5, 6, 7, 8, 9, 10, 11, 12, 13, 14, 15, 16, 17, 18, 19, 20, 21, 22, 23, 24, 25, 26, 27, 28, 29, 30, 31, 32] rfl rfl rfl rfl (by decide)) E (fun En ce q9 H locs hp E hce hcv hcl => ?_) (fun u3 H locs hp E => ?_)
    · have E : Ev g _ s.heap H locs ([(x, .inr (6, [.ref (ad 0), .ref ag, .ref wo, .ref dy])), (dy, .inr (8, [.int 0, .ref (g.2.2 0), .int 0]))] ++ wsW g ad (-1) 1 0 ea σ0) := E
      exact y_out hex hlk hK E rfl (Or.inr ⟨hp.1, hA2, fun z => hp.2 z⟩) hce hcv hcl ⟨Nat.le_of_ble_eq_true rfl, Nat.le_of_ble_eq_true rfl⟩
    · skip
      have E : Ev g _ s.heap H locs ([(x, .inr (6, [.ref (ad 0), .ref ag, .ref wo, .ref dy])), (dy, .inr (8, [.int 0, .ref (g.2.2 0), .int 0]))] ++ wsW g ad (-1) 1 0 ea σ0) := E
      have hB4 := hp
      refine lv_aload_n hx hb dX6_setLeakage_13 rfl (lv_at hl 0 rfl) ?_
      refine wg_X6_14 (v := .ref (ad 0)) S hK E 0 rfl rfl dX6_setLeakage_14 ?_
      refine wg_X6_59 (v := .ref (ad 2)) S hK E 2 rfl rfl dX6_setLeakage_17 ?_
      refine wg_X6_71 (v := .ref (ad 14)) S hK E 4 rfl rfl dX6_setLeakage_20 ?_
      refine lv_iload_n hx hb dX6_setLeakage_23 rfl (lv_at hl 1 rfl) ?_
      refine w_ild (v := 0) S hK E 16 0 rfl rfl (rg_in 7 (by decide) (by decide) (by decide) hA2) rfl dX6_setLeakage_24 ?_
      refine lv_istore_n (lv' := [(3, .int 0), (0, .ref x), (1, .int p0), (2, .int p1)]) hx hb dX6_setLeakage_25 rfl hl (by decide) rfl (fun ls hl => ?_)
      refine lv_aload_n hx hb dX6_setLeakage_26 rfl (lv_at hl 1 rfl) ?_
      refine w_new (ci := 1) (fs := [.int 0, .int 0, .int 0, .int 0, .int 0]) (C := RX1) (T := TX1) (N := 5) S hK E hA fw_X1 tyX1 tyX1_ok cl_X6_50 ib_X1 in_X1 rfl (fun j hj => by rcases (show j = 0 ∨ j = 1 ∨ j = 2 ∨ j = 3 ∨ j = 4 by omega) with rfl | rfl | rfl | rfl | rfl <;> rfl) (Nat.le_of_ble_eq_true rfl) (Nat.le_of_ble_eq_true rfl) dX6_setLeakage_27 (fun q5 H E => ?_)
      have E : Ev g _ s.heap H _ ([(x, .inr (6, [.ref (ad 0), .ref ag, .ref wo, .ref dy])), (dy, .inr (8, [.int 0, .ref (g.2.2 0), .int 0]))] ++ wsW g ad (-1) 1 0 ea σ0 ++ [(q5, .inr (1, [.int 0, .int 0, .int 0, .int 0, .int 0]))]) := E
      refine lv_dup hx hb dX6_setLeakage_30 rfl ?_
      refine lv_iconst (v := 3) hx hb dX6_setLeakage_31 (by decide) ?_
      refine lv_iload_n hx hb dX6_setLeakage_32 rfl (lv_at hl 2 rfl) ?_
      refine lv_iload_n hx hb dX6_setLeakage_33 rfl (lv_at hl 3 rfl) ?_
      refine lv_iconst (v := 0) hx hb dX6_setLeakage_34 (by decide) ?_
      refine lv_iconst (v := 0) hx hb dX6_setLeakage_35 (by decide) ?_
      refine w_retv (runI_X (As := [.int 3, .int p0, .int p1, .int 0, .int 0]) (rest := [.ref q5, .ref x]) (n := 5) S hml hK (hZ.at E) (Cut.of (wc := [(q5, .inr (1, [.int 0, .int 0, .int 0, .int 0, .int 0]))]) (wr := ([(x, .inr (6, [.ref (ad 0), .ref ag, .ref wo, .ref dy])), (dy, .inr (8, [.int 0, .ref (g.2.2 0), .int 0]))] ++ wsW g ad (-1) 1 0 ea σ0)) E hA [33] [0, 1, 2, 3, 4, 5, 6, 7, 8, 9, 10, 11, 12, 13, 14, 15, 16, 17, 18, 19, 20, 21, 22, 23, 24, 25, 26, 27, 28, 29, 30, 31, 32] rfl rfl rfl rfl (by decide)) (c_X1_init l g q5 0 0 0 0 0 3 p0 p1 0 0 _ _) ml_X6_52 im_X1_init in_X1 co_X1_init rfl ⟨by decide +kernel, by decide +kernel, by decide +kernel⟩ ⟨Nat.le_of_ble_eq_true rfl, Nat.le_of_ble_eq_true rfl⟩ rfl hl.1 rfl (Nat.le_of_ble_eq_true rfl) dX6_setLeakage_36 ⟨Nat.le_of_ble_eq_true rfl, Nat.le_of_ble_eq_true rfl⟩) (Cut.of (wc := [(q5, .inr (1, [.int 0, .int 0, .int 0, .int 0, .int 0]))]) (wr := ([(x, .inr (6, [.ref (ad 0), .ref ag, .ref wo, .ref dy])), (dy, .inr (8, [.int 0, .ref (g.2.2 0), .int 0]))] ++ wsW g ad (-1) 1 0 ea σ0)) E hA [33] [0, 1, 2, 3, 4, 5, 6, 7, 8, 9, 10, 11, 12, 13, 14, 15, 16, 17, 18, 19, 20, 21, 22, 23, 24, 25, 26, 27, 28, 29, 30, 31, 32] rfl rfl rfl rfl (by decide)) E (fun u6 H locs hp E => ?_)
      have E : Ev g _ s.heap H locs ([(x, .inr (6, [.ref (ad 0), .ref ag, .ref wo, .ref dy])), (dy, .inr (8, [.int 0, .ref (g.2.2 0), .int 0]))] ++ wsW g ad (-1) 1 0 ea σ0 ++ [(q5, .inr (1, [.int 3, .int p0, .int p1, .int 0, .int 0]))]) := E
      refine w_retv (runV_X (As := [.ref q5]) (rest := []) (q0 := 0) (n := 1) S hml hK (hZ.at E) (Cut.of (wc := ([(x, .inr (6, [.ref (ad 0), .ref ag, .ref wo, .ref dy])), (dy, .inr (8, [.int 0, .ref (g.2.2 0), .int 0])), (q5, .inr (1, [.int 3, .int p0, .int p1, .int 0, .int 0]))] ++ wsW g ad (-1) 1 0 ea σ0)) (wr := []) E hA [0, 1, 33, 2, 3, 4, 5, 6, 7, 8, 9, 10, 11, 12, 13, 14, 15, 16, 17, 18, 19, 20, 21, 22, 23, 24, 25, 26, 27, 28, 29, 30, 31, 32] [] rfl rfl rfl rfl (by decide)) (c_co3 l g x ag wo dy ad ea q5 p0 p1 (rg_in 7 (by decide) (by decide) (by decide) hA2) _ _) (gi_wsV ml_X6_55 im_X6_carryOut sl_X6_carryOut in_X6 co_X6_carryOut) ⟨rfl, by decide +kernel, by decide +kernel, by decide +kernel⟩ ⟨Nat.le_of_ble_eq_true rfl, Nat.le_of_ble_eq_true rfl⟩ rfl rfl rfl hl.1 rfl (Nat.le_of_ble_eq_true rfl) dX6_setLeakage_39 ⟨Nat.le_of_ble_eq_true rfl, Nat.le_of_ble_eq_true rfl⟩) (Cut.of (wc := ([(x, .inr (6, [.ref (ad 0), .ref ag, .ref wo, .ref dy])), (dy, .inr (8, [.int 0, .ref (g.2.2 0), .int 0])), (q5, .inr (1, [.int 3, .int p0, .int p1, .int 0, .int 0]))] ++ wsW g ad (-1) 1 0 ea σ0)) (wr := []) E hA [0, 1, 33, 2, 3, 4, 5, 6, 7, 8, 9, 10, 11, 12, 13, 14, 15, 16, 17, 18, 19, 20, 21, 22, 23, 24, 25, 26, 27, 28, 29, 30, 31, 32] [] rfl rfl rfl rfl (by decide)) E (fun u7 H locs hp E => ?_)
      have E : Ev g _ s.heap H locs [(x, .inr (6, [.ref (ad 0), .ref ag, .ref wo, .ref dy]))] := E
      refine lv_iload_n hx hb dX6_setLeakage_42 rfl (lv_at hl 0 rfl) ?_
      exact vx_ret (x_iret () S hr hlk hsz htt hK E dX6_setLeakage_43 ⟨rfl, ⟨hA2, hB4⟩⟩ rfl ⟨Nat.le_of_ble_eq_true rfl, Nat.le_of_ble_eq_true rfl⟩ ⟨Nat.le_of_ble_eq_true rfl, Nat.le_of_ble_eq_true rfl⟩)

set_option maxHeartbeats 4000000 in
set_option maxRecDepth 100000 in
/-- setRain -/
theorem c_X6_setRain (l : Launch) (g : Gm) (hst : l.stackTraces = false) (x : Nat) (ag : Nat) (wo : Nat) (dy : Nat) (ad : Nat → Nat) (ea : Nat) (p0 : Int32) (p1 : Int32) : YXi (S := Unit) l g yX6_setRain cX6_setRain 4 .int ({ frames := 7, cells := 14, slots := 100015, locals := 122 } : Room) [.ref x, .int p0, .int p1] ([(x, .inr (6, [.ref (ad 0), .ref ag, .ref wo, .ref dy])), (dy, .inr (8, [.int 0, .ref (g.2.2 0), .int 0]))] ++ wsW g ad (-1) 1 0 ea σ0) (fun r _ => r = 0 ∧ rgOK p0 0 7 ∧ rgOK p1 0 99) (fun _ => [(x, .inr (6, [.ref (ad 0), .ref ag, .ref wo, .ref dy]))]) (fun _ => (14, 100015)) ([(x, .inr (6, [.ref (ad 0), .ref ag, .ref wo, .ref dy])), (dy, .inr (8, [.int 0, .ref (g.2.2 0), .int 0]))] ++ wsW g ad (-1) 1 0 ea σ0) (fun En => (En = "java/lang/IndexOutOfBoundsException" ∧ ¬ rgOK p0 0 7) ∨ (En = "java/lang/IllegalArgumentException" ∧ rgOK p0 0 7 ∧ ¬ (rgOK p1 0 99))) := by
  intro sz tt
  refine ofY RX6 rfl (by decide +kernel) (Nat.le_of_ble_eq_true rfl) (fun p e s m args below meth c hargs S hml hr hlk hex hsz htt hK hA hZ E ls hl => ?_)
  have hx := S.1
  have hb := S.2.1
  have hl : lv_has ls 4 [(0, .ref x), (1, .int p0), (2, .int p1)] := hl
  refine lv_iload_n hx hb dX6_setRain_0 rfl (lv_at hl 1 rfl) ?_
  refine lv_bipush (v := 8) hx hb dX6_setRain_1 (by decide) ?_
  refine y_retv (yrunS (As := [.int p0, .int 8]) (rest := []) (n := 2) S hml hK (hZ.at E) (Cut.of (wc := []) (wr := ([(x, .inr (6, [.ref (ad 0), .ref ag, .ref wo, .ref dy])), (dy, .inr (8, [.int 0, .ref (g.2.2 0), .int 0]))] ++ wsW g ad (-1) 1 0 ea σ0)) E hA [] [0, 1, 2, 3, 4, 5, 6, 7, 8, 9, 10, 11, 12, 13, 14, 15, 16, 17, 18, 19, 20, 21, 22, 23, 24, 25, 26, 27, 28, 29, 30, 31, 32] rfl rfl rfl rfl (by decide)) (c_X6_requireIndex l g hst p0 8 _ _) ml_X6_32 st_X6_requireIndex in_X6 co_X6_requireIndex ⟨by decide +kernel, by decide +kernel, by decide +kernel⟩ ⟨Nat.le_of_ble_eq_true rfl, Nat.le_of_ble_eq_true rfl⟩ rfl hl.1 rfl (Nat.le_of_ble_eq_true rfl) dX6_setRain_3 ⟨Nat.le_of_ble_eq_true rfl, Nat.le_of_ble_eq_true rfl⟩) (Cut.of (wc := []) (wr := ([(x, .inr (6, [.ref (ad 0), .ref ag, .ref wo, .ref dy])), (dy, .inr (8, [.int 0, .ref (g.2.2 0), .int 0]))] ++ wsW g ad (-1) 1 0 ea σ0)) E hA [] [0, 1, 2, 3, 4, 5, 6, 7, 8, 9, 10, 11, 12, 13, 14, 15, 16, 17, 18, 19, 20, 21, 22, 23, 24, 25, 26, 27, 28, 29, 30, 31, 32] rfl rfl rfl rfl (by decide)) E (fun En ce q9 H locs hp E hce hcv hcl => ?_) (fun u1 H locs hp E => ?_)
  · have E : Ev g _ s.heap H locs ([(x, .inr (6, [.ref (ad 0), .ref ag, .ref wo, .ref dy])), (dy, .inr (8, [.int 0, .ref (g.2.2 0), .int 0]))] ++ wsW g ad (-1) 1 0 ea σ0) := E
    exact y_out hex hlk hK E rfl (Or.inl ⟨hp.1, fun z => hp.2 (ix8.mpr z)⟩) hce hcv hcl ⟨Nat.le_of_ble_eq_true rfl, Nat.le_of_ble_eq_true rfl⟩
  · skip
    have E : Ev g _ s.heap H locs ([(x, .inr (6, [.ref (ad 0), .ref ag, .ref wo, .ref dy])), (dy, .inr (8, [.int 0, .ref (g.2.2 0), .int 0]))] ++ wsW g ad (-1) 1 0 ea σ0) := E
    have hx2 := hp
    have hA2 := ix8.mp hx2
    refine lv_iload_n hx hb dX6_setRain_6 rfl (lv_at hl 2 rfl) ?_
    refine lv_iconst (v := 0) hx hb dX6_setRain_7 (by decide) ?_
    refine lv_bipush (v := 99) hx hb dX6_setRain_8 (by decide) ?_
    refine y_retv (yrunS (As := [.int p1, .int 0, .int 99]) (rest := []) (n := 3) S hml hK (hZ.at E) (Cut.of (wc := []) (wr := ([(x, .inr (6, [.ref (ad 0), .ref ag, .ref wo, .ref dy])), (dy, .inr (8, [.int 0, .ref (g.2.2 0), .int 0]))] ++ wsW g ad (-1) 1 0 ea σ0)) E hA [] [0, 1, 2, 3, 4, 5, 6, 7, 8, 9, 10, 11, 12, 13, 14, 15, 16, 17, 18, 19, 20, 21, 22, 23, 24, 25, 26, 27, 28, 29, 30, 31, 32] rfl rfl rfl rfl (by decide)) (c_X6_requireRange l g hst p1 0 99 _ _) ml_X6_36 st_X6_requireRange in_X6 co_X6_requireRange ⟨by decide +kernel, by decide +kernel, by decide +kernel⟩ ⟨Nat.le_of_ble_eq_true rfl, Nat.le_of_ble_eq_true rfl⟩ rfl hl.1 rfl (Nat.le_of_ble_eq_true rfl) dX6_setRain_10 ⟨Nat.le_of_ble_eq_true rfl, Nat.le_of_ble_eq_true rfl⟩) (Cut.of (wc := []) (wr := ([(x, .inr (6, [.ref (ad 0), .ref ag, .ref wo, .ref dy])), (dy, .inr (8, [.int 0, .ref (g.2.2 0), .int 0]))] ++ wsW g ad (-1) 1 0 ea σ0)) E hA [] [0, 1, 2, 3, 4, 5, 6, 7, 8, 9, 10, 11, 12, 13, 14, 15, 16, 17, 18, 19, 20, 21, 22, 23, 24, 25, 26, 27, 28, 29, 30, 31, 32] rfl rfl rfl rfl (by decide)) E (fun En ce q9 H locs hp E hce hcv hcl => ?_) (fun u3 H locs hp E => ?_)
    · have E : Ev g _ s.heap H locs ([(x, .inr (6, [.ref (ad 0), .ref ag, .ref wo, .ref dy])), (dy, .inr (8, [.int 0, .ref (g.2.2 0), .int 0]))] ++ wsW g ad (-1) 1 0 ea σ0) := E
      exact y_out hex hlk hK E rfl (Or.inr ⟨hp.1, hA2, fun z => hp.2 z⟩) hce hcv hcl ⟨Nat.le_of_ble_eq_true rfl, Nat.le_of_ble_eq_true rfl⟩
    · skip
      have E : Ev g _ s.heap H locs ([(x, .inr (6, [.ref (ad 0), .ref ag, .ref wo, .ref dy])), (dy, .inr (8, [.int 0, .ref (g.2.2 0), .int 0]))] ++ wsW g ad (-1) 1 0 ea σ0) := E
      have hB4 := hp
      refine lv_aload_n hx hb dX6_setRain_13 rfl (lv_at hl 0 rfl) ?_
      refine wg_X6_14 (v := .ref (ad 0)) S hK E 0 rfl rfl dX6_setRain_14 ?_
      refine wg_X6_59 (v := .ref (ad 2)) S hK E 2 rfl rfl dX6_setRain_17 ?_
      refine wg_X6_74 (v := .ref (ad 15)) S hK E 4 rfl rfl dX6_setRain_20 ?_
      refine lv_iload_n hx hb dX6_setRain_23 rfl (lv_at hl 1 rfl) ?_
      refine w_ild (v := 0) S hK E 17 0 rfl rfl (rg_in 7 (by decide) (by decide) (by decide) hA2) rfl dX6_setRain_24 ?_
      refine lv_istore_n (lv' := [(3, .int 0), (0, .ref x), (1, .int p0), (2, .int p1)]) hx hb dX6_setRain_25 rfl hl (by decide) rfl (fun ls hl => ?_)
      refine lv_aload_n hx hb dX6_setRain_26 rfl (lv_at hl 1 rfl) ?_
      refine w_new (ci := 1) (fs := [.int 0, .int 0, .int 0, .int 0, .int 0]) (C := RX1) (T := TX1) (N := 5) S hK E hA fw_X1 tyX1 tyX1_ok cl_X6_50 ib_X1 in_X1 rfl (fun j hj => by rcases (show j = 0 ∨ j = 1 ∨ j = 2 ∨ j = 3 ∨ j = 4 by omega) with rfl | rfl | rfl | rfl | rfl <;> rfl) (Nat.le_of_ble_eq_true rfl) (Nat.le_of_ble_eq_true rfl) dX6_setRain_27 (fun q5 H E => ?_)
      have E : Ev g _ s.heap H _ ([(x, .inr (6, [.ref (ad 0), .ref ag, .ref wo, .ref dy])), (dy, .inr (8, [.int 0, .ref (g.2.2 0), .int 0]))] ++ wsW g ad (-1) 1 0 ea σ0 ++ [(q5, .inr (1, [.int 0, .int 0, .int 0, .int 0, .int 0]))]) := E
      refine lv_dup hx hb dX6_setRain_30 rfl ?_
      refine lv_iconst (v := 4) hx hb dX6_setRain_31 (by decide) ?_
      refine lv_iload_n hx hb dX6_setRain_32 rfl (lv_at hl 2 rfl) ?_
      refine lv_iload_n hx hb dX6_setRain_33 rfl (lv_at hl 3 rfl) ?_
      refine lv_iconst (v := 0) hx hb dX6_setRain_34 (by decide) ?_
      refine lv_iconst (v := 0) hx hb dX6_setRain_35 (by decide) ?_
      refine w_retv (runI_X (As := [.int 4, .int p0, .int p1, .int 0, .int 0]) (rest := [.ref q5, .ref x]) (n := 5) S hml hK (hZ.at E) (Cut.of (wc := [(q5, .inr (1, [.int 0, .int 0, .int 0, .int 0, .int 0]))]) (wr := ([(x, .inr (6, [.ref (ad 0), .ref ag, .ref wo, .ref dy])), (dy, .inr (8, [.int 0, .ref (g.2.2 0), .int 0]))] ++ wsW g ad (-1) 1 0 ea σ0)) E hA [33] [0, 1, 2, 3, 4, 5, 6, 7, 8, 9, 10, 11, 12, 13, 14, 15, 16, 17, 18, 19, 20, 21, 22, 23, 24, 25, 26, 27, 28, 29, 30, 31, 32] rfl rfl rfl rfl (by decide)) (c_X1_init l g q5 0 0 0 0 0 4 p0 p1 0 0 _ _) ml_X6_52 im_X1_init in_X1 co_X1_init rfl ⟨by decide +kernel, by decide +kernel, by decide +kernel⟩ ⟨Nat.le_of_ble_eq_true rfl, Nat.le_of_ble_eq_true rfl⟩ rfl hl.1 rfl (Nat.le_of_ble_eq_true rfl) dX6_setRain_36 ⟨Nat.le_of_ble_eq_true rfl, Nat.le_of_ble_eq_true rfl⟩) (Cut.of (wc := [(q5, .inr (1, [.int 0, .int 0, .int 0, .int 0, .int 0]))]) (wr := ([(x, .inr (6, [.ref (ad 0), .ref ag, .ref wo, .ref dy])), (dy, .inr (8, [.int 0, .ref (g.2.2 0), .int 0]))] ++ wsW g ad (-1) 1 0 ea σ0)) E hA [33] [0, 1, 2, 3, 4, 5, 6, 7, 8, 9, 10, 11, 12, 13, 14, 15, 16, 17, 18, 19, 20, 21, 22, 23, 24, 25, 26, 27, 28, 29, 30, 31, 32] rfl rfl rfl rfl (by decide)) E (fun u6 H locs hp E => ?_)
      have E : Ev g _ s.heap H locs ([(x, .inr (6, [.ref (ad 0), .ref ag, .ref wo, .ref dy])), (dy, .inr (8, [.int 0, .ref (g.2.2 0), .int 0]))] ++ wsW g ad (-1) 1 0 ea σ0 ++ [(q5, .inr (1, [.int 4, .int p0, .int p1, .int 0, .int 0]))]) := E
      refine w_retv (runV_X (As := [.ref q5]) (rest := []) (q0 := 0) (n := 1) S hml hK (hZ.at E) (Cut.of (wc := ([(x, .inr (6, [.ref (ad 0), .ref ag, .ref wo, .ref dy])), (dy, .inr (8, [.int 0, .ref (g.2.2 0), .int 0])), (q5, .inr (1, [.int 4, .int p0, .int p1, .int 0, .int 0]))] ++ wsW g ad (-1) 1 0 ea σ0)) (wr := []) E hA [0, 1, 33, 2, 3, 4, 5, 6, 7, 8, 9, 10, 11, 12, 13, 14, 15, 16, 17, 18, 19, 20, 21, 22, 23, 24, 25, 26, 27, 28, 29, 30, 31, 32] [] rfl rfl rfl rfl (by decide)) (c_co4 l g x ag wo dy ad ea q5 p0 p1 (rg_in 7 (by decide) (by decide) (by decide) hA2) _ _) (gi_wsV ml_X6_55 im_X6_carryOut sl_X6_carryOut in_X6 co_X6_carryOut) ⟨rfl, by decide +kernel, by decide +kernel, by decide +kernel⟩ ⟨Nat.le_of_ble_eq_true rfl, Nat.le_of_ble_eq_true rfl⟩ rfl rfl rfl hl.1 rfl (Nat.le_of_ble_eq_true rfl) dX6_setRain_39 ⟨Nat.le_of_ble_eq_true rfl, Nat.le_of_ble_eq_true rfl⟩) (Cut.of (wc := ([(x, .inr (6, [.ref (ad 0), .ref ag, .ref wo, .ref dy])), (dy, .inr (8, [.int 0, .ref (g.2.2 0), .int 0])), (q5, .inr (1, [.int 4, .int p0, .int p1, .int 0, .int 0]))] ++ wsW g ad (-1) 1 0 ea σ0)) (wr := []) E hA [0, 1, 33, 2, 3, 4, 5, 6, 7, 8, 9, 10, 11, 12, 13, 14, 15, 16, 17, 18, 19, 20, 21, 22, 23, 24, 25, 26, 27, 28, 29, 30, 31, 32] [] rfl rfl rfl rfl (by decide)) E (fun u7 H locs hp E => ?_)
      have E : Ev g _ s.heap H locs [(x, .inr (6, [.ref (ad 0), .ref ag, .ref wo, .ref dy]))] := E
      refine lv_iload_n hx hb dX6_setRain_42 rfl (lv_at hl 0 rfl) ?_
      exact vx_ret (x_iret () S hr hlk hsz htt hK E dX6_setRain_43 ⟨rfl, ⟨hA2, hB4⟩⟩ rfl ⟨Nat.le_of_ble_eq_true rfl, Nat.le_of_ble_eq_true rfl⟩ ⟨Nat.le_of_ble_eq_true rfl, Nat.le_of_ble_eq_true rfl⟩)

set_option maxHeartbeats 4000000 in
set_option maxRecDepth 100000 in
/-- setBed -/
theorem c_X6_setBed (l : Launch) (g : Gm) (hst : l.stackTraces = false) (x : Nat) (ag : Nat) (wo : Nat) (dy : Nat) (ad : Nat → Nat) (ea : Nat) (p0 : Int32) (p1 : Int32) (p2 : Int32) : YXi (S := Unit) l g yX6_setBed cX6_setBed 5 .int ({ frames := 7, cells := 14, slots := 100015, locals := 122 } : Room) [.ref x, .int p0, .int p1, .int p2] ([(x, .inr (6, [.ref (ad 0), .ref ag, .ref wo, .ref dy])), (dy, .inr (8, [.int 0, .ref (g.2.2 0), .int 0]))] ++ wsW g ad (-1) 1 0 ea σ0) (fun r _ => r = 0 ∧ rgOK p0 0 7 ∧ rgOK p1 (-100) 100 ∧ rgOK p2 0 9) (fun _ => [(x, .inr (6, [.ref (ad 0), .ref ag, .ref wo, .ref dy]))]) (fun _ => (14, 100015)) ([(x, .inr (6, [.ref (ad 0), .ref ag, .ref wo, .ref dy])), (dy, .inr (8, [.int 0, .ref (g.2.2 0), .int 0]))] ++ wsW g ad (-1) 1 0 ea σ0) (fun En => (En = "java/lang/IndexOutOfBoundsException" ∧ ¬ rgOK p0 0 7) ∨ (En = "java/lang/IllegalArgumentException" ∧ rgOK p0 0 7 ∧ ¬ (rgOK p1 (-100) 100 ∧ rgOK p2 0 9))) := by
  intro sz tt
  refine ofY RX6 rfl (by decide +kernel) (Nat.le_of_ble_eq_true rfl) (fun p e s m args below meth c hargs S hml hr hlk hex hsz htt hK hA hZ E ls hl => ?_)
  have hx := S.1
  have hb := S.2.1
  have hl : lv_has ls 5 [(0, .ref x), (1, .int p0), (2, .int p1), (3, .int p2)] := hl
  refine lv_iload_n hx hb dX6_setBed_0 rfl (lv_at hl 1 rfl) ?_
  refine lv_bipush (v := 8) hx hb dX6_setBed_1 (by decide) ?_
  refine y_retv (yrunS (As := [.int p0, .int 8]) (rest := []) (n := 2) S hml hK (hZ.at E) (Cut.of (wc := []) (wr := ([(x, .inr (6, [.ref (ad 0), .ref ag, .ref wo, .ref dy])), (dy, .inr (8, [.int 0, .ref (g.2.2 0), .int 0]))] ++ wsW g ad (-1) 1 0 ea σ0)) E hA [] [0, 1, 2, 3, 4, 5, 6, 7, 8, 9, 10, 11, 12, 13, 14, 15, 16, 17, 18, 19, 20, 21, 22, 23, 24, 25, 26, 27, 28, 29, 30, 31, 32] rfl rfl rfl rfl (by decide)) (c_X6_requireIndex l g hst p0 8 _ _) ml_X6_32 st_X6_requireIndex in_X6 co_X6_requireIndex ⟨by decide +kernel, by decide +kernel, by decide +kernel⟩ ⟨Nat.le_of_ble_eq_true rfl, Nat.le_of_ble_eq_true rfl⟩ rfl hl.1 rfl (Nat.le_of_ble_eq_true rfl) dX6_setBed_3 ⟨Nat.le_of_ble_eq_true rfl, Nat.le_of_ble_eq_true rfl⟩) (Cut.of (wc := []) (wr := ([(x, .inr (6, [.ref (ad 0), .ref ag, .ref wo, .ref dy])), (dy, .inr (8, [.int 0, .ref (g.2.2 0), .int 0]))] ++ wsW g ad (-1) 1 0 ea σ0)) E hA [] [0, 1, 2, 3, 4, 5, 6, 7, 8, 9, 10, 11, 12, 13, 14, 15, 16, 17, 18, 19, 20, 21, 22, 23, 24, 25, 26, 27, 28, 29, 30, 31, 32] rfl rfl rfl rfl (by decide)) E (fun En ce q9 H locs hp E hce hcv hcl => ?_) (fun u1 H locs hp E => ?_)
  · have E : Ev g _ s.heap H locs ([(x, .inr (6, [.ref (ad 0), .ref ag, .ref wo, .ref dy])), (dy, .inr (8, [.int 0, .ref (g.2.2 0), .int 0]))] ++ wsW g ad (-1) 1 0 ea σ0) := E
    exact y_out hex hlk hK E rfl (Or.inl ⟨hp.1, fun z => hp.2 (ix8.mpr z)⟩) hce hcv hcl ⟨Nat.le_of_ble_eq_true rfl, Nat.le_of_ble_eq_true rfl⟩
  · skip
    have E : Ev g _ s.heap H locs ([(x, .inr (6, [.ref (ad 0), .ref ag, .ref wo, .ref dy])), (dy, .inr (8, [.int 0, .ref (g.2.2 0), .int 0]))] ++ wsW g ad (-1) 1 0 ea σ0) := E
    have hx2 := hp
    have hA2 := ix8.mp hx2
    refine lv_iload_n hx hb dX6_setBed_6 rfl (lv_at hl 2 rfl) ?_
    refine lv_bipush (v := (-100)) hx hb dX6_setBed_7 (by decide) ?_
    refine lv_bipush (v := 100) hx hb dX6_setBed_9 (by decide) ?_
    refine y_retv (yrunS (As := [.int p1, .int (-100), .int 100]) (rest := []) (n := 3) S hml hK (hZ.at E) (Cut.of (wc := []) (wr := ([(x, .inr (6, [.ref (ad 0), .ref ag, .ref wo, .ref dy])), (dy, .inr (8, [.int 0, .ref (g.2.2 0), .int 0]))] ++ wsW g ad (-1) 1 0 ea σ0)) E hA [] [0, 1, 2, 3, 4, 5, 6, 7, 8, 9, 10, 11, 12, 13, 14, 15, 16, 17, 18, 19, 20, 21, 22, 23, 24, 25, 26, 27, 28, 29, 30, 31, 32] rfl rfl rfl rfl (by decide)) (c_X6_requireRange l g hst p1 (-100) 100 _ _) ml_X6_36 st_X6_requireRange in_X6 co_X6_requireRange ⟨by decide +kernel, by decide +kernel, by decide +kernel⟩ ⟨Nat.le_of_ble_eq_true rfl, Nat.le_of_ble_eq_true rfl⟩ rfl hl.1 rfl (Nat.le_of_ble_eq_true rfl) dX6_setBed_11 ⟨Nat.le_of_ble_eq_true rfl, Nat.le_of_ble_eq_true rfl⟩) (Cut.of (wc := []) (wr := ([(x, .inr (6, [.ref (ad 0), .ref ag, .ref wo, .ref dy])), (dy, .inr (8, [.int 0, .ref (g.2.2 0), .int 0]))] ++ wsW g ad (-1) 1 0 ea σ0)) E hA [] [0, 1, 2, 3, 4, 5, 6, 7, 8, 9, 10, 11, 12, 13, 14, 15, 16, 17, 18, 19, 20, 21, 22, 23, 24, 25, 26, 27, 28, 29, 30, 31, 32] rfl rfl rfl rfl (by decide)) E (fun En ce q9 H locs hp E hce hcv hcl => ?_) (fun u3 H locs hp E => ?_)
    · have E : Ev g _ s.heap H locs ([(x, .inr (6, [.ref (ad 0), .ref ag, .ref wo, .ref dy])), (dy, .inr (8, [.int 0, .ref (g.2.2 0), .int 0]))] ++ wsW g ad (-1) 1 0 ea σ0) := E
      exact y_out hex hlk hK E rfl (Or.inr ⟨hp.1, hA2, fun z => hp.2 z.1⟩) hce hcv hcl ⟨Nat.le_of_ble_eq_true rfl, Nat.le_of_ble_eq_true rfl⟩
    · skip
      have E : Ev g _ s.heap H locs ([(x, .inr (6, [.ref (ad 0), .ref ag, .ref wo, .ref dy])), (dy, .inr (8, [.int 0, .ref (g.2.2 0), .int 0]))] ++ wsW g ad (-1) 1 0 ea σ0) := E
      have hB4 := hp
      refine lv_iload_n hx hb dX6_setBed_14 rfl (lv_at hl 3 rfl) ?_
      refine lv_iconst (v := 0) hx hb dX6_setBed_15 (by decide) ?_
      refine lv_bipush (v := 9) hx hb dX6_setBed_16 (by decide) ?_
      refine y_retv (yrunS (As := [.int p2, .int 0, .int 9]) (rest := []) (n := 3) S hml hK (hZ.at E) (Cut.of (wc := []) (wr := ([(x, .inr (6, [.ref (ad 0), .ref ag, .ref wo, .ref dy])), (dy, .inr (8, [.int 0, .ref (g.2.2 0), .int 0]))] ++ wsW g ad (-1) 1 0 ea σ0)) E hA [] [0, 1, 2, 3, 4, 5, 6, 7, 8, 9, 10, 11, 12, 13, 14, 15, 16, 17, 18, 19, 20, 21, 22, 23, 24, 25, 26, 27, 28, 29, 30, 31, 32] rfl rfl rfl rfl (by decide)) (c_X6_requireRange l g hst p2 0 9 _ _) ml_X6_36 st_X6_requireRange in_X6 co_X6_requireRange ⟨by decide +kernel, by decide +kernel, by decide +kernel⟩ ⟨Nat.le_of_ble_eq_true rfl, Nat.le_of_ble_eq_true rfl⟩ rfl hl.1 rfl (Nat.le_of_ble_eq_true rfl) dX6_setBed_18 ⟨Nat.le_of_ble_eq_true rfl, Nat.le_of_ble_eq_true rfl⟩) (Cut.of (wc := []) (wr := ([(x, .inr (6, [.ref (ad 0), .ref ag, .ref wo, .ref dy])), (dy, .inr (8, [.int 0, .ref (g.2.2 0), .int 0]))] ++ wsW g ad (-1) 1 0 ea σ0)) E hA [] [0, 1, 2, 3, 4, 5, 6, 7, 8, 9, 10, 11, 12, 13, 14, 15, 16, 17, 18, 19, 20, 21, 22, 23, 24, 25, 26, 27, 28, 29, 30, 31, 32] rfl rfl rfl rfl (by decide)) E (fun En ce q9 H locs hp E hce hcv hcl => ?_) (fun u5 H locs hp E => ?_)
      · have E : Ev g _ s.heap H locs ([(x, .inr (6, [.ref (ad 0), .ref ag, .ref wo, .ref dy])), (dy, .inr (8, [.int 0, .ref (g.2.2 0), .int 0]))] ++ wsW g ad (-1) 1 0 ea σ0) := E
        exact y_out hex hlk hK E rfl (Or.inr ⟨hp.1, hA2, fun z => hp.2 z.2⟩) hce hcv hcl ⟨Nat.le_of_ble_eq_true rfl, Nat.le_of_ble_eq_true rfl⟩
      · skip
        have E : Ev g _ s.heap H locs ([(x, .inr (6, [.ref (ad 0), .ref ag, .ref wo, .ref dy])), (dy, .inr (8, [.int 0, .ref (g.2.2 0), .int 0]))] ++ wsW g ad (-1) 1 0 ea σ0) := E
        have hB6 := hp
        refine lv_aload_n hx hb dX6_setBed_21 rfl (lv_at hl 0 rfl) ?_
        refine wg_X6_14 (v := .ref (ad 0)) S hK E 0 rfl rfl dX6_setBed_22 ?_
        refine wg_X6_59 (v := .ref (ad 2)) S hK E 2 rfl rfl dX6_setBed_25 ?_
        refine wg_X6_77 (v := .ref (ad 17)) S hK E 4 rfl rfl dX6_setBed_28 ?_
        refine lv_iload_n hx hb dX6_setBed_31 rfl (lv_at hl 1 rfl) ?_
        refine w_ild (v := 0) S hK E 19 0 rfl rfl (rg_in 7 (by decide) (by decide) (by decide) hA2) rfl dX6_setBed_32 ?_
        refine lv_istore (lv' := [(4, .int 0), (0, .ref x), (1, .int p0), (2, .int p1), (3, .int p2)]) hx hb dX6_setBed_33 hl (by decide) rfl (fun ls hl => ?_)
        refine lv_aload_n hx hb dX6_setBed_35 rfl (lv_at hl 1 rfl) ?_
        refine w_new (ci := 1) (fs := [.int 0, .int 0, .int 0, .int 0, .int 0]) (C := RX1) (T := TX1) (N := 5) S hK E hA fw_X1 tyX1 tyX1_ok cl_X6_50 ib_X1 in_X1 rfl (fun j hj => by rcases (show j = 0 ∨ j = 1 ∨ j = 2 ∨ j = 3 ∨ j = 4 by omega) with rfl | rfl | rfl | rfl | rfl <;> rfl) (Nat.le_of_ble_eq_true rfl) (Nat.le_of_ble_eq_true rfl) dX6_setBed_36 (fun q7 H E => ?_)
        have E : Ev g _ s.heap H _ ([(x, .inr (6, [.ref (ad 0), .ref ag, .ref wo, .ref dy])), (dy, .inr (8, [.int 0, .ref (g.2.2 0), .int 0]))] ++ wsW g ad (-1) 1 0 ea σ0 ++ [(q7, .inr (1, [.int 0, .int 0, .int 0, .int 0, .int 0]))]) := E
        refine lv_dup hx hb dX6_setBed_39 rfl ?_
        refine lv_iconst (v := 5) hx hb dX6_setBed_40 (by decide) ?_
        refine lv_iload_n hx hb dX6_setBed_41 rfl (lv_at hl 2 rfl) ?_
        refine lv_iload_n hx hb dX6_setBed_42 rfl (lv_at hl 3 rfl) ?_
        refine lv_iload_n hx hb dX6_setBed_43 rfl (lv_at hl 4 rfl) ?_
        refine lv_iconst (v := 0) hx hb dX6_setBed_44 (by decide) ?_
        refine w_retv (runI_X (As := [.int 5, .int p0, .int p1, .int p2, .int 0]) (rest := [.ref q7, .ref x]) (n := 5) S hml hK (hZ.at E) (Cut.of (wc := [(q7, .inr (1, [.int 0, .int 0, .int 0, .int 0, .int 0]))]) (wr := ([(x, .inr (6, [.ref (ad 0), .ref ag, .ref wo, .ref dy])), (dy, .inr (8, [.int 0, .ref (g.2.2 0), .int 0]))] ++ wsW g ad (-1) 1 0 ea σ0)) E hA [33] [0, 1, 2, 3, 4, 5, 6, 7, 8, 9, 10, 11, 12, 13, 14, 15, 16, 17, 18, 19, 20, 21, 22, 23, 24, 25, 26, 27, 28, 29, 30, 31, 32] rfl rfl rfl rfl (by decide)) (c_X1_init l g q7 0 0 0 0 0 5 p0 p1 p2 0 _ _) ml_X6_52 im_X1_init in_X1 co_X1_init rfl ⟨by decide +kernel, by decide +kernel, by decide +kernel⟩ ⟨Nat.le_of_ble_eq_true rfl, Nat.le_of_ble_eq_true rfl⟩ rfl hl.1 rfl (Nat.le_of_ble_eq_true rfl) dX6_setBed_45 ⟨Nat.le_of_ble_eq_true rfl, Nat.le_of_ble_eq_true rfl⟩) (Cut.of (wc := [(q7, .inr (1, [.int 0, .int 0, .int 0, .int 0, .int 0]))]) (wr := ([(x, .inr (6, [.ref (ad 0), .ref ag, .ref wo, .ref dy])), (dy, .inr (8, [.int 0, .ref (g.2.2 0), .int 0]))] ++ wsW g ad (-1) 1 0 ea σ0)) E hA [33] [0, 1, 2, 3, 4, 5, 6, 7, 8, 9, 10, 11, 12, 13, 14, 15, 16, 17, 18, 19, 20, 21, 22, 23, 24, 25, 26, 27, 28, 29, 30, 31, 32] rfl rfl rfl rfl (by decide)) E (fun u8 H locs hp E => ?_)
        have E : Ev g _ s.heap H locs ([(x, .inr (6, [.ref (ad 0), .ref ag, .ref wo, .ref dy])), (dy, .inr (8, [.int 0, .ref (g.2.2 0), .int 0]))] ++ wsW g ad (-1) 1 0 ea σ0 ++ [(q7, .inr (1, [.int 5, .int p0, .int p1, .int p2, .int 0]))]) := E
        refine w_retv (runV_X (As := [.ref q7]) (rest := []) (q0 := 0) (n := 1) S hml hK (hZ.at E) (Cut.of (wc := ([(x, .inr (6, [.ref (ad 0), .ref ag, .ref wo, .ref dy])), (dy, .inr (8, [.int 0, .ref (g.2.2 0), .int 0])), (q7, .inr (1, [.int 5, .int p0, .int p1, .int p2, .int 0]))] ++ wsW g ad (-1) 1 0 ea σ0)) (wr := []) E hA [0, 1, 33, 2, 3, 4, 5, 6, 7, 8, 9, 10, 11, 12, 13, 14, 15, 16, 17, 18, 19, 20, 21, 22, 23, 24, 25, 26, 27, 28, 29, 30, 31, 32] [] rfl rfl rfl rfl (by decide)) (c_co5 l g x ag wo dy ad ea q7 p0 p1 p2 (rg_in 7 (by decide) (by decide) (by decide) hA2) _ _) (gi_wsV ml_X6_55 im_X6_carryOut sl_X6_carryOut in_X6 co_X6_carryOut) ⟨rfl, by decide +kernel, by decide +kernel, by decide +kernel⟩ ⟨Nat.le_of_ble_eq_true rfl, Nat.le_of_ble_eq_true rfl⟩ rfl rfl rfl hl.1 rfl (Nat.le_of_ble_eq_true rfl) dX6_setBed_48 ⟨Nat.le_of_ble_eq_true rfl, Nat.le_of_ble_eq_true rfl⟩) (Cut.of (wc := ([(x, .inr (6, [.ref (ad 0), .ref ag, .ref wo, .ref dy])), (dy, .inr (8, [.int 0, .ref (g.2.2 0), .int 0])), (q7, .inr (1, [.int 5, .int p0, .int p1, .int p2, .int 0]))] ++ wsW g ad (-1) 1 0 ea σ0)) (wr := []) E hA [0, 1, 33, 2, 3, 4, 5, 6, 7, 8, 9, 10, 11, 12, 13, 14, 15, 16, 17, 18, 19, 20, 21, 22, 23, 24, 25, 26, 27, 28, 29, 30, 31, 32] [] rfl rfl rfl rfl (by decide)) E (fun u9 H locs hp E => ?_)
        have E : Ev g _ s.heap H locs [(x, .inr (6, [.ref (ad 0), .ref ag, .ref wo, .ref dy]))] := E
        refine lv_iload hx hb dX6_setBed_51 (lv_at hl 0 rfl) ?_
        exact vx_ret (x_iret () S hr hlk hsz htt hK E dX6_setBed_53 ⟨rfl, ⟨hA2, hB4, hB6⟩⟩ rfl ⟨Nat.le_of_ble_eq_true rfl, Nat.le_of_ble_eq_true rfl⟩ ⟨Nat.le_of_ble_eq_true rfl, Nat.le_of_ble_eq_true rfl⟩)

set_option maxHeartbeats 4000000 in
set_option maxRecDepth 100000 in
/-- setRiver -/
theorem c_X6_setRiver (l : Launch) (g : Gm) (hst : l.stackTraces = false) (x : Nat) (ag : Nat) (wo : Nat) (dy : Nat) (ad : Nat → Nat) (ea : Nat) (p0 : Int32) : YXi (S := Unit) l g yX6_setRiver cX6_setRiver 3 .int ({ frames := 7, cells := 14, slots := 100015, locals := 122 } : Room) [.ref x, .int p0] ([(x, .inr (6, [.ref (ad 0), .ref ag, .ref wo, .ref dy])), (dy, .inr (8, [.int 0, .ref (g.2.2 0), .int 0]))] ++ wsW g ad (-1) 1 0 ea σ0) (fun r _ => r = 0 ∧ rgOK p0 0 999) (fun _ => [(x, .inr (6, [.ref (ad 0), .ref ag, .ref wo, .ref dy]))]) (fun _ => (14, 100015)) ([(x, .inr (6, [.ref (ad 0), .ref ag, .ref wo, .ref dy])), (dy, .inr (8, [.int 0, .ref (g.2.2 0), .int 0]))] ++ wsW g ad (-1) 1 0 ea σ0) (fun En => En = "java/lang/IllegalArgumentException" ∧ ¬ (rgOK p0 0 999)) := by
  intro sz tt
  refine ofY RX6 rfl (by decide +kernel) (Nat.le_of_ble_eq_true rfl) (fun p e s m args below meth c hargs S hml hr hlk hex hsz htt hK hA hZ E ls hl => ?_)
  have hx := S.1
  have hb := S.2.1
  have hl : lv_has ls 3 [(0, .ref x), (1, .int p0)] := hl
  refine lv_iload_n hx hb dX6_setRiver_0 rfl (lv_at hl 1 rfl) ?_
  refine lv_iconst (v := 0) hx hb dX6_setRiver_1 (by decide) ?_
  refine lv_sipush (v := 999) hx hb dX6_setRiver_2 (by decide) ?_
  refine y_retv (yrunS (As := [.int p0, .int 0, .int 999]) (rest := []) (n := 3) S hml hK (hZ.at E) (Cut.of (wc := []) (wr := ([(x, .inr (6, [.ref (ad 0), .ref ag, .ref wo, .ref dy])), (dy, .inr (8, [.int 0, .ref (g.2.2 0), .int 0]))] ++ wsW g ad (-1) 1 0 ea σ0)) E hA [] [0, 1, 2, 3, 4, 5, 6, 7, 8, 9, 10, 11, 12, 13, 14, 15, 16, 17, 18, 19, 20, 21, 22, 23, 24, 25, 26, 27, 28, 29, 30, 31, 32] rfl rfl rfl rfl (by decide)) (c_X6_requireRange l g hst p0 0 999 _ _) ml_X6_36 st_X6_requireRange in_X6 co_X6_requireRange ⟨by decide +kernel, by decide +kernel, by decide +kernel⟩ ⟨Nat.le_of_ble_eq_true rfl, Nat.le_of_ble_eq_true rfl⟩ rfl hl.1 rfl (Nat.le_of_ble_eq_true rfl) dX6_setRiver_5 ⟨Nat.le_of_ble_eq_true rfl, Nat.le_of_ble_eq_true rfl⟩) (Cut.of (wc := []) (wr := ([(x, .inr (6, [.ref (ad 0), .ref ag, .ref wo, .ref dy])), (dy, .inr (8, [.int 0, .ref (g.2.2 0), .int 0]))] ++ wsW g ad (-1) 1 0 ea σ0)) E hA [] [0, 1, 2, 3, 4, 5, 6, 7, 8, 9, 10, 11, 12, 13, 14, 15, 16, 17, 18, 19, 20, 21, 22, 23, 24, 25, 26, 27, 28, 29, 30, 31, 32] rfl rfl rfl rfl (by decide)) E (fun En ce q9 H locs hp E hce hcv hcl => ?_) (fun u1 H locs hp E => ?_)
  · have E : Ev g _ s.heap H locs ([(x, .inr (6, [.ref (ad 0), .ref ag, .ref wo, .ref dy])), (dy, .inr (8, [.int 0, .ref (g.2.2 0), .int 0]))] ++ wsW g ad (-1) 1 0 ea σ0) := E
    exact y_out hex hlk hK E rfl ⟨hp.1, fun z => hp.2 z⟩ hce hcv hcl ⟨Nat.le_of_ble_eq_true rfl, Nat.le_of_ble_eq_true rfl⟩
  · skip
    have E : Ev g _ s.heap H locs ([(x, .inr (6, [.ref (ad 0), .ref ag, .ref wo, .ref dy])), (dy, .inr (8, [.int 0, .ref (g.2.2 0), .int 0]))] ++ wsW g ad (-1) 1 0 ea σ0) := E
    have hB2 := hp
    refine lv_aload_n hx hb dX6_setRiver_8 rfl (lv_at hl 0 rfl) ?_
    refine wg_X6_14 (v := .ref (ad 0)) S hK E 0 rfl rfl dX6_setRiver_9 ?_
    refine wg_X6_59 (v := .ref (ad 2)) S hK E 2 rfl rfl dX6_setRiver_12 ?_
    refine wg_X6_80 (v := .int 0) S hK E 4 rfl rfl dX6_setRiver_15 ?_
    refine lv_istore_n (lv' := [(2, .int 0), (0, .ref x), (1, .int p0)]) hx hb dX6_setRiver_18 rfl hl (by decide) rfl (fun ls hl => ?_)
    refine lv_aload_n hx hb dX6_setRiver_19 rfl (lv_at hl 1 rfl) ?_
    refine w_new (ci := 1) (fs := [.int 0, .int 0, .int 0, .int 0, .int 0]) (C := RX1) (T := TX1) (N := 5) S hK E hA fw_X1 tyX1 tyX1_ok cl_X6_50 ib_X1 in_X1 rfl (fun j hj => by rcases (show j = 0 ∨ j = 1 ∨ j = 2 ∨ j = 3 ∨ j = 4 by omega) with rfl | rfl | rfl | rfl | rfl <;> rfl) (Nat.le_of_ble_eq_true rfl) (Nat.le_of_ble_eq_true rfl) dX6_setRiver_20 (fun q3 H E => ?_)
    have E : Ev g _ s.heap H _ ([(x, .inr (6, [.ref (ad 0), .ref ag, .ref wo, .ref dy])), (dy, .inr (8, [.int 0, .ref (g.2.2 0), .int 0]))] ++ wsW g ad (-1) 1 0 ea σ0 ++ [(q3, .inr (1, [.int 0, .int 0, .int 0, .int 0, .int 0]))]) := E
    refine lv_dup hx hb dX6_setRiver_23 rfl ?_
    refine lv_bipush (v := 6) hx hb dX6_setRiver_24 (by decide) ?_
    refine lv_iload_n hx hb dX6_setRiver_26 rfl (lv_at hl 2 rfl) ?_
    refine lv_iconst (v := 0) hx hb dX6_setRiver_27 (by decide) ?_
    refine lv_iconst (v := 0) hx hb dX6_setRiver_28 (by decide) ?_
    refine lv_iconst (v := 0) hx hb dX6_setRiver_29 (by decide) ?_
    refine w_retv (runI_X (As := [.int 6, .int p0, .int 0, .int 0, .int 0]) (rest := [.ref q3, .ref x]) (n := 5) S hml hK (hZ.at E) (Cut.of (wc := [(q3, .inr (1, [.int 0, .int 0, .int 0, .int 0, .int 0]))]) (wr := ([(x, .inr (6, [.ref (ad 0), .ref ag, .ref wo, .ref dy])), (dy, .inr (8, [.int 0, .ref (g.2.2 0), .int 0]))] ++ wsW g ad (-1) 1 0 ea σ0)) E hA [33] [0, 1, 2, 3, 4, 5, 6, 7, 8, 9, 10, 11, 12, 13, 14, 15, 16, 17, 18, 19, 20, 21, 22, 23, 24, 25, 26, 27, 28, 29, 30, 31, 32] rfl rfl rfl rfl (by decide)) (c_X1_init l g q3 0 0 0 0 0 6 p0 0 0 0 _ _) ml_X6_52 im_X1_init in_X1 co_X1_init rfl ⟨by decide +kernel, by decide +kernel, by decide +kernel⟩ ⟨Nat.le_of_ble_eq_true rfl, Nat.le_of_ble_eq_true rfl⟩ rfl hl.1 rfl (Nat.le_of_ble_eq_true rfl) dX6_setRiver_30 ⟨Nat.le_of_ble_eq_true rfl, Nat.le_of_ble_eq_true rfl⟩) (Cut.of (wc := [(q3, .inr (1, [.int 0, .int 0, .int 0, .int 0, .int 0]))]) (wr := ([(x, .inr (6, [.ref (ad 0), .ref ag, .ref wo, .ref dy])), (dy, .inr (8, [.int 0, .ref (g.2.2 0), .int 0]))] ++ wsW g ad (-1) 1 0 ea σ0)) E hA [33] [0, 1, 2, 3, 4, 5, 6, 7, 8, 9, 10, 11, 12, 13, 14, 15, 16, 17, 18, 19, 20, 21, 22, 23, 24, 25, 26, 27, 28, 29, 30, 31, 32] rfl rfl rfl rfl (by decide)) E (fun u4 H locs hp E => ?_)
    have E : Ev g _ s.heap H locs ([(x, .inr (6, [.ref (ad 0), .ref ag, .ref wo, .ref dy])), (dy, .inr (8, [.int 0, .ref (g.2.2 0), .int 0]))] ++ wsW g ad (-1) 1 0 ea σ0 ++ [(q3, .inr (1, [.int 6, .int p0, .int 0, .int 0, .int 0]))]) := E
    refine w_retv (runV_X (As := [.ref q3]) (rest := []) (q0 := 0) (n := 1) S hml hK (hZ.at E) (Cut.of (wc := ([(x, .inr (6, [.ref (ad 0), .ref ag, .ref wo, .ref dy])), (dy, .inr (8, [.int 0, .ref (g.2.2 0), .int 0])), (q3, .inr (1, [.int 6, .int p0, .int 0, .int 0, .int 0]))] ++ wsW g ad (-1) 1 0 ea σ0)) (wr := []) E hA [0, 1, 33, 2, 3, 4, 5, 6, 7, 8, 9, 10, 11, 12, 13, 14, 15, 16, 17, 18, 19, 20, 21, 22, 23, 24, 25, 26, 27, 28, 29, 30, 31, 32] [] rfl rfl rfl rfl (by decide)) (c_co6 l g x ag wo dy ad ea q3 p0 _ _) (gi_wsV ml_X6_55 im_X6_carryOut sl_X6_carryOut in_X6 co_X6_carryOut) ⟨rfl, by decide +kernel, by decide +kernel, by decide +kernel⟩ ⟨Nat.le_of_ble_eq_true rfl, Nat.le_of_ble_eq_true rfl⟩ rfl rfl rfl hl.1 rfl (Nat.le_of_ble_eq_true rfl) dX6_setRiver_33 ⟨Nat.le_of_ble_eq_true rfl, Nat.le_of_ble_eq_true rfl⟩) (Cut.of (wc := ([(x, .inr (6, [.ref (ad 0), .ref ag, .ref wo, .ref dy])), (dy, .inr (8, [.int 0, .ref (g.2.2 0), .int 0])), (q3, .inr (1, [.int 6, .int p0, .int 0, .int 0, .int 0]))] ++ wsW g ad (-1) 1 0 ea σ0)) (wr := []) E hA [0, 1, 33, 2, 3, 4, 5, 6, 7, 8, 9, 10, 11, 12, 13, 14, 15, 16, 17, 18, 19, 20, 21, 22, 23, 24, 25, 26, 27, 28, 29, 30, 31, 32] [] rfl rfl rfl rfl (by decide)) E (fun u5 H locs hp E => ?_)
    have E : Ev g _ s.heap H locs [(x, .inr (6, [.ref (ad 0), .ref ag, .ref wo, .ref dy]))] := E
    refine lv_iload_n hx hb dX6_setRiver_36 rfl (lv_at hl 0 rfl) ?_
    exact vx_ret (x_iret () S hr hlk hsz htt hK E dX6_setRiver_37 ⟨rfl, hB2⟩ rfl ⟨Nat.le_of_ble_eq_true rfl, Nat.le_of_ble_eq_true rfl⟩ ⟨Nat.le_of_ble_eq_true rfl, Nat.le_of_ble_eq_true rfl⟩)

set_option maxHeartbeats 4000000 in
set_option maxRecDepth 100000 in
/-- setSea -/
theorem c_X6_setSea (l : Launch) (g : Gm) (hst : l.stackTraces = false) (x : Nat) (ag : Nat) (wo : Nat) (dy : Nat) (ad : Nat → Nat) (ea : Nat) (p0 : Int32) : YXi (S := Unit) l g yX6_setSea cX6_setSea 3 .int ({ frames := 7, cells := 14, slots := 100015, locals := 122 } : Room) [.ref x, .int p0] ([(x, .inr (6, [.ref (ad 0), .ref ag, .ref wo, .ref dy])), (dy, .inr (8, [.int 0, .ref (g.2.2 0), .int 0]))] ++ wsW g ad (-1) 1 0 ea σ0) (fun r _ => r = 0 ∧ rgOK p0 0 9) (fun _ => [(x, .inr (6, [.ref (ad 0), .ref ag, .ref wo, .ref dy]))]) (fun _ => (14, 100015)) ([(x, .inr (6, [.ref (ad 0), .ref ag, .ref wo, .ref dy])), (dy, .inr (8, [.int 0, .ref (g.2.2 0), .int 0]))] ++ wsW g ad (-1) 1 0 ea σ0) (fun En => En = "java/lang/IllegalArgumentException" ∧ ¬ (rgOK p0 0 9)) := by
  intro sz tt
  refine ofY RX6 rfl (by decide +kernel) (Nat.le_of_ble_eq_true rfl) (fun p e s m args below meth c hargs S hml hr hlk hex hsz htt hK hA hZ E ls hl => ?_)
  have hx := S.1
  have hb := S.2.1
  have hl : lv_has ls 3 [(0, .ref x), (1, .int p0)] := hl
  refine lv_iload_n hx hb dX6_setSea_0 rfl (lv_at hl 1 rfl) ?_
  refine lv_iconst (v := 0) hx hb dX6_setSea_1 (by decide) ?_
  refine lv_bipush (v := 9) hx hb dX6_setSea_2 (by decide) ?_
  refine y_retv (yrunS (As := [.int p0, .int 0, .int 9]) (rest := []) (n := 3) S hml hK (hZ.at E) (Cut.of (wc := []) (wr := ([(x, .inr (6, [.ref (ad 0), .ref ag, .ref wo, .ref dy])), (dy, .inr (8, [.int 0, .ref (g.2.2 0), .int 0]))] ++ wsW g ad (-1) 1 0 ea σ0)) E hA [] [0, 1, 2, 3, 4, 5, 6, 7, 8, 9, 10, 11, 12, 13, 14, 15, 16, 17, 18, 19, 20, 21, 22, 23, 24, 25, 26, 27, 28, 29, 30, 31, 32] rfl rfl rfl rfl (by decide)) (c_X6_requireRange l g hst p0 0 9 _ _) ml_X6_36 st_X6_requireRange in_X6 co_X6_requireRange ⟨by decide +kernel, by decide +kernel, by decide +kernel⟩ ⟨Nat.le_of_ble_eq_true rfl, Nat.le_of_ble_eq_true rfl⟩ rfl hl.1 rfl (Nat.le_of_ble_eq_true rfl) dX6_setSea_4 ⟨Nat.le_of_ble_eq_true rfl, Nat.le_of_ble_eq_true rfl⟩) (Cut.of (wc := []) (wr := ([(x, .inr (6, [.ref (ad 0), .ref ag, .ref wo, .ref dy])), (dy, .inr (8, [.int 0, .ref (g.2.2 0), .int 0]))] ++ wsW g ad (-1) 1 0 ea σ0)) E hA [] [0, 1, 2, 3, 4, 5, 6, 7, 8, 9, 10, 11, 12, 13, 14, 15, 16, 17, 18, 19, 20, 21, 22, 23, 24, 25, 26, 27, 28, 29, 30, 31, 32] rfl rfl rfl rfl (by decide)) E (fun En ce q9 H locs hp E hce hcv hcl => ?_) (fun u1 H locs hp E => ?_)
  · have E : Ev g _ s.heap H locs ([(x, .inr (6, [.ref (ad 0), .ref ag, .ref wo, .ref dy])), (dy, .inr (8, [.int 0, .ref (g.2.2 0), .int 0]))] ++ wsW g ad (-1) 1 0 ea σ0) := E
    exact y_out hex hlk hK E rfl ⟨hp.1, fun z => hp.2 z⟩ hce hcv hcl ⟨Nat.le_of_ble_eq_true rfl, Nat.le_of_ble_eq_true rfl⟩
  · skip
    have E : Ev g _ s.heap H locs ([(x, .inr (6, [.ref (ad 0), .ref ag, .ref wo, .ref dy])), (dy, .inr (8, [.int 0, .ref (g.2.2 0), .int 0]))] ++ wsW g ad (-1) 1 0 ea σ0) := E
    have hB2 := hp
    refine lv_aload_n hx hb dX6_setSea_7 rfl (lv_at hl 0 rfl) ?_
    refine wg_X6_14 (v := .ref (ad 0)) S hK E 0 rfl rfl dX6_setSea_8 ?_
    refine wg_X6_59 (v := .ref (ad 2)) S hK E 2 rfl rfl dX6_setSea_11 ?_
    refine wg_X6_84 (v := .int 0) S hK E 4 rfl rfl dX6_setSea_14 ?_
    refine lv_istore_n (lv' := [(2, .int 0), (0, .ref x), (1, .int p0)]) hx hb dX6_setSea_17 rfl hl (by decide) rfl (fun ls hl => ?_)
    refine lv_aload_n hx hb dX6_setSea_18 rfl (lv_at hl 1 rfl) ?_
    refine w_new (ci := 1) (fs := [.int 0, .int 0, .int 0, .int 0, .int 0]) (C := RX1) (T := TX1) (N := 5) S hK E hA fw_X1 tyX1 tyX1_ok cl_X6_50 ib_X1 in_X1 rfl (fun j hj => by rcases (show j = 0 ∨ j = 1 ∨ j = 2 ∨ j = 3 ∨ j = 4 by omega) with rfl | rfl | rfl | rfl | rfl <;> rfl) (Nat.le_of_ble_eq_true rfl) (Nat.le_of_ble_eq_true rfl) dX6_setSea_19 (fun q3 H E => ?_)
    have E : Ev g _ s.heap H _ ([(x, .inr (6, [.ref (ad 0), .ref ag, .ref wo, .ref dy])), (dy, .inr (8, [.int 0, .ref (g.2.2 0), .int 0]))] ++ wsW g ad (-1) 1 0 ea σ0 ++ [(q3, .inr (1, [.int 0, .int 0, .int 0, .int 0, .int 0]))]) := E
    refine lv_dup hx hb dX6_setSea_22 rfl ?_
    refine lv_bipush (v := 7) hx hb dX6_setSea_23 (by decide) ?_
    refine lv_iload_n hx hb dX6_setSea_25 rfl (lv_at hl 2 rfl) ?_
    refine lv_iconst (v := 0) hx hb dX6_setSea_26 (by decide) ?_
    refine lv_iconst (v := 0) hx hb dX6_setSea_27 (by decide) ?_
    refine lv_iconst (v := 0) hx hb dX6_setSea_28 (by decide) ?_
    refine w_retv (runI_X (As := [.int 7, .int p0, .int 0, .int 0, .int 0]) (rest := [.ref q3, .ref x]) (n := 5) S hml hK (hZ.at E) (Cut.of (wc := [(q3, .inr (1, [.int 0, .int 0, .int 0, .int 0, .int 0]))]) (wr := ([(x, .inr (6, [.ref (ad 0), .ref ag, .ref wo, .ref dy])), (dy, .inr (8, [.int 0, .ref (g.2.2 0), .int 0]))] ++ wsW g ad (-1) 1 0 ea σ0)) E hA [33] [0, 1, 2, 3, 4, 5, 6, 7, 8, 9, 10, 11, 12, 13, 14, 15, 16, 17, 18, 19, 20, 21, 22, 23, 24, 25, 26, 27, 28, 29, 30, 31, 32] rfl rfl rfl rfl (by decide)) (c_X1_init l g q3 0 0 0 0 0 7 p0 0 0 0 _ _) ml_X6_52 im_X1_init in_X1 co_X1_init rfl ⟨by decide +kernel, by decide +kernel, by decide +kernel⟩ ⟨Nat.le_of_ble_eq_true rfl, Nat.le_of_ble_eq_true rfl⟩ rfl hl.1 rfl (Nat.le_of_ble_eq_true rfl) dX6_setSea_29 ⟨Nat.le_of_ble_eq_true rfl, Nat.le_of_ble_eq_true rfl⟩) (Cut.of (wc := [(q3, .inr (1, [.int 0, .int 0, .int 0, .int 0, .int 0]))]) (wr := ([(x, .inr (6, [.ref (ad 0), .ref ag, .ref wo, .ref dy])), (dy, .inr (8, [.int 0, .ref (g.2.2 0), .int 0]))] ++ wsW g ad (-1) 1 0 ea σ0)) E hA [33] [0, 1, 2, 3, 4, 5, 6, 7, 8, 9, 10, 11, 12, 13, 14, 15, 16, 17, 18, 19, 20, 21, 22, 23, 24, 25, 26, 27, 28, 29, 30, 31, 32] rfl rfl rfl rfl (by decide)) E (fun u4 H locs hp E => ?_)
    have E : Ev g _ s.heap H locs ([(x, .inr (6, [.ref (ad 0), .ref ag, .ref wo, .ref dy])), (dy, .inr (8, [.int 0, .ref (g.2.2 0), .int 0]))] ++ wsW g ad (-1) 1 0 ea σ0 ++ [(q3, .inr (1, [.int 7, .int p0, .int 0, .int 0, .int 0]))]) := E
    refine w_retv (runV_X (As := [.ref q3]) (rest := []) (q0 := 0) (n := 1) S hml hK (hZ.at E) (Cut.of (wc := ([(x, .inr (6, [.ref (ad 0), .ref ag, .ref wo, .ref dy])), (dy, .inr (8, [.int 0, .ref (g.2.2 0), .int 0])), (q3, .inr (1, [.int 7, .int p0, .int 0, .int 0, .int 0]))] ++ wsW g ad (-1) 1 0 ea σ0)) (wr := []) E hA [0, 1, 33, 2, 3, 4, 5, 6, 7, 8, 9, 10, 11, 12, 13, 14, 15, 16, 17, 18, 19, 20, 21, 22, 23, 24, 25, 26, 27, 28, 29, 30, 31, 32] [] rfl rfl rfl rfl (by decide)) (c_co7 l g x ag wo dy ad ea q3 p0 _ _) (gi_wsV ml_X6_55 im_X6_carryOut sl_X6_carryOut in_X6 co_X6_carryOut) ⟨rfl, by decide +kernel, by decide +kernel, by decide +kernel⟩ ⟨Nat.le_of_ble_eq_true rfl, Nat.le_of_ble_eq_true rfl⟩ rfl rfl rfl hl.1 rfl (Nat.le_of_ble_eq_true rfl) dX6_setSea_32 ⟨Nat.le_of_ble_eq_true rfl, Nat.le_of_ble_eq_true rfl⟩) (Cut.of (wc := ([(x, .inr (6, [.ref (ad 0), .ref ag, .ref wo, .ref dy])), (dy, .inr (8, [.int 0, .ref (g.2.2 0), .int 0])), (q3, .inr (1, [.int 7, .int p0, .int 0, .int 0, .int 0]))] ++ wsW g ad (-1) 1 0 ea σ0)) (wr := []) E hA [0, 1, 33, 2, 3, 4, 5, 6, 7, 8, 9, 10, 11, 12, 13, 14, 15, 16, 17, 18, 19, 20, 21, 22, 23, 24, 25, 26, 27, 28, 29, 30, 31, 32] [] rfl rfl rfl rfl (by decide)) E (fun u5 H locs hp E => ?_)
    have E : Ev g _ s.heap H locs [(x, .inr (6, [.ref (ad 0), .ref ag, .ref wo, .ref dy]))] := E
    refine lv_iload_n hx hb dX6_setSea_35 rfl (lv_at hl 0 rfl) ?_
    exact vx_ret (x_iret () S hr hlk hsz htt hK E dX6_setSea_36 ⟨rfl, hB2⟩ rfl ⟨Nat.le_of_ble_eq_true rfl, Nat.le_of_ble_eq_true rfl⟩ ⟨Nat.le_of_ble_eq_true rfl, Nat.le_of_ble_eq_true rfl⟩)

set_option maxHeartbeats 4000000 in
set_option maxRecDepth 100000 in
/-- addWell -/
theorem c_X6_addWell (l : Launch) (g : Gm) (hst : l.stackTraces = false) (x : Nat) (ag : Nat) (wo : Nat) (dy : Nat) (ad : Nat → Nat) (ea : Nat) (p0 : Int32) (p1 : Int32) (p2 : Int32) : YXi (S := Unit) l g yX6_addWell cX6_addWell 5 .int ({ frames := 7, cells := 14, slots := 100015, locals := 122 } : Room) [.ref x, .int p0, .int p1, .int p2] ([(x, .inr (6, [.ref (ad 0), .ref ag, .ref wo, .ref dy])), (dy, .inr (8, [.int 0, .ref (g.2.2 0), .int 0]))] ++ wsW g ad (-1) 1 0 ea σ0) (fun r _ => r = 0 ∧ rgOK p0 0 15 ∧ rgOK p1 0 9999 ∧ rgOK p2 0 999) (fun _ => [(x, .inr (6, [.ref (ad 0), .ref ag, .ref wo, .ref dy]))]) (fun _ => (14, 100015)) ([(x, .inr (6, [.ref (ad 0), .ref ag, .ref wo, .ref dy])), (dy, .inr (8, [.int 0, .ref (g.2.2 0), .int 0]))] ++ wsW g ad (-1) 1 0 ea σ0) (fun En => (En = "java/lang/IndexOutOfBoundsException" ∧ ¬ rgOK p0 0 15) ∨ (En = "java/lang/IllegalArgumentException" ∧ rgOK p0 0 15 ∧ ¬ (rgOK p1 0 9999 ∧ rgOK p2 0 999))) := by
  intro sz tt
  refine ofY RX6 rfl (by decide +kernel) (Nat.le_of_ble_eq_true rfl) (fun p e s m args below meth c hargs S hml hr hlk hex hsz htt hK hA hZ E ls hl => ?_)
  have hx := S.1
  have hb := S.2.1
  have hl : lv_has ls 5 [(0, .ref x), (1, .int p0), (2, .int p1), (3, .int p2)] := hl
  refine lv_iload_n hx hb dX6_addWell_0 rfl (lv_at hl 1 rfl) ?_
  refine lv_bipush (v := 16) hx hb dX6_addWell_1 (by decide) ?_
  refine y_retv (yrunS (As := [.int p0, .int 16]) (rest := []) (n := 2) S hml hK (hZ.at E) (Cut.of (wc := []) (wr := ([(x, .inr (6, [.ref (ad 0), .ref ag, .ref wo, .ref dy])), (dy, .inr (8, [.int 0, .ref (g.2.2 0), .int 0]))] ++ wsW g ad (-1) 1 0 ea σ0)) E hA [] [0, 1, 2, 3, 4, 5, 6, 7, 8, 9, 10, 11, 12, 13, 14, 15, 16, 17, 18, 19, 20, 21, 22, 23, 24, 25, 26, 27, 28, 29, 30, 31, 32] rfl rfl rfl rfl (by decide)) (c_X6_requireIndex l g hst p0 16 _ _) ml_X6_32 st_X6_requireIndex in_X6 co_X6_requireIndex ⟨by decide +kernel, by decide +kernel, by decide +kernel⟩ ⟨Nat.le_of_ble_eq_true rfl, Nat.le_of_ble_eq_true rfl⟩ rfl hl.1 rfl (Nat.le_of_ble_eq_true rfl) dX6_addWell_3 ⟨Nat.le_of_ble_eq_true rfl, Nat.le_of_ble_eq_true rfl⟩) (Cut.of (wc := []) (wr := ([(x, .inr (6, [.ref (ad 0), .ref ag, .ref wo, .ref dy])), (dy, .inr (8, [.int 0, .ref (g.2.2 0), .int 0]))] ++ wsW g ad (-1) 1 0 ea σ0)) E hA [] [0, 1, 2, 3, 4, 5, 6, 7, 8, 9, 10, 11, 12, 13, 14, 15, 16, 17, 18, 19, 20, 21, 22, 23, 24, 25, 26, 27, 28, 29, 30, 31, 32] rfl rfl rfl rfl (by decide)) E (fun En ce q9 H locs hp E hce hcv hcl => ?_) (fun u1 H locs hp E => ?_)
  · have E : Ev g _ s.heap H locs ([(x, .inr (6, [.ref (ad 0), .ref ag, .ref wo, .ref dy])), (dy, .inr (8, [.int 0, .ref (g.2.2 0), .int 0]))] ++ wsW g ad (-1) 1 0 ea σ0) := E
    exact y_out hex hlk hK E rfl (Or.inl ⟨hp.1, fun z => hp.2 (ix16.mpr z)⟩) hce hcv hcl ⟨Nat.le_of_ble_eq_true rfl, Nat.le_of_ble_eq_true rfl⟩
  · skip
    have E : Ev g _ s.heap H locs ([(x, .inr (6, [.ref (ad 0), .ref ag, .ref wo, .ref dy])), (dy, .inr (8, [.int 0, .ref (g.2.2 0), .int 0]))] ++ wsW g ad (-1) 1 0 ea σ0) := E
    have hx2 := hp
    have hA2 := ix16.mp hx2
    refine lv_iload_n hx hb dX6_addWell_6 rfl (lv_at hl 2 rfl) ?_
    refine lv_iconst (v := 0) hx hb dX6_addWell_7 (by decide) ?_
    refine lv_sipush (v := 9999) hx hb dX6_addWell_8 (by decide) ?_
    refine y_retv (yrunS (As := [.int p1, .int 0, .int 9999]) (rest := []) (n := 3) S hml hK (hZ.at E) (Cut.of (wc := []) (wr := ([(x, .inr (6, [.ref (ad 0), .ref ag, .ref wo, .ref dy])), (dy, .inr (8, [.int 0, .ref (g.2.2 0), .int 0]))] ++ wsW g ad (-1) 1 0 ea σ0)) E hA [] [0, 1, 2, 3, 4, 5, 6, 7, 8, 9, 10, 11, 12, 13, 14, 15, 16, 17, 18, 19, 20, 21, 22, 23, 24, 25, 26, 27, 28, 29, 30, 31, 32] rfl rfl rfl rfl (by decide)) (c_X6_requireRange l g hst p1 0 9999 _ _) ml_X6_36 st_X6_requireRange in_X6 co_X6_requireRange ⟨by decide +kernel, by decide +kernel, by decide +kernel⟩ ⟨Nat.le_of_ble_eq_true rfl, Nat.le_of_ble_eq_true rfl⟩ rfl hl.1 rfl (Nat.le_of_ble_eq_true rfl) dX6_addWell_11 ⟨Nat.le_of_ble_eq_true rfl, Nat.le_of_ble_eq_true rfl⟩) (Cut.of (wc := []) (wr := ([(x, .inr (6, [.ref (ad 0), .ref ag, .ref wo, .ref dy])), (dy, .inr (8, [.int 0, .ref (g.2.2 0), .int 0]))] ++ wsW g ad (-1) 1 0 ea σ0)) E hA [] [0, 1, 2, 3, 4, 5, 6, 7, 8, 9, 10, 11, 12, 13, 14, 15, 16, 17, 18, 19, 20, 21, 22, 23, 24, 25, 26, 27, 28, 29, 30, 31, 32] rfl rfl rfl rfl (by decide)) E (fun En ce q9 H locs hp E hce hcv hcl => ?_) (fun u3 H locs hp E => ?_)
    · have E : Ev g _ s.heap H locs ([(x, .inr (6, [.ref (ad 0), .ref ag, .ref wo, .ref dy])), (dy, .inr (8, [.int 0, .ref (g.2.2 0), .int 0]))] ++ wsW g ad (-1) 1 0 ea σ0) := E
      exact y_out hex hlk hK E rfl (Or.inr ⟨hp.1, hA2, fun z => hp.2 z.1⟩) hce hcv hcl ⟨Nat.le_of_ble_eq_true rfl, Nat.le_of_ble_eq_true rfl⟩
    · skip
      have E : Ev g _ s.heap H locs ([(x, .inr (6, [.ref (ad 0), .ref ag, .ref wo, .ref dy])), (dy, .inr (8, [.int 0, .ref (g.2.2 0), .int 0]))] ++ wsW g ad (-1) 1 0 ea σ0) := E
      have hB4 := hp
      refine lv_iload_n hx hb dX6_addWell_14 rfl (lv_at hl 3 rfl) ?_
      refine lv_iconst (v := 0) hx hb dX6_addWell_15 (by decide) ?_
      refine lv_sipush (v := 999) hx hb dX6_addWell_16 (by decide) ?_
      refine y_retv (yrunS (As := [.int p2, .int 0, .int 999]) (rest := []) (n := 3) S hml hK (hZ.at E) (Cut.of (wc := []) (wr := ([(x, .inr (6, [.ref (ad 0), .ref ag, .ref wo, .ref dy])), (dy, .inr (8, [.int 0, .ref (g.2.2 0), .int 0]))] ++ wsW g ad (-1) 1 0 ea σ0)) E hA [] [0, 1, 2, 3, 4, 5, 6, 7, 8, 9, 10, 11, 12, 13, 14, 15, 16, 17, 18, 19, 20, 21, 22, 23, 24, 25, 26, 27, 28, 29, 30, 31, 32] rfl rfl rfl rfl (by decide)) (c_X6_requireRange l g hst p2 0 999 _ _) ml_X6_36 st_X6_requireRange in_X6 co_X6_requireRange ⟨by decide +kernel, by decide +kernel, by decide +kernel⟩ ⟨Nat.le_of_ble_eq_true rfl, Nat.le_of_ble_eq_true rfl⟩ rfl hl.1 rfl (Nat.le_of_ble_eq_true rfl) dX6_addWell_19 ⟨Nat.le_of_ble_eq_true rfl, Nat.le_of_ble_eq_true rfl⟩) (Cut.of (wc := []) (wr := ([(x, .inr (6, [.ref (ad 0), .ref ag, .ref wo, .ref dy])), (dy, .inr (8, [.int 0, .ref (g.2.2 0), .int 0]))] ++ wsW g ad (-1) 1 0 ea σ0)) E hA [] [0, 1, 2, 3, 4, 5, 6, 7, 8, 9, 10, 11, 12, 13, 14, 15, 16, 17, 18, 19, 20, 21, 22, 23, 24, 25, 26, 27, 28, 29, 30, 31, 32] rfl rfl rfl rfl (by decide)) E (fun En ce q9 H locs hp E hce hcv hcl => ?_) (fun u5 H locs hp E => ?_)
      · have E : Ev g _ s.heap H locs ([(x, .inr (6, [.ref (ad 0), .ref ag, .ref wo, .ref dy])), (dy, .inr (8, [.int 0, .ref (g.2.2 0), .int 0]))] ++ wsW g ad (-1) 1 0 ea σ0) := E
        exact y_out hex hlk hK E rfl (Or.inr ⟨hp.1, hA2, fun z => hp.2 z.2⟩) hce hcv hcl ⟨Nat.le_of_ble_eq_true rfl, Nat.le_of_ble_eq_true rfl⟩
      · skip
        have E : Ev g _ s.heap H locs ([(x, .inr (6, [.ref (ad 0), .ref ag, .ref wo, .ref dy])), (dy, .inr (8, [.int 0, .ref (g.2.2 0), .int 0]))] ++ wsW g ad (-1) 1 0 ea σ0) := E
        have hB6 := hp
        refine lv_aload_n hx hb dX6_addWell_22 rfl (lv_at hl 0 rfl) ?_
        refine wg_X6_14 (v := .ref (ad 0)) S hK E 0 rfl rfl dX6_addWell_23 ?_
        refine wg_X6_87 (v := .ref (ad 3)) S hK E 2 rfl rfl dX6_addWell_26 ?_
        refine wg_X6_91 (v := .int 0) S hK E 5 rfl rfl dX6_addWell_29 ?_
        refine lv_istore (lv' := [(4, .int 0), (0, .ref x), (1, .int p0), (2, .int p1), (3, .int p2)]) hx hb dX6_addWell_32 hl (by decide) rfl (fun ls hl => ?_)
        refine lv_iload hx hb dX6_addWell_34 (lv_at hl 0 rfl) ?_
        refine lv_bipush (v := 6) hx hb dX6_addWell_36 (by decide) ?_
        refine lv_icmp_lt (tgt := 51) hx hb dX6_addWell_38 (by decide) (fun _ => ?_) (fun c_ => absurd (show (0 : Int32) < (6 : Int32) by decide) c_)
        refine lv_aload_n hx hb dX6_addWell_51 rfl (lv_at hl 1 rfl) ?_
        refine w_new (ci := 1) (fs := [.int 0, .int 0, .int 0, .int 0, .int 0]) (C := RX1) (T := TX1) (N := 5) S hK E hA fw_X1 tyX1 tyX1_ok cl_X6_50 ib_X1 in_X1 rfl (fun j hj => by rcases (show j = 0 ∨ j = 1 ∨ j = 2 ∨ j = 3 ∨ j = 4 by omega) with rfl | rfl | rfl | rfl | rfl <;> rfl) (Nat.le_of_ble_eq_true rfl) (Nat.le_of_ble_eq_true rfl) dX6_addWell_52 (fun q7 H E => ?_)
        have E : Ev g _ s.heap H _ ([(x, .inr (6, [.ref (ad 0), .ref ag, .ref wo, .ref dy])), (dy, .inr (8, [.int 0, .ref (g.2.2 0), .int 0]))] ++ wsW g ad (-1) 1 0 ea σ0 ++ [(q7, .inr (1, [.int 0, .int 0, .int 0, .int 0, .int 0]))]) := E
        refine lv_dup hx hb dX6_addWell_55 rfl ?_
        refine lv_bipush (v := 8) hx hb dX6_addWell_56 (by decide) ?_
        refine lv_iload_n hx hb dX6_addWell_58 rfl (lv_at hl 2 rfl) ?_
        refine lv_iload_n hx hb dX6_addWell_59 rfl (lv_at hl 3 rfl) ?_
        refine lv_iload_n hx hb dX6_addWell_60 rfl (lv_at hl 4 rfl) ?_
        refine lv_iconst (v := 0) hx hb dX6_addWell_61 (by decide) ?_
        refine w_retv (runI_X (As := [.int 8, .int p0, .int p1, .int p2, .int 0]) (rest := [.ref q7, .ref x]) (n := 5) S hml hK (hZ.at E) (Cut.of (wc := [(q7, .inr (1, [.int 0, .int 0, .int 0, .int 0, .int 0]))]) (wr := ([(x, .inr (6, [.ref (ad 0), .ref ag, .ref wo, .ref dy])), (dy, .inr (8, [.int 0, .ref (g.2.2 0), .int 0]))] ++ wsW g ad (-1) 1 0 ea σ0)) E hA [33] [0, 1, 2, 3, 4, 5, 6, 7, 8, 9, 10, 11, 12, 13, 14, 15, 16, 17, 18, 19, 20, 21, 22, 23, 24, 25, 26, 27, 28, 29, 30, 31, 32] rfl rfl rfl rfl (by decide)) (c_X1_init l g q7 0 0 0 0 0 8 p0 p1 p2 0 _ _) ml_X6_52 im_X1_init in_X1 co_X1_init rfl ⟨by decide +kernel, by decide +kernel, by decide +kernel⟩ ⟨Nat.le_of_ble_eq_true rfl, Nat.le_of_ble_eq_true rfl⟩ rfl hl.1 rfl (Nat.le_of_ble_eq_true rfl) dX6_addWell_62 ⟨Nat.le_of_ble_eq_true rfl, Nat.le_of_ble_eq_true rfl⟩) (Cut.of (wc := [(q7, .inr (1, [.int 0, .int 0, .int 0, .int 0, .int 0]))]) (wr := ([(x, .inr (6, [.ref (ad 0), .ref ag, .ref wo, .ref dy])), (dy, .inr (8, [.int 0, .ref (g.2.2 0), .int 0]))] ++ wsW g ad (-1) 1 0 ea σ0)) E hA [33] [0, 1, 2, 3, 4, 5, 6, 7, 8, 9, 10, 11, 12, 13, 14, 15, 16, 17, 18, 19, 20, 21, 22, 23, 24, 25, 26, 27, 28, 29, 30, 31, 32] rfl rfl rfl rfl (by decide)) E (fun u8 H locs hp E => ?_)
        have E : Ev g _ s.heap H locs ([(x, .inr (6, [.ref (ad 0), .ref ag, .ref wo, .ref dy])), (dy, .inr (8, [.int 0, .ref (g.2.2 0), .int 0]))] ++ wsW g ad (-1) 1 0 ea σ0 ++ [(q7, .inr (1, [.int 8, .int p0, .int p1, .int p2, .int 0]))]) := E
        refine w_retv (runV_X (As := [.ref q7]) (rest := []) (q0 := 0) (n := 1) S hml hK (hZ.at E) (Cut.of (wc := ([(x, .inr (6, [.ref (ad 0), .ref ag, .ref wo, .ref dy])), (dy, .inr (8, [.int 0, .ref (g.2.2 0), .int 0])), (q7, .inr (1, [.int 8, .int p0, .int p1, .int p2, .int 0]))] ++ wsW g ad (-1) 1 0 ea σ0)) (wr := []) E hA [0, 1, 33, 2, 3, 4, 5, 6, 7, 8, 9, 10, 11, 12, 13, 14, 15, 16, 17, 18, 19, 20, 21, 22, 23, 24, 25, 26, 27, 28, 29, 30, 31, 32] [] rfl rfl rfl rfl (by decide)) (c_co8 l g x ag wo dy ad ea q7 p0 p1 p2 (rg_in 15 (by decide) (by decide) (by decide) hA2) _ _) (gi_wsV ml_X6_55 im_X6_carryOut sl_X6_carryOut in_X6 co_X6_carryOut) ⟨rfl, by decide +kernel, by decide +kernel, by decide +kernel⟩ ⟨Nat.le_of_ble_eq_true rfl, Nat.le_of_ble_eq_true rfl⟩ rfl rfl rfl hl.1 rfl (Nat.le_of_ble_eq_true rfl) dX6_addWell_65 ⟨Nat.le_of_ble_eq_true rfl, Nat.le_of_ble_eq_true rfl⟩) (Cut.of (wc := ([(x, .inr (6, [.ref (ad 0), .ref ag, .ref wo, .ref dy])), (dy, .inr (8, [.int 0, .ref (g.2.2 0), .int 0])), (q7, .inr (1, [.int 8, .int p0, .int p1, .int p2, .int 0]))] ++ wsW g ad (-1) 1 0 ea σ0)) (wr := []) E hA [0, 1, 33, 2, 3, 4, 5, 6, 7, 8, 9, 10, 11, 12, 13, 14, 15, 16, 17, 18, 19, 20, 21, 22, 23, 24, 25, 26, 27, 28, 29, 30, 31, 32] [] rfl rfl rfl rfl (by decide)) E (fun u9 H locs hp E => ?_)
        have E : Ev g _ s.heap H locs [(x, .inr (6, [.ref (ad 0), .ref ag, .ref wo, .ref dy]))] := E
        refine lv_iload hx hb dX6_addWell_68 (lv_at hl 0 rfl) ?_
        exact vx_ret (x_iret () S hr hlk hsz htt hK E dX6_addWell_70 ⟨rfl, ⟨hA2, hB4, hB6⟩⟩ rfl ⟨Nat.le_of_ble_eq_true rfl, Nat.le_of_ble_eq_true rfl⟩ ⟨Nat.le_of_ble_eq_true rfl, Nat.le_of_ble_eq_true rfl⟩)

