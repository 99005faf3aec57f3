/-! WHAT SETS, WHAT ASKS, over worlds in blocks -/
section PERMW
variable {X W D T : va_W}
theorem pm_w : ((D ++ T) ++ X).Perm ((X ++ D) ++ T) := by
  have h := perm_ix [X, D, T] (is := [1, 2, 0]) (js := [0, 1, 2]) (by decide)
  simpa [cat] using h
theorem pm_w2 : ((X ++ (D ++ T)) ++ W).Perm (((X ++ W) ++ D) ++ T) := by
  have h := perm_ix [X, W, D, T] (is := [0, 2, 3, 1]) (js := [0, 1, 2, 3]) (by decide)
  simpa [cat] using h
end PERMW
theorem lt6 {σ : Sg} (hW : WF σ) (h : gs σ 4 < 6) : cnt σ < 6 := by
  rw [hW.n] at h
  exact cnt_lt h hW.le
theorem le600 {σ : Sg} {M mm : Nat} (h0 : gs σ 0 = nI M) (hM : M ≤ 600) (hm : mm ≤ 24) (h : gs σ 0 + nI mm ≤ 600) : M + mm ≤ 600 := by
  rw [h0, nI_add] at h
  exact (nI_leI (a := M + mm) (b := 600) (by omega) (by omega)).mp h
theorem ix_in6 {σ : Sg} {i : Int32} (hW : WF σ) (h : ixOK i (gs σ 4)) : vp_in i 6 := (ix_n hW.le (by rw [← hW.n]; exact h)).1
set_option maxHeartbeats 4000000 in
set_option maxRecDepth 100000 in
/-- requireIndex -/
theorem c_X6_requireIndex (l : Launch) (g : Gm) (hst : l.stackTraces = false) (i : Int32) (n : Int32) : YXv (S := Unit) l g yX6_requireIndex cX6_requireIndex 2 ({ frames := 6, cells := 1, slots := 6, locals := 82 } : Room) [.int i, .int n] [] (fun _ => ixOK i n) (fun _ => []) (fun _ => (0, 0)) [] (fun En => En = "java/lang/IndexOutOfBoundsException" ∧ ¬ ixOK i n) := by
  intro sz tt
  refine ofY RX6 rfl (by decide +kernel) (Nat.le_of_ble_eq_true rfl) (fun p e s m args below meth c hargs S hml hr hlk hex hsz htt hK hA hZ E ls hl => ?_)
  have hx := S.1
  have hb := S.2.1
  have hl : lv_has ls 2 [(0, .int i), (1, .int n)] := hl
  refine lv_iload_n hx hb dX6_requireIndex_0 rfl (lv_at hl 0 rfl) ?_
  refine lv_if_lt (tgt := 9) hx hb dX6_requireIndex_1 (by decide) (fun c1 => ?_) (fun c1 => ?_)
  · have c1 : i < 0 := c1
    exact y_throw (text := "there is no such index") (names := ["java/lang/RuntimeException", "java/lang/Exception"]) S hst hml hl hex hlk hK hZ E rfl ⟨rfl, fun z => le_nlt z.1 c1⟩ (by decide +kernel) (by decide +kernel) cl_X6_224 in__java_lang_IndexOutOfBoundsException (by decide +kernel) at_ioob dX6_requireIndex_9 dX6_requireIndex_12 dX6_requireIndex_13 dX6_requireIndex_15 dX6_requireIndex_18 (Nat.le_of_ble_eq_true rfl) (Nat.le_of_ble_eq_true rfl) ⟨Nat.le_of_ble_eq_true rfl, Nat.le_of_ble_eq_true rfl⟩ ⟨Nat.le_of_ble_eq_true rfl, Nat.le_of_ble_eq_true rfl⟩
  · have c1 : ¬ (i < 0) := c1
    refine lv_iload_n hx hb dX6_requireIndex_4 rfl (lv_at hl 0 rfl) ?_
    refine lv_iload_n hx hb dX6_requireIndex_5 rfl (lv_at hl 1 rfl) ?_
    refine lv_icmp_lt (tgt := 19) hx hb dX6_requireIndex_6 (by decide) (fun c2 => ?_) (fun c2 => ?_)
    · have c2 : i < n := c2
      exact vx_ret (x_vret () S hr hlk hsz htt hK E dX6_requireIndex_19 ⟨nlt_le c1, c2⟩ rfl ⟨Nat.le_of_ble_eq_true rfl, Nat.le_of_ble_eq_true rfl⟩ ⟨Nat.le_of_ble_eq_true rfl, Nat.le_of_ble_eq_true rfl⟩)
    · have c2 : ¬ (i < n) := c2
      exact y_throw (text := "there is no such index") (names := ["java/lang/RuntimeException", "java/lang/Exception"]) S hst hml hl hex hlk hK hZ E rfl ⟨rfl, fun z => c2 z.2⟩ (by decide +kernel) (by decide +kernel) cl_X6_224 in__java_lang_IndexOutOfBoundsException (by decide +kernel) at_ioob dX6_requireIndex_9 dX6_requireIndex_12 dX6_requireIndex_13 dX6_requireIndex_15 dX6_requireIndex_18 (Nat.le_of_ble_eq_true rfl) (Nat.le_of_ble_eq_true rfl) ⟨Nat.le_of_ble_eq_true rfl, Nat.le_of_ble_eq_true rfl⟩ ⟨Nat.le_of_ble_eq_true rfl, Nat.le_of_ble_eq_true rfl⟩

set_option maxHeartbeats 4000000 in
set_option maxRecDepth 100000 in
/-- requireRange -/
theorem c_X6_requireRange (l : Launch) (g : Gm) (hst : l.stackTraces = false) (v : Int32) (lo : Int32) (hi : Int32) : YXv (S := Unit) l g yX6_requireRange cX6_requireRange 3 ({ frames := 6, cells := 1, slots := 6, locals := 82 } : Room) [.int v, .int lo, .int hi] [] (fun _ => rgOK v lo hi) (fun _ => []) (fun _ => (0, 0)) [] (fun En => En = "java/lang/IllegalArgumentException" ∧ ¬ rgOK v lo hi) := by
  intro sz tt
  refine ofY RX6 rfl (by decide +kernel) (Nat.le_of_ble_eq_true rfl) (fun p e s m args below meth c hargs S hml hr hlk hex hsz htt hK hA hZ E ls hl => ?_)
  have hx := S.1
  have hb := S.2.1
  have hl : lv_has ls 3 [(0, .int v), (1, .int lo), (2, .int hi)] := hl
  refine lv_iload_n hx hb dX6_requireRange_0 rfl (lv_at hl 0 rfl) ?_
  refine lv_iload_n hx hb dX6_requireRange_1 rfl (lv_at hl 1 rfl) ?_
  refine lv_icmp_lt (tgt := 10) hx hb dX6_requireRange_2 (by decide) (fun c1 => ?_) (fun c1 => ?_)
  · have c1 : v < lo := c1
    exact y_throw (text := "a number is out of range") (names := ["java/lang/RuntimeException", "java/lang/Exception"]) S hst hml hl hex hlk hK hZ E rfl ⟨rfl, fun z => le_nlt z.1 c1⟩ (by decide +kernel) (by decide +kernel) cl_X6_189 in__java_lang_IllegalArgumentException (by decide +kernel) at_iae dX6_requireRange_10 dX6_requireRange_13 dX6_requireRange_14 dX6_requireRange_16 dX6_requireRange_19 (Nat.le_of_ble_eq_true rfl) (Nat.le_of_ble_eq_true rfl) ⟨Nat.le_of_ble_eq_true rfl, Nat.le_of_ble_eq_true rfl⟩ ⟨Nat.le_of_ble_eq_true rfl, Nat.le_of_ble_eq_true rfl⟩
  · have c1 : ¬ (v < lo) := c1
    refine lv_iload_n hx hb dX6_requireRange_5 rfl (lv_at hl 0 rfl) ?_
    refine lv_iload_n hx hb dX6_requireRange_6 rfl (lv_at hl 2 rfl) ?_
    refine lv_icmp_le (tgt := 20) hx hb dX6_requireRange_7 (by decide) (fun c2 => ?_) (fun c2 => ?_)
    · have c2 : v ≤ hi := c2
      exact vx_ret (x_vret () S hr hlk hsz htt hK E dX6_requireRange_20 ⟨nlt_le c1, c2⟩ rfl ⟨Nat.le_of_ble_eq_true rfl, Nat.le_of_ble_eq_true rfl⟩ ⟨Nat.le_of_ble_eq_true rfl, Nat.le_of_ble_eq_true rfl⟩)
    · have c2 : ¬ (v ≤ hi) := c2
      exact y_throw (text := "a number is out of range") (names := ["java/lang/RuntimeException", "java/lang/Exception"]) S hst hml hl hex hlk hK hZ E rfl ⟨rfl, fun z => c2 z.2⟩ (by decide +kernel) (by decide +kernel) cl_X6_189 in__java_lang_IllegalArgumentException (by decide +kernel) at_iae dX6_requireRange_10 dX6_requireRange_13 dX6_requireRange_14 dX6_requireRange_16 dX6_requireRange_19 (Nat.le_of_ble_eq_true rfl) (Nat.le_of_ble_eq_true rfl) ⟨Nat.le_of_ble_eq_true rfl, Nat.le_of_ble_eq_true rfl⟩ ⟨Nat.le_of_ble_eq_true rfl, Nat.le_of_ble_eq_true rfl⟩

set_option maxHeartbeats 4000000 in
set_option maxRecDepth 100000 in
/-- requireWell -/
theorem c_X6_requireWell (l : Launch) (g : Gm) (hst : l.stackTraces = false) (q : Fx) (ea : Nat) (σ : Sg) (w : Int32) : YXv (S := Unit) l g yX6_requireWell cX6_requireWell 2 ({ frames := 7, cells := 1, slots := 6, locals := 103 } : Room) [.ref q.1, .int w] (OX g q ea σ) (fun _ => ixOK w (gs σ 4)) (fun _ => OX g q ea σ) (fun _ => (0, 0)) (OX g q ea σ) (fun En => En = "java/lang/IndexOutOfBoundsException" ∧ ¬ ixOK w (gs σ 4)) := by
  intro sz tt
  refine ofY RX6 rfl (by decide +kernel) (Nat.le_of_ble_eq_true rfl) (fun p e s m args below meth c hargs S hml hr hlk hex hsz htt hK hA hZ E ls hl => ?_)
  have hx := S.1
  have hb := S.2.1
  have hl : lv_has ls 2 [(0, .ref q.1), (1, .int w)] := hl
  refine lv_iload_n hx hb dX6_requireWell_0 rfl (lv_at hl 1 rfl) ?_
  refine lv_aload_n hx hb dX6_requireWell_1 rfl (lv_at hl 0 rfl) ?_
  refine wg_X6_14 (v := .ref (q.2.2.2.1 0)) S hK E 0 rfl rfl dX6_requireWell_2 ?_
  refine wg_X6_87 (v := .ref (q.2.2.2.1 3)) S hK E 1 rfl rfl dX6_requireWell_5 ?_
  refine wg_X6_91 (v := .int (gs σ 4)) S hK E 4 rfl rfl dX6_requireWell_8 ?_
  refine y_retv (yrunS (As := [.int w, .int (gs σ 4)]) (rest := []) (n := 2) S hml hK (hZ.at E) (Cut.none E hA) (c_X6_requireIndex l g hst w (gs σ 4) _ _) ml_X6_32 st_X6_requireIndex in_X6 co_X6_requireIndex ⟨by decide +kernel, by decide +kernel, by decide +kernel⟩ ⟨Nat.le_of_ble_eq_true rfl, Nat.le_of_ble_eq_true rfl⟩ rfl hl.1 rfl (Nat.le_of_ble_eq_true rfl) dX6_requireWell_11 ⟨Nat.le_of_ble_eq_true rfl, Nat.le_of_ble_eq_true rfl⟩) (Cut.none E hA) E (fun En ce q9 H locs hp E hce hcv hcl => ?_) (fun u1 H locs hp E => ?_)
  · exact y_out hex hlk hK (Ev.nilr E) rfl hp hce hcv hcl ⟨Nat.le_of_ble_eq_true rfl, Nat.le_of_ble_eq_true rfl⟩
  have E : Ev g _ s.heap H locs (OX g q ea σ) := Ev.nilr E
  have hA1 := hp
  exact vx_ret (x_vret () S hr hlk hsz htt hK E dX6_requireWell_14 hA1 rfl ⟨Nat.le_of_ble_eq_true rfl, Nat.le_of_ble_eq_true rfl⟩ ⟨Nat.le_of_ble_eq_true rfl, Nat.le_of_ble_eq_true rfl⟩)

set_option maxHeartbeats 4000000 in
set_option maxRecDepth 100000 in
/-- water -/
theorem c_G_water (l : Launch) (g : Gm) (hst : l.stackTraces = false) (q : Fx) (ea : Nat) (σ : Sg) (p0 : Int32) : YXi (S := Unit) l g yX6_water cX6_water 2 .int ({ frames := 7, cells := 1, slots := 6, locals := 103 } : Room) [.ref q.1, .int p0] (OX g q ea σ) (fun r _ => r = gi σ 10 p0 ∧ rgOK p0 0 15) (fun _ => OX g q ea σ) (fun _ => (0, 0)) (OX g q ea σ) (fun En => En = "java/lang/IndexOutOfBoundsException" ∧ ¬ (rgOK p0 0 15)) := by
  intro sz tt
  refine ofY RX6 rfl (by decide +kernel) (Nat.le_of_ble_eq_true rfl) (fun p e s m args below meth c hargs S hml hr hlk hex hsz htt hK hA hZ E ls hl => ?_)
  have hx := S.1
  have hb := S.2.1
  have hl : lv_has ls 2 [(0, .ref q.1), (1, .int p0)] := hl
  refine lv_iload_n hx hb dX6_water_0 rfl (lv_at hl 1 rfl) ?_
  refine lv_bipush (v := 16) hx hb dX6_water_1 (by decide) ?_
  refine y_retv (yrunS (As := [.int p0, .int 16]) (rest := []) (n := 2) S hml hK (hZ.at E) (Cut.none E hA) (c_X6_requireIndex l g hst p0 16 _ _) ml_X6_32 st_X6_requireIndex in_X6 co_X6_requireIndex ⟨by decide +kernel, by decide +kernel, by decide +kernel⟩ ⟨Nat.le_of_ble_eq_true rfl, Nat.le_of_ble_eq_true rfl⟩ rfl hl.1 rfl (Nat.le_of_ble_eq_true rfl) dX6_water_3 ⟨Nat.le_of_ble_eq_true rfl, Nat.le_of_ble_eq_true rfl⟩) (Cut.none E hA) E (fun En ce q9 H locs hp E hce hcv hcl => ?_) (fun u1 H locs hp E => ?_)
  · exact y_out hex hlk hK (Ev.nilr E) rfl ⟨hp.1, fun z => hp.2 (ix16.mpr z)⟩ hce hcv hcl ⟨Nat.le_of_ble_eq_true rfl, Nat.le_of_ble_eq_true rfl⟩
  have E : Ev g _ s.heap H locs (OX g q ea σ) := Ev.nilr E
  have hA1 := ix16.mp hp
  refine lv_aload_n hx hb dX6_water_6 rfl (lv_at hl 0 rfl) ?_
  refine wg_X6_14 (v := .ref (q.2.2.2.1 0)) S hK E 0 rfl rfl dX6_water_7 ?_
  refine wg_X6_40 (v := .ref (q.2.2.2.1 1)) S hK E 1 rfl rfl dX6_water_10 ?_
  refine wg_X6_44 (v := .ref (q.2.2.2.1 10)) S hK E 2 rfl rfl dX6_water_13 ?_
  refine lv_iload_n hx hb dX6_water_16 rfl (lv_at hl 1 rfl) ?_
  refine w_ild (v := (gi σ 10 p0)) S hK E 11 0 rfl rfl (rg_in 15 (by decide) (by decide) (by decide) hA1) rfl dX6_water_17 ?_
  exact vx_ret (x_iret () S hr hlk hsz htt hK E dX6_water_18 ⟨rfl, hA1⟩ rfl ⟨Nat.le_of_ble_eq_true rfl, Nat.le_of_ble_eq_true rfl⟩ ⟨Nat.le_of_ble_eq_true rfl, Nat.le_of_ble_eq_true rfl⟩)

set_option maxHeartbeats 4000000 in
set_option maxRecDepth 100000 in
/-- salt -/
theorem c_G_salt (l : Launch) (g : Gm) (hst : l.stackTraces = false) (q : Fx) (ea : Nat) (σ : Sg) (p0 : Int32) : YXi (S := Unit) l g yX6_salt cX6_salt 2 .int ({ frames := 7, cells := 1, slots := 6, locals := 103 } : Room) [.ref q.1, .int p0] (OX g q ea σ) (fun r _ => r = gi σ 11 p0 ∧ rgOK p0 0 15) (fun _ => OX g q ea σ) (fun _ => (0, 0)) (OX g q ea σ) (fun En => En = "java/lang/IndexOutOfBoundsException" ∧ ¬ (rgOK p0 0 15)) := by
  intro sz tt
  refine ofY RX6 rfl (by decide +kernel) (Nat.le_of_ble_eq_true rfl) (fun p e s m args below meth c hargs S hml hr hlk hex hsz htt hK hA hZ E ls hl => ?_)
  have hx := S.1
  have hb := S.2.1
  have hl : lv_has ls 2 [(0, .ref q.1), (1, .int p0)] := hl
  refine lv_iload_n hx hb dX6_salt_0 rfl (lv_at hl 1 rfl) ?_
  refine lv_bipush (v := 16) hx hb dX6_salt_1 (by decide) ?_
  refine y_retv (yrunS (As := [.int p0, .int 16]) (rest := []) (n := 2) S hml hK (hZ.at E) (Cut.none E hA) (c_X6_requireIndex l g hst p0 16 _ _) ml_X6_32 st_X6_requireIndex in_X6 co_X6_requireIndex ⟨by decide +kernel, by decide +kernel, by decide +kernel⟩ ⟨Nat.le_of_ble_eq_true rfl, Nat.le_of_ble_eq_true rfl⟩ rfl hl.1 rfl (Nat.le_of_ble_eq_true rfl) dX6_salt_3 ⟨Nat.le_of_ble_eq_true rfl, Nat.le_of_ble_eq_true rfl⟩) (Cut.none E hA) E (fun En ce q9 H locs hp E hce hcv hcl => ?_) (fun u1 H locs hp E => ?_)
  · exact y_out hex hlk hK (Ev.nilr E) rfl ⟨hp.1, fun z => hp.2 (ix16.mpr z)⟩ hce hcv hcl ⟨Nat.le_of_ble_eq_true rfl, Nat.le_of_ble_eq_true rfl⟩
  have E : Ev g _ s.heap H locs (OX g q ea σ) := Ev.nilr E
  have hA1 := ix16.mp hp
  refine lv_aload_n hx hb dX6_salt_6 rfl (lv_at hl 0 rfl) ?_
  refine wg_X6_14 (v := .ref (q.2.2.2.1 0)) S hK E 0 rfl rfl dX6_salt_7 ?_
  refine wg_X6_40 (v := .ref (q.2.2.2.1 1)) S hK E 1 rfl rfl dX6_salt_10 ?_
  refine wg_X6_134 (v := .ref (q.2.2.2.1 11)) S hK E 2 rfl rfl dX6_salt_13 ?_
  refine lv_iload_n hx hb dX6_salt_16 rfl (lv_at hl 1 rfl) ?_
  refine w_ild (v := (gi σ 11 p0)) S hK E 12 0 rfl rfl (rg_in 15 (by decide) (by decide) (by decide) hA1) rfl dX6_salt_17 ?_
  exact vx_ret (x_iret () S hr hlk hsz htt hK E dX6_salt_18 ⟨rfl, hA1⟩ rfl ⟨Nat.le_of_ble_eq_true rfl, Nat.le_of_ble_eq_true rfl⟩ ⟨Nat.le_of_ble_eq_true rfl, Nat.le_of_ble_eq_true rfl⟩)

set_option maxHeartbeats 4000000 in
set_option maxRecDepth 100000 in
/-- level -/
theorem c_G_level (l : Launch) (g : Gm) (hst : l.stackTraces = false) (q : Fx) (ea : Nat) (σ : Sg) (p0 : Int32) : YXi (S := Unit) l g yX6_level cX6_level 2 .int ({ frames := 7, cells := 1, slots := 6, locals := 103 } : Room) [.ref q.1, .int p0] (OX g q ea σ) (fun r _ => r = f_X2_height σ p0 ∧ rgOK p0 0 15) (fun _ => OX g q ea σ) (fun _ => (0, 0)) (OX g q ea σ) (fun En => En = "java/lang/IndexOutOfBoundsException" ∧ ¬ (rgOK p0 0 15)) := by
  intro sz tt
  refine ofY RX6 rfl (by decide +kernel) (Nat.le_of_ble_eq_true rfl) (fun p e s m args below meth c hargs S hml hr hlk hex hsz htt hK hA hZ E ls hl => ?_)
  have hx := S.1
  have hb := S.2.1
  have hl : lv_has ls 2 [(0, .ref q.1), (1, .int p0)] := hl
  refine lv_iload_n hx hb dX6_level_0 rfl (lv_at hl 1 rfl) ?_
  refine lv_bipush (v := 16) hx hb dX6_level_1 (by decide) ?_
  refine y_retv (yrunS (As := [.int p0, .int 16]) (rest := []) (n := 2) S hml hK (hZ.at E) (Cut.none E hA) (c_X6_requireIndex l g hst p0 16 _ _) ml_X6_32 st_X6_requireIndex in_X6 co_X6_requireIndex ⟨by decide +kernel, by decide +kernel, by decide +kernel⟩ ⟨Nat.le_of_ble_eq_true rfl, Nat.le_of_ble_eq_true rfl⟩ rfl hl.1 rfl (Nat.le_of_ble_eq_true rfl) dX6_level_3 ⟨Nat.le_of_ble_eq_true rfl, Nat.le_of_ble_eq_true rfl⟩) (Cut.none E hA) E (fun En ce q9 H locs hp E hce hcv hcl => ?_) (fun u1 H locs hp E => ?_)
  · exact y_out hex hlk hK (Ev.nilr E) rfl ⟨hp.1, fun z => hp.2 (ix16.mpr z)⟩ hce hcv hcl ⟨Nat.le_of_ble_eq_true rfl, Nat.le_of_ble_eq_true rfl⟩
  have E : Ev g _ s.heap H locs (OX g q ea σ) := Ev.nilr E
  have hA1 := ix16.mp hp
  refine lv_aload_n hx hb dX6_level_6 rfl (lv_at hl 0 rfl) ?_
  refine wg_X6_14 (v := .ref (q.2.2.2.1 0)) S hK E 0 rfl rfl dX6_level_7 ?_
  refine wg_X6_40 (v := .ref (q.2.2.2.1 1)) S hK E 1 rfl rfl dX6_level_10 ?_
  refine lv_iload_n hx hb dX6_level_13 rfl (lv_at hl 1 rfl) ?_
  refine w_reti (runV_X (As := [.int p0]) (rest := []) (q0 := 1) (n := 1) S hml hK (hZ.at E) (Cut.app (wr := [(q.1, .inr (6, [.ref (q.2.2.2.1 0), .ref (q.2.2.2.2.1 0), .ref q.2.1, .ref q.2.2.1]))]) E hA) (c_X2_height l g q.2.2.2.1 (-1) 1 0 ea σ p0 (rg_in 15 (by decide) (by decide) (by decide) hA1) _ _) (gi_wsV ml_X6_130 im_X2_height sl_X2_height in_X2 co_X2_height) ⟨rfl, by decide +kernel, by decide +kernel, by decide +kernel⟩ ⟨Nat.le_of_ble_eq_true rfl, Nat.le_of_ble_eq_true rfl⟩ rfl rfl rfl hl.1 rfl (Nat.le_of_ble_eq_true rfl) dX6_level_14 ⟨Nat.le_of_ble_eq_true rfl, Nat.le_of_ble_eq_true rfl⟩) (Cut.app (wr := [(q.1, .inr (6, [.ref (q.2.2.2.1 0), .ref (q.2.2.2.2.1 0), .ref q.2.1, .ref q.2.2.1]))]) E hA) E (fun r2 u2 H locs hp E => ?_)
  obtain ⟨hr, hu1⟩ := hp
  have hu2 := hu1.symm
  subst hu2
  subst hr
  have E : Ev g _ s.heap H locs ((OX g q ea σ)) := E
  exact vx_ret (x_iret () S hr hlk hsz htt hK E dX6_level_17 ⟨rfl, hA1⟩ rfl ⟨Nat.le_of_ble_eq_true rfl, Nat.le_of_ble_eq_true rfl⟩ ⟨Nat.le_of_ble_eq_true rfl, Nat.le_of_ble_eq_true rfl⟩)

set_option maxHeartbeats 4000000 in
set_option maxRecDepth 100000 in
/-- amount -/
theorem c_G_amount (l : Launch) (g : Gm) (hst : l.stackTraces = false) (q : Fx) (ea : Nat) (σ : Sg) (p0 : Int32) (hW : WF σ) : YXi (S := Unit) l g yX6_amount cX6_amount 2 .int ({ frames := 8, cells := 1, slots := 6, locals := 124 } : Room) [.ref q.1, .int p0] (OX g q ea σ) (fun r _ => r = gi σ 20 p0 ∧ ixOK p0 (gs σ 4)) (fun _ => OX g q ea σ) (fun _ => (0, 0)) (OX g q ea σ) (fun En => En = "java/lang/IndexOutOfBoundsException" ∧ ¬ (ixOK p0 (gs σ 4))) := by
  intro sz tt
  refine ofY RX6 rfl (by decide +kernel) (Nat.le_of_ble_eq_true rfl) (fun p e s m args below meth c hargs S hml hr hlk hex hsz htt hK hA hZ E ls hl => ?_)
  have hx := S.1
  have hb := S.2.1
  have hl : lv_has ls 2 [(0, .ref q.1), (1, .int p0)] := hl
  refine lv_aload_n hx hb dX6_amount_0 rfl (lv_at hl 0 rfl) ?_
  refine lv_iload_n hx hb dX6_amount_1 rfl (lv_at hl 1 rfl) ?_
  refine y_retv (yrunV (As := [.int p0]) (rest := []) (q0 := 0) (n := 1) S hml hK (hZ.at E) (Cut.full E hA) (c_X6_requireWell l g hst q ea σ p0 _ _) (gi_wsV ml_X6_103 im_X6_requireWell sl_X6_requireWell in_X6 co_X6_requireWell) ⟨rfl, by decide +kernel, by decide +kernel, by decide +kernel⟩ ⟨Nat.le_of_ble_eq_true rfl, Nat.le_of_ble_eq_true rfl⟩ rfl rfl rfl hl.1 rfl (Nat.le_of_ble_eq_true rfl) dX6_amount_2 ⟨Nat.le_of_ble_eq_true rfl, Nat.le_of_ble_eq_true rfl⟩) (Cut.full E hA) E (fun En ce q9 H locs hp E hce hcv hcl => ?_) (fun u1 H locs hp E => ?_)
  · exact y_out hex hlk hK (show Ev g _ s.heap H locs ((OX g q ea σ)) from E) rfl hp hce hcv hcl ⟨Nat.le_of_ble_eq_true rfl, Nat.le_of_ble_eq_true rfl⟩
  have E : Ev g _ s.heap H locs ((OX g q ea σ)) := E
  have hw1 := hp
  refine lv_aload_n hx hb dX6_amount_5 rfl (lv_at hl 0 rfl) ?_
  refine wg_X6_14 (v := .ref (q.2.2.2.1 0)) S hK E 0 rfl rfl dX6_amount_6 ?_
  refine wg_X6_87 (v := .ref (q.2.2.2.1 3)) S hK E 1 rfl rfl dX6_amount_9 ?_
  refine wg_X6_119 (v := .ref (q.2.2.2.1 20)) S hK E 4 rfl rfl dX6_amount_12 ?_
  refine lv_iload_n hx hb dX6_amount_15 rfl (lv_at hl 1 rfl) ?_
  refine w_ild (v := (gi σ 20 p0)) S hK E 21 0 rfl rfl (ix_in6 hW hw1) rfl dX6_amount_16 ?_
  exact vx_ret (x_iret () S hr hlk hsz htt hK E dX6_amount_17 ⟨rfl, hw1⟩ rfl ⟨Nat.le_of_ble_eq_true rfl, Nat.le_of_ble_eq_true rfl⟩ ⟨Nat.le_of_ble_eq_true rfl, Nat.le_of_ble_eq_true rfl⟩)

set_option maxHeartbeats 4000000 in
set_option maxRecDepth 100000 in
/-- yearly -/
theorem c_G_yearly (l : Launch) (g : Gm) (hst : l.stackTraces = false) (q : Fx) (ea : Nat) (σ : Sg) (p0 : Int32) (hW : WF σ) : YXi (S := Unit) l g yX6_yearly cX6_yearly 2 .int ({ frames := 8, cells := 1, slots := 6, locals := 124 } : Room) [.ref q.1, .int p0] (OX g q ea σ) (fun r _ => r = gi σ 22 p0 ∧ ixOK p0 (gs σ 4)) (fun _ => OX g q ea σ) (fun _ => (0, 0)) (OX g q ea σ) (fun En => En = "java/lang/IndexOutOfBoundsException" ∧ ¬ (ixOK p0 (gs σ 4))) := by
  intro sz tt
  refine ofY RX6 rfl (by decide +kernel) (Nat.le_of_ble_eq_true rfl) (fun p e s m args below meth c hargs S hml hr hlk hex hsz htt hK hA hZ E ls hl => ?_)
  have hx := S.1
  have hb := S.2.1
  have hl : lv_has ls 2 [(0, .ref q.1), (1, .int p0)] := hl
  refine lv_aload_n hx hb dX6_yearly_0 rfl (lv_at hl 0 rfl) ?_
  refine lv_iload_n hx hb dX6_yearly_1 rfl (lv_at hl 1 rfl) ?_
  refine y_retv (yrunV (As := [.int p0]) (rest := []) (q0 := 0) (n := 1) S hml hK (hZ.at E) (Cut.full E hA) (c_X6_requireWell l g hst q ea σ p0 _ _) (gi_wsV ml_X6_103 im_X6_requireWell sl_X6_requireWell in_X6 co_X6_requireWell) ⟨rfl, by decide +kernel, by decide +kernel, by decide +kernel⟩ ⟨Nat.le_of_ble_eq_true rfl, Nat.le_of_ble_eq_true rfl⟩ rfl rfl rfl hl.1 rfl (Nat.le_of_ble_eq_true rfl) dX6_yearly_2 ⟨Nat.le_of_ble_eq_true rfl, Nat.le_of_ble_eq_true rfl⟩) (Cut.full E hA) E (fun En ce q9 H locs hp E hce hcv hcl => ?_) (fun u1 H locs hp E => ?_)
  · exact y_out hex hlk hK (show Ev g _ s.heap H locs ((OX g q ea σ)) from E) rfl hp hce hcv hcl ⟨Nat.le_of_ble_eq_true rfl, Nat.le_of_ble_eq_true rfl⟩
  have E : Ev g _ s.heap H locs ((OX g q ea σ)) := E
  have hw1 := hp
  refine lv_aload_n hx hb dX6_yearly_5 rfl (lv_at hl 0 rfl) ?_
  refine wg_X6_14 (v := .ref (q.2.2.2.1 0)) S hK E 0 rfl rfl dX6_yearly_6 ?_
  refine wg_X6_87 (v := .ref (q.2.2.2.1 3)) S hK E 1 rfl rfl dX6_yearly_9 ?_
  refine wg_X6_137 (v := .ref (q.2.2.2.1 22)) S hK E 4 rfl rfl dX6_yearly_12 ?_
  refine lv_iload_n hx hb dX6_yearly_15 rfl (lv_at hl 1 rfl) ?_
  refine w_ild (v := (gi σ 22 p0)) S hK E 23 0 rfl rfl (ix_in6 hW hw1) rfl dX6_yearly_16 ?_
  exact vx_ret (x_iret () S hr hlk hsz htt hK E dX6_yearly_17 ⟨rfl, hw1⟩ rfl ⟨Nat.le_of_ble_eq_true rfl, Nat.le_of_ble_eq_true rfl⟩ ⟨Nat.le_of_ble_eq_true rfl, Nat.le_of_ble_eq_true rfl⟩)

set_option maxHeartbeats 4000000 in
set_option maxRecDepth 100000 in
/-- pumped -/
theorem c_G_pumped (l : Launch) (g : Gm) (hst : l.stackTraces = false) (q : Fx) (ea : Nat) (σ : Sg) (p0 : Int32) (hW : WF σ) : YXl (S := Unit) l g yX6_pumped cX6_pumped 2 ({ frames := 8, cells := 1, slots := 6, locals := 124 } : Room) [.ref q.1, .int p0] (OX g q ea σ) (fun r _ => r = gl σ 23 p0 ∧ ixOK p0 (gs σ 4)) (fun _ => OX g q ea σ) (fun _ => (0, 0)) (OX g q ea σ) (fun En => En = "java/lang/IndexOutOfBoundsException" ∧ ¬ (ixOK p0 (gs σ 4))) := by
  intro sz tt
  refine ofY RX6 rfl (by decide +kernel) (Nat.le_of_ble_eq_true rfl) (fun p e s m args below meth c hargs S hml hr hlk hex hsz htt hK hA hZ E ls hl => ?_)
  have hx := S.1
  have hb := S.2.1
  have hl : lv_has ls 2 [(0, .ref q.1), (1, .int p0)] := hl
  refine lv_aload_n hx hb dX6_pumped_0 rfl (lv_at hl 0 rfl) ?_
  refine lv_iload_n hx hb dX6_pumped_1 rfl (lv_at hl 1 rfl) ?_
  refine y_retv (yrunV (As := [.int p0]) (rest := []) (q0 := 0) (n := 1) S hml hK (hZ.at E) (Cut.full E hA) (c_X6_requireWell l g hst q ea σ p0 _ _) (gi_wsV ml_X6_103 im_X6_requireWell sl_X6_requireWell in_X6 co_X6_requireWell) ⟨rfl, by decide +kernel, by decide +kernel, by decide +kernel⟩ ⟨Nat.le_of_ble_eq_true rfl, Nat.le_of_ble_eq_true rfl⟩ rfl rfl rfl hl.1 rfl (Nat.le_of_ble_eq_true rfl) dX6_pumped_2 ⟨Nat.le_of_ble_eq_true rfl, Nat.le_of_ble_eq_true rfl⟩) (Cut.full E hA) E (fun En ce q9 H locs hp E hce hcv hcl => ?_) (fun u1 H locs hp E => ?_)
  · exact y_out hex hlk hK (show Ev g _ s.heap H locs ((OX g q ea σ)) from E) rfl hp hce hcv hcl ⟨Nat.le_of_ble_eq_true rfl, Nat.le_of_ble_eq_true rfl⟩
  have E : Ev g _ s.heap H locs ((OX g q ea σ)) := E
  have hw1 := hp
  refine lv_aload_n hx hb dX6_pumped_5 rfl (lv_at hl 0 rfl) ?_
  refine wg_X6_14 (v := .ref (q.2.2.2.1 0)) S hK E 0 rfl rfl dX6_pumped_6 ?_
  refine wg_X6_87 (v := .ref (q.2.2.2.1 3)) S hK E 1 rfl rfl dX6_pumped_9 ?_
  refine wg_X6_140 (v := .ref (q.2.2.2.1 23)) S hK E 4 rfl rfl dX6_pumped_12 ?_
  refine lv_iload_n hx hb dX6_pumped_15 rfl (lv_at hl 1 rfl) ?_
  refine w_lld (v := (gl σ 23 p0)) S hK E 24 1 rfl rfl (ix_in6 hW hw1) rfl dX6_pumped_16 ?_
  exact vx_ret (x_lret () S hr hlk hsz htt hK E dX6_pumped_17 ⟨rfl, hw1⟩ rfl ⟨Nat.le_of_ble_eq_true rfl, Nat.le_of_ble_eq_true rfl⟩ ⟨Nat.le_of_ble_eq_true rfl, Nat.le_of_ble_eq_true rfl⟩)

set_option maxHeartbeats 4000000 in
set_option maxRecDepth 100000 in
/-- isShut -/
theorem c_G_isShut (l : Launch) (g : Gm) (hst : l.stackTraces = false) (q : Fx) (ea : Nat) (σ : Sg) (p0 : Int32) (hW : WF σ) (h1 : gi σ 24 p0 = 0) : YXi (S := Unit) l g yX6_isShut cX6_isShut 2 .boolean ({ frames := 8, cells := 1, slots := 6, locals := 124 } : Room) [.ref q.1, .int p0] (OX g q ea σ) (fun r _ => r = gi σ 24 p0 ∧ ixOK p0 (gs σ 4)) (fun _ => OX g q ea σ) (fun _ => (0, 0)) (OX g q ea σ) (fun En => En = "java/lang/IndexOutOfBoundsException" ∧ ¬ (ixOK p0 (gs σ 4))) := by
  intro sz tt
  refine ofY RX6 rfl (by decide +kernel) (Nat.le_of_ble_eq_true rfl) (fun p e s m args below meth c hargs S hml hr hlk hex hsz htt hK hA hZ E ls hl => ?_)
  have hx := S.1
  have hb := S.2.1
  have hl : lv_has ls 2 [(0, .ref q.1), (1, .int p0)] := hl
  refine lv_aload_n hx hb dX6_isShut_0 rfl (lv_at hl 0 rfl) ?_
  refine lv_iload_n hx hb dX6_isShut_1 rfl (lv_at hl 1 rfl) ?_
  refine y_retv (yrunV (As := [.int p0]) (rest := []) (q0 := 0) (n := 1) S hml hK (hZ.at E) (Cut.full E hA) (c_X6_requireWell l g hst q ea σ p0 _ _) (gi_wsV ml_X6_103 im_X6_requireWell sl_X6_requireWell in_X6 co_X6_requireWell) ⟨rfl, by decide +kernel, by decide +kernel, by decide +kernel⟩ ⟨Nat.le_of_ble_eq_true rfl, Nat.le_of_ble_eq_true rfl⟩ rfl rfl rfl hl.1 rfl (Nat.le_of_ble_eq_true rfl) dX6_isShut_2 ⟨Nat.le_of_ble_eq_true rfl, Nat.le_of_ble_eq_true rfl⟩) (Cut.full E hA) E (fun En ce q9 H locs hp E hce hcv hcl => ?_) (fun u1 H locs hp E => ?_)
  · exact y_out hex hlk hK (show Ev g _ s.heap H locs ((OX g q ea σ)) from E) rfl hp hce hcv hcl ⟨Nat.le_of_ble_eq_true rfl, Nat.le_of_ble_eq_true rfl⟩
  have E : Ev g _ s.heap H locs ((OX g q ea σ)) := E
  have hw1 := hp
  refine lv_aload_n hx hb dX6_isShut_5 rfl (lv_at hl 0 rfl) ?_
  refine wg_X6_14 (v := .ref (q.2.2.2.1 0)) S hK E 0 rfl rfl dX6_isShut_6 ?_
  refine wg_X6_87 (v := .ref (q.2.2.2.1 3)) S hK E 1 rfl rfl dX6_isShut_9 ?_
  refine wg_X6_144 (v := .ref (q.2.2.2.1 24)) S hK E 4 rfl rfl dX6_isShut_12 ?_
  refine lv_iload_n hx hb dX6_isShut_15 rfl (lv_at hl 1 rfl) ?_
  refine w_zld (v := (gi σ 24 p0)) S hK E 25 2 rfl rfl (ix_in6 hW hw1) rfl dX6_isShut_16 ?_
  exact vx_ret (x_zret () S hr hlk hsz htt hK E dX6_isShut_17 (by rw [h1]; rfl) ⟨rfl, hw1⟩ rfl ⟨Nat.le_of_ble_eq_true rfl, Nat.le_of_ble_eq_true rfl⟩ ⟨Nat.le_of_ble_eq_true rfl, Nat.le_of_ble_eq_true rfl⟩)

set_option maxHeartbeats 4000000 in
set_option maxRecDepth 100000 in
/-- setCell -/
theorem c_S_setCell (l : Launch) (g : Gm) (hst : l.stackTraces = false) (q : Fx) (u : SOB) (σ : Sg) (p0 : Int32) (p1 : Int32) (p2 : Int32) (p3 : Int32) {C M : Nat} (hu : OkU u) (hI : Inv C M σ) (hC : C + 1 ≤ 1000) : YXi (S := SOB) l g yX6_setCell cX6_setCell 6 .int ({ frames := 12, cells := 61, slots := 600005, locals := 1151 } : Room) [.ref q.1, .int p0, .int p1, .int p2, .int p3] (SW g q u σ) (fun r u' => r = gi σ 10 p0 ∧ Nx u (0, p0, p1, p2, p3) u') (fun u' => SW g q u' (fo1 (-1) (0, p0, p1, p2, p3) σ)) (kxS σ (fo1 (-1) (0, p0, p1, p2, p3) σ)) (SW g q u σ) (fun En => (En = "java/lang/IndexOutOfBoundsException" ∧ ¬ rgOK p0 0 15) ∨ (En = "java/lang/IllegalArgumentException" ∧ rgOK p0 0 15 ∧ ¬ (rgOK p1 (-100) 100 ∧ rgOK p2 1 50 ∧ rgOK p3 0 5000))) := by
  intro sz tt
  refine ofY RX6 rfl (by decide +kernel) (Nat.le_of_ble_eq_true rfl) (fun p e s m args below meth c hargs S hml hr hlk hex hsz htt hK hA hZ E ls hl => ?_)
  have hx := S.1
  have hb := S.2.1
  have hl : lv_has ls 6 [(0, .ref q.1), (1, .int p0), (2, .int p1), (3, .int p2), (4, .int p3)] := hl
  refine lv_iload_n hx hb dX6_setCell_0 rfl (lv_at hl 1 rfl) ?_
  refine lv_bipush (v := 16) hx hb dX6_setCell_1 (by decide) ?_
  refine y_retv (yrunS (As := [.int p0, .int 16]) (rest := []) (n := 2) S hml hK (hZ.at E) (Cut.none E hA) (c_X6_requireIndex l g hst p0 16 _ _) ml_X6_32 st_X6_requireIndex in_X6 co_X6_requireIndex ⟨by decide +kernel, by decide +kernel, by decide +kernel⟩ ⟨Nat.le_of_ble_eq_true rfl, Nat.le_of_ble_eq_true rfl⟩ rfl hl.1 rfl (Nat.le_of_ble_eq_true rfl) dX6_setCell_3 ⟨Nat.le_of_ble_eq_true rfl, Nat.le_of_ble_eq_true rfl⟩) (Cut.none E hA) E (fun En ce q9 H locs hp E hce hcv hcl => ?_) (fun u1 H locs hp E => ?_)
  · exact y_out hex hlk hK (Ev.nilr E) rfl (Or.inl ⟨hp.1, fun z => hp.2 (ix16.mpr z)⟩) hce hcv hcl ⟨Nat.le_of_ble_eq_true rfl, Nat.le_of_ble_eq_true rfl⟩
  have E : Ev g _ s.heap H locs (SW g q u σ) := Ev.nilr E
  have hA1 := ix16.mp hp
  refine lv_iload_n hx hb dX6_setCell_6 rfl (lv_at hl 2 rfl) ?_
  refine lv_bipush (v := (-100)) hx hb dX6_setCell_7 (by decide) ?_
  refine lv_bipush (v := 100) hx hb dX6_setCell_9 (by decide) ?_
  refine y_retv (yrunS (As := [.int p1, .int (-100), .int 100]) (rest := []) (n := 3) S hml hK (hZ.at E) (Cut.none E hA) (c_X6_requireRange l g hst p1 (-100) 100 _ _) ml_X6_36 st_X6_requireRange in_X6 co_X6_requireRange ⟨by decide +kernel, by decide +kernel, by decide +kernel⟩ ⟨Nat.le_of_ble_eq_true rfl, Nat.le_of_ble_eq_true rfl⟩ rfl hl.1 rfl (Nat.le_of_ble_eq_true rfl) dX6_setCell_11 ⟨Nat.le_of_ble_eq_true rfl, Nat.le_of_ble_eq_true rfl⟩) (Cut.none E hA) E (fun En ce q9 H locs hp E hce hcv hcl => ?_) (fun u2 H locs hp E => ?_)
  · exact y_out hex hlk hK (Ev.nilr E) rfl (Or.inr ⟨hp.1, hA1, fun z => hp.2 z.1⟩) hce hcv hcl ⟨Nat.le_of_ble_eq_true rfl, Nat.le_of_ble_eq_true rfl⟩
  have E : Ev g _ s.heap H locs (SW g q u σ) := Ev.nilr E
  have hB2 := hp
  refine lv_iload_n hx hb dX6_setCell_14 rfl (lv_at hl 3 rfl) ?_
  refine lv_iconst (v := 1) hx hb dX6_setCell_15 (by decide) ?_
  refine lv_bipush (v := 50) hx hb dX6_setCell_16 (by decide) ?_
  refine y_retv (yrunS (As := [.int p2, .int 1, .int 50]) (rest := []) (n := 3) S hml hK (hZ.at E) (Cut.none E hA) (c_X6_requireRange l g hst p2 1 50 _ _) ml_X6_36 st_X6_requireRange in_X6 co_X6_requireRange ⟨by decide +kernel, by decide +kernel, by decide +kernel⟩ ⟨Nat.le_of_ble_eq_true rfl, Nat.le_of_ble_eq_true rfl⟩ rfl hl.1 rfl (Nat.le_of_ble_eq_true rfl) dX6_setCell_18 ⟨Nat.le_of_ble_eq_true rfl, Nat.le_of_ble_eq_true rfl⟩) (Cut.none E hA) E (fun En ce q9 H locs hp E hce hcv hcl => ?_) (fun u3 H locs hp E => ?_)
  · exact y_out hex hlk hK (Ev.nilr E) rfl (Or.inr ⟨hp.1, hA1, fun z => hp.2 z.2.1⟩) hce hcv hcl ⟨Nat.le_of_ble_eq_true rfl, Nat.le_of_ble_eq_true rfl⟩
  have E : Ev g _ s.heap H locs (SW g q u σ) := Ev.nilr E
  have hB3 := hp
  refine lv_iload hx hb dX6_setCell_21 (lv_at hl 4 rfl) ?_
  refine lv_iconst (v := 0) hx hb dX6_setCell_23 (by decide) ?_
  refine lv_sipush (v := 5000) hx hb dX6_setCell_24 (by decide) ?_
  refine y_retv (yrunS (As := [.int p3, .int 0, .int 5000]) (rest := []) (n := 3) S hml hK (hZ.at E) (Cut.none E hA) (c_X6_requireRange l g hst p3 0 5000 _ _) ml_X6_36 st_X6_requireRange in_X6 co_X6_requireRange ⟨by decide +kernel, by decide +kernel, by decide +kernel⟩ ⟨Nat.le_of_ble_eq_true rfl, Nat.le_of_ble_eq_true rfl⟩ rfl hl.1 rfl (Nat.le_of_ble_eq_true rfl) dX6_setCell_27 ⟨Nat.le_of_ble_eq_true rfl, Nat.le_of_ble_eq_true rfl⟩) (Cut.none E hA) E (fun En ce q9 H locs hp E hce hcv hcl => ?_) (fun u4 H locs hp E => ?_)
  · exact y_out hex hlk hK (Ev.nilr E) rfl (Or.inr ⟨hp.1, hA1, fun z => hp.2 z.2.2⟩) hce hcv hcl ⟨Nat.le_of_ble_eq_true rfl, Nat.le_of_ble_eq_true rfl⟩
  have E : Ev g _ s.heap H locs (SW g q u σ) := Ev.nilr E
  have hB4 := hp
  refine lv_aload_n hx hb dX6_setCell_30 rfl (lv_at hl 0 rfl) ?_
  refine wg_X6_14 (v := .ref (q.2.2.2.1 0)) S hK E 0 rfl rfl dX6_setCell_31 ?_
  refine wg_X6_40 (v := .ref (q.2.2.2.1 1)) S hK E 1 rfl rfl dX6_setCell_34 ?_
  refine wg_X6_44 (v := .ref (q.2.2.2.1 10)) S hK E 2 rfl rfl dX6_setCell_37 ?_
  refine lv_iload_n hx hb dX6_setCell_40 rfl (lv_at hl 1 rfl) ?_
  refine w_ild (v := (gi σ 10 p0)) S hK E 11 0 rfl rfl (rg_in 15 (by decide) (by decide) (by decide) hA1) rfl dX6_setCell_41 ?_
  refine lv_istore (lv' := [(5, .int (gi σ 10 p0)), (0, .ref q.1), (1, .int p0), (2, .int p1), (3, .int p2), (4, .int p3)]) hx hb dX6_setCell_42 hl (by decide) rfl (fun ls hl => ?_)
  refine lv_aload_n hx hb dX6_setCell_44 rfl (lv_at hl 1 rfl) ?_
  refine w_new (ci := 1) (fs := [.int 0, .int 0, .int 0, .int 0, .int 0]) (C := RX1) (T := TX1) (N := 5) S hK E hA fw_X1 tyX1 tyX1_ok cl_X6_50 ib_X1 in_X1 rfl (fun j hj => by rcases (show j = 0 ∨ j = 1 ∨ j = 2 ∨ j = 3 ∨ j = 4 by omega) with rfl | rfl | rfl | rfl | rfl <;> rfl) (Nat.le_of_ble_eq_true rfl) (Nat.le_of_ble_eq_true rfl) dX6_setCell_45 (fun q5 H E => ?_)
  have E : Ev g _ s.heap H _ ((SW g q u σ) ++ [(q5, .inr (1, [.int 0, .int 0, .int 0, .int 0, .int 0]))]) := E
  refine lv_dup hx hb dX6_setCell_48 rfl ?_
  refine lv_iconst (v := 0) hx hb dX6_setCell_49 (by decide) ?_
  refine lv_iload_n hx hb dX6_setCell_50 rfl (lv_at hl 2 rfl) ?_
  refine lv_iload_n hx hb dX6_setCell_51 rfl (lv_at hl 3 rfl) ?_
  refine lv_iload_n hx hb dX6_setCell_52 rfl (lv_at hl 4 rfl) ?_
  refine lv_iload hx hb dX6_setCell_53 (lv_at hl 5 rfl) ?_
  refine w_retv (runI_X (As := [.int 0, .int p0, .int p1, .int p2, .int p3]) (rest := [.ref q5, .ref q.1]) (n := 5) S hml hK (hZ.at E) (Cut.app E hA) (c_X1_init l g q5 0 0 0 0 0 0 p0 p1 p2 p3 _ _) ml_X6_52 im_X1_init in_X1 co_X1_init rfl ⟨by decide +kernel, by decide +kernel, by decide +kernel⟩ ⟨Nat.le_of_ble_eq_true rfl, Nat.le_of_ble_eq_true rfl⟩ rfl hl.1 rfl (Nat.le_of_ble_eq_true rfl) dX6_setCell_55 ⟨Nat.le_of_ble_eq_true rfl, Nat.le_of_ble_eq_true rfl⟩) (Cut.app E hA) E (fun u6 H locs hp E => ?_)
  have E : Ev g _ s.heap H locs ((SW g q u σ) ++ [(q5, cE (0, p0, p1, p2, p3))]) := E
  have hv : okN (0, p0, p1, p2, p3) (cnt σ) M := ⟨hA1, hB2, hB3, hB4⟩
  obtain ⟨i1, -, -⟩ := inv_fo1 (lo := -1) hI hC hv
  obtain ⟨m1, m2⟩ := ek_room (σ := σ) i1.ev (Nat.le_trans i1.en (by decide))
  refine w_retv (runV_X (As := [.ref q5]) (rest := []) (q0 := 0) (n := 1) S hml hK (hZ.at E) (Cut.full E hA) (c_carryOut l g q u σ q5 (0, p0, p1, p2, p3) hu hI hC hv _ _) (gi_wsV ml_X6_55 im_X6_carryOut sl_X6_carryOut in_X6 co_X6_carryOut) ⟨rfl, by decide +kernel, by decide +kernel, by decide +kernel⟩ ⟨Nat.le_of_ble_eq_true rfl, Nat.le_of_ble_eq_true rfl⟩ rfl rfl rfl hl.1 rfl (Nat.le_of_ble_eq_true rfl) dX6_setCell_58 ⟨Nat.le_of_ble_eq_true rfl, Nat.le_of_ble_eq_true rfl⟩) (Cut.full E hA) E (fun u9 H locs hnx E => ?_)
  have E : Ev g _ s.heap H locs (SW g q u9 (fo1 (-1) (0, p0, p1, p2, p3) σ)) := E
  refine lv_iload hx hb dX6_setCell_61 (lv_at hl 0 rfl) ?_
  exact vx_ret (x_iret u9 S hr hlk hsz htt hK E dX6_setCell_63 ⟨rfl, hnx⟩ rfl ⟨by show 1 + (eg (fo1 (-1) (0, p0, p1, p2, p3) σ) - eg σ + 2) ≤ eg (fo1 (-1) (0, p0, p1, p2, p3) σ) - eg σ + 3; omega, by show 5 + (2 * ec (fo1 (-1) (0, p0, p1, p2, p3) σ) - 2 * ec σ + 810) ≤ 2 * ec (fo1 (-1) (0, p0, p1, p2, p3) σ) - 2 * ec σ + 815; omega⟩ ⟨by show 1 + (eg (fo1 (-1) (0, p0, p1, p2, p3) σ) - eg σ + 2) ≤ 61; omega, by show 5 + (2 * ec (fo1 (-1) (0, p0, p1, p2, p3) σ) - 2 * ec σ + 810) ≤ 600005; omega⟩)

set_option maxHeartbeats 4000000 in
set_option maxRecDepth 100000 in
/-- setGround -/
theorem c_S_setGround (l : Launch) (g : Gm) (hst : l.stackTraces = false) (q : Fx) (u : SOB) (σ : Sg) (p0 : Int32) (p1 : Int32) {C M : Nat} (hu : OkU u) (hI : Inv C M σ) (hC : C + 1 ≤ 1000) : YXi (S := SOB) l g yX6_setGround cX6_setGround 4 .int ({ frames := 12, cells := 61, slots := 600005, locals := 1151 } : Room) [.ref q.1, .int p0, .int p1] (SW g q u σ) (fun r u' => r = gi σ 12 p0 ∧ Nx u (1, p0, p1, 0, 0) u') (fun u' => SW g q u' (fo1 (-1) (1, p0, p1, 0, 0) σ)) (kxS σ (fo1 (-1) (1, p0, p1, 0, 0) σ)) (SW g q u σ) (fun En => (En = "java/lang/IndexOutOfBoundsException" ∧ ¬ rgOK p0 0 7) ∨ (En = "java/lang/IllegalArgumentException" ∧ rgOK p0 0 7 ∧ ¬ (rgOK p1 (-100) 200))) := by
  intro sz tt
  refine ofY RX6 rfl (by decide +kernel) (Nat.le_of_ble_eq_true rfl) (fun p e s m args below meth c hargs S hml hr hlk hex hsz htt hK hA hZ E ls hl => ?_)
  have hx := S.1
  have hb := S.2.1
  have hl : lv_has ls 4 [(0, .ref q.1), (1, .int p0), (2, .int p1)] := hl
  refine lv_iload_n hx hb dX6_setGround_0 rfl (lv_at hl 1 rfl) ?_
  refine lv_bipush (v := 8) hx hb dX6_setGround_1 (by decide) ?_
  refine y_retv (yrunS (As := [.int p0, .int 8]) (rest := []) (n := 2) S hml hK (hZ.at E) (Cut.none E hA) (c_X6_requireIndex l g hst p0 8 _ _) ml_X6_32 st_X6_requireIndex in_X6 co_X6_requireIndex ⟨by decide +kernel, by decide +kernel, by decide +kernel⟩ ⟨Nat.le_of_ble_eq_true rfl, Nat.le_of_ble_eq_true rfl⟩ rfl hl.1 rfl (Nat.le_of_ble_eq_true rfl) dX6_setGround_3 ⟨Nat.le_of_ble_eq_true rfl, Nat.le_of_ble_eq_true rfl⟩) (Cut.none E hA) E (fun En ce q9 H locs hp E hce hcv hcl => ?_) (fun u1 H locs hp E => ?_)
  · exact y_out hex hlk hK (Ev.nilr E) rfl (Or.inl ⟨hp.1, fun z => hp.2 (ix8.mpr z)⟩) hce hcv hcl ⟨Nat.le_of_ble_eq_true rfl, Nat.le_of_ble_eq_true rfl⟩
  have E : Ev g _ s.heap H locs (SW g q u σ) := Ev.nilr E
  have hA1 := ix8.mp hp
  refine lv_iload_n hx hb dX6_setGround_6 rfl (lv_at hl 2 rfl) ?_
  refine lv_bipush (v := (-100)) hx hb dX6_setGround_7 (by decide) ?_
  refine lv_sipush (v := 200) hx hb dX6_setGround_9 (by decide) ?_
  refine y_retv (yrunS (As := [.int p1, .int (-100), .int 200]) (rest := []) (n := 3) S hml hK (hZ.at E) (Cut.none E hA) (c_X6_requireRange l g hst p1 (-100) 200 _ _) ml_X6_36 st_X6_requireRange in_X6 co_X6_requireRange ⟨by decide +kernel, by decide +kernel, by decide +kernel⟩ ⟨Nat.le_of_ble_eq_true rfl, Nat.le_of_ble_eq_true rfl⟩ rfl hl.1 rfl (Nat.le_of_ble_eq_true rfl) dX6_setGround_12 ⟨Nat.le_of_ble_eq_true rfl, Nat.le_of_ble_eq_true rfl⟩) (Cut.none E hA) E (fun En ce q9 H locs hp E hce hcv hcl => ?_) (fun u2 H locs hp E => ?_)
  · exact y_out hex hlk hK (Ev.nilr E) rfl (Or.inr ⟨hp.1, hA1, fun z => hp.2 z⟩) hce hcv hcl ⟨Nat.le_of_ble_eq_true rfl, Nat.le_of_ble_eq_true rfl⟩
  have E : Ev g _ s.heap H locs (SW g q u σ) := Ev.nilr E
  have hB2 := hp
  refine lv_aload_n hx hb dX6_setGround_15 rfl (lv_at hl 0 rfl) ?_
  refine wg_X6_14 (v := .ref (q.2.2.2.1 0)) S hK E 0 rfl rfl dX6_setGround_16 ?_
  refine wg_X6_59 (v := .ref (q.2.2.2.1 2)) S hK E 1 rfl rfl dX6_setGround_19 ?_
  refine wg_X6_63 (v := .ref (q.2.2.2.1 12)) S hK E 3 rfl rfl dX6_setGround_22 ?_
  refine lv_iload_n hx hb dX6_setGround_25 rfl (lv_at hl 1 rfl) ?_
  refine w_ild (v := (gi σ 12 p0)) S hK E 13 0 rfl rfl (rg_in 7 (by decide) (by decide) (by decide) hA1) rfl dX6_setGround_26 ?_
  refine lv_istore_n (lv' := [(3, .int (gi σ 12 p0)), (0, .ref q.1), (1, .int p0), (2, .int p1)]) hx hb dX6_setGround_27 rfl hl (by decide) rfl (fun ls hl => ?_)
  refine lv_aload_n hx hb dX6_setGround_28 rfl (lv_at hl 1 rfl) ?_
  refine w_new (ci := 1) (fs := [.int 0, .int 0, .int 0, .int 0, .int 0]) (C := RX1) (T := TX1) (N := 5) S hK E hA fw_X1 tyX1 tyX1_ok cl_X6_50 ib_X1 in_X1 rfl (fun j hj => by rcases (show j = 0 ∨ j = 1 ∨ j = 2 ∨ j = 3 ∨ j = 4 by omega) with rfl | rfl | rfl | rfl | rfl <;> rfl) (Nat.le_of_ble_eq_true rfl) (Nat.le_of_ble_eq_true rfl) dX6_setGround_29 (fun q3 H E => ?_)
  have E : Ev g _ s.heap H _ ((SW g q u σ) ++ [(q3, .inr (1, [.int 0, .int 0, .int 0, .int 0, .int 0]))]) := E
  refine lv_dup hx hb dX6_setGround_32 rfl ?_
  refine lv_iconst (v := 1) hx hb dX6_setGround_33 (by decide) ?_
  refine lv_iload_n hx hb dX6_setGround_34 rfl (lv_at hl 2 rfl) ?_
  refine lv_iload_n hx hb dX6_setGround_35 rfl (lv_at hl 3 rfl) ?_
  refine lv_iconst (v := 0) hx hb dX6_setGround_36 (by decide) ?_
  refine lv_iconst (v := 0) hx hb dX6_setGround_37 (by decide) ?_
  refine w_retv (runI_X (As := [.int 1, .int p0, .int p1, .int 0, .int 0]) (rest := [.ref q3, .ref q.1]) (n := 5) S hml hK (hZ.at E) (Cut.app E hA) (c_X1_init l g q3 0 0 0 0 0 1 p0 p1 0 0 _ _) ml_X6_52 im_X1_init in_X1 co_X1_init rfl ⟨by decide +kernel, by decide +kernel, by decide +kernel⟩ ⟨Nat.le_of_ble_eq_true rfl, Nat.le_of_ble_eq_true rfl⟩ rfl hl.1 rfl (Nat.le_of_ble_eq_true rfl) dX6_setGround_38 ⟨Nat.le_of_ble_eq_true rfl, Nat.le_of_ble_eq_true rfl⟩) (Cut.app E hA) E (fun u4 H locs hp E => ?_)
  have E : Ev g _ s.heap H locs ((SW g q u σ) ++ [(q3, cE (1, p0, p1, 0, 0))]) := E
  have hv : okN (1, p0, p1, 0, 0) (cnt σ) M := hA1
  obtain ⟨i1, -, -⟩ := inv_fo1 (lo := -1) hI hC hv
  obtain ⟨m1, m2⟩ := ek_room (σ := σ) i1.ev (Nat.le_trans i1.en (by decide))
  refine w_retv (runV_X (As := [.ref q3]) (rest := []) (q0 := 0) (n := 1) S hml hK (hZ.at E) (Cut.full E hA) (c_carryOut l g q u σ q3 (1, p0, p1, 0, 0) hu hI hC hv _ _) (gi_wsV ml_X6_55 im_X6_carryOut sl_X6_carryOut in_X6 co_X6_carryOut) ⟨rfl, by decide +kernel, by decide +kernel, by decide +kernel⟩ ⟨Nat.le_of_ble_eq_true rfl, Nat.le_of_ble_eq_true rfl⟩ rfl rfl rfl hl.1 rfl (Nat.le_of_ble_eq_true rfl) dX6_setGround_41 ⟨Nat.le_of_ble_eq_true rfl, Nat.le_of_ble_eq_true rfl⟩) (Cut.full E hA) E (fun u9 H locs hnx E => ?_)
  have E : Ev g _ s.heap H locs (SW g q u9 (fo1 (-1) (1, p0, p1, 0, 0) σ)) := E
  refine lv_iload_n hx hb dX6_setGround_44 rfl (lv_at hl 0 rfl) ?_
  exact vx_ret (x_iret u9 S hr hlk hsz htt hK E dX6_setGround_45 ⟨rfl, hnx⟩ rfl ⟨by show 1 + (eg (fo1 (-1) (1, p0, p1, 0, 0) σ) - eg σ + 2) ≤ eg (fo1 (-1) (1, p0, p1, 0, 0) σ) - eg σ + 3; omega, by show 5 + (2 * ec (fo1 (-1) (1, p0, p1, 0, 0) σ) - 2 * ec σ + 810) ≤ 2 * ec (fo1 (-1) (1, p0, p1, 0, 0) σ) - 2 * ec σ + 815; omega⟩ ⟨by show 1 + (eg (fo1 (-1) (1, p0, p1, 0, 0) σ) - eg σ + 2) ≤ 61; omega, by show 5 + (2 * ec (fo1 (-1) (1, p0, p1, 0, 0) σ) - 2 * ec σ + 810) ≤ 600005; omega⟩)

set_option maxHeartbeats 4000000 in
set_option maxRecDepth 100000 in
/-- setConductance -/
theorem c_S_setConductance (l : Launch) (g : Gm) (hst : l.stackTraces = false) (q : Fx) (u : SOB) (σ : Sg) (p0 : Int32) (p1 : Int32) {C M : Nat} (hu : OkU u) (hI : Inv C M σ) (hC : C + 1 ≤ 1000) : YXi (S := SOB) l g yX6_setConductance cX6_setConductance 4 .int ({ frames := 12, cells := 61, slots := 600005, locals := 1151 } : Room) [.ref q.1, .int p0, .int p1] (SW g q u σ) (fun r u' => r = gi σ 13 p0 ∧ Nx u (2, p0, p1, 0, 0) u') (fun u' => SW g q u' (fo1 (-1) (2, p0, p1, 0, 0) σ)) (kxS σ (fo1 (-1) (2, p0, p1, 0, 0) σ)) (SW g q u σ) (fun En => (En = "java/lang/IndexOutOfBoundsException" ∧ ¬ rgOK p0 0 1) ∨ (En = "java/lang/IllegalArgumentException" ∧ rgOK p0 0 1 ∧ ¬ (rgOK p1 0 9))) := by
  intro sz tt
  refine ofY RX6 rfl (by decide +kernel) (Nat.le_of_ble_eq_true rfl) (fun p e s m args below meth c hargs S hml hr hlk hex hsz htt hK hA hZ E ls hl => ?_)
  have hx := S.1
  have hb := S.2.1
  have hl : lv_has ls 4 [(0, .ref q.1), (1, .int p0), (2, .int p1)] := hl
  refine lv_iload_n hx hb dX6_setConductance_0 rfl (lv_at hl 1 rfl) ?_
  refine lv_iconst (v := 2) hx hb dX6_setConductance_1 (by decide) ?_
  refine y_retv (yrunS (As := [.int p0, .int 2]) (rest := []) (n := 2) S hml hK (hZ.at E) (Cut.none E hA) (c_X6_requireIndex l g hst p0 2 _ _) ml_X6_32 st_X6_requireIndex in_X6 co_X6_requireIndex ⟨by decide +kernel, by decide +kernel, by decide +kernel⟩ ⟨Nat.le_of_ble_eq_true rfl, Nat.le_of_ble_eq_true rfl⟩ rfl hl.1 rfl (Nat.le_of_ble_eq_true rfl) dX6_setConductance_2 ⟨Nat.le_of_ble_eq_true rfl, Nat.le_of_ble_eq_true rfl⟩) (Cut.none E hA) E (fun En ce q9 H locs hp E hce hcv hcl => ?_) (fun u1 H locs hp E => ?_)
  · exact y_out hex hlk hK (Ev.nilr E) rfl (Or.inl ⟨hp.1, fun z => hp.2 (ix2.mpr z)⟩) hce hcv hcl ⟨Nat.le_of_ble_eq_true rfl, Nat.le_of_ble_eq_true rfl⟩
  have E : Ev g _ s.heap H locs (SW g q u σ) := Ev.nilr E
  have hA1 := ix2.mp hp
  refine lv_iload_n hx hb dX6_setConductance_5 rfl (lv_at hl 2 rfl) ?_
  refine lv_iconst (v := 0) hx hb dX6_setConductance_6 (by decide) ?_
  refine lv_bipush (v := 9) hx hb dX6_setConductance_7 (by decide) ?_
  refine y_retv (yrunS (As := [.int p1, .int 0, .int 9]) (rest := []) (n := 3) S hml hK (hZ.at E) (Cut.none E hA) (c_X6_requireRange l g hst p1 0 9 _ _) ml_X6_36 st_X6_requireRange in_X6 co_X6_requireRange ⟨by decide +kernel, by decide +kernel, by decide +kernel⟩ ⟨Nat.le_of_ble_eq_true rfl, Nat.le_of_ble_eq_true rfl⟩ rfl hl.1 rfl (Nat.le_of_ble_eq_true rfl) dX6_setConductance_9 ⟨Nat.le_of_ble_eq_true rfl, Nat.le_of_ble_eq_true rfl⟩) (Cut.none E hA) E (fun En ce q9 H locs hp E hce hcv hcl => ?_) (fun u2 H locs hp E => ?_)
  · exact y_out hex hlk hK (Ev.nilr E) rfl (Or.inr ⟨hp.1, hA1, fun z => hp.2 z⟩) hce hcv hcl ⟨Nat.le_of_ble_eq_true rfl, Nat.le_of_ble_eq_true rfl⟩
  have E : Ev g _ s.heap H locs (SW g q u σ) := Ev.nilr E
  have hB2 := hp
  refine lv_aload_n hx hb dX6_setConductance_12 rfl (lv_at hl 0 rfl) ?_
  refine wg_X6_14 (v := .ref (q.2.2.2.1 0)) S hK E 0 rfl rfl dX6_setConductance_13 ?_
  refine wg_X6_59 (v := .ref (q.2.2.2.1 2)) S hK E 1 rfl rfl dX6_setConductance_16 ?_
  refine wg_X6_68 (v := .ref (q.2.2.2.1 13)) S hK E 3 rfl rfl dX6_setConductance_19 ?_
  refine lv_iload_n hx hb dX6_setConductance_22 rfl (lv_at hl 1 rfl) ?_
  refine w_ild (v := (gi σ 13 p0)) S hK E 14 0 rfl rfl (rg_in 1 (by decide) (by decide) (by decide) hA1) rfl dX6_setConductance_23 ?_
  refine lv_istore_n (lv' := [(3, .int (gi σ 13 p0)), (0, .ref q.1), (1, .int p0), (2, .int p1)]) hx hb dX6_setConductance_24 rfl hl (by decide) rfl (fun ls hl => ?_)
  refine lv_aload_n hx hb dX6_setConductance_25 rfl (lv_at hl 1 rfl) ?_
  refine w_new (ci := 1) (fs := [.int 0, .int 0, .int 0, .int 0, .int 0]) (C := RX1) (T := TX1) (N := 5) S hK E hA fw_X1 tyX1 tyX1_ok cl_X6_50 ib_X1 in_X1 rfl (fun j hj => by rcases (show j = 0 ∨ j = 1 ∨ j = 2 ∨ j = 3 ∨ j = 4 by omega) with rfl | rfl | rfl | rfl | rfl <;> rfl) (Nat.le_of_ble_eq_true rfl) (Nat.le_of_ble_eq_true rfl) dX6_setConductance_26 (fun q3 H E => ?_)
  have E : Ev g _ s.heap H _ ((SW g q u σ) ++ [(q3, .inr (1, [.int 0, .int 0, .int 0, .int 0, .int 0]))]) := E
  refine lv_dup hx hb dX6_setConductance_29 rfl ?_
  refine lv_iconst (v := 2) hx hb dX6_setConductance_30 (by decide) ?_
  refine lv_iload_n hx hb dX6_setConductance_31 rfl (lv_at hl 2 rfl) ?_
  refine lv_iload_n hx hb dX6_setConductance_32 rfl (lv_at hl 3 rfl) ?_
  refine lv_iconst (v := 0) hx hb dX6_setConductance_33 (by decide) ?_
  refine lv_iconst (v := 0) hx hb dX6_setConductance_34 (by decide) ?_
  refine w_retv (runI_X (As := [.int 2, .int p0, .int p1, .int 0, .int 0]) (rest := [.ref q3, .ref q.1]) (n := 5) S hml hK (hZ.at E) (Cut.app E hA) (c_X1_init l g q3 0 0 0 0 0 2 p0 p1 0 0 _ _) ml_X6_52 im_X1_init in_X1 co_X1_init rfl ⟨by decide +kernel, by decide +kernel, by decide +kernel⟩ ⟨Nat.le_of_ble_eq_true rfl, Nat.le_of_ble_eq_true rfl⟩ rfl hl.1 rfl (Nat.le_of_ble_eq_true rfl) dX6_setConductance_35 ⟨Nat.le_of_ble_eq_true rfl, Nat.le_of_ble_eq_true rfl⟩) (Cut.app E hA) E (fun u4 H locs hp E => ?_)
  have E : Ev g _ s.heap H locs ((SW g q u σ) ++ [(q3, cE (2, p0, p1, 0, 0))]) := E
  have hv : okN (2, p0, p1, 0, 0) (cnt σ) M := hA1
  obtain ⟨i1, -, -⟩ := inv_fo1 (lo := -1) hI hC hv
  obtain ⟨m1, m2⟩ := ek_room (σ := σ) i1.ev (Nat.le_trans i1.en (by decide))
  refine w_retv (runV_X (As := [.ref q3]) (rest := []) (q0 := 0) (n := 1) S hml hK (hZ.at E) (Cut.full E hA) (c_carryOut l g q u σ q3 (2, p0, p1, 0, 0) hu hI hC hv _ _) (gi_wsV ml_X6_55 im_X6_carryOut sl_X6_carryOut in_X6 co_X6_carryOut) ⟨rfl, by decide +kernel, by decide +kernel, by decide +kernel⟩ ⟨Nat.le_of_ble_eq_true rfl, Nat.le_of_ble_eq_true rfl⟩ rfl rfl rfl hl.1 rfl (Nat.le_of_ble_eq_true rfl) dX6_setConductance_38 ⟨Nat.le_of_ble_eq_true rfl, Nat.le_of_ble_eq_true rfl⟩) (Cut.full E hA) E (fun u9 H locs hnx E => ?_)
  have E : Ev g _ s.heap H locs (SW g q u9 (fo1 (-1) (2, p0, p1, 0, 0) σ)) := E
  refine lv_iload_n hx hb dX6_setConductance_41 rfl (lv_at hl 0 rfl) ?_
  exact vx_ret (x_iret u9 S hr hlk hsz htt hK E dX6_setConductance_42 ⟨rfl, hnx⟩ rfl ⟨by show 1 + (eg (fo1 (-1) (2, p0, p1, 0, 0) σ) - eg σ + 2) ≤ eg (fo1 (-1) (2, p0, p1, 0, 0) σ) - eg σ + 3; omega, by show 5 + (2 * ec (fo1 (-1) (2, p0, p1, 0, 0) σ) - 2 * ec σ + 810) ≤ 2 * ec (fo1 (-1) (2, p0, p1, 0, 0) σ) - 2 * ec σ + 815; omega⟩ ⟨by show 1 + (eg (fo1 (-1) (2, p0, p1, 0, 0) σ) - eg σ + 2) ≤ 61; omega, by show 5 + (2 * ec (fo1 (-1) (2, p0, p1, 0, 0) σ) - 2 * ec σ + 810) ≤ 600005; omega⟩)

set_option maxHeartbeats 4000000 in
set_option maxRecDepth 100000 in
/-- setLeakage -/
theorem c_S_setLeakage (l : Launch) (g : Gm) (hst : l.stackTraces = false) (q : Fx) (u : SOB) (σ : Sg) (p0 : Int32) (p1 : Int32) {C M : Nat} (hu : OkU u) (hI : Inv C M σ) (hC : C + 1 ≤ 1000) : YXi (S := SOB) l g yX6_setLeakage cX6_setLeakage 4 .int ({ frames := 12, cells := 61, slots := 600005, locals := 1151 } : Room) [.ref q.1, .int p0, .int p1] (SW g q u σ) (fun r u' => r = gi σ 14 p0 ∧ Nx u (3, p0, p1, 0, 0) u') (fun u' => SW g q u' (fo1 (-1) (3, p0, p1, 0, 0) σ)) (kxS σ (fo1 (-1) (3, p0, p1, 0, 0) σ)) (SW g q u σ) (fun En => (En = "java/lang/IndexOutOfBoundsException" ∧ ¬ rgOK p0 0 7) ∨ (En = "java/lang/IllegalArgumentException" ∧ rgOK p0 0 7 ∧ ¬ (rgOK p1 0 9))) := by
  intro sz tt
  refine ofY RX6 rfl (by decide +kernel) (Nat.le_of_ble_eq_true rfl) (fun p e s m args below meth c hargs S hml hr hlk hex hsz htt hK hA hZ E ls hl => ?_)
  have hx := S.1
  have hb := S.2.1
  have hl : lv_has ls 4 [(0, .ref q.1), (1, .int p0), (2, .int p1)] := hl
  refine lv_iload_n hx hb dX6_setLeakage_0 rfl (lv_at hl 1 rfl) ?_
  refine lv_bipush (v := 8) hx hb dX6_setLeakage_1 (by decide) ?_
  refine y_retv (yrunS (As := [.int p0, .int 8]) (rest := []) (n := 2) S hml hK (hZ.at E) (Cut.none E hA) (c_X6_requireIndex l g hst p0 8 _ _) ml_X6_32 st_X6_requireIndex in_X6 co_X6_requireIndex ⟨by decide +kernel, by decide +kernel, by decide +kernel⟩ ⟨Nat.le_of_ble_eq_true rfl, Nat.le_of_ble_eq_true rfl⟩ rfl hl.1 rfl (Nat.le_of_ble_eq_true rfl) dX6_setLeakage_3 ⟨Nat.le_of_ble_eq_true rfl, Nat.le_of_ble_eq_true rfl⟩) (Cut.none E hA) E (fun En ce q9 H locs hp E hce hcv hcl => ?_) (fun u1 H locs hp E => ?_)
  · exact y_out hex hlk hK (Ev.nilr E) rfl (Or.inl ⟨hp.1, fun z => hp.2 (ix8.mpr z)⟩) hce hcv hcl ⟨Nat.le_of_ble_eq_true rfl, Nat.le_of_ble_eq_true rfl⟩
  have E : Ev g _ s.heap H locs (SW g q u σ) := Ev.nilr E
  have hA1 := ix8.mp hp
  refine lv_iload_n hx hb dX6_setLeakage_6 rfl (lv_at hl 2 rfl) ?_
  refine lv_iconst (v := 0) hx hb dX6_setLeakage_7 (by decide) ?_
  refine lv_bipush (v := 9) hx hb dX6_setLeakage_8 (by decide) ?_
  refine y_retv (yrunS (As := [.int p1, .int 0, .int 9]) (rest := []) (n := 3) S hml hK (hZ.at E) (Cut.none E hA) (c_X6_requireRange l g hst p1 0 9 _ _) ml_X6_36 st_X6_requireRange in_X6 co_X6_requireRange ⟨by decide +kernel, by decide +kernel, by decide +kernel⟩ ⟨Nat.le_of_ble_eq_true rfl, Nat.le_of_ble_eq_true rfl⟩ rfl hl.1 rfl (Nat.le_of_ble_eq_true rfl) dX6_setLeakage_10 ⟨Nat.le_of_ble_eq_true rfl, Nat.le_of_ble_eq_true rfl⟩) (Cut.none E hA) E (fun En ce q9 H locs hp E hce hcv hcl => ?_) (fun u2 H locs hp E => ?_)
  · exact y_out hex hlk hK (Ev.nilr E) rfl (Or.inr ⟨hp.1, hA1, fun z => hp.2 z⟩) hce hcv hcl ⟨Nat.le_of_ble_eq_true rfl, Nat.le_of_ble_eq_true rfl⟩
  have E : Ev g _ s.heap H locs (SW g q u σ) := Ev.nilr E
  have hB2 := hp
  refine lv_aload_n hx hb dX6_setLeakage_13 rfl (lv_at hl 0 rfl) ?_
  refine wg_X6_14 (v := .ref (q.2.2.2.1 0)) S hK E 0 rfl rfl dX6_setLeakage_14 ?_
  refine wg_X6_59 (v := .ref (q.2.2.2.1 2)) S hK E 1 rfl rfl dX6_setLeakage_17 ?_
  refine wg_X6_71 (v := .ref (q.2.2.2.1 14)) S hK E 3 rfl rfl dX6_setLeakage_20 ?_
  refine lv_iload_n hx hb dX6_setLeakage_23 rfl (lv_at hl 1 rfl) ?_
  refine w_ild (v := (gi σ 14 p0)) S hK E 15 0 rfl rfl (rg_in 7 (by decide) (by decide) (by decide) hA1) rfl dX6_setLeakage_24 ?_
  refine lv_istore_n (lv' := [(3, .int (gi σ 14 p0)), (0, .ref q.1), (1, .int p0), (2, .int p1)]) hx hb dX6_setLeakage_25 rfl hl (by decide) rfl (fun ls hl => ?_)
  refine lv_aload_n hx hb dX6_setLeakage_26 rfl (lv_at hl 1 rfl) ?_
  refine w_new (ci := 1) (fs := [.int 0, .int 0, .int 0, .int 0, .int 0]) (C := RX1) (T := TX1) (N := 5) S hK E hA fw_X1 tyX1 tyX1_ok cl_X6_50 ib_X1 in_X1 rfl (fun j hj => by rcases (show j = 0 ∨ j = 1 ∨ j = 2 ∨ j = 3 ∨ j = 4 by omega) with rfl | rfl | rfl | rfl | rfl <;> rfl) (Nat.le_of_ble_eq_true rfl) (Nat.le_of_ble_eq_true rfl) dX6_setLeakage_27 (fun q3 H E => ?_)
  have E : Ev g _ s.heap H _ ((SW g q u σ) ++ [(q3, .inr (1, [.int 0, .int 0, .int 0, .int 0, .int 0]))]) := E
  refine lv_dup hx hb dX6_setLeakage_30 rfl ?_
  refine lv_iconst (v := 3) hx hb dX6_setLeakage_31 (by decide) ?_
  refine lv_iload_n hx hb dX6_setLeakage_32 rfl (lv_at hl 2 rfl) ?_
  refine lv_iload_n hx hb dX6_setLeakage_33 rfl (lv_at hl 3 rfl) ?_
  refine lv_iconst (v := 0) hx hb dX6_setLeakage_34 (by decide) ?_
  refine lv_iconst (v := 0) hx hb dX6_setLeakage_35 (by decide) ?_
  refine w_retv (runI_X (As := [.int 3, .int p0, .int p1, .int 0, .int 0]) (rest := [.ref q3, .ref q.1]) (n := 5) S hml hK (hZ.at E) (Cut.app E hA) (c_X1_init l g q3 0 0 0 0 0 3 p0 p1 0 0 _ _) ml_X6_52 im_X1_init in_X1 co_X1_init rfl ⟨by decide +kernel, by decide +kernel, by decide +kernel⟩ ⟨Nat.le_of_ble_eq_true rfl, Nat.le_of_ble_eq_true rfl⟩ rfl hl.1 rfl (Nat.le_of_ble_eq_true rfl) dX6_setLeakage_36 ⟨Nat.le_of_ble_eq_true rfl, Nat.le_of_ble_eq_true rfl⟩) (Cut.app E hA) E (fun u4 H locs hp E => ?_)
  have E : Ev g _ s.heap H locs ((SW g q u σ) ++ [(q3, cE (3, p0, p1, 0, 0))]) := E
  have hv : okN (3, p0, p1, 0, 0) (cnt σ) M := hA1
  obtain ⟨i1, -, -⟩ := inv_fo1 (lo := -1) hI hC hv
  obtain ⟨m1, m2⟩ := ek_room (σ := σ) i1.ev (Nat.le_trans i1.en (by decide))
  refine w_retv (runV_X (As := [.ref q3]) (rest := []) (q0 := 0) (n := 1) S hml hK (hZ.at E) (Cut.full E hA) (c_carryOut l g q u σ q3 (3, p0, p1, 0, 0) hu hI hC hv _ _) (gi_wsV ml_X6_55 im_X6_carryOut sl_X6_carryOut in_X6 co_X6_carryOut) ⟨rfl, by decide +kernel, by decide +kernel, by decide +kernel⟩ ⟨Nat.le_of_ble_eq_true rfl, Nat.le_of_ble_eq_true rfl⟩ rfl rfl rfl hl.1 rfl (Nat.le_of_ble_eq_true rfl) dX6_setLeakage_39 ⟨Nat.le_of_ble_eq_true rfl, Nat.le_of_ble_eq_true rfl⟩) (Cut.full E hA) E (fun u9 H locs hnx E => ?_)
  have E : Ev g _ s.heap H locs (SW g q u9 (fo1 (-1) (3, p0, p1, 0, 0) σ)) := E
  refine lv_iload_n hx hb dX6_setLeakage_42 rfl (lv_at hl 0 rfl) ?_
  exact vx_ret (x_iret u9 S hr hlk hsz htt hK E dX6_setLeakage_43 ⟨rfl, hnx⟩ rfl ⟨by show 1 + (eg (fo1 (-1) (3, p0, p1, 0, 0) σ) - eg σ + 2) ≤ eg (fo1 (-1) (3, p0, p1, 0, 0) σ) - eg σ + 3; omega, by show 5 + (2 * ec (fo1 (-1) (3, p0, p1, 0, 0) σ) - 2 * ec σ + 810) ≤ 2 * ec (fo1 (-1) (3, p0, p1, 0, 0) σ) - 2 * ec σ + 815; omega⟩ ⟨by show 1 + (eg (fo1 (-1) (3, p0, p1, 0, 0) σ) - eg σ + 2) ≤ 61; omega, by show 5 + (2 * ec (fo1 (-1) (3, p0, p1, 0, 0) σ) - 2 * ec σ + 810) ≤ 600005; omega⟩)

set_option maxHeartbeats 4000000 in
set_option maxRecDepth 100000 in
/-- setRain -/
theorem c_S_setRain (l : Launch) (g : Gm) (hst : l.stackTraces = false) (q : Fx) (u : SOB) (σ : Sg) (p0 : Int32) (p1 : Int32) {C M : Nat} (hu : OkU u) (hI : Inv C M σ) (hC : C + 1 ≤ 1000) : YXi (S := SOB) l g yX6_setRain cX6_setRain 4 .int ({ frames := 12, cells := 61, slots := 600005, locals := 1151 } : Room) [.ref q.1, .int p0, .int p1] (SW g q u σ) (fun r u' => r = gi σ 15 p0 ∧ Nx u (4, p0, p1, 0, 0) u') (fun u' => SW g q u' (fo1 (-1) (4, p0, p1, 0, 0) σ)) (kxS σ (fo1 (-1) (4, p0, p1, 0, 0) σ)) (SW g q u σ) (fun En => (En = "java/lang/IndexOutOfBoundsException" ∧ ¬ rgOK p0 0 7) ∨ (En = "java/lang/IllegalArgumentException" ∧ rgOK p0 0 7 ∧ ¬ (rgOK p1 0 99))) := by
  intro sz tt
  refine ofY RX6 rfl (by decide +kernel) (Nat.le_of_ble_eq_true rfl) (fun p e s m args below meth c hargs S hml hr hlk hex hsz htt hK hA hZ E ls hl => ?_)
  have hx := S.1
  have hb := S.2.1
  have hl : lv_has ls 4 [(0, .ref q.1), (1, .int p0), (2, .int p1)] := hl
  refine lv_iload_n hx hb dX6_setRain_0 rfl (lv_at hl 1 rfl) ?_
  refine lv_bipush (v := 8) hx hb dX6_setRain_1 (by decide) ?_
  refine y_retv (yrunS (As := [.int p0, .int 8]) (rest := []) (n := 2) S hml hK (hZ.at E) (Cut.none E hA) (c_X6_requireIndex l g hst p0 8 _ _) ml_X6_32 st_X6_requireIndex in_X6 co_X6_requireIndex ⟨by decide +kernel, by decide +kernel, by decide +kernel⟩ ⟨Nat.le_of_ble_eq_true rfl, Nat.le_of_ble_eq_true rfl⟩ rfl hl.1 rfl (Nat.le_of_ble_eq_true rfl) dX6_setRain_3 ⟨Nat.le_of_ble_eq_true rfl, Nat.le_of_ble_eq_true rfl⟩) (Cut.none E hA) E (fun En ce q9 H locs hp E hce hcv hcl => ?_) (fun u1 H locs hp E => ?_)
  · exact y_out hex hlk hK (Ev.nilr E) rfl (Or.inl ⟨hp.1, fun z => hp.2 (ix8.mpr z)⟩) hce hcv hcl ⟨Nat.le_of_ble_eq_true rfl, Nat.le_of_ble_eq_true rfl⟩
  have E : Ev g _ s.heap H locs (SW g q u σ) := Ev.nilr E
  have hA1 := ix8.mp hp
  refine lv_iload_n hx hb dX6_setRain_6 rfl (lv_at hl 2 rfl) ?_
  refine lv_iconst (v := 0) hx hb dX6_setRain_7 (by decide) ?_
  refine lv_bipush (v := 99) hx hb dX6_setRain_8 (by decide) ?_
  refine y_retv (yrunS (As := [.int p1, .int 0, .int 99]) (rest := []) (n := 3) S hml hK (hZ.at E) (Cut.none E hA) (c_X6_requireRange l g hst p1 0 99 _ _) ml_X6_36 st_X6_requireRange in_X6 co_X6_requireRange ⟨by decide +kernel, by decide +kernel, by decide +kernel⟩ ⟨Nat.le_of_ble_eq_true rfl, Nat.le_of_ble_eq_true rfl⟩ rfl hl.1 rfl (Nat.le_of_ble_eq_true rfl) dX6_setRain_10 ⟨Nat.le_of_ble_eq_true rfl, Nat.le_of_ble_eq_true rfl⟩) (Cut.none E hA) E (fun En ce q9 H locs hp E hce hcv hcl => ?_) (fun u2 H locs hp E => ?_)
  · exact y_out hex hlk hK (Ev.nilr E) rfl (Or.inr ⟨hp.1, hA1, fun z => hp.2 z⟩) hce hcv hcl ⟨Nat.le_of_ble_eq_true rfl, Nat.le_of_ble_eq_true rfl⟩
  have E : Ev g _ s.heap H locs (SW g q u σ) := Ev.nilr E
  have hB2 := hp
  refine lv_aload_n hx hb dX6_setRain_13 rfl (lv_at hl 0 rfl) ?_
  refine wg_X6_14 (v := .ref (q.2.2.2.1 0)) S hK E 0 rfl rfl dX6_setRain_14 ?_
  refine wg_X6_59 (v := .ref (q.2.2.2.1 2)) S hK E 1 rfl rfl dX6_setRain_17 ?_
  refine wg_X6_74 (v := .ref (q.2.2.2.1 15)) S hK E 3 rfl rfl dX6_setRain_20 ?_
  refine lv_iload_n hx hb dX6_setRain_23 rfl (lv_at hl 1 rfl) ?_
  refine w_ild (v := (gi σ 15 p0)) S hK E 16 0 rfl rfl (rg_in 7 (by decide) (by decide) (by decide) hA1) rfl dX6_setRain_24 ?_
  refine lv_istore_n (lv' := [(3, .int (gi σ 15 p0)), (0, .ref q.1), (1, .int p0), (2, .int p1)]) hx hb dX6_setRain_25 rfl hl (by decide) rfl (fun ls hl => ?_)
  refine lv_aload_n hx hb dX6_setRain_26 rfl (lv_at hl 1 rfl) ?_
  refine w_new (ci := 1) (fs := [.int 0, .int 0, .int 0, .int 0, .int 0]) (C := RX1) (T := TX1) (N := 5) S hK E hA fw_X1 tyX1 tyX1_ok cl_X6_50 ib_X1 in_X1 rfl (fun j hj => by rcases (show j = 0 ∨ j = 1 ∨ j = 2 ∨ j = 3 ∨ j = 4 by omega) with rfl | rfl | rfl | rfl | rfl <;> rfl) (Nat.le_of_ble_eq_true rfl) (Nat.le_of_ble_eq_true rfl) dX6_setRain_27 (fun q3 H E => ?_)
  have E : Ev g _ s.heap H _ ((SW g q u σ) ++ [(q3, .inr (1, [.int 0, .int 0, .int 0, .int 0, .int 0]))]) := E
  refine lv_dup hx hb dX6_setRain_30 rfl ?_
  refine lv_iconst (v := 4) hx hb dX6_setRain_31 (by decide) ?_
  refine lv_iload_n hx hb dX6_setRain_32 rfl (lv_at hl 2 rfl) ?_
  refine lv_iload_n hx hb dX6_setRain_33 rfl (lv_at hl 3 rfl) ?_
  refine lv_iconst (v := 0) hx hb dX6_setRain_34 (by decide) ?_
  refine lv_iconst (v := 0) hx hb dX6_setRain_35 (by decide) ?_
  refine w_retv (runI_X (As := [.int 4, .int p0, .int p1, .int 0, .int 0]) (rest := [.ref q3, .ref q.1]) (n := 5) S hml hK (hZ.at E) (Cut.app E hA) (c_X1_init l g q3 0 0 0 0 0 4 p0 p1 0 0 _ _) ml_X6_52 im_X1_init in_X1 co_X1_init rfl ⟨by decide +kernel, by decide +kernel, by decide +kernel⟩ ⟨Nat.le_of_ble_eq_true rfl, Nat.le_of_ble_eq_true rfl⟩ rfl hl.1 rfl (Nat.le_of_ble_eq_true rfl) dX6_setRain_36 ⟨Nat.le_of_ble_eq_true rfl, Nat.le_of_ble_eq_true rfl⟩) (Cut.app E hA) E (fun u4 H locs hp E => ?_)
  have E : Ev g _ s.heap H locs ((SW g q u σ) ++ [(q3, cE (4, p0, p1, 0, 0))]) := E
  have hv : okN (4, p0, p1, 0, 0) (cnt σ) M := ⟨hA1, hB2⟩
  obtain ⟨i1, -, -⟩ := inv_fo1 (lo := -1) hI hC hv
  obtain ⟨m1, m2⟩ := ek_room (σ := σ) i1.ev (Nat.le_trans i1.en (by decide))
  refine w_retv (runV_X (As := [.ref q3]) (rest := []) (q0 := 0) (n := 1) S hml hK (hZ.at E) (Cut.full E hA) (c_carryOut l g q u σ q3 (4, p0, p1, 0, 0) hu hI hC hv _ _) (gi_wsV ml_X6_55 im_X6_carryOut sl_X6_carryOut in_X6 co_X6_carryOut) ⟨rfl, by decide +kernel, by decide +kernel, by decide +kernel⟩ ⟨Nat.le_of_ble_eq_true rfl, Nat.le_of_ble_eq_true rfl⟩ rfl rfl rfl hl.1 rfl (Nat.le_of_ble_eq_true rfl) dX6_setRain_39 ⟨Nat.le_of_ble_eq_true rfl, Nat.le_of_ble_eq_true rfl⟩) (Cut.full E hA) E (fun u9 H locs hnx E => ?_)
  have E : Ev g _ s.heap H locs (SW g q u9 (fo1 (-1) (4, p0, p1, 0, 0) σ)) := E
  refine lv_iload_n hx hb dX6_setRain_42 rfl (lv_at hl 0 rfl) ?_
  exact vx_ret (x_iret u9 S hr hlk hsz htt hK E dX6_setRain_43 ⟨rfl, hnx⟩ rfl ⟨by show 1 + (eg (fo1 (-1) (4, p0, p1, 0, 0) σ) - eg σ + 2) ≤ eg (fo1 (-1) (4, p0, p1, 0, 0) σ) - eg σ + 3; omega, by show 5 + (2 * ec (fo1 (-1) (4, p0, p1, 0, 0) σ) - 2 * ec σ + 810) ≤ 2 * ec (fo1 (-1) (4, p0, p1, 0, 0) σ) - 2 * ec σ + 815; omega⟩ ⟨by show 1 + (eg (fo1 (-1) (4, p0, p1, 0, 0) σ) - eg σ + 2) ≤ 61; omega, by show 5 + (2 * ec (fo1 (-1) (4, p0, p1, 0, 0) σ) - 2 * ec σ + 810) ≤ 600005; omega⟩)

set_option maxHeartbeats 4000000 in
set_option maxRecDepth 100000 in
/-- setBed -/
theorem c_S_setBed (l : Launch) (g : Gm) (hst : l.stackTraces = false) (q : Fx) (u : SOB) (σ : Sg) (p0 : Int32) (p1 : Int32) (p2 : Int32) {C M : Nat} (hu : OkU u) (hI : Inv C M σ) (hC : C + 1 ≤ 1000) : YXi (S := SOB) l g yX6_setBed cX6_setBed 5 .int ({ frames := 12, cells := 61, slots := 600005, locals := 1151 } : Room) [.ref q.1, .int p0, .int p1, .int p2] (SW g q u σ) (fun r u' => r = gi σ 17 p0 ∧ Nx u (5, p0, p1, p2, 0) u') (fun u' => SW g q u' (fo1 (-1) (5, p0, p1, p2, 0) σ)) (kxS σ (fo1 (-1) (5, p0, p1, p2, 0) σ)) (SW g q u σ) (fun En => (En = "java/lang/IndexOutOfBoundsException" ∧ ¬ rgOK p0 0 7) ∨ (En = "java/lang/IllegalArgumentException" ∧ rgOK p0 0 7 ∧ ¬ (rgOK p1 (-100) 100 ∧ rgOK p2 0 9))) := by
  intro sz tt
  refine ofY RX6 rfl (by decide +kernel) (Nat.le_of_ble_eq_true rfl) (fun p e s m args below meth c hargs S hml hr hlk hex hsz htt hK hA hZ E ls hl => ?_)
  have hx := S.1
  have hb := S.2.1
  have hl : lv_has ls 5 [(0, .ref q.1), (1, .int p0), (2, .int p1), (3, .int p2)] := hl
  refine lv_iload_n hx hb dX6_setBed_0 rfl (lv_at hl 1 rfl) ?_
  refine lv_bipush (v := 8) hx hb dX6_setBed_1 (by decide) ?_
  refine y_retv (yrunS (As := [.int p0, .int 8]) (rest := []) (n := 2) S hml hK (hZ.at E) (Cut.none E hA) (c_X6_requireIndex l g hst p0 8 _ _) ml_X6_32 st_X6_requireIndex in_X6 co_X6_requireIndex ⟨by decide +kernel, by decide +kernel, by decide +kernel⟩ ⟨Nat.le_of_ble_eq_true rfl, Nat.le_of_ble_eq_true rfl⟩ rfl hl.1 rfl (Nat.le_of_ble_eq_true rfl) dX6_setBed_3 ⟨Nat.le_of_ble_eq_true rfl, Nat.le_of_ble_eq_true rfl⟩) (Cut.none E hA) E (fun En ce q9 H locs hp E hce hcv hcl => ?_) (fun u1 H locs hp E => ?_)
  · exact y_out hex hlk hK (Ev.nilr E) rfl (Or.inl ⟨hp.1, fun z => hp.2 (ix8.mpr z)⟩) hce hcv hcl ⟨Nat.le_of_ble_eq_true rfl, Nat.le_of_ble_eq_true rfl⟩
  have E : Ev g _ s.heap H locs (SW g q u σ) := Ev.nilr E
  have hA1 := ix8.mp hp
  refine lv_iload_n hx hb dX6_setBed_6 rfl (lv_at hl 2 rfl) ?_
  refine lv_bipush (v := (-100)) hx hb dX6_setBed_7 (by decide) ?_
  refine lv_bipush (v := 100) hx hb dX6_setBed_9 (by decide) ?_
  refine y_retv (yrunS (As := [.int p1, .int (-100), .int 100]) (rest := []) (n := 3) S hml hK (hZ.at E) (Cut.none E hA) (c_X6_requireRange l g hst p1 (-100) 100 _ _) ml_X6_36 st_X6_requireRange in_X6 co_X6_requireRange ⟨by decide +kernel, by decide +kernel, by decide +kernel⟩ ⟨Nat.le_of_ble_eq_true rfl, Nat.le_of_ble_eq_true rfl⟩ rfl hl.1 rfl (Nat.le_of_ble_eq_true rfl) dX6_setBed_11 ⟨Nat.le_of_ble_eq_true rfl, Nat.le_of_ble_eq_true rfl⟩) (Cut.none E hA) E (fun En ce q9 H locs hp E hce hcv hcl => ?_) (fun u2 H locs hp E => ?_)
  · exact y_out hex hlk hK (Ev.nilr E) rfl (Or.inr ⟨hp.1, hA1, fun z => hp.2 z.1⟩) hce hcv hcl ⟨Nat.le_of_ble_eq_true rfl, Nat.le_of_ble_eq_true rfl⟩
  have E : Ev g _ s.heap H locs (SW g q u σ) := Ev.nilr E
  have hB2 := hp
  refine lv_iload_n hx hb dX6_setBed_14 rfl (lv_at hl 3 rfl) ?_
  refine lv_iconst (v := 0) hx hb dX6_setBed_15 (by decide) ?_
  refine lv_bipush (v := 9) hx hb dX6_setBed_16 (by decide) ?_
  refine y_retv (yrunS (As := [.int p2, .int 0, .int 9]) (rest := []) (n := 3) S hml hK (hZ.at E) (Cut.none E hA) (c_X6_requireRange l g hst p2 0 9 _ _) ml_X6_36 st_X6_requireRange in_X6 co_X6_requireRange ⟨by decide +kernel, by decide +kernel, by decide +kernel⟩ ⟨Nat.le_of_ble_eq_true rfl, Nat.le_of_ble_eq_true rfl⟩ rfl hl.1 rfl (Nat.le_of_ble_eq_true rfl) dX6_setBed_18 ⟨Nat.le_of_ble_eq_true rfl, Nat.le_of_ble_eq_true rfl⟩) (Cut.none E hA) E (fun En ce q9 H locs hp E hce hcv hcl => ?_) (fun u3 H locs hp E => ?_)
  · exact y_out hex hlk hK (Ev.nilr E) rfl (Or.inr ⟨hp.1, hA1, fun z => hp.2 z.2⟩) hce hcv hcl ⟨Nat.le_of_ble_eq_true rfl, Nat.le_of_ble_eq_true rfl⟩
  have E : Ev g _ s.heap H locs (SW g q u σ) := Ev.nilr E
  have hB3 := hp
  refine lv_aload_n hx hb dX6_setBed_21 rfl (lv_at hl 0 rfl) ?_
  refine wg_X6_14 (v := .ref (q.2.2.2.1 0)) S hK E 0 rfl rfl dX6_setBed_22 ?_
  refine wg_X6_59 (v := .ref (q.2.2.2.1 2)) S hK E 1 rfl rfl dX6_setBed_25 ?_
  refine wg_X6_77 (v := .ref (q.2.2.2.1 17)) S hK E 3 rfl rfl dX6_setBed_28 ?_
  refine lv_iload_n hx hb dX6_setBed_31 rfl (lv_at hl 1 rfl) ?_
  refine w_ild (v := (gi σ 17 p0)) S hK E 18 0 rfl rfl (rg_in 7 (by decide) (by decide) (by decide) hA1) rfl dX6_setBed_32 ?_
  refine lv_istore (lv' := [(4, .int (gi σ 17 p0)), (0, .ref q.1), (1, .int p0), (2, .int p1), (3, .int p2)]) hx hb dX6_setBed_33 hl (by decide) rfl (fun ls hl => ?_)
  refine lv_aload_n hx hb dX6_setBed_35 rfl (lv_at hl 1 rfl) ?_
  refine w_new (ci := 1) (fs := [.int 0, .int 0, .int 0, .int 0, .int 0]) (C := RX1) (T := TX1) (N := 5) S hK E hA fw_X1 tyX1 tyX1_ok cl_X6_50 ib_X1 in_X1 rfl (fun j hj => by rcases (show j = 0 ∨ j = 1 ∨ j = 2 ∨ j = 3 ∨ j = 4 by omega) with rfl | rfl | rfl | rfl | rfl <;> rfl) (Nat.le_of_ble_eq_true rfl) (Nat.le_of_ble_eq_true rfl) dX6_setBed_36 (fun q4 H E => ?_)
  have E : Ev g _ s.heap H _ ((SW g q u σ) ++ [(q4, .inr (1, [.int 0, .int 0, .int 0, .int 0, .int 0]))]) := E
  refine lv_dup hx hb dX6_setBed_39 rfl ?_
  refine lv_iconst (v := 5) hx hb dX6_setBed_40 (by decide) ?_
  refine lv_iload_n hx hb dX6_setBed_41 rfl (lv_at hl 2 rfl) ?_
  refine lv_iload_n hx hb dX6_setBed_42 rfl (lv_at hl 3 rfl) ?_
  refine lv_iload_n hx hb dX6_setBed_43 rfl (lv_at hl 4 rfl) ?_
  refine lv_iconst (v := 0) hx hb dX6_setBed_44 (by decide) ?_
  refine w_retv (runI_X (As := [.int 5, .int p0, .int p1, .int p2, .int 0]) (rest := [.ref q4, .ref q.1]) (n := 5) S hml hK (hZ.at E) (Cut.app E hA) (c_X1_init l g q4 0 0 0 0 0 5 p0 p1 p2 0 _ _) ml_X6_52 im_X1_init in_X1 co_X1_init rfl ⟨by decide +kernel, by decide +kernel, by decide +kernel⟩ ⟨Nat.le_of_ble_eq_true rfl, Nat.le_of_ble_eq_true rfl⟩ rfl hl.1 rfl (Nat.le_of_ble_eq_true rfl) dX6_setBed_45 ⟨Nat.le_of_ble_eq_true rfl, Nat.le_of_ble_eq_true rfl⟩) (Cut.app E hA) E (fun u5 H locs hp E => ?_)
  have E : Ev g _ s.heap H locs ((SW g q u σ) ++ [(q4, cE (5, p0, p1, p2, 0))]) := E
  have hv : okN (5, p0, p1, p2, 0) (cnt σ) M := ⟨hA1, hB2, hB3⟩
  obtain ⟨i1, -, -⟩ := inv_fo1 (lo := -1) hI hC hv
  obtain ⟨m1, m2⟩ := ek_room (σ := σ) i1.ev (Nat.le_trans i1.en (by decide))
  refine w_retv (runV_X (As := [.ref q4]) (rest := []) (q0 := 0) (n := 1) S hml hK (hZ.at E) (Cut.full E hA) (c_carryOut l g q u σ q4 (5, p0, p1, p2, 0) hu hI hC hv _ _) (gi_wsV ml_X6_55 im_X6_carryOut sl_X6_carryOut in_X6 co_X6_carryOut) ⟨rfl, by decide +kernel, by decide +kernel, by decide +kernel⟩ ⟨Nat.le_of_ble_eq_true rfl, Nat.le_of_ble_eq_true rfl⟩ rfl rfl rfl hl.1 rfl (Nat.le_of_ble_eq_true rfl) dX6_setBed_48 ⟨Nat.le_of_ble_eq_true rfl, Nat.le_of_ble_eq_true rfl⟩) (Cut.full E hA) E (fun u9 H locs hnx E => ?_)
  have E : Ev g _ s.heap H locs (SW g q u9 (fo1 (-1) (5, p0, p1, p2, 0) σ)) := E
  refine lv_iload hx hb dX6_setBed_51 (lv_at hl 0 rfl) ?_
  exact vx_ret (x_iret u9 S hr hlk hsz htt hK E dX6_setBed_53 ⟨rfl, hnx⟩ rfl ⟨by show 1 + (eg (fo1 (-1) (5, p0, p1, p2, 0) σ) - eg σ + 2) ≤ eg (fo1 (-1) (5, p0, p1, p2, 0) σ) - eg σ + 3; omega, by show 5 + (2 * ec (fo1 (-1) (5, p0, p1, p2, 0) σ) - 2 * ec σ + 810) ≤ 2 * ec (fo1 (-1) (5, p0, p1, p2, 0) σ) - 2 * ec σ + 815; omega⟩ ⟨by show 1 + (eg (fo1 (-1) (5, p0, p1, p2, 0) σ) - eg σ + 2) ≤ 61; omega, by show 5 + (2 * ec (fo1 (-1) (5, p0, p1, p2, 0) σ) - 2 * ec σ + 810) ≤ 600005; omega⟩)

set_option maxHeartbeats 4000000 in
set_option maxRecDepth 100000 in
/-- setRiver -/
theorem c_S_setRiver (l : Launch) (g : Gm) (hst : l.stackTraces = false) (q : Fx) (u : SOB) (σ : Sg) (p0 : Int32) {C M : Nat} (hu : OkU u) (hI : Inv C M σ) (hC : C + 1 ≤ 1000) : YXi (S := SOB) l g yX6_setRiver cX6_setRiver 3 .int ({ frames := 12, cells := 61, slots := 600005, locals := 1151 } : Room) [.ref q.1, .int p0] (SW g q u σ) (fun r u' => r = gs σ 2 ∧ Nx u (6, p0, 0, 0, 0) u') (fun u' => SW g q u' (fo1 (-1) (6, p0, 0, 0, 0) σ)) (kxS σ (fo1 (-1) (6, p0, 0, 0, 0) σ)) (SW g q u σ) (fun En => (En = "java/lang/IllegalArgumentException" ∧ ¬ (rgOK p0 0 999))) := by
  intro sz tt
  refine ofY RX6 rfl (by decide +kernel) (Nat.le_of_ble_eq_true rfl) (fun p e s m args below meth c hargs S hml hr hlk hex hsz htt hK hA hZ E ls hl => ?_)
  have hx := S.1
  have hb := S.2.1
  have hl : lv_has ls 3 [(0, .ref q.1), (1, .int p0)] := hl
  refine lv_iload_n hx hb dX6_setRiver_0 rfl (lv_at hl 1 rfl) ?_
  refine lv_iconst (v := 0) hx hb dX6_setRiver_1 (by decide) ?_
  refine lv_sipush (v := 999) hx hb dX6_setRiver_2 (by decide) ?_
  refine y_retv (yrunS (As := [.int p0, .int 0, .int 999]) (rest := []) (n := 3) S hml hK (hZ.at E) (Cut.none E hA) (c_X6_requireRange l g hst p0 0 999 _ _) ml_X6_36 st_X6_requireRange in_X6 co_X6_requireRange ⟨by decide +kernel, by decide +kernel, by decide +kernel⟩ ⟨Nat.le_of_ble_eq_true rfl, Nat.le_of_ble_eq_true rfl⟩ rfl hl.1 rfl (Nat.le_of_ble_eq_true rfl) dX6_setRiver_5 ⟨Nat.le_of_ble_eq_true rfl, Nat.le_of_ble_eq_true rfl⟩) (Cut.none E hA) E (fun En ce q9 H locs hp E hce hcv hcl => ?_) (fun u1 H locs hp E => ?_)
  · exact y_out hex hlk hK (Ev.nilr E) rfl ⟨hp.1, fun z => hp.2 z⟩ hce hcv hcl ⟨Nat.le_of_ble_eq_true rfl, Nat.le_of_ble_eq_true rfl⟩
  have E : Ev g _ s.heap H locs (SW g q u σ) := Ev.nilr E
  have hB1 := hp
  refine lv_aload_n hx hb dX6_setRiver_8 rfl (lv_at hl 0 rfl) ?_
  refine wg_X6_14 (v := .ref (q.2.2.2.1 0)) S hK E 0 rfl rfl dX6_setRiver_9 ?_
  refine wg_X6_59 (v := .ref (q.2.2.2.1 2)) S hK E 1 rfl rfl dX6_setRiver_12 ?_
  refine wg_X6_80 (v := .int (gs σ 2)) S hK E 3 rfl rfl dX6_setRiver_15 ?_
  refine lv_istore_n (lv' := [(2, .int (gs σ 2)), (0, .ref q.1), (1, .int p0)]) hx hb dX6_setRiver_18 rfl hl (by decide) rfl (fun ls hl => ?_)
  refine lv_aload_n hx hb dX6_setRiver_19 rfl (lv_at hl 1 rfl) ?_
  refine w_new (ci := 1) (fs := [.int 0, .int 0, .int 0, .int 0, .int 0]) (C := RX1) (T := TX1) (N := 5) S hK E hA fw_X1 tyX1 tyX1_ok cl_X6_50 ib_X1 in_X1 rfl (fun j hj => by rcases (show j = 0 ∨ j = 1 ∨ j = 2 ∨ j = 3 ∨ j = 4 by omega) with rfl | rfl | rfl | rfl | rfl <;> rfl) (Nat.le_of_ble_eq_true rfl) (Nat.le_of_ble_eq_true rfl) dX6_setRiver_20 (fun q2 H E => ?_)
  have E : Ev g _ s.heap H _ ((SW g q u σ) ++ [(q2, .inr (1, [.int 0, .int 0, .int 0, .int 0, .int 0]))]) := E
  refine lv_dup hx hb dX6_setRiver_23 rfl ?_
  refine lv_bipush (v := 6) hx hb dX6_setRiver_24 (by decide) ?_
  refine lv_iload_n hx hb dX6_setRiver_26 rfl (lv_at hl 2 rfl) ?_
  refine lv_iconst (v := 0) hx hb dX6_setRiver_27 (by decide) ?_
  refine lv_iconst (v := 0) hx hb dX6_setRiver_28 (by decide) ?_
  refine lv_iconst (v := 0) hx hb dX6_setRiver_29 (by decide) ?_
  refine w_retv (runI_X (As := [.int 6, .int p0, .int 0, .int 0, .int 0]) (rest := [.ref q2, .ref q.1]) (n := 5) S hml hK (hZ.at E) (Cut.app E hA) (c_X1_init l g q2 0 0 0 0 0 6 p0 0 0 0 _ _) ml_X6_52 im_X1_init in_X1 co_X1_init rfl ⟨by decide +kernel, by decide +kernel, by decide +kernel⟩ ⟨Nat.le_of_ble_eq_true rfl, Nat.le_of_ble_eq_true rfl⟩ rfl hl.1 rfl (Nat.le_of_ble_eq_true rfl) dX6_setRiver_30 ⟨Nat.le_of_ble_eq_true rfl, Nat.le_of_ble_eq_true rfl⟩) (Cut.app E hA) E (fun u3 H locs hp E => ?_)
  have E : Ev g _ s.heap H locs ((SW g q u σ) ++ [(q2, cE (6, p0, 0, 0, 0))]) := E
  have hv : okN (6, p0, 0, 0, 0) (cnt σ) M := hB1
  obtain ⟨i1, -, -⟩ := inv_fo1 (lo := -1) hI hC hv
  obtain ⟨m1, m2⟩ := ek_room (σ := σ) i1.ev (Nat.le_trans i1.en (by decide))
  refine w_retv (runV_X (As := [.ref q2]) (rest := []) (q0 := 0) (n := 1) S hml hK (hZ.at E) (Cut.full E hA) (c_carryOut l g q u σ q2 (6, p0, 0, 0, 0) hu hI hC hv _ _) (gi_wsV ml_X6_55 im_X6_carryOut sl_X6_carryOut in_X6 co_X6_carryOut) ⟨rfl, by decide +kernel, by decide +kernel, by decide +kernel⟩ ⟨Nat.le_of_ble_eq_true rfl, Nat.le_of_ble_eq_true rfl⟩ rfl rfl rfl hl.1 rfl (Nat.le_of_ble_eq_true rfl) dX6_setRiver_33 ⟨Nat.le_of_ble_eq_true rfl, Nat.le_of_ble_eq_true rfl⟩) (Cut.full E hA) E (fun u9 H locs hnx E => ?_)
  have E : Ev g _ s.heap H locs (SW g q u9 (fo1 (-1) (6, p0, 0, 0, 0) σ)) := E
  refine lv_iload_n hx hb dX6_setRiver_36 rfl (lv_at hl 0 rfl) ?_
  exact vx_ret (x_iret u9 S hr hlk hsz htt hK E dX6_setRiver_37 ⟨rfl, hnx⟩ rfl ⟨by show 1 + (eg (fo1 (-1) (6, p0, 0, 0, 0) σ) - eg σ + 2) ≤ eg (fo1 (-1) (6, p0, 0, 0, 0) σ) - eg σ + 3; omega, by show 5 + (2 * ec (fo1 (-1) (6, p0, 0, 0, 0) σ) - 2 * ec σ + 810) ≤ 2 * ec (fo1 (-1) (6, p0, 0, 0, 0) σ) - 2 * ec σ + 815; omega⟩ ⟨by show 1 + (eg (fo1 (-1) (6, p0, 0, 0, 0) σ) - eg σ + 2) ≤ 61; omega, by show 5 + (2 * ec (fo1 (-1) (6, p0, 0, 0, 0) σ) - 2 * ec σ + 810) ≤ 600005; omega⟩)

set_option maxHeartbeats 4000000 in
set_option maxRecDepth 100000 in
/-- setSea -/
theorem c_S_setSea (l : Launch) (g : Gm) (hst : l.stackTraces = false) (q : Fx) (u : SOB) (σ : Sg) (p0 : Int32) {C M : Nat} (hu : OkU u) (hI : Inv C M σ) (hC : C + 1 ≤ 1000) : YXi (S := SOB) l g yX6_setSea cX6_setSea 3 .int ({ frames := 12, cells := 61, slots := 600005, locals := 1151 } : Room) [.ref q.1, .int p0] (SW g q u σ) (fun r u' => r = gs σ 3 ∧ Nx u (7, p0, 0, 0, 0) u') (fun u' => SW g q u' (fo1 (-1) (7, p0, 0, 0, 0) σ)) (kxS σ (fo1 (-1) (7, p0, 0, 0, 0) σ)) (SW g q u σ) (fun En => (En = "java/lang/IllegalArgumentException" ∧ ¬ (rgOK p0 0 9))) := by
  intro sz tt
  refine ofY RX6 rfl (by decide +kernel) (Nat.le_of_ble_eq_true rfl) (fun p e s m args below meth c hargs S hml hr hlk hex hsz htt hK hA hZ E ls hl => ?_)
  have hx := S.1
  have hb := S.2.1
  have hl : lv_has ls 3 [(0, .ref q.1), (1, .int p0)] := hl
  refine lv_iload_n hx hb dX6_setSea_0 rfl (lv_at hl 1 rfl) ?_
  refine lv_iconst (v := 0) hx hb dX6_setSea_1 (by decide) ?_
  refine lv_bipush (v := 9) hx hb dX6_setSea_2 (by decide) ?_
  refine y_retv (yrunS (As := [.int p0, .int 0, .int 9]) (rest := []) (n := 3) S hml hK (hZ.at E) (Cut.none E hA) (c_X6_requireRange l g hst p0 0 9 _ _) ml_X6_36 st_X6_requireRange in_X6 co_X6_requireRange ⟨by decide +kernel, by decide +kernel, by decide +kernel⟩ ⟨Nat.le_of_ble_eq_true rfl, Nat.le_of_ble_eq_true rfl⟩ rfl hl.1 rfl (Nat.le_of_ble_eq_true rfl) dX6_setSea_4 ⟨Nat.le_of_ble_eq_true rfl, Nat.le_of_ble_eq_true rfl⟩) (Cut.none E hA) E (fun En ce q9 H locs hp E hce hcv hcl => ?_) (fun u1 H locs hp E => ?_)
  · exact y_out hex hlk hK (Ev.nilr E) rfl ⟨hp.1, fun z => hp.2 z⟩ hce hcv hcl ⟨Nat.le_of_ble_eq_true rfl, Nat.le_of_ble_eq_true rfl⟩
  have E : Ev g _ s.heap H locs (SW g q u σ) := Ev.nilr E
  have hB1 := hp
  refine lv_aload_n hx hb dX6_setSea_7 rfl (lv_at hl 0 rfl) ?_
  refine wg_X6_14 (v := .ref (q.2.2.2.1 0)) S hK E 0 rfl rfl dX6_setSea_8 ?_
  refine wg_X6_59 (v := .ref (q.2.2.2.1 2)) S hK E 1 rfl rfl dX6_setSea_11 ?_
  refine wg_X6_84 (v := .int (gs σ 3)) S hK E 3 rfl rfl dX6_setSea_14 ?_
  refine lv_istore_n (lv' := [(2, .int (gs σ 3)), (0, .ref q.1), (1, .int p0)]) hx hb dX6_setSea_17 rfl hl (by decide) rfl (fun ls hl => ?_)
  refine lv_aload_n hx hb dX6_setSea_18 rfl (lv_at hl 1 rfl) ?_
  refine w_new (ci := 1) (fs := [.int 0, .int 0, .int 0, .int 0, .int 0]) (C := RX1) (T := TX1) (N := 5) S hK E hA fw_X1 tyX1 tyX1_ok cl_X6_50 ib_X1 in_X1 rfl (fun j hj => by rcases (show j = 0 ∨ j = 1 ∨ j = 2 ∨ j = 3 ∨ j = 4 by omega) with rfl | rfl | rfl | rfl | rfl <;> rfl) (Nat.le_of_ble_eq_true rfl) (Nat.le_of_ble_eq_true rfl) dX6_setSea_19 (fun q2 H E => ?_)
  have E : Ev g _ s.heap H _ ((SW g q u σ) ++ [(q2, .inr (1, [.int 0, .int 0, .int 0, .int 0, .int 0]))]) := E
  refine lv_dup hx hb dX6_setSea_22 rfl ?_
  refine lv_bipush (v := 7) hx hb dX6_setSea_23 (by decide) ?_
  refine lv_iload_n hx hb dX6_setSea_25 rfl (lv_at hl 2 rfl) ?_
  refine lv_iconst (v := 0) hx hb dX6_setSea_26 (by decide) ?_
  refine lv_iconst (v := 0) hx hb dX6_setSea_27 (by decide) ?_
  refine lv_iconst (v := 0) hx hb dX6_setSea_28 (by decide) ?_
  refine w_retv (runI_X (As := [.int 7, .int p0, .int 0, .int 0, .int 0]) (rest := [.ref q2, .ref q.1]) (n := 5) S hml hK (hZ.at E) (Cut.app E hA) (c_X1_init l g q2 0 0 0 0 0 7 p0 0 0 0 _ _) ml_X6_52 im_X1_init in_X1 co_X1_init rfl ⟨by decide +kernel, by decide +kernel, by decide +kernel⟩ ⟨Nat.le_of_ble_eq_true rfl, Nat.le_of_ble_eq_true rfl⟩ rfl hl.1 rfl (Nat.le_of_ble_eq_true rfl) dX6_setSea_29 ⟨Nat.le_of_ble_eq_true rfl, Nat.le_of_ble_eq_true rfl⟩) (Cut.app E hA) E (fun u3 H locs hp E => ?_)
  have E : Ev g _ s.heap H locs ((SW g q u σ) ++ [(q2, cE (7, p0, 0, 0, 0))]) := E
  have hv : okN (7, p0, 0, 0, 0) (cnt σ) M := hB1
  obtain ⟨i1, -, -⟩ := inv_fo1 (lo := -1) hI hC hv
  obtain ⟨m1, m2⟩ := ek_room (σ := σ) i1.ev (Nat.le_trans i1.en (by decide))
  refine w_retv (runV_X (As := [.ref q2]) (rest := []) (q0 := 0) (n := 1) S hml hK (hZ.at E) (Cut.full E hA) (c_carryOut l g q u σ q2 (7, p0, 0, 0, 0) hu hI hC hv _ _) (gi_wsV ml_X6_55 im_X6_carryOut sl_X6_carryOut in_X6 co_X6_carryOut) ⟨rfl, by decide +kernel, by decide +kernel, by decide +kernel⟩ ⟨Nat.le_of_ble_eq_true rfl, Nat.le_of_ble_eq_true rfl⟩ rfl rfl rfl hl.1 rfl (Nat.le_of_ble_eq_true rfl) dX6_setSea_32 ⟨Nat.le_of_ble_eq_true rfl, Nat.le_of_ble_eq_true rfl⟩) (Cut.full E hA) E (fun u9 H locs hnx E => ?_)
  have E : Ev g _ s.heap H locs (SW g q u9 (fo1 (-1) (7, p0, 0, 0, 0) σ)) := E
  refine lv_iload_n hx hb dX6_setSea_35 rfl (lv_at hl 0 rfl) ?_
  exact vx_ret (x_iret u9 S hr hlk hsz htt hK E dX6_setSea_36 ⟨rfl, hnx⟩ rfl ⟨by show 1 + (eg (fo1 (-1) (7, p0, 0, 0, 0) σ) - eg σ + 2) ≤ eg (fo1 (-1) (7, p0, 0, 0, 0) σ) - eg σ + 3; omega, by show 5 + (2 * ec (fo1 (-1) (7, p0, 0, 0, 0) σ) - 2 * ec σ + 810) ≤ 2 * ec (fo1 (-1) (7, p0, 0, 0, 0) σ) - 2 * ec σ + 815; omega⟩ ⟨by show 1 + (eg (fo1 (-1) (7, p0, 0, 0, 0) σ) - eg σ + 2) ≤ 61; omega, by show 5 + (2 * ec (fo1 (-1) (7, p0, 0, 0, 0) σ) - 2 * ec σ + 810) ≤ 600005; omega⟩)

set_option maxHeartbeats 4000000 in
set_option maxRecDepth 100000 in
/-- addWell -/
theorem c_S_addWell (l : Launch) (g : Gm) (hst : l.stackTraces = false) (q : Fx) (u : SOB) (σ : Sg) (p0 : Int32) (p1 : Int32) (p2 : Int32) {C M : Nat} (hu : OkU u) (hI : Inv C M σ) (hC : C + 1 ≤ 1000) : YXi (S := SOB) l g yX6_addWell cX6_addWell 5 .int ({ frames := 12, cells := 61, slots := 600005, locals := 1151 } : Room) [.ref q.1, .int p0, .int p1, .int p2] (SW g q u σ) (fun r u' => r = gs σ 4 ∧ Nx u (8, p0, p1, p2, 0) u') (fun u' => SW g q u' (fo1 (-1) (8, p0, p1, p2, 0) σ)) (kxS σ (fo1 (-1) (8, p0, p1, p2, 0) σ)) (SW g q u σ) (fun En => (En = "java/lang/IndexOutOfBoundsException" ∧ ¬ rgOK p0 0 15) ∨ (En = "java/lang/IllegalArgumentException" ∧ rgOK p0 0 15 ∧ ¬ (rgOK p1 0 9999 ∧ rgOK p2 0 999)) ∨ (En = "java/lang/IllegalStateException" ∧ rgOK p0 0 15 ∧ (rgOK p1 0 9999 ∧ rgOK p2 0 999) ∧ ¬ gs σ 4 < 6)) := by
  intro sz tt
  refine ofY RX6 rfl (by decide +kernel) (Nat.le_of_ble_eq_true rfl) (fun p e s m args below meth c hargs S hml hr hlk hex hsz htt hK hA hZ E ls hl => ?_)
  have hx := S.1
  have hb := S.2.1
  have hl : lv_has ls 5 [(0, .ref q.1), (1, .int p0), (2, .int p1), (3, .int p2)] := hl
  refine lv_iload_n hx hb dX6_addWell_0 rfl (lv_at hl 1 rfl) ?_
  refine lv_bipush (v := 16) hx hb dX6_addWell_1 (by decide) ?_
  refine y_retv (yrunS (As := [.int p0, .int 16]) (rest := []) (n := 2) S hml hK (hZ.at E) (Cut.none E hA) (c_X6_requireIndex l g hst p0 16 _ _) ml_X6_32 st_X6_requireIndex in_X6 co_X6_requireIndex ⟨by decide +kernel, by decide +kernel, by decide +kernel⟩ ⟨Nat.le_of_ble_eq_true rfl, Nat.le_of_ble_eq_true rfl⟩ rfl hl.1 rfl (Nat.le_of_ble_eq_true rfl) dX6_addWell_3 ⟨Nat.le_of_ble_eq_true rfl, Nat.le_of_ble_eq_true rfl⟩) (Cut.none E hA) E (fun En ce q9 H locs hp E hce hcv hcl => ?_) (fun u1 H locs hp E => ?_)
  · exact y_out hex hlk hK (Ev.nilr E) rfl (Or.inl ⟨hp.1, fun z => hp.2 (ix16.mpr z)⟩) hce hcv hcl ⟨Nat.le_of_ble_eq_true rfl, Nat.le_of_ble_eq_true rfl⟩
  have E : Ev g _ s.heap H locs (SW g q u σ) := Ev.nilr E
  have hA1 := ix16.mp hp
  refine lv_iload_n hx hb dX6_addWell_6 rfl (lv_at hl 2 rfl) ?_
  refine lv_iconst (v := 0) hx hb dX6_addWell_7 (by decide) ?_
  refine lv_sipush (v := 9999) hx hb dX6_addWell_8 (by decide) ?_
  refine y_retv (yrunS (As := [.int p1, .int 0, .int 9999]) (rest := []) (n := 3) S hml hK (hZ.at E) (Cut.none E hA) (c_X6_requireRange l g hst p1 0 9999 _ _) ml_X6_36 st_X6_requireRange in_X6 co_X6_requireRange ⟨by decide +kernel, by decide +kernel, by decide +kernel⟩ ⟨Nat.le_of_ble_eq_true rfl, Nat.le_of_ble_eq_true rfl⟩ rfl hl.1 rfl (Nat.le_of_ble_eq_true rfl) dX6_addWell_11 ⟨Nat.le_of_ble_eq_true rfl, Nat.le_of_ble_eq_true rfl⟩) (Cut.none E hA) E (fun En ce q9 H locs hp E hce hcv hcl => ?_) (fun u2 H locs hp E => ?_)
  · exact y_out hex hlk hK (Ev.nilr E) rfl (Or.inr (Or.inl ⟨hp.1, hA1, fun z => hp.2 z.1⟩)) hce hcv hcl ⟨Nat.le_of_ble_eq_true rfl, Nat.le_of_ble_eq_true rfl⟩
  have E : Ev g _ s.heap H locs (SW g q u σ) := Ev.nilr E
  have hB2 := hp
  refine lv_iload_n hx hb dX6_addWell_14 rfl (lv_at hl 3 rfl) ?_
  refine lv_iconst (v := 0) hx hb dX6_addWell_15 (by decide) ?_
  refine lv_sipush (v := 999) hx hb dX6_addWell_16 (by decide) ?_
  refine y_retv (yrunS (As := [.int p2, .int 0, .int 999]) (rest := []) (n := 3) S hml hK (hZ.at E) (Cut.none E hA) (c_X6_requireRange l g hst p2 0 999 _ _) ml_X6_36 st_X6_requireRange in_X6 co_X6_requireRange ⟨by decide +kernel, by decide +kernel, by decide +kernel⟩ ⟨Nat.le_of_ble_eq_true rfl, Nat.le_of_ble_eq_true rfl⟩ rfl hl.1 rfl (Nat.le_of_ble_eq_true rfl) dX6_addWell_19 ⟨Nat.le_of_ble_eq_true rfl, Nat.le_of_ble_eq_true rfl⟩) (Cut.none E hA) E (fun En ce q9 H locs hp E hce hcv hcl => ?_) (fun u3 H locs hp E => ?_)
  · exact y_out hex hlk hK (Ev.nilr E) rfl (Or.inr (Or.inl ⟨hp.1, hA1, fun z => hp.2 z.2⟩)) hce hcv hcl ⟨Nat.le_of_ble_eq_true rfl, Nat.le_of_ble_eq_true rfl⟩
  have E : Ev g _ s.heap H locs (SW g q u σ) := Ev.nilr E
  have hB3 := hp
  refine lv_aload_n hx hb dX6_addWell_22 rfl (lv_at hl 0 rfl) ?_
  refine wg_X6_14 (v := .ref (q.2.2.2.1 0)) S hK E 0 rfl rfl dX6_addWell_23 ?_
  refine wg_X6_87 (v := .ref (q.2.2.2.1 3)) S hK E 1 rfl rfl dX6_addWell_26 ?_
  refine wg_X6_91 (v := .int (gs σ 4)) S hK E 4 rfl rfl dX6_addWell_29 ?_
  refine lv_istore (lv' := [(4, .int (gs σ 4)), (0, .ref q.1), (1, .int p0), (2, .int p1), (3, .int p2)]) hx hb dX6_addWell_32 hl (by decide) rfl (fun ls hl => ?_)
  refine lv_iload hx hb dX6_addWell_34 (lv_at hl 0 rfl) ?_
  refine lv_bipush (v := 6) hx hb dX6_addWell_36 (by decide) ?_
  refine lv_icmp_lt (tgt := 51) hx hb dX6_addWell_38 (by decide) (fun c4 => ?_) (fun c4 => ?_)
  · have c4 : (gs σ 4) < 6 := c4
    refine lv_aload_n hx hb dX6_addWell_51 rfl (lv_at hl 1 rfl) ?_
    refine w_new (ci := 1) (fs := [.int 0, .int 0, .int 0, .int 0, .int 0]) (C := RX1) (T := TX1) (N := 5) S hK E hA fw_X1 tyX1 tyX1_ok cl_X6_50 ib_X1 in_X1 rfl (fun j hj => by rcases (show j = 0 ∨ j = 1 ∨ j = 2 ∨ j = 3 ∨ j = 4 by omega) with rfl | rfl | rfl | rfl | rfl <;> rfl) (Nat.le_of_ble_eq_true rfl) (Nat.le_of_ble_eq_true rfl) dX6_addWell_52 (fun q5 H E => ?_)
    have E : Ev g _ s.heap H _ ((SW g q u σ) ++ [(q5, .inr (1, [.int 0, .int 0, .int 0, .int 0, .int 0]))]) := E
    refine lv_dup hx hb dX6_addWell_55 rfl ?_
    refine lv_bipush (v := 8) hx hb dX6_addWell_56 (by decide) ?_
    refine lv_iload_n hx hb dX6_addWell_58 rfl (lv_at hl 2 rfl) ?_
    refine lv_iload_n hx hb dX6_addWell_59 rfl (lv_at hl 3 rfl) ?_
    refine lv_iload_n hx hb dX6_addWell_60 rfl (lv_at hl 4 rfl) ?_
    refine lv_iconst (v := 0) hx hb dX6_addWell_61 (by decide) ?_
    refine w_retv (runI_X (As := [.int 8, .int p0, .int p1, .int p2, .int 0]) (rest := [.ref q5, .ref q.1]) (n := 5) S hml hK (hZ.at E) (Cut.app E hA) (c_X1_init l g q5 0 0 0 0 0 8 p0 p1 p2 0 _ _) ml_X6_52 im_X1_init in_X1 co_X1_init rfl ⟨by decide +kernel, by decide +kernel, by decide +kernel⟩ ⟨Nat.le_of_ble_eq_true rfl, Nat.le_of_ble_eq_true rfl⟩ rfl hl.1 rfl (Nat.le_of_ble_eq_true rfl) dX6_addWell_62 ⟨Nat.le_of_ble_eq_true rfl, Nat.le_of_ble_eq_true rfl⟩) (Cut.app E hA) E (fun u6 H locs hp E => ?_)
    have E : Ev g _ s.heap H locs ((SW g q u σ) ++ [(q5, cE (8, p0, p1, p2, 0))]) := E
    have hv : okN (8, p0, p1, p2, 0) (cnt σ) M := ⟨hA1, hB3, lt6 hI.wf c4⟩
    obtain ⟨i1, -, -⟩ := inv_fo1 (lo := -1) hI hC hv
    obtain ⟨m1, m2⟩ := ek_room (σ := σ) i1.ev (Nat.le_trans i1.en (by decide))
    refine w_retv (runV_X (As := [.ref q5]) (rest := []) (q0 := 0) (n := 1) S hml hK (hZ.at E) (Cut.full E hA) (c_carryOut l g q u σ q5 (8, p0, p1, p2, 0) hu hI hC hv _ _) (gi_wsV ml_X6_55 im_X6_carryOut sl_X6_carryOut in_X6 co_X6_carryOut) ⟨rfl, by decide +kernel, by decide +kernel, by decide +kernel⟩ ⟨Nat.le_of_ble_eq_true rfl, Nat.le_of_ble_eq_true rfl⟩ rfl rfl rfl hl.1 rfl (Nat.le_of_ble_eq_true rfl) dX6_addWell_65 ⟨Nat.le_of_ble_eq_true rfl, Nat.le_of_ble_eq_true rfl⟩) (Cut.full E hA) E (fun u9 H locs hnx E => ?_)
    have E : Ev g _ s.heap H locs (SW g q u9 (fo1 (-1) (8, p0, p1, p2, 0) σ)) := E
    refine lv_iload hx hb dX6_addWell_68 (lv_at hl 0 rfl) ?_
    exact vx_ret (x_iret u9 S hr hlk hsz htt hK E dX6_addWell_70 ⟨rfl, hnx⟩ rfl ⟨by show 1 + (eg (fo1 (-1) (8, p0, p1, p2, 0) σ) - eg σ + 2) ≤ eg (fo1 (-1) (8, p0, p1, p2, 0) σ) - eg σ + 3; omega, by show 5 + (2 * ec (fo1 (-1) (8, p0, p1, p2, 0) σ) - 2 * ec σ + 810) ≤ 2 * ec (fo1 (-1) (8, p0, p1, p2, 0) σ) - 2 * ec σ + 815; omega⟩ ⟨by show 1 + (eg (fo1 (-1) (8, p0, p1, p2, 0) σ) - eg σ + 2) ≤ 61; omega, by show 5 + (2 * ec (fo1 (-1) (8, p0, p1, p2, 0) σ) - 2 * ec σ + 810) ≤ 600005; omega⟩)
  · have c4 : ¬ ((gs σ 4) < 6) := c4
    exact y_throw (text := "there is no room for another well") (names := ["java/lang/RuntimeException", "java/lang/Exception"]) S hst hml hl hex hlk hK hZ E rfl (Or.inr (Or.inr ⟨rfl, hA1, ⟨hB2, hB3⟩, c4⟩)) (by decide +kernel) (by decide +kernel) cl_X6_96 in__java_lang_IllegalStateException (by decide +kernel) at_ise dX6_addWell_41 dX6_addWell_44 dX6_addWell_45 dX6_addWell_47 dX6_addWell_50 (Nat.le_of_ble_eq_true rfl) (Nat.le_of_ble_eq_true rfl) ⟨Nat.le_of_ble_eq_true rfl, Nat.le_of_ble_eq_true rfl⟩ ⟨Nat.le_of_ble_eq_true rfl, Nat.le_of_ble_eq_true rfl⟩

set_option maxHeartbeats 4000000 in
set_option maxRecDepth 100000 in
/-- setCell -/
theorem c_SF_setCell (l : Launch) (g : Gm) (hst : l.stackTraces = false) (q : Fx) (u : SOB) (σ : Sg) (p0 : Int32) (p1 : Int32) (p2 : Int32) (p3 : Int32) {C M : Nat} (hu : OkU u) (hne : u.2.2.2.2 = []) (hI : Inv C M σ) (hC : C + 1 ≤ 1000) : YXi (S := SOB) l g yX6_setCell cX6_setCell 6 .int ({ frames := 12, cells := 61, slots := 600005, locals := 1151 } : Room) [.ref q.1, .int p0, .int p1, .int p2, .int p3] (SF g q u σ) (fun r u' => r = gi σ 10 p0 ∧ Nx u (0, p0, p1, p2, p3) u') (fun u' => SW g q u' (fo1 (-1) (0, p0, p1, p2, p3) σ)) (kxS σ (fo1 (-1) (0, p0, p1, p2, p3) σ)) (SF g q u σ) (fun En => (En = "java/lang/IndexOutOfBoundsException" ∧ ¬ rgOK p0 0 15) ∨ (En = "java/lang/IllegalArgumentException" ∧ rgOK p0 0 15 ∧ ¬ (rgOK p1 (-100) 100 ∧ rgOK p2 1 50 ∧ rgOK p3 0 5000))) := by
  intro sz tt
  refine ofY RX6 rfl (by decide +kernel) (Nat.le_of_ble_eq_true rfl) (fun p e s m args below meth c hargs S hml hr hlk hex hsz htt hK hA hZ E ls hl => ?_)
  have hx := S.1
  have hb := S.2.1
  have hl : lv_has ls 6 [(0, .ref q.1), (1, .int p0), (2, .int p1), (3, .int p2), (4, .int p3)] := hl
  refine lv_iload_n hx hb dX6_setCell_0 rfl (lv_at hl 1 rfl) ?_
  refine lv_bipush (v := 16) hx hb dX6_setCell_1 (by decide) ?_
  refine y_retv (yrunS (As := [.int p0, .int 16]) (rest := []) (n := 2) S hml hK (hZ.at E) (Cut.none E hA) (c_X6_requireIndex l g hst p0 16 _ _) ml_X6_32 st_X6_requireIndex in_X6 co_X6_requireIndex ⟨by decide +kernel, by decide +kernel, by decide +kernel⟩ ⟨Nat.le_of_ble_eq_true rfl, Nat.le_of_ble_eq_true rfl⟩ rfl hl.1 rfl (Nat.le_of_ble_eq_true rfl) dX6_setCell_3 ⟨Nat.le_of_ble_eq_true rfl, Nat.le_of_ble_eq_true rfl⟩) (Cut.none E hA) E (fun En ce q9 H locs hp E hce hcv hcl => ?_) (fun u1 H locs hp E => ?_)
  · exact y_out hex hlk hK (Ev.nilr E) rfl (Or.inl ⟨hp.1, fun z => hp.2 (ix16.mpr z)⟩) hce hcv hcl ⟨Nat.le_of_ble_eq_true rfl, Nat.le_of_ble_eq_true rfl⟩
  have E : Ev g _ s.heap H locs (SF g q u σ) := Ev.nilr E
  have hA1 := ix16.mp hp
  refine lv_iload_n hx hb dX6_setCell_6 rfl (lv_at hl 2 rfl) ?_
  refine lv_bipush (v := (-100)) hx hb dX6_setCell_7 (by decide) ?_
  refine lv_bipush (v := 100) hx hb dX6_setCell_9 (by decide) ?_
  refine y_retv (yrunS (As := [.int p1, .int (-100), .int 100]) (rest := []) (n := 3) S hml hK (hZ.at E) (Cut.none E hA) (c_X6_requireRange l g hst p1 (-100) 100 _ _) ml_X6_36 st_X6_requireRange in_X6 co_X6_requireRange ⟨by decide +kernel, by decide +kernel, by decide +kernel⟩ ⟨Nat.le_of_ble_eq_true rfl, Nat.le_of_ble_eq_true rfl⟩ rfl hl.1 rfl (Nat.le_of_ble_eq_true rfl) dX6_setCell_11 ⟨Nat.le_of_ble_eq_true rfl, Nat.le_of_ble_eq_true rfl⟩) (Cut.none E hA) E (fun En ce q9 H locs hp E hce hcv hcl => ?_) (fun u2 H locs hp E => ?_)
  · exact y_out hex hlk hK (Ev.nilr E) rfl (Or.inr ⟨hp.1, hA1, fun z => hp.2 z.1⟩) hce hcv hcl ⟨Nat.le_of_ble_eq_true rfl, Nat.le_of_ble_eq_true rfl⟩
  have E : Ev g _ s.heap H locs (SF g q u σ) := Ev.nilr E
  have hB2 := hp
  refine lv_iload_n hx hb dX6_setCell_14 rfl (lv_at hl 3 rfl) ?_
  refine lv_iconst (v := 1) hx hb dX6_setCell_15 (by decide) ?_
  refine lv_bipush (v := 50) hx hb dX6_setCell_16 (by decide) ?_
  refine y_retv (yrunS (As := [.int p2, .int 1, .int 50]) (rest := []) (n := 3) S hml hK (hZ.at E) (Cut.none E hA) (c_X6_requireRange l g hst p2 1 50 _ _) ml_X6_36 st_X6_requireRange in_X6 co_X6_requireRange ⟨by decide +kernel, by decide +kernel, by decide +kernel⟩ ⟨Nat.le_of_ble_eq_true rfl, Nat.le_of_ble_eq_true rfl⟩ rfl hl.1 rfl (Nat.le_of_ble_eq_true rfl) dX6_setCell_18 ⟨Nat.le_of_ble_eq_true rfl, Nat.le_of_ble_eq_true rfl⟩) (Cut.none E hA) E (fun En ce q9 H locs hp E hce hcv hcl => ?_) (fun u3 H locs hp E => ?_)
  · exact y_out hex hlk hK (Ev.nilr E) rfl (Or.inr ⟨hp.1, hA1, fun z => hp.2 z.2.1⟩) hce hcv hcl ⟨Nat.le_of_ble_eq_true rfl, Nat.le_of_ble_eq_true rfl⟩
  have E : Ev g _ s.heap H locs (SF g q u σ) := Ev.nilr E
  have hB3 := hp
  refine lv_iload hx hb dX6_setCell_21 (lv_at hl 4 rfl) ?_
  refine lv_iconst (v := 0) hx hb dX6_setCell_23 (by decide) ?_
  refine lv_sipush (v := 5000) hx hb dX6_setCell_24 (by decide) ?_
  refine y_retv (yrunS (As := [.int p3, .int 0, .int 5000]) (rest := []) (n := 3) S hml hK (hZ.at E) (Cut.none E hA) (c_X6_requireRange l g hst p3 0 5000 _ _) ml_X6_36 st_X6_requireRange in_X6 co_X6_requireRange ⟨by decide +kernel, by decide +kernel, by decide +kernel⟩ ⟨Nat.le_of_ble_eq_true rfl, Nat.le_of_ble_eq_true rfl⟩ rfl hl.1 rfl (Nat.le_of_ble_eq_true rfl) dX6_setCell_27 ⟨Nat.le_of_ble_eq_true rfl, Nat.le_of_ble_eq_true rfl⟩) (Cut.none E hA) E (fun En ce q9 H locs hp E hce hcv hcl => ?_) (fun u4 H locs hp E => ?_)
  · exact y_out hex hlk hK (Ev.nilr E) rfl (Or.inr ⟨hp.1, hA1, fun z => hp.2 z.2.2⟩) hce hcv hcl ⟨Nat.le_of_ble_eq_true rfl, Nat.le_of_ble_eq_true rfl⟩
  have E : Ev g _ s.heap H locs (SF g q u σ) := Ev.nilr E
  have hB4 := hp
  refine lv_aload_n hx hb dX6_setCell_30 rfl (lv_at hl 0 rfl) ?_
  refine wg_X6_14 (v := .ref (q.2.2.2.1 0)) S hK E 0 rfl rfl dX6_setCell_31 ?_
  refine wg_X6_40 (v := .ref (q.2.2.2.1 1)) S hK E 1 rfl rfl dX6_setCell_34 ?_
  refine wg_X6_44 (v := .ref (q.2.2.2.1 10)) S hK E 2 rfl rfl dX6_setCell_37 ?_
  refine lv_iload_n hx hb dX6_setCell_40 rfl (lv_at hl 1 rfl) ?_
  refine w_ild (v := (gi σ 10 p0)) S hK E 11 0 rfl rfl (rg_in 15 (by decide) (by decide) (by decide) hA1) rfl dX6_setCell_41 ?_
  refine lv_istore (lv' := [(5, .int (gi σ 10 p0)), (0, .ref q.1), (1, .int p0), (2, .int p1), (3, .int p2), (4, .int p3)]) hx hb dX6_setCell_42 hl (by decide) rfl (fun ls hl => ?_)
  refine lv_aload_n hx hb dX6_setCell_44 rfl (lv_at hl 1 rfl) ?_
  refine w_new (ci := 1) (fs := [.int 0, .int 0, .int 0, .int 0, .int 0]) (C := RX1) (T := TX1) (N := 5) S hK E hA fw_X1 tyX1 tyX1_ok cl_X6_50 ib_X1 in_X1 rfl (fun j hj => by rcases (show j = 0 ∨ j = 1 ∨ j = 2 ∨ j = 3 ∨ j = 4 by omega) with rfl | rfl | rfl | rfl | rfl <;> rfl) (Nat.le_of_ble_eq_true rfl) (Nat.le_of_ble_eq_true rfl) dX6_setCell_45 (fun q5 H E => ?_)
  have E : Ev g _ s.heap H _ ((SF g q u σ) ++ [(q5, .inr (1, [.int 0, .int 0, .int 0, .int 0, .int 0]))]) := E
  refine lv_dup hx hb dX6_setCell_48 rfl ?_
  refine lv_iconst (v := 0) hx hb dX6_setCell_49 (by decide) ?_
  refine lv_iload_n hx hb dX6_setCell_50 rfl (lv_at hl 2 rfl) ?_
  refine lv_iload_n hx hb dX6_setCell_51 rfl (lv_at hl 3 rfl) ?_
  refine lv_iload_n hx hb dX6_setCell_52 rfl (lv_at hl 4 rfl) ?_
  refine lv_iload hx hb dX6_setCell_53 (lv_at hl 5 rfl) ?_
  refine w_retv (runI_X (As := [.int 0, .int p0, .int p1, .int p2, .int p3]) (rest := [.ref q5, .ref q.1]) (n := 5) S hml hK (hZ.at E) (Cut.app E hA) (c_X1_init l g q5 0 0 0 0 0 0 p0 p1 p2 p3 _ _) ml_X6_52 im_X1_init in_X1 co_X1_init rfl ⟨by decide +kernel, by decide +kernel, by decide +kernel⟩ ⟨Nat.le_of_ble_eq_true rfl, Nat.le_of_ble_eq_true rfl⟩ rfl hl.1 rfl (Nat.le_of_ble_eq_true rfl) dX6_setCell_55 ⟨Nat.le_of_ble_eq_true rfl, Nat.le_of_ble_eq_true rfl⟩) (Cut.app E hA) E (fun u6 H locs hp E => ?_)
  have E : Ev g _ s.heap H locs ((SF g q u σ) ++ [(q5, cE (0, p0, p1, p2, p3))]) := E
  have hv : okN (0, p0, p1, p2, p3) (cnt σ) M := ⟨hA1, hB2, hB3, hB4⟩
  obtain ⟨i1, -, -⟩ := inv_fo1 (lo := -1) hI hC hv
  obtain ⟨m1, m2⟩ := ek_room (σ := σ) i1.ev (Nat.le_trans i1.en (by decide))
  refine w_retv (runV_X (As := [.ref q5]) (rest := []) (q0 := 0) (n := 1) S hml hK (hZ.at E) (Cut.full E hA) (c_carryOutF l g q u σ q5 (0, p0, p1, p2, p3) hu hne hI hC hv _ _) (gi_wsV ml_X6_55 im_X6_carryOut sl_X6_carryOut in_X6 co_X6_carryOut) ⟨rfl, by decide +kernel, by decide +kernel, by decide +kernel⟩ ⟨Nat.le_of_ble_eq_true rfl, Nat.le_of_ble_eq_true rfl⟩ rfl rfl rfl hl.1 rfl (Nat.le_of_ble_eq_true rfl) dX6_setCell_58 ⟨Nat.le_of_ble_eq_true rfl, Nat.le_of_ble_eq_true rfl⟩) (Cut.full E hA) E (fun u9 H locs hnx E => ?_)
  have E : Ev g _ s.heap H locs (SW g q u9 (fo1 (-1) (0, p0, p1, p2, p3) σ)) := E
  refine lv_iload hx hb dX6_setCell_61 (lv_at hl 0 rfl) ?_
  exact vx_ret (x_iret u9 S hr hlk hsz htt hK E dX6_setCell_63 ⟨rfl, hnx⟩ rfl ⟨by show 1 + (eg (fo1 (-1) (0, p0, p1, p2, p3) σ) - eg σ + 2) ≤ eg (fo1 (-1) (0, p0, p1, p2, p3) σ) - eg σ + 3; omega, by show 5 + (2 * ec (fo1 (-1) (0, p0, p1, p2, p3) σ) - 2 * ec σ + 810) ≤ 2 * ec (fo1 (-1) (0, p0, p1, p2, p3) σ) - 2 * ec σ + 815; omega⟩ ⟨by show 1 + (eg (fo1 (-1) (0, p0, p1, p2, p3) σ) - eg σ + 2) ≤ 61; omega, by show 5 + (2 * ec (fo1 (-1) (0, p0, p1, p2, p3) σ) - 2 * ec σ + 810) ≤ 600005; omega⟩)

set_option maxHeartbeats 4000000 in
set_option maxRecDepth 100000 in
/-- setWish -/
theorem c_S_setWish (l : Launch) (g : Gm) (hst : l.stackTraces = false) (q : Fx) (u : SOB) (σ : Sg) (p0 : Int32) (p1 : Int32) {C M : Nat} (hu : OkU u) (hI : Inv C M σ) (hC : C + 1 ≤ 1000) : YXi (S := SOB) l g yX6_setWish cX6_setWish 4 .int ({ frames := 12, cells := 61, slots := 600005, locals := 1151 } : Room) [.ref q.1, .int p0, .int p1] (SW g q u σ) (fun r u' => r = gi σ 21 p0 ∧ Nx u (9, p0, p1, 0, 0) u') (fun u' => SW g q u' (fo1 (-1) (9, p0, p1, 0, 0) σ)) (kxS σ (fo1 (-1) (9, p0, p1, 0, 0) σ)) (SW g q u σ) (fun En => (En = "java/lang/IndexOutOfBoundsException" ∧ ¬ ixOK p0 (gs σ 4)) ∨ (En = "java/lang/IllegalArgumentException" ∧ ixOK p0 (gs σ 4) ∧ ¬ rgOK p1 0 99)) := by
  intro sz tt
  refine ofY RX6 rfl (by decide +kernel) (Nat.le_of_ble_eq_true rfl) (fun p e s m args below meth c hargs S hml hr hlk hex hsz htt hK hA hZ E ls hl => ?_)
  have hx := S.1
  have hb := S.2.1
  have hl : lv_has ls 4 [(0, .ref q.1), (1, .int p0), (2, .int p1)] := hl
  refine lv_aload_n hx hb dX6_setWish_0 rfl (lv_at hl 0 rfl) ?_
  refine lv_iload_n hx hb dX6_setWish_1 rfl (lv_at hl 1 rfl) ?_
  have E1 : Ev g _ s.heap _ _ ((DN g q u ++ u.2.2.2.2) ++ OX g q u.1 σ) := E.perm pm_w
  refine y_retv (yrunV (As := [.int p0]) (rest := []) (q0 := 0) (n := 1) S hml hK (hZ.at E) (Cut.app E1 hA) (c_X6_requireWell l g hst q u.1 σ p0 _ _) (gi_wsV ml_X6_103 im_X6_requireWell sl_X6_requireWell in_X6 co_X6_requireWell) ⟨rfl, by decide +kernel, by decide +kernel, by decide +kernel⟩ ⟨Nat.le_of_ble_eq_true rfl, Nat.le_of_ble_eq_true rfl⟩ rfl rfl rfl hl.1 rfl (Nat.le_of_ble_eq_true rfl) dX6_setWish_2 ⟨Nat.le_of_ble_eq_true rfl, Nat.le_of_ble_eq_true rfl⟩) (Cut.app E1 hA) E1 (fun En ce q9 H locs hp E hce hcv hcl => ?_) (fun u1 H locs hp E => ?_)
  · exact y_out hex hlk hK (show Ev g _ s.heap H locs ((SW g q u σ)) from E.perm pm_w.symm) rfl (Or.inl hp) hce hcv hcl ⟨Nat.le_of_ble_eq_true rfl, Nat.le_of_ble_eq_true rfl⟩
  have E : Ev g _ s.heap H locs ((SW g q u σ)) := E.perm pm_w.symm
  have hw1 := hp
  refine lv_iload_n hx hb dX6_setWish_5 rfl (lv_at hl 2 rfl) ?_
  refine lv_iconst (v := 0) hx hb dX6_setWish_6 (by decide) ?_
  refine lv_bipush (v := 99) hx hb dX6_setWish_7 (by decide) ?_
  refine y_retv (yrunS (As := [.int p1, .int 0, .int 99]) (rest := []) (n := 3) S hml hK (hZ.at E) (Cut.none E hA) (c_X6_requireRange l g hst p1 0 99 _ _) ml_X6_36 st_X6_requireRange in_X6 co_X6_requireRange ⟨by decide +kernel, by decide +kernel, by decide +kernel⟩ ⟨Nat.le_of_ble_eq_true rfl, Nat.le_of_ble_eq_true rfl⟩ rfl hl.1 rfl (Nat.le_of_ble_eq_true rfl) dX6_setWish_9 ⟨Nat.le_of_ble_eq_true rfl, Nat.le_of_ble_eq_true rfl⟩) (Cut.none E hA) E (fun En ce q9 H locs hp E hce hcv hcl => ?_) (fun u2 H locs hp E => ?_)
  · exact y_out hex hlk hK (Ev.nilr E) rfl (Or.inr ⟨hp.1, hw1, hp.2⟩) hce hcv hcl ⟨Nat.le_of_ble_eq_true rfl, Nat.le_of_ble_eq_true rfl⟩
  have E : Ev g _ s.heap H locs (SW g q u σ) := Ev.nilr E
  have hB2 := hp
  refine lv_aload_n hx hb dX6_setWish_12 rfl (lv_at hl 0 rfl) ?_
  refine wg_X6_14 (v := .ref (q.2.2.2.1 0)) S hK E 0 rfl rfl dX6_setWish_13 ?_
  refine wg_X6_87 (v := .ref (q.2.2.2.1 3)) S hK E 1 rfl rfl dX6_setWish_16 ?_
  refine wg_X6_107 (v := .ref (q.2.2.2.1 21)) S hK E 4 rfl rfl dX6_setWish_19 ?_
  refine lv_iload_n hx hb dX6_setWish_22 rfl (lv_at hl 1 rfl) ?_
  refine w_ild (v := (gi σ 21 p0)) S hK E 22 0 rfl rfl (ix_in6 hI.wf hw1) rfl dX6_setWish_23 ?_
  refine lv_istore_n (lv' := [(3, .int (gi σ 21 p0)), (0, .ref q.1), (1, .int p0), (2, .int p1)]) hx hb dX6_setWish_24 rfl hl (by decide) rfl (fun ls hl => ?_)
  refine lv_aload_n hx hb dX6_setWish_25 rfl (lv_at hl 1 rfl) ?_
  refine w_new (ci := 1) (fs := [.int 0, .int 0, .int 0, .int 0, .int 0]) (C := RX1) (T := TX1) (N := 5) S hK E hA fw_X1 tyX1 tyX1_ok cl_X6_50 ib_X1 in_X1 rfl (fun j hj => by rcases (show j = 0 ∨ j = 1 ∨ j = 2 ∨ j = 3 ∨ j = 4 by omega) with rfl | rfl | rfl | rfl | rfl <;> rfl) (Nat.le_of_ble_eq_true rfl) (Nat.le_of_ble_eq_true rfl) dX6_setWish_26 (fun q3 H E => ?_)
  have E : Ev g _ s.heap H _ ((SW g q u σ) ++ [(q3, .inr (1, [.int 0, .int 0, .int 0, .int 0, .int 0]))]) := E
  refine lv_dup hx hb dX6_setWish_29 rfl ?_
  refine lv_bipush (v := 9) hx hb dX6_setWish_30 (by decide) ?_
  refine lv_iload_n hx hb dX6_setWish_32 rfl (lv_at hl 2 rfl) ?_
  refine lv_iload_n hx hb dX6_setWish_33 rfl (lv_at hl 3 rfl) ?_
  refine lv_iconst (v := 0) hx hb dX6_setWish_34 (by decide) ?_
  refine lv_iconst (v := 0) hx hb dX6_setWish_35 (by decide) ?_
  refine w_retv (runI_X (As := [.int 9, .int p0, .int p1, .int 0, .int 0]) (rest := [.ref q3, .ref q.1]) (n := 5) S hml hK (hZ.at E) (Cut.app E hA) (c_X1_init l g q3 0 0 0 0 0 9 p0 p1 0 0 _ _) ml_X6_52 im_X1_init in_X1 co_X1_init rfl ⟨by decide +kernel, by decide +kernel, by decide +kernel⟩ ⟨Nat.le_of_ble_eq_true rfl, Nat.le_of_ble_eq_true rfl⟩ rfl hl.1 rfl (Nat.le_of_ble_eq_true rfl) dX6_setWish_36 ⟨Nat.le_of_ble_eq_true rfl, Nat.le_of_ble_eq_true rfl⟩) (Cut.app E hA) E (fun u4 H locs hp E => ?_)
  have E : Ev g _ s.heap H locs ((SW g q u σ) ++ [(q3, cE (9, p0, p1, 0, 0))]) := E
  have hv : okN (9, p0, p1, 0, 0) (cnt σ) M := ⟨by rw [← hI.wf.n]; exact hw1, hB2⟩
  obtain ⟨i1, -, -⟩ := inv_fo1 (lo := -1) hI hC hv
  obtain ⟨m1, m2⟩ := ek_room (σ := σ) i1.ev (Nat.le_trans i1.en (by decide))
  refine w_retv (runV_X (As := [.ref q3]) (rest := []) (q0 := 0) (n := 1) S hml hK (hZ.at E) (Cut.full E hA) (c_carryOut l g q u σ q3 (9, p0, p1, 0, 0) hu hI hC hv _ _) (gi_wsV ml_X6_55 im_X6_carryOut sl_X6_carryOut in_X6 co_X6_carryOut) ⟨rfl, by decide +kernel, by decide +kernel, by decide +kernel⟩ ⟨Nat.le_of_ble_eq_true rfl, Nat.le_of_ble_eq_true rfl⟩ rfl rfl rfl hl.1 rfl (Nat.le_of_ble_eq_true rfl) dX6_setWish_39 ⟨Nat.le_of_ble_eq_true rfl, Nat.le_of_ble_eq_true rfl⟩) (Cut.full E hA) E (fun u9 H locs hnx E => ?_)
  have E : Ev g _ s.heap H locs (SW g q u9 (fo1 (-1) (9, p0, p1, 0, 0) σ)) := E
  refine lv_iload_n hx hb dX6_setWish_42 rfl (lv_at hl 0 rfl) ?_
  exact vx_ret (x_iret u9 S hr hlk hsz htt hK E dX6_setWish_43 ⟨rfl, hnx⟩ rfl ⟨by show 1 + (eg (fo1 (-1) (9, p0, p1, 0, 0) σ) - eg σ + 2) ≤ eg (fo1 (-1) (9, p0, p1, 0, 0) σ) - eg σ + 3; omega, by show 5 + (2 * ec (fo1 (-1) (9, p0, p1, 0, 0) σ) - 2 * ec σ + 810) ≤ 2 * ec (fo1 (-1) (9, p0, p1, 0, 0) σ) - 2 * ec σ + 815; omega⟩ ⟨by show 1 + (eg (fo1 (-1) (9, p0, p1, 0, 0) σ) - eg σ + 2) ≤ 61; omega, by show 5 + (2 * ec (fo1 (-1) (9, p0, p1, 0, 0) σ) - 2 * ec σ + 810) ≤ 600005; omega⟩)

set_option maxHeartbeats 4000000 in
set_option maxRecDepth 100000 in
/-- transfer -/
theorem c_S_transfer (l : Launch) (g : Gm) (hst : l.stackTraces = false) (q : Fx) (u : SOB) (σ : Sg) (p0 : Int32) (p1 : Int32) (p2 : Int32) {C M : Nat} (hu : OkU u) (hI : Inv C M σ) (hC : C + 1 ≤ 1000) : YXi (S := SOB) l g yX6_transfer cX6_transfer 4 .int ({ frames := 12, cells := 61, slots := 600005, locals := 1151 } : Room) [.ref q.1, .int p0, .int p1, .int p2] (SW g q u σ) (fun r u' => r = gi (fo1 (-1) (10, p0, p1, p2, 0) σ) 20 p0 ∧ Nx u (10, p0, p1, p2, 0) u') (fun u' => SW g q u' (fo1 (-1) (10, p0, p1, p2, 0) σ)) (kxS σ (fo1 (-1) (10, p0, p1, p2, 0) σ)) (SW g q u σ) (fun En => (En = "java/lang/IndexOutOfBoundsException" ∧ ¬ (ixOK p0 (gs σ 4) ∧ ixOK p1 (gs σ 4))) ∨ (En = "java/lang/IllegalArgumentException" ∧ (ixOK p0 (gs σ 4) ∧ ixOK p1 (gs σ 4)) ∧ ¬ rgOK p2 1 999) ∨ (En = "java/lang/UnsupportedOperationException" ∧ (ixOK p0 (gs σ 4) ∧ ixOK p1 (gs σ 4)) ∧ rgOK p2 1 999 ∧ f_X4_canGive σ p0 p1 p2 = 0)) := by
  intro sz tt
  refine ofY RX6 rfl (by decide +kernel) (Nat.le_of_ble_eq_true rfl) (fun p e s m args below meth c hargs S hml hr hlk hex hsz htt hK hA hZ E ls hl => ?_)
  have hx := S.1
  have hb := S.2.1
  have hl : lv_has ls 4 [(0, .ref q.1), (1, .int p0), (2, .int p1), (3, .int p2)] := hl
  refine lv_aload_n hx hb dX6_transfer_0 rfl (lv_at hl 0 rfl) ?_
  refine lv_iload_n hx hb dX6_transfer_1 rfl (lv_at hl 1 rfl) ?_
  have E1 : Ev g _ s.heap _ _ ((DN g q u ++ u.2.2.2.2) ++ OX g q u.1 σ) := E.perm pm_w
  refine y_retv (yrunV (As := [.int p0]) (rest := []) (q0 := 0) (n := 1) S hml hK (hZ.at E) (Cut.app E1 hA) (c_X6_requireWell l g hst q u.1 σ p0 _ _) (gi_wsV ml_X6_103 im_X6_requireWell sl_X6_requireWell in_X6 co_X6_requireWell) ⟨rfl, by decide +kernel, by decide +kernel, by decide +kernel⟩ ⟨Nat.le_of_ble_eq_true rfl, Nat.le_of_ble_eq_true rfl⟩ rfl rfl rfl hl.1 rfl (Nat.le_of_ble_eq_true rfl) dX6_transfer_2 ⟨Nat.le_of_ble_eq_true rfl, Nat.le_of_ble_eq_true rfl⟩) (Cut.app E1 hA) E1 (fun En ce q9 H locs hp E hce hcv hcl => ?_) (fun u1 H locs hp E => ?_)
  · exact y_out hex hlk hK (show Ev g _ s.heap H locs ((SW g q u σ)) from E.perm pm_w.symm) rfl (Or.inl ⟨hp.1, fun z => hp.2 z.1⟩) hce hcv hcl ⟨Nat.le_of_ble_eq_true rfl, Nat.le_of_ble_eq_true rfl⟩
  have E : Ev g _ s.heap H locs ((SW g q u σ)) := E.perm pm_w.symm
  have hw1 := hp
  refine lv_aload_n hx hb dX6_transfer_5 rfl (lv_at hl 0 rfl) ?_
  refine lv_iload_n hx hb dX6_transfer_6 rfl (lv_at hl 2 rfl) ?_
  have E1 : Ev g _ s.heap _ _ ((DN g q u ++ u.2.2.2.2) ++ OX g q u.1 σ) := E.perm pm_w
  refine y_retv (yrunV (As := [.int p1]) (rest := []) (q0 := 0) (n := 1) S hml hK (hZ.at E) (Cut.app E1 hA) (c_X6_requireWell l g hst q u.1 σ p1 _ _) (gi_wsV ml_X6_103 im_X6_requireWell sl_X6_requireWell in_X6 co_X6_requireWell) ⟨rfl, by decide +kernel, by decide +kernel, by decide +kernel⟩ ⟨Nat.le_of_ble_eq_true rfl, Nat.le_of_ble_eq_true rfl⟩ rfl rfl rfl hl.1 rfl (Nat.le_of_ble_eq_true rfl) dX6_transfer_7 ⟨Nat.le_of_ble_eq_true rfl, Nat.le_of_ble_eq_true rfl⟩) (Cut.app E1 hA) E1 (fun En ce q9 H locs hp E hce hcv hcl => ?_) (fun u2 H locs hp E => ?_)
  · exact y_out hex hlk hK (show Ev g _ s.heap H locs ((SW g q u σ)) from E.perm pm_w.symm) rfl (Or.inl ⟨hp.1, fun z => hp.2 z.2⟩) hce hcv hcl ⟨Nat.le_of_ble_eq_true rfl, Nat.le_of_ble_eq_true rfl⟩
  have E : Ev g _ s.heap H locs ((SW g q u σ)) := E.perm pm_w.symm
  have hw2 := hp
  refine lv_iload_n hx hb dX6_transfer_10 rfl (lv_at hl 3 rfl) ?_
  refine lv_iconst (v := 1) hx hb dX6_transfer_11 (by decide) ?_
  refine lv_sipush (v := 999) hx hb dX6_transfer_12 (by decide) ?_
  refine y_retv (yrunS (As := [.int p2, .int 1, .int 999]) (rest := []) (n := 3) S hml hK (hZ.at E) (Cut.none E hA) (c_X6_requireRange l g hst p2 1 999 _ _) ml_X6_36 st_X6_requireRange in_X6 co_X6_requireRange ⟨by decide +kernel, by decide +kernel, by decide +kernel⟩ ⟨Nat.le_of_ble_eq_true rfl, Nat.le_of_ble_eq_true rfl⟩ rfl hl.1 rfl (Nat.le_of_ble_eq_true rfl) dX6_transfer_15 ⟨Nat.le_of_ble_eq_true rfl, Nat.le_of_ble_eq_true rfl⟩) (Cut.none E hA) E (fun En ce q9 H locs hp E hce hcv hcl => ?_) (fun u3 H locs hp E => ?_)
  · exact y_out hex hlk hK (Ev.nilr E) rfl (Or.inr (Or.inl ⟨hp.1, ⟨hw1, hw2⟩, hp.2⟩)) hce hcv hcl ⟨Nat.le_of_ble_eq_true rfl, Nat.le_of_ble_eq_true rfl⟩
  have E : Ev g _ s.heap H locs (SW g q u σ) := Ev.nilr E
  have hB3 := hp
  refine lv_aload_n hx hb dX6_transfer_18 rfl (lv_at hl 0 rfl) ?_
  refine wg_X6_14 (v := .ref (q.2.2.2.1 0)) S hK E 0 rfl rfl dX6_transfer_19 ?_
  refine wg_X6_87 (v := .ref (q.2.2.2.1 3)) S hK E 1 rfl rfl dX6_transfer_22 ?_
  refine lv_iload_n hx hb dX6_transfer_25 rfl (lv_at hl 1 rfl) ?_
  refine lv_iload_n hx hb dX6_transfer_26 rfl (lv_at hl 2 rfl) ?_
  refine lv_iload_n hx hb dX6_transfer_27 rfl (lv_at hl 3 rfl) ?_
  have E1 : Ev g _ s.heap _ _ (([(q.1, .inr (6, [.ref (q.2.2.2.1 0), .ref (q.2.2.2.2.1 0), .ref q.2.1, .ref q.2.2.1]))] ++ (DN g q u ++ u.2.2.2.2)) ++ wsW g q.2.2.2.1 (-1) 1 0 u.1 σ) := E.perm pm_w2
  refine w_reti (runV_X (As := [.int p0, .int p1, .int p2]) (rest := []) (q0 := 3) (n := 3) S hml hK (hZ.at E) (Cut.app E1 hA) (c_X4_canGive l g q.2.2.2.1 (-1) 1 0 u.1 σ p0 p1 p2 (ix_in6 hI.wf hw1) (ix_in6 hI.wf hw2) _ _) (gi_wsV ml_X6_110 im_X4_canGive sl_X4_canGive in_X4 co_X4_canGive) ⟨rfl, by decide +kernel, by decide +kernel, by decide +kernel⟩ ⟨Nat.le_of_ble_eq_true rfl, Nat.le_of_ble_eq_true rfl⟩ rfl rfl rfl hl.1 rfl (Nat.le_of_ble_eq_true rfl) dX6_transfer_28 ⟨Nat.le_of_ble_eq_true rfl, Nat.le_of_ble_eq_true rfl⟩) (Cut.app E1 hA) E1 (fun r4 u4 H locs hp E => ?_)
  obtain ⟨hr, hu1⟩ := hp
  have hu2 := hu1.symm
  subst hu2
  subst hr
  have E : Ev g _ s.heap H locs ((SW g q u σ)) := E.perm pm_w2.symm
  refine lv_if_ne (tgt := 44) hx hb dX6_transfer_31 (by decide) (fun c5 => ?_) (fun c5 => ?_)
  · have c5 : ¬ ((f_X4_canGive σ p0 p1 p2) = 0) := c5
    refine lv_aload_n hx hb dX6_transfer_44 rfl (lv_at hl 0 rfl) ?_
    refine w_new (ci := 1) (fs := [.int 0, .int 0, .int 0, .int 0, .int 0]) (C := RX1) (T := TX1) (N := 5) S hK E hA fw_X1 tyX1 tyX1_ok cl_X6_50 ib_X1 in_X1 rfl (fun j hj => by rcases (show j = 0 ∨ j = 1 ∨ j = 2 ∨ j = 3 ∨ j = 4 by omega) with rfl | rfl | rfl | rfl | rfl <;> rfl) (Nat.le_of_ble_eq_true rfl) (Nat.le_of_ble_eq_true rfl) dX6_transfer_45 (fun q6 H E => ?_)
    have E : Ev g _ s.heap H _ ((SW g q u σ) ++ [(q6, .inr (1, [.int 0, .int 0, .int 0, .int 0, .int 0]))]) := E
    refine lv_dup hx hb dX6_transfer_48 rfl ?_
    refine lv_bipush (v := 10) hx hb dX6_transfer_49 (by decide) ?_
    refine lv_iload_n hx hb dX6_transfer_51 rfl (lv_at hl 1 rfl) ?_
    refine lv_iload_n hx hb dX6_transfer_52 rfl (lv_at hl 2 rfl) ?_
    refine lv_iload_n hx hb dX6_transfer_53 rfl (lv_at hl 3 rfl) ?_
    refine lv_iconst (v := 0) hx hb dX6_transfer_54 (by decide) ?_
    refine w_retv (runI_X (As := [.int 10, .int p0, .int p1, .int p2, .int 0]) (rest := [.ref q6, .ref q.1]) (n := 5) S hml hK (hZ.at E) (Cut.app E hA) (c_X1_init l g q6 0 0 0 0 0 10 p0 p1 p2 0 _ _) ml_X6_52 im_X1_init in_X1 co_X1_init rfl ⟨by decide +kernel, by decide +kernel, by decide +kernel⟩ ⟨Nat.le_of_ble_eq_true rfl, Nat.le_of_ble_eq_true rfl⟩ rfl hl.1 rfl (Nat.le_of_ble_eq_true rfl) dX6_transfer_55 ⟨Nat.le_of_ble_eq_true rfl, Nat.le_of_ble_eq_true rfl⟩) (Cut.app E hA) E (fun u7 H locs hp E => ?_)
    have E : Ev g _ s.heap H locs ((SW g q u σ) ++ [(q6, cE (10, p0, p1, p2, 0))]) := E
    have hv : okN (10, p0, p1, p2, 0) (cnt σ) M := ⟨by rw [← hI.wf.n]; exact hw1, by rw [← hI.wf.n]; exact hw2, hB3⟩
    obtain ⟨i1, -, -⟩ := inv_fo1 (lo := -1) hI hC hv
    obtain ⟨m1, m2⟩ := ek_room (σ := σ) i1.ev (Nat.le_trans i1.en (by decide))
    refine w_retv (runV_X (As := [.ref q6]) (rest := []) (q0 := 0) (n := 1) S hml hK (hZ.at E) (Cut.full E hA) (c_carryOut l g q u σ q6 (10, p0, p1, p2, 0) hu hI hC hv _ _) (gi_wsV ml_X6_55 im_X6_carryOut sl_X6_carryOut in_X6 co_X6_carryOut) ⟨rfl, by decide +kernel, by decide +kernel, by decide +kernel⟩ ⟨Nat.le_of_ble_eq_true rfl, Nat.le_of_ble_eq_true rfl⟩ rfl rfl rfl hl.1 rfl (Nat.le_of_ble_eq_true rfl) dX6_transfer_58 ⟨Nat.le_of_ble_eq_true rfl, Nat.le_of_ble_eq_true rfl⟩) (Cut.full E hA) E (fun u9 H locs hnx E => ?_)
    have E : Ev g _ s.heap H locs (SW g q u9 (fo1 (-1) (10, p0, p1, p2, 0) σ)) := E
    refine lv_aload_n hx hb dX6_transfer_61 rfl (lv_at hl 0 rfl) ?_
    refine wg_X6_14 (v := .ref (q.2.2.2.1 0)) S hK E 0 rfl rfl dX6_transfer_62 ?_
    refine wg_X6_87 (v := .ref (q.2.2.2.1 3)) S hK E 1 rfl rfl dX6_transfer_65 ?_
    refine wg_X6_119 (v := .ref (q.2.2.2.1 20)) S hK E 4 rfl rfl dX6_transfer_68 ?_
    refine lv_iload_n hx hb dX6_transfer_71 rfl (lv_at hl 1 rfl) ?_
    refine w_ild (v := (gi (fo1 (-1) (10, p0, p1, p2, 0) σ) 20 p0)) S hK E 21 0 rfl rfl (ix_in6 hI.wf hw1) rfl dX6_transfer_72 ?_
    exact vx_ret (x_iret u9 S hr hlk hsz htt hK E dX6_transfer_73 ⟨rfl, hnx⟩ rfl ⟨by show 1 + (eg (fo1 (-1) (10, p0, p1, p2, 0) σ) - eg σ + 2) ≤ eg (fo1 (-1) (10, p0, p1, p2, 0) σ) - eg σ + 3; omega, by show 5 + (2 * ec (fo1 (-1) (10, p0, p1, p2, 0) σ) - 2 * ec σ + 810) ≤ 2 * ec (fo1 (-1) (10, p0, p1, p2, 0) σ) - 2 * ec σ + 815; omega⟩ ⟨by show 1 + (eg (fo1 (-1) (10, p0, p1, p2, 0) σ) - eg σ + 2) ≤ 61; omega, by show 5 + (2 * ec (fo1 (-1) (10, p0, p1, p2, 0) σ) - 2 * ec σ + 810) ≤ 600005; omega⟩)
  · have c5 : (f_X4_canGive σ p0 p1 p2) = 0 := c5
    exact y_throw (text := "this transfer is not possible") (names := ["java/lang/RuntimeException", "java/lang/Exception"]) S hst hml hl hex hlk hK hZ E rfl (Or.inr (Or.inr ⟨rfl, ⟨hw1, hw2⟩, hB3, c5⟩)) (by decide +kernel) (by decide +kernel) cl_X6_114 in__java_lang_UnsupportedOperationException (by decide +kernel) at_uoe dX6_transfer_34 dX6_transfer_37 dX6_transfer_38 dX6_transfer_40 dX6_transfer_43 (Nat.le_of_ble_eq_true rfl) (Nat.le_of_ble_eq_true rfl) ⟨Nat.le_of_ble_eq_true rfl, Nat.le_of_ble_eq_true rfl⟩ ⟨Nat.le_of_ble_eq_true rfl, Nat.le_of_ble_eq_true rfl⟩

set_option maxHeartbeats 4000000 in
set_option maxRecDepth 100000 in
/-- pass -/
theorem c_S_pass (l : Launch) (g : Gm) (hst : l.stackTraces = false) (q : Fx) (u : SOB) (σ : Sg) (mm : Nat) {C M : Nat} (hu : OkU u) (hI : Inv C M σ) (hC : C + 1 ≤ 1000) (hm1 : 1 ≤ mm) (hm2 : mm ≤ 24) : YXi (S := SOB) l g yX6_pass cX6_pass 2 .int ({ frames := 12, cells := 61, slots := 600005, locals := 1151 } : Room) [.ref q.1, .int (nI mm)] (SW g q u σ) (fun r u' => r = gs (fo1 (-1) (11, (nI mm), 0, 0, 0) σ) 0 ∧ Nx u (11, (nI mm), 0, 0, 0) u') (fun u' => SW g q u' (fo1 (-1) (11, (nI mm), 0, 0, 0) σ)) (kxS σ (fo1 (-1) (11, (nI mm), 0, 0, 0) σ)) (SW g q u σ) (fun En => (En = "java/lang/IllegalArgumentException" ∧ ¬ rgOK (nI mm) 1 24) ∨ (En = "java/lang/ArithmeticException" ∧ ¬ gs σ 0 + nI mm ≤ 600)) := by
  intro sz tt
  refine ofY RX6 rfl (by decide +kernel) (Nat.le_of_ble_eq_true rfl) (fun p e s m args below meth c hargs S hml hr hlk hex hsz htt hK hA hZ E ls hl => ?_)
  have hx := S.1
  have hb := S.2.1
  have hl : lv_has ls 2 [(0, .ref q.1), (1, .int (nI mm))] := hl
  refine lv_iload_n hx hb dX6_pass_0 rfl (lv_at hl 1 rfl) ?_
  refine lv_iconst (v := 1) hx hb dX6_pass_1 (by decide) ?_
  refine lv_bipush (v := 24) hx hb dX6_pass_2 (by decide) ?_
  refine y_retv (yrunS (As := [.int (nI mm), .int 1, .int 24]) (rest := []) (n := 3) S hml hK (hZ.at E) (Cut.none E hA) (c_X6_requireRange l g hst (nI mm) 1 24 _ _) ml_X6_36 st_X6_requireRange in_X6 co_X6_requireRange ⟨by decide +kernel, by decide +kernel, by decide +kernel⟩ ⟨Nat.le_of_ble_eq_true rfl, Nat.le_of_ble_eq_true rfl⟩ rfl hl.1 rfl (Nat.le_of_ble_eq_true rfl) dX6_pass_4 ⟨Nat.le_of_ble_eq_true rfl, Nat.le_of_ble_eq_true rfl⟩) (Cut.none E hA) E (fun En ce q9 H locs hp E hce hcv hcl => ?_) (fun u1 H locs hp E => ?_)
  · exact y_out hex hlk hK (Ev.nilr E) rfl (Or.inl hp) hce hcv hcl ⟨Nat.le_of_ble_eq_true rfl, Nat.le_of_ble_eq_true rfl⟩
  have E : Ev g _ s.heap H locs (SW g q u σ) := Ev.nilr E
  have hB1 := hp
  refine lv_aload_n hx hb dX6_pass_7 rfl (lv_at hl 0 rfl) ?_
  refine wg_X6_14 (v := .ref (q.2.2.2.1 0)) S hK E 0 rfl rfl dX6_pass_8 ?_
  refine wg_X6_122 (v := .int (gs σ 0)) S hK E 1 rfl rfl dX6_pass_11 ?_
  refine lv_iload_n hx hb dX6_pass_14 rfl (lv_at hl 1 rfl) ?_
  refine k_iadd (v := ((gs σ 0) + (nI mm))) hx hb rfl dX6_pass_15 ?_
  refine lv_sipush (v := 600) hx hb dX6_pass_16 (by decide) ?_
  refine lv_icmp_le (tgt := 32) hx hb dX6_pass_19 (by decide) (fun c2 => ?_) (fun c2 => ?_)
  · have c2 : ((gs σ 0) + (nI mm)) ≤ 600 := c2
    refine lv_aload_n hx hb dX6_pass_32 rfl (lv_at hl 0 rfl) ?_
    refine w_new (ci := 1) (fs := [.int 0, .int 0, .int 0, .int 0, .int 0]) (C := RX1) (T := TX1) (N := 5) S hK E hA fw_X1 tyX1 tyX1_ok cl_X6_50 ib_X1 in_X1 rfl (fun j hj => by rcases (show j = 0 ∨ j = 1 ∨ j = 2 ∨ j = 3 ∨ j = 4 by omega) with rfl | rfl | rfl | rfl | rfl <;> rfl) (Nat.le_of_ble_eq_true rfl) (Nat.le_of_ble_eq_true rfl) dX6_pass_33 (fun q3 H E => ?_)
    have E : Ev g _ s.heap H _ ((SW g q u σ) ++ [(q3, .inr (1, [.int 0, .int 0, .int 0, .int 0, .int 0]))]) := E
    refine lv_dup hx hb dX6_pass_36 rfl ?_
    refine lv_bipush (v := 11) hx hb dX6_pass_37 (by decide) ?_
    refine lv_iload_n hx hb dX6_pass_39 rfl (lv_at hl 1 rfl) ?_
    refine lv_iconst (v := 0) hx hb dX6_pass_40 (by decide) ?_
    refine lv_iconst (v := 0) hx hb dX6_pass_41 (by decide) ?_
    refine lv_iconst (v := 0) hx hb dX6_pass_42 (by decide) ?_
    refine w_retv (runI_X (As := [.int 11, .int (nI mm), .int 0, .int 0, .int 0]) (rest := [.ref q3, .ref q.1]) (n := 5) S hml hK (hZ.at E) (Cut.app E hA) (c_X1_init l g q3 0 0 0 0 0 11 (nI mm) 0 0 0 _ _) ml_X6_52 im_X1_init in_X1 co_X1_init rfl ⟨by decide +kernel, by decide +kernel, by decide +kernel⟩ ⟨Nat.le_of_ble_eq_true rfl, Nat.le_of_ble_eq_true rfl⟩ rfl hl.1 rfl (Nat.le_of_ble_eq_true rfl) dX6_pass_43 ⟨Nat.le_of_ble_eq_true rfl, Nat.le_of_ble_eq_true rfl⟩) (Cut.app E hA) E (fun u4 H locs hp E => ?_)
    have E : Ev g _ s.heap H locs ((SW g q u σ) ++ [(q3, cE (11, (nI mm), 0, 0, 0))]) := E
    have hv : okN (11, (nI mm), 0, 0, 0) (cnt σ) M := ⟨mm, rfl, hm1, hm2, le600 hI.2.1 hI.2.2.2.2 hm2 c2⟩
    obtain ⟨i1, -, -⟩ := inv_fo1 (lo := -1) hI hC hv
    obtain ⟨m1, m2⟩ := ek_room (σ := σ) i1.ev (Nat.le_trans i1.en (by decide))
    refine w_retv (runV_X (As := [.ref q3]) (rest := []) (q0 := 0) (n := 1) S hml hK (hZ.at E) (Cut.full E hA) (c_carryOut l g q u σ q3 (11, (nI mm), 0, 0, 0) hu hI hC hv _ _) (gi_wsV ml_X6_55 im_X6_carryOut sl_X6_carryOut in_X6 co_X6_carryOut) ⟨rfl, by decide +kernel, by decide +kernel, by decide +kernel⟩ ⟨Nat.le_of_ble_eq_true rfl, Nat.le_of_ble_eq_true rfl⟩ rfl rfl rfl hl.1 rfl (Nat.le_of_ble_eq_true rfl) dX6_pass_46 ⟨Nat.le_of_ble_eq_true rfl, Nat.le_of_ble_eq_true rfl⟩) (Cut.full E hA) E (fun u9 H locs hnx E => ?_)
    have E : Ev g _ s.heap H locs (SW g q u9 (fo1 (-1) (11, (nI mm), 0, 0, 0) σ)) := E
    refine lv_aload_n hx hb dX6_pass_49 rfl (lv_at hl 0 rfl) ?_
    refine wg_X6_14 (v := .ref (q.2.2.2.1 0)) S hK E 0 rfl rfl dX6_pass_50 ?_
    refine wg_X6_122 (v := .int (gs (fo1 (-1) (11, (nI mm), 0, 0, 0) σ) 0)) S hK E 1 rfl rfl dX6_pass_53 ?_
    exact vx_ret (x_iret u9 S hr hlk hsz htt hK E dX6_pass_56 ⟨rfl, hnx⟩ rfl ⟨by show 1 + (eg (fo1 (-1) (11, (nI mm), 0, 0, 0) σ) - eg σ + 2) ≤ eg (fo1 (-1) (11, (nI mm), 0, 0, 0) σ) - eg σ + 3; omega, by show 5 + (2 * ec (fo1 (-1) (11, (nI mm), 0, 0, 0) σ) - 2 * ec σ + 810) ≤ 2 * ec (fo1 (-1) (11, (nI mm), 0, 0, 0) σ) - 2 * ec σ + 815; omega⟩ ⟨by show 1 + (eg (fo1 (-1) (11, (nI mm), 0, 0, 0) σ) - eg σ + 2) ≤ 61; omega, by show 5 + (2 * ec (fo1 (-1) (11, (nI mm), 0, 0, 0) σ) - 2 * ec σ + 810) ≤ 600005; omega⟩)
  · have c2 : ¬ (((gs σ 0) + (nI mm)) ≤ 600) := c2
    exact y_throw (text := "so late a month is not counted") (names := ["java/lang/RuntimeException", "java/lang/Exception"]) S hst hml hl hex hlk hK hZ E rfl (Or.inr ⟨rfl, c2⟩) (by decide +kernel) (by decide +kernel) cl_X6_125 in__java_lang_ArithmeticException (by decide +kernel) at_ae dX6_pass_22 dX6_pass_25 dX6_pass_26 dX6_pass_28 dX6_pass_31 (Nat.le_of_ble_eq_true rfl) (Nat.le_of_ble_eq_true rfl) ⟨Nat.le_of_ble_eq_true rfl, Nat.le_of_ble_eq_true rfl⟩ ⟨Nat.le_of_ble_eq_true rfl, Nat.le_of_ble_eq_true rfl⟩

set_option maxHeartbeats 4000000 in
set_option maxRecDepth 100000 in
/-- addWell, where there is no room -/
theorem c_SN_addWell (l : Launch) (g : Gm) (hst : l.stackTraces = false) (q : Fx) (ea : Nat) (σ : Sg) (p0 : Int32) (p1 : Int32) (p2 : Int32) (hN : ¬ gs σ 4 < 6) : YXi (S := Unit) l g yX6_addWell cX6_addWell 5 .int ({ frames := 7, cells := 1, slots := 6, locals := 104 } : Room) [.ref q.1, .int p0, .int p1, .int p2] (OX g q ea σ) (fun _ _ => False) (fun _ => OX g q ea σ) (fun _ => (0, 0)) (OX g q ea σ) (fun En => (En = "java/lang/IndexOutOfBoundsException" ∧ ¬ rgOK p0 0 15) ∨ (En = "java/lang/IllegalArgumentException" ∧ rgOK p0 0 15 ∧ ¬ (rgOK p1 0 9999 ∧ rgOK p2 0 999)) ∨ (En = "java/lang/IllegalStateException" ∧ rgOK p0 0 15 ∧ (rgOK p1 0 9999 ∧ rgOK p2 0 999) ∧ ¬ gs σ 4 < 6)) := by
  intro sz tt
  refine ofY RX6 rfl (by decide +kernel) (Nat.le_of_ble_eq_true rfl) (fun p e s m args below meth c hargs S hml hr hlk hex hsz htt hK hA hZ E ls hl => ?_)
  have hx := S.1
  have hb := S.2.1
  have hl : lv_has ls 5 [(0, .ref q.1), (1, .int p0), (2, .int p1), (3, .int p2)] := hl
  refine lv_iload_n hx hb dX6_addWell_0 rfl (lv_at hl 1 rfl) ?_
  refine lv_bipush (v := 16) hx hb dX6_addWell_1 (by decide) ?_
  refine y_retv (yrunS (As := [.int p0, .int 16]) (rest := []) (n := 2) S hml hK (hZ.at E) (Cut.none E hA) (c_X6_requireIndex l g hst p0 16 _ _) ml_X6_32 st_X6_requireIndex in_X6 co_X6_requireIndex ⟨by decide +kernel, by decide +kernel, by decide +kernel⟩ ⟨Nat.le_of_ble_eq_true rfl, Nat.le_of_ble_eq_true rfl⟩ rfl hl.1 rfl (Nat.le_of_ble_eq_true rfl) dX6_addWell_3 ⟨Nat.le_of_ble_eq_true rfl, Nat.le_of_ble_eq_true rfl⟩) (Cut.none E hA) E (fun En ce q9 H locs hp E hce hcv hcl => ?_) (fun u1 H locs hp E => ?_)
  · exact y_out hex hlk hK (Ev.nilr E) rfl (Or.inl ⟨hp.1, fun z => hp.2 (ix16.mpr z)⟩) hce hcv hcl ⟨Nat.le_of_ble_eq_true rfl, Nat.le_of_ble_eq_true rfl⟩
  have E : Ev g _ s.heap H locs (OX g q ea σ) := Ev.nilr E
  have hA1 := ix16.mp hp
  refine lv_iload_n hx hb dX6_addWell_6 rfl (lv_at hl 2 rfl) ?_
  refine lv_iconst (v := 0) hx hb dX6_addWell_7 (by decide) ?_
  refine lv_sipush (v := 9999) hx hb dX6_addWell_8 (by decide) ?_
  refine y_retv (yrunS (As := [.int p1, .int 0, .int 9999]) (rest := []) (n := 3) S hml hK (hZ.at E) (Cut.none E hA) (c_X6_requireRange l g hst p1 0 9999 _ _) ml_X6_36 st_X6_requireRange in_X6 co_X6_requireRange ⟨by decide +kernel, by decide +kernel, by decide +kernel⟩ ⟨Nat.le_of_ble_eq_true rfl, Nat.le_of_ble_eq_true rfl⟩ rfl hl.1 rfl (Nat.le_of_ble_eq_true rfl) dX6_addWell_11 ⟨Nat.le_of_ble_eq_true rfl, Nat.le_of_ble_eq_true rfl⟩) (Cut.none E hA) E (fun En ce q9 H locs hp E hce hcv hcl => ?_) (fun u2 H locs hp E => ?_)
  · exact y_out hex hlk hK (Ev.nilr E) rfl (Or.inr (Or.inl ⟨hp.1, hA1, fun z => hp.2 z.1⟩)) hce hcv hcl ⟨Nat.le_of_ble_eq_true rfl, Nat.le_of_ble_eq_true rfl⟩
  have E : Ev g _ s.heap H locs (OX g q ea σ) := Ev.nilr E
  have hB2 := hp
  refine lv_iload_n hx hb dX6_addWell_14 rfl (lv_at hl 3 rfl) ?_
  refine lv_iconst (v := 0) hx hb dX6_addWell_15 (by decide) ?_
  refine lv_sipush (v := 999) hx hb dX6_addWell_16 (by decide) ?_
  refine y_retv (yrunS (As := [.int p2, .int 0, .int 999]) (rest := []) (n := 3) S hml hK (hZ.at E) (Cut.none E hA) (c_X6_requireRange l g hst p2 0 999 _ _) ml_X6_36 st_X6_requireRange in_X6 co_X6_requireRange ⟨by decide +kernel, by decide +kernel, by decide +kernel⟩ ⟨Nat.le_of_ble_eq_true rfl, Nat.le_of_ble_eq_true rfl⟩ rfl hl.1 rfl (Nat.le_of_ble_eq_true rfl) dX6_addWell_19 ⟨Nat.le_of_ble_eq_true rfl, Nat.le_of_ble_eq_true rfl⟩) (Cut.none E hA) E (fun En ce q9 H locs hp E hce hcv hcl => ?_) (fun u3 H locs hp E => ?_)
  · exact y_out hex hlk hK (Ev.nilr E) rfl (Or.inr (Or.inl ⟨hp.1, hA1, fun z => hp.2 z.2⟩)) hce hcv hcl ⟨Nat.le_of_ble_eq_true rfl, Nat.le_of_ble_eq_true rfl⟩
  have E : Ev g _ s.heap H locs (OX g q ea σ) := Ev.nilr E
  have hB3 := hp
  refine lv_aload_n hx hb dX6_addWell_22 rfl (lv_at hl 0 rfl) ?_
  refine wg_X6_14 (v := .ref (q.2.2.2.1 0)) S hK E 0 rfl rfl dX6_addWell_23 ?_
  refine wg_X6_87 (v := .ref (q.2.2.2.1 3)) S hK E 1 rfl rfl dX6_addWell_26 ?_
  refine wg_X6_91 (v := .int (gs σ 4)) S hK E 4 rfl rfl dX6_addWell_29 ?_
  refine lv_istore (lv' := [(4, .int (gs σ 4)), (0, .ref q.1), (1, .int p0), (2, .int p1), (3, .int p2)]) hx hb dX6_addWell_32 hl (by decide) rfl (fun ls hl => ?_)
  refine lv_iload hx hb dX6_addWell_34 (lv_at hl 0 rfl) ?_
  refine lv_bipush (v := 6) hx hb dX6_addWell_36 (by decide) ?_
  refine lv_icmp_lt (tgt := 51) hx hb dX6_addWell_38 (by decide) (fun c_ => absurd c_ hN) (fun _ => ?_)
  exact y_throw (text := "there is no room for another well") (names := ["java/lang/RuntimeException", "java/lang/Exception"]) S hst hml hl hex hlk hK hZ E rfl (Or.inr (Or.inr ⟨rfl, hA1, ⟨hB2, hB3⟩, hN⟩)) (by decide +kernel) (by decide +kernel) cl_X6_96 in__java_lang_IllegalStateException (by decide +kernel) at_ise dX6_addWell_41 dX6_addWell_44 dX6_addWell_45 dX6_addWell_47 dX6_addWell_50 (Nat.le_of_ble_eq_true rfl) (Nat.le_of_ble_eq_true rfl) ⟨Nat.le_of_ble_eq_true rfl, Nat.le_of_ble_eq_true rfl⟩ ⟨Nat.le_of_ble_eq_true rfl, Nat.le_of_ble_eq_true rfl⟩

set_option maxHeartbeats 4000000 in
set_option maxRecDepth 100000 in
/-- transfer, that is not possible -/
theorem c_SN_transfer (l : Launch) (g : Gm) (hst : l.stackTraces = false) (q : Fx) (ea : Nat) (σ : Sg) (p0 : Int32) (p1 : Int32) (p2 : Int32) (hW : WF σ) (hN : f_X4_canGive σ p0 p1 p2 = 0) : YXi (S := Unit) l g yX6_transfer cX6_transfer 4 .int ({ frames := 8, cells := 1, slots := 6, locals := 124 } : Room) [.ref q.1, .int p0, .int p1, .int p2] (OX g q ea σ) (fun _ _ => False) (fun _ => OX g q ea σ) (fun _ => (0, 0)) (OX g q ea σ) (fun En => (En = "java/lang/IndexOutOfBoundsException" ∧ ¬ (ixOK p0 (gs σ 4) ∧ ixOK p1 (gs σ 4))) ∨ (En = "java/lang/IllegalArgumentException" ∧ (ixOK p0 (gs σ 4) ∧ ixOK p1 (gs σ 4)) ∧ ¬ rgOK p2 1 999) ∨ (En = "java/lang/UnsupportedOperationException" ∧ (ixOK p0 (gs σ 4) ∧ ixOK p1 (gs σ 4)) ∧ rgOK p2 1 999 ∧ f_X4_canGive σ p0 p1 p2 = 0)) := by
  intro sz tt
  refine ofY RX6 rfl (by decide +kernel) (Nat.le_of_ble_eq_true rfl) (fun p e s m args below meth c hargs S hml hr hlk hex hsz htt hK hA hZ E ls hl => ?_)
  have hx := S.1
  have hb := S.2.1
  have hl : lv_has ls 4 [(0, .ref q.1), (1, .int p0), (2, .int p1), (3, .int p2)] := hl
  refine lv_aload_n hx hb dX6_transfer_0 rfl (lv_at hl 0 rfl) ?_
  refine lv_iload_n hx hb dX6_transfer_1 rfl (lv_at hl 1 rfl) ?_
  refine y_retv (yrunV (As := [.int p0]) (rest := []) (q0 := 0) (n := 1) S hml hK (hZ.at E) (Cut.full E hA) (c_X6_requireWell l g hst q ea σ p0 _ _) (gi_wsV ml_X6_103 im_X6_requireWell sl_X6_requireWell in_X6 co_X6_requireWell) ⟨rfl, by decide +kernel, by decide +kernel, by decide +kernel⟩ ⟨Nat.le_of_ble_eq_true rfl, Nat.le_of_ble_eq_true rfl⟩ rfl rfl rfl hl.1 rfl (Nat.le_of_ble_eq_true rfl) dX6_transfer_2 ⟨Nat.le_of_ble_eq_true rfl, Nat.le_of_ble_eq_true rfl⟩) (Cut.full E hA) E (fun En ce q9 H locs hp E hce hcv hcl => ?_) (fun u1 H locs hp E => ?_)
  · exact y_out hex hlk hK (show Ev g _ s.heap H locs ((OX g q ea σ)) from E) rfl (Or.inl ⟨hp.1, fun z => hp.2 z.1⟩) hce hcv hcl ⟨Nat.le_of_ble_eq_true rfl, Nat.le_of_ble_eq_true rfl⟩
  have E : Ev g _ s.heap H locs ((OX g q ea σ)) := E
  have hw1 := hp
  refine lv_aload_n hx hb dX6_transfer_5 rfl (lv_at hl 0 rfl) ?_
  refine lv_iload_n hx hb dX6_transfer_6 rfl (lv_at hl 2 rfl) ?_
  refine y_retv (yrunV (As := [.int p1]) (rest := []) (q0 := 0) (n := 1) S hml hK (hZ.at E) (Cut.full E hA) (c_X6_requireWell l g hst q ea σ p1 _ _) (gi_wsV ml_X6_103 im_X6_requireWell sl_X6_requireWell in_X6 co_X6_requireWell) ⟨rfl, by decide +kernel, by decide +kernel, by decide +kernel⟩ ⟨Nat.le_of_ble_eq_true rfl, Nat.le_of_ble_eq_true rfl⟩ rfl rfl rfl hl.1 rfl (Nat.le_of_ble_eq_true rfl) dX6_transfer_7 ⟨Nat.le_of_ble_eq_true rfl, Nat.le_of_ble_eq_true rfl⟩) (Cut.full E hA) E (fun En ce q9 H locs hp E hce hcv hcl => ?_) (fun u2 H locs hp E => ?_)
  · exact y_out hex hlk hK (show Ev g _ s.heap H locs ((OX g q ea σ)) from E) rfl (Or.inl ⟨hp.1, fun z => hp.2 z.2⟩) hce hcv hcl ⟨Nat.le_of_ble_eq_true rfl, Nat.le_of_ble_eq_true rfl⟩
  have E : Ev g _ s.heap H locs ((OX g q ea σ)) := E
  have hw2 := hp
  refine lv_iload_n hx hb dX6_transfer_10 rfl (lv_at hl 3 rfl) ?_
  refine lv_iconst (v := 1) hx hb dX6_transfer_11 (by decide) ?_
  refine lv_sipush (v := 999) hx hb dX6_transfer_12 (by decide) ?_
  refine y_retv (yrunS (As := [.int p2, .int 1, .int 999]) (rest := []) (n := 3) S hml hK (hZ.at E) (Cut.none E hA) (c_X6_requireRange l g hst p2 1 999 _ _) ml_X6_36 st_X6_requireRange in_X6 co_X6_requireRange ⟨by decide +kernel, by decide +kernel, by decide +kernel⟩ ⟨Nat.le_of_ble_eq_true rfl, Nat.le_of_ble_eq_true rfl⟩ rfl hl.1 rfl (Nat.le_of_ble_eq_true rfl) dX6_transfer_15 ⟨Nat.le_of_ble_eq_true rfl, Nat.le_of_ble_eq_true rfl⟩) (Cut.none E hA) E (fun En ce q9 H locs hp E hce hcv hcl => ?_) (fun u3 H locs hp E => ?_)
  · exact y_out hex hlk hK (Ev.nilr E) rfl (Or.inr (Or.inl ⟨hp.1, ⟨hw1, hw2⟩, hp.2⟩)) hce hcv hcl ⟨Nat.le_of_ble_eq_true rfl, Nat.le_of_ble_eq_true rfl⟩
  have E : Ev g _ s.heap H locs (OX g q ea σ) := Ev.nilr E
  have hB3 := hp
  refine lv_aload_n hx hb dX6_transfer_18 rfl (lv_at hl 0 rfl) ?_
  refine wg_X6_14 (v := .ref (q.2.2.2.1 0)) S hK E 0 rfl rfl dX6_transfer_19 ?_
  refine wg_X6_87 (v := .ref (q.2.2.2.1 3)) S hK E 1 rfl rfl dX6_transfer_22 ?_
  refine lv_iload_n hx hb dX6_transfer_25 rfl (lv_at hl 1 rfl) ?_
  refine lv_iload_n hx hb dX6_transfer_26 rfl (lv_at hl 2 rfl) ?_
  refine lv_iload_n hx hb dX6_transfer_27 rfl (lv_at hl 3 rfl) ?_
  refine w_reti (runV_X (As := [.int p0, .int p1, .int p2]) (rest := []) (q0 := 3) (n := 3) S hml hK (hZ.at E) (Cut.app (wr := [(q.1, .inr (6, [.ref (q.2.2.2.1 0), .ref (q.2.2.2.2.1 0), .ref q.2.1, .ref q.2.2.1]))]) E hA) (c_X4_canGive l g q.2.2.2.1 (-1) 1 0 ea σ p0 p1 p2 (ix_in6 hW hw1) (ix_in6 hW hw2) _ _) (gi_wsV ml_X6_110 im_X4_canGive sl_X4_canGive in_X4 co_X4_canGive) ⟨rfl, by decide +kernel, by decide +kernel, by decide +kernel⟩ ⟨Nat.le_of_ble_eq_true rfl, Nat.le_of_ble_eq_true rfl⟩ rfl rfl rfl hl.1 rfl (Nat.le_of_ble_eq_true rfl) dX6_transfer_28 ⟨Nat.le_of_ble_eq_true rfl, Nat.le_of_ble_eq_true rfl⟩) (Cut.app (wr := [(q.1, .inr (6, [.ref (q.2.2.2.1 0), .ref (q.2.2.2.2.1 0), .ref q.2.1, .ref q.2.2.1]))]) E hA) E (fun r4 u4 H locs hp E => ?_)
  obtain ⟨hr, hu1⟩ := hp
  have hu2 := hu1.symm
  subst hu2
  subst hr
  have E : Ev g _ s.heap H locs ((OX g q ea σ)) := E
  refine lv_if_ne (tgt := 44) hx hb dX6_transfer_31 (by decide) (fun c_ => absurd hN c_) (fun _ => ?_)
  exact y_throw (text := "this transfer is not possible") (names := ["java/lang/RuntimeException", "java/lang/Exception"]) S hst hml hl hex hlk hK hZ E rfl (Or.inr (Or.inr ⟨rfl, ⟨hw1, hw2⟩, hB3, hN⟩)) (by decide +kernel) (by decide +kernel) cl_X6_114 in__java_lang_UnsupportedOperationException (by decide +kernel) at_uoe dX6_transfer_34 dX6_transfer_37 dX6_transfer_38 dX6_transfer_40 dX6_transfer_43 (Nat.le_of_ble_eq_true rfl) (Nat.le_of_ble_eq_true rfl) ⟨Nat.le_of_ble_eq_true rfl, Nat.le_of_ble_eq_true rfl⟩ ⟨Nat.le_of_ble_eq_true rfl, Nat.le_of_ble_eq_true rfl⟩

set_option maxHeartbeats 4000000 in
set_option maxRecDepth 100000 in
/-- pass, too far -/
theorem c_SN_pass (l : Launch) (g : Gm) (hst : l.stackTraces = false) (q : Fx) (ea : Nat) (σ : Sg) (mm : Nat) (hN : ¬ gs σ 0 + nI mm ≤ 600) : YXi (S := Unit) l g yX6_pass cX6_pass 2 .int ({ frames := 7, cells := 1, slots := 6, locals := 104 } : Room) [.ref q.1, .int (nI mm)] (OX g q ea σ) (fun _ _ => False) (fun _ => OX g q ea σ) (fun _ => (0, 0)) (OX g q ea σ) (fun En => (En = "java/lang/IllegalArgumentException" ∧ ¬ rgOK (nI mm) 1 24) ∨ (En = "java/lang/ArithmeticException" ∧ ¬ gs σ 0 + nI mm ≤ 600)) := by
  intro sz tt
  refine ofY RX6 rfl (by decide +kernel) (Nat.le_of_ble_eq_true rfl) (fun p e s m args below meth c hargs S hml hr hlk hex hsz htt hK hA hZ E ls hl => ?_)
  have hx := S.1
  have hb := S.2.1
  have hl : lv_has ls 2 [(0, .ref q.1), (1, .int (nI mm))] := hl
  refine lv_iload_n hx hb dX6_pass_0 rfl (lv_at hl 1 rfl) ?_
  refine lv_iconst (v := 1) hx hb dX6_pass_1 (by decide) ?_
  refine lv_bipush (v := 24) hx hb dX6_pass_2 (by decide) ?_
  refine y_retv (yrunS (As := [.int (nI mm), .int 1, .int 24]) (rest := []) (n := 3) S hml hK (hZ.at E) (Cut.none E hA) (c_X6_requireRange l g hst (nI mm) 1 24 _ _) ml_X6_36 st_X6_requireRange in_X6 co_X6_requireRange ⟨by decide +kernel, by decide +kernel, by decide +kernel⟩ ⟨Nat.le_of_ble_eq_true rfl, Nat.le_of_ble_eq_true rfl⟩ rfl hl.1 rfl (Nat.le_of_ble_eq_true rfl) dX6_pass_4 ⟨Nat.le_of_ble_eq_true rfl, Nat.le_of_ble_eq_true rfl⟩) (Cut.none E hA) E (fun En ce q9 H locs hp E hce hcv hcl => ?_) (fun u1 H locs hp E => ?_)
  · exact y_out hex hlk hK (Ev.nilr E) rfl (Or.inl hp) hce hcv hcl ⟨Nat.le_of_ble_eq_true rfl, Nat.le_of_ble_eq_true rfl⟩
  have E : Ev g _ s.heap H locs (OX g q ea σ) := Ev.nilr E
  have hB1 := hp
  refine lv_aload_n hx hb dX6_pass_7 rfl (lv_at hl 0 rfl) ?_
  refine wg_X6_14 (v := .ref (q.2.2.2.1 0)) S hK E 0 rfl rfl dX6_pass_8 ?_
  refine wg_X6_122 (v := .int (gs σ 0)) S hK E 1 rfl rfl dX6_pass_11 ?_
  refine lv_iload_n hx hb dX6_pass_14 rfl (lv_at hl 1 rfl) ?_
  refine k_iadd (v := ((gs σ 0) + (nI mm))) hx hb rfl dX6_pass_15 ?_
  refine lv_sipush (v := 600) hx hb dX6_pass_16 (by decide) ?_
  refine lv_icmp_le (tgt := 32) hx hb dX6_pass_19 (by decide) (fun c_ => absurd c_ hN) (fun _ => ?_)
  exact y_throw (text := "so late a month is not counted") (names := ["java/lang/RuntimeException", "java/lang/Exception"]) S hst hml hl hex hlk hK hZ E rfl (Or.inr ⟨rfl, hN⟩) (by decide +kernel) (by decide +kernel) cl_X6_125 in__java_lang_ArithmeticException (by decide +kernel) at_ae dX6_pass_22 dX6_pass_25 dX6_pass_26 dX6_pass_28 dX6_pass_31 (Nat.le_of_ble_eq_true rfl) (Nat.le_of_ble_eq_true rfl) ⟨Nat.le_of_ble_eq_true rfl, Nat.le_of_ble_eq_true rfl⟩ ⟨Nat.le_of_ble_eq_true rfl, Nat.le_of_ble_eq_true rfl⟩

