section PERMF
variable {X W : va_W} {x d e c : Nat × va_E}
theorem pm_f1 : ((X ++ [c]) ++ [d]).Perm ((X ++ [d]) ++ [c]) := by
  have h := perm_ix [X, [d], [c]] (is := [0, 2, 1]) (js := [0, 1, 2]) (by decide)
  simpa [cat] using h
theorem pm_f2 : (X ++ [d, c]).Perm ((X ++ [d]) ++ [c]) := by
  have h := perm_ix [X, [d], [c]] (is := [0, 1, 2]) (js := [0, 1, 2]) (by decide)
  simpa [cat] using h
theorem pm_f3 : (([x] ++ [d, e]) ++ (W ++ [c])).Perm (([x] ++ W) ++ [d, c, e]) := by
  have h := perm_ix [[x], W, [d], [e], [c]] (is := [0, 2, 3, 1, 4]) (js := [0, 1, 2, 4, 3]) (by decide)
  simpa [cat] using h
theorem pm_f4 : (([x] ++ [d, e]) ++ (W ++ [c])).Perm ((([x] ++ W) ++ [d, e]) ++ [c]) := by
  have h := perm_ix [[x], W, [d], [e], [c]] (is := [0, 2, 3, 1, 4]) (js := [0, 1, 2, 3, 4]) (by decide)
  simpa [cat] using h
end PERMF
set_option maxHeartbeats 2000000 in
set_option maxRecDepth 100000 in
/-- carryOut, whatever the call -/
theorem c_carryOut (l : Launch) (g : Gm) (q : Fx) (u : SOB) (σ : Sg) (cl : Nat) (v : CV) {C M : Nat} (hu : OkU u) (hI : Inv C M σ) (hC : C + 1 ≤ 1000) (hv : okN v (cnt σ) M) : MXv (S := SOB) l g yX6_carryOut cX6_carryOut 2 ({ frames := 11, cells := 60, slots := 600000, locals := 1130 } : Room) [.ref q.1, .ref cl] (SW g q u σ ++ [(cl, cE v)]) (fun u' => Nx u v u') (fun u' => SW g q u' (fo1 (-1) v σ)) (kxO σ (fo1 (-1) v σ)) := by
  intro sz tt
  refine ofX RX6 rfl (by decide +kernel) (Nat.le_of_ble_eq_true rfl) (fun p e s m args below meth c hargs S hml hr hlk hnm hsz htt hK hA hZ E ls hl => ?_)
  have hx := S.1
  have hb := S.2.1
  have hl : lv_has ls 2 [(0, .ref q.1), (1, .ref cl)] := hl
  obtain ⟨i1, i2, i3⟩ := inv_fo1 (lo := -1) hI hC hv
  obtain ⟨m1, m2, m3⟩ := id i3
  obtain ⟨r1, r2⟩ := ek_room (σ := σ) i1.ev (Nat.le_trans i1.en (by decide))
  refine lv_aload_n hx hb dX6_carryOut_0 rfl (lv_at hl 0 rfl) ?_
  refine wg_X6_28 (v := .ref q.2.2.1) S hK E 0 rfl rfl dX6_carryOut_1 ?_
  have E1 : Ev g _ s.heap s.heap [] ((OX g q u.1 σ ++ ([(u.2.2.1, .inl (g.2.1 4, u.2.2.2.1, .inr (.inr (.inr (.inr (rfs u.2.2.2.2))))))] ++ (u.2.2.2.2 ++ [(cl, cE v)]))) ++ [(q.2.2.1, .inr (8, [.int u.2.1, .ref u.2.2.1, .int (nI u.2.2.2.2.length)]))]) := E.perm pm_size
  refine w_reti (runV_X (As := []) (rest := []) (q0 := 0) (n := 0) S hml hK (hZ.at E) (Cut.app E1 hA) (c_Jx4a65c_size_8abf5 l g q.2.2.1 u.2.1 (nI u.2.2.2.2.length) u.2.2.1 _ _) (gi_wsV ml_X6_229 im_Jx4a65c_size_8abf5 sl_Jx4a65c_size_8abf5 in_Jx4a65c co_Jx4a65c_size_8abf5) ⟨rfl, by decide +kernel, by decide +kernel, by decide +kernel⟩ ⟨Nat.le_of_ble_eq_true rfl, Nat.le_of_ble_eq_true rfl⟩ rfl rfl rfl hl.1 rfl (Nat.le_of_ble_eq_true rfl) dX6_carryOut_4 ⟨Nat.le_of_ble_eq_true rfl, Nat.le_of_ble_eq_true rfl⟩) (Cut.app E1 hA) E1 (fun r9 u9 H locs hp E2 => ?_)
  subst hp
  have E : Ev g _ s.heap H locs (SW g q u σ ++ [(cl, cE v)]) := E2.perm pm_size.symm
  have hlen := hu.2.2.2.2
  refine lv_sipush (v := 512) hx hb dX6_carryOut_7 (by decide) ?_
  refine lv_icmp_ge (tgt := 22) hx hb dX6_carryOut_10 (by decide) (fun c2 => ?_) (fun c2 => ?_)
  · have c2n : 512 ≤ u.2.2.2.2.length := (nI_leI (a := 512) (b := u.2.2.2.2.length) (by omega) (by omega)).mp c2
    refine lv_aload_n hx hb dX6_carryOut_22 rfl (lv_at hl 0 rfl) ?_
    refine wg_X6_14 (v := .ref (q.2.2.2.1 0)) S hK E 0 rfl rfl dX6_carryOut_23 ?_
    refine lv_aload_n hx hb dX6_carryOut_26 rfl (lv_at hl 1 rfl) ?_
    have E3 : Ev g _ s.heap H locs (([(q.1, .inr (6, [.ref (q.2.2.2.1 0), .ref (q.2.2.2.2.1 0), .ref q.2.1, .ref q.2.2.1]))] ++ (DN g q u ++ u.2.2.2.2)) ++ wsF g q.2.2.2.1 (-1) 1 0 (cl, cE v) u.1 σ) := E.perm pm_fol
    refine w_retv (runV_X (As := [.ref cl]) (rest := []) (q0 := 0) (n := 1) S hml hK (hZ.at E) (Cut.app E3 hA) (c_follow l g cl q.2.2.2.1 (-1) 1 0 u.1 σ v hI (Or.inr rfl) hv _ _) (gi_wsV ml_X6_236 im_X5_follow sl_X5_follow in_X5 co_X5_follow) ⟨rfl, by decide +kernel, by decide +kernel, by decide +kernel⟩ ⟨Nat.le_of_ble_eq_true rfl, Nat.le_of_ble_eq_true rfl⟩ rfl rfl rfl hl.1 rfl (Nat.le_of_ble_eq_true rfl) dX6_carryOut_27 ⟨by show 0 + 0 + 49 ≤ 60; decide, by show 0 + 0 + 500002 ≤ 600000; decide⟩) (Cut.app E3 hA) E3 (fun w9 H locs hp E4 => ?_)
    obtain ⟨τ1, ea1⟩ := w9
    have hp : τ1 = (fo1 (-1) v σ) := hp
    subst hp
    have E5 : Ev g _ s.heap H locs (((OX g q ea1 (fo1 (-1) v σ) ++ DN g q u) ++ u.2.2.2.2) ++ [(cl, cE v)]) := E4.perm pm_fol.symm
    refine x_vret (ea1, u.2) S hr hlk hsz htt hK (Ev.pre E5) dX6_carryOut_30 ?_ rfl ⟨by show 0 + 0 + (eg (fo1 (-1) v σ) - eg σ) ≤ eg (fo1 (-1) v σ) - eg σ + 2; omega, by show 0 + 0 + (2 * ec (fo1 (-1) v σ) - 2 * ec σ) ≤ 2 * ec (fo1 (-1) v σ) - 2 * ec σ + 810; omega⟩ ⟨by show 0 + 0 + (eg (fo1 (-1) v σ) - eg σ) ≤ 60; omega, by show 0 + 0 + (2 * ec (fo1 (-1) v σ) - 2 * ec σ) ≤ 600000; omega⟩
    exact nx_of (u := u) hu ⟨Or.inr ⟨c2n, rfl⟩, hu.2.1, hu.2.2.1, hu.2.2.2.1⟩
  · have c2n : ¬ 512 ≤ u.2.2.2.2.length := fun z => c2 ((nI_leI (a := 512) (b := u.2.2.2.2.length) (by omega) (by omega)).mpr z)
    refine lv_aload_n hx hb dX6_carryOut_13 rfl (lv_at hl 0 rfl) ?_
    refine wg_X6_28 (v := .ref q.2.2.1) S hK E 0 rfl rfl dX6_carryOut_14 ?_
    refine lv_aload_n hx hb dX6_carryOut_17 rfl (lv_at hl 1 rfl) ?_
    have E1 : Ev g _ s.heap H locs (OX g q u.1 σ ++ ([(q.2.2.1, .inr (8, [.int u.2.1, .ref u.2.2.1, .int (nI u.2.2.2.2.length)])), (u.2.2.1, .inl (g.2.1 4, u.2.2.2.1, .inr (.inr (.inr (.inr (rfs u.2.2.2.2)))))), (cl, cE v)] ++ u.2.2.2.2)) := E.perm pm_add
    refine w_reti (runV_X (As := [.ref cl]) (rest := []) (q0 := 0) (n := 1) S hml hK (hZ.at E) (Cut.app E1 hA) (c_adG l g q.2.2.1 u.2.1 u.2.2.1 u.2.2.2.1 u.2.2.2.2.length u.2.2.2.2 cl (cE v) hu.1 rfl hu.2.1 hu.2.2.1 hu.2.2.2.1 (by omega) any_X1 _ _) (gi_wsV ml_X6_232 im_Jx4a65c_add_9ea2d sl_Jx4a65c_add_9ea2d in_Jx4a65c co_Jx4a65c_add_9ea2d) ⟨rfl, by decide +kernel, by decide +kernel, by decide +kernel⟩ ⟨Nat.le_of_ble_eq_true rfl, Nat.le_of_ble_eq_true rfl⟩ rfl rfl rfl hl.1 rfl (Nat.le_of_ble_eq_true rfl) dX6_carryOut_18 ⟨by show 0 + 0 + 1 ≤ 60; decide, by show 0 + 0 + 800 ≤ 600000; decide⟩) (Cut.app E1 hA) E1 (fun r8 u8 H locs hp E2 => ?_)
    obtain ⟨rfl, hc1, hc2, hc3⟩ := hp
    refine lv_pop hx hb dX6_carryOut_21 rfl ?_
    have E : Ev g _ s.heap H locs (OX g q u.1 σ ++ ([(q.2.2.1, .inr (8, [.int (u.2.1 + 1), .ref u8.1, .int (nI (u.2.2.2.2.length + 1))])), (u8.1, .inl (g.2.1 4, u8.2, .inr (.inr (.inr (.inr (rfs (u.2.2.2.2 ++ [(cl, cE v)])))))))] ++ (u.2.2.2.2 ++ [(cl, cE v)]))) := E2
    refine lv_aload_n hx hb dX6_carryOut_22 rfl (lv_at hl 0 rfl) ?_
    refine wg_X6_14 (v := .ref (q.2.2.2.1 0)) S hK E 0 rfl rfl dX6_carryOut_23 ?_
    refine lv_aload_n hx hb dX6_carryOut_26 rfl (lv_at hl 1 rfl) ?_
    have E3 : Ev g _ s.heap H locs (([(q.1, .inr (6, [.ref (q.2.2.2.1 0), .ref (q.2.2.2.2.1 0), .ref q.2.1, .ref q.2.2.1]))] ++ ([(q.2.2.1, .inr (8, [.int (u.2.1 + 1), .ref u8.1, .int (nI (u.2.2.2.2.length + 1))])), (u8.1, .inl (g.2.1 4, u8.2, .inr (.inr (.inr (.inr (rfs (u.2.2.2.2 ++ [(cl, cE v)])))))))] ++ u.2.2.2.2)) ++ wsF g q.2.2.2.1 (-1) 1 0 (cl, cE v) u.1 σ) := E.perm pm_fol2
    refine w_retv (runV_X (As := [.ref cl]) (rest := []) (q0 := 0) (n := 1) S hml hK (hZ.at E) (Cut.app E3 hA) (c_follow l g cl q.2.2.2.1 (-1) 1 0 u.1 σ v hI (Or.inr rfl) hv _ _) (gi_wsV ml_X6_236 im_X5_follow sl_X5_follow in_X5 co_X5_follow) ⟨rfl, by decide +kernel, by decide +kernel, by decide +kernel⟩ ⟨Nat.le_of_ble_eq_true rfl, Nat.le_of_ble_eq_true rfl⟩ rfl rfl rfl hl.1 rfl (Nat.le_of_ble_eq_true rfl) dX6_carryOut_27 ⟨by show 0 + 0 + 1 + 49 ≤ 60; decide, by show 0 + 0 + 800 + 500002 ≤ 600000; decide⟩) (Cut.app E3 hA) E3 (fun w9 H locs hp E4 => ?_)
    obtain ⟨τ1, ea1⟩ := w9
    have hp : τ1 = (fo1 (-1) v σ) := hp
    subst hp
    have hl2 : (u.2.2.2.2 ++ [(cl, cE v)]).length = u.2.2.2.2.length + 1 := by rw [List.length_append]; rfl
    have E5 : Ev g _ s.heap H locs ((OX g q ea1 (fo1 (-1) v σ) ++ [(q.2.2.1, .inr (8, [.int (u.2.1 + 1), .ref u8.1, .int (nI (u.2.2.2.2.length + 1))])), (u8.1, .inl (g.2.1 4, u8.2, .inr (.inr (.inr (.inr (rfs (u.2.2.2.2 ++ [(cl, cE v)])))))))]) ++ (u.2.2.2.2 ++ [(cl, cE v)])) := E4.perm pm_fol3.symm
    rw [← hl2] at E5
    refine x_vret (ea1, u.2.1 + 1, u8.1, u8.2, u.2.2.2.2 ++ [(cl, cE v)]) S hr hlk hsz htt hK E5 dX6_carryOut_30 ?_ rfl ⟨by show 0 + 0 + 1 + (eg (fo1 (-1) v σ) - eg σ) ≤ eg (fo1 (-1) v σ) - eg σ + 2; omega, by show 0 + 0 + 800 + (2 * ec (fo1 (-1) v σ) - 2 * ec σ) ≤ 2 * ec (fo1 (-1) v σ) - 2 * ec σ + 810; omega⟩ ⟨by show 0 + 0 + 1 + (eg (fo1 (-1) v σ) - eg σ) ≤ 60; omega, by show 0 + 0 + 800 + (2 * ec (fo1 (-1) v σ) - 2 * ec σ) ≤ 600000; omega⟩
    exact nx_of (u := u) hu ⟨Or.inl ⟨by omega, cl, rfl⟩, by show (u.2.2.2.2 ++ [(cl, cE v)]).length ≤ u8.2; rw [hl2]; exact hc1, hc2, hc3⟩
set_option maxHeartbeats 2000000 in
set_option maxRecDepth 100000 in
/-- carryOut, whatever the call, where the diary is empty -/
theorem c_carryOutF (l : Launch) (g : Gm) (q : Fx) (u : SOB) (σ : Sg) (cl : Nat) (v : CV) {C M : Nat} (hu : OkU u) (hne : u.2.2.2.2 = []) (hI : Inv C M σ) (hC : C + 1 ≤ 1000) (hv : okN v (cnt σ) M) : MXv (S := SOB) l g yX6_carryOut cX6_carryOut 2 ({ frames := 11, cells := 60, slots := 600000, locals := 1130 } : Room) [.ref q.1, .ref cl] (SF g q u σ ++ [(cl, cE v)]) (fun u' => Nx u v u') (fun u' => SW g q u' (fo1 (-1) v σ)) (kxO σ (fo1 (-1) v σ)) := by
  intro sz tt
  refine ofX RX6 rfl (by decide +kernel) (Nat.le_of_ble_eq_true rfl) (fun p e s m args below meth c hargs S hml hr hlk hnm hsz htt hK hA hZ E ls hl => ?_)
  have hx := S.1
  have hb := S.2.1
  have hl : lv_has ls 2 [(0, .ref q.1), (1, .ref cl)] := hl
  obtain ⟨i1, i2, i3⟩ := inv_fo1 (lo := -1) hI hC hv
  obtain ⟨m1, m2, m3⟩ := id i3
  obtain ⟨r1, r2⟩ := ek_room (σ := σ) i1.ev (Nat.le_trans i1.en (by decide))
  refine lv_aload_n hx hb dX6_carryOut_0 rfl (lv_at hl 0 rfl) ?_
  refine wg_X6_28 (v := .ref q.2.2.1) S hK E 0 rfl rfl dX6_carryOut_1 ?_
  have E1 : Ev g _ s.heap s.heap [] ((OX g q u.1 σ ++ [(cl, cE v)]) ++ [(q.2.2.1, .inr (8, [.int 0, .ref (g.2.2 0), .int 0]))]) := E.perm pm_f1
  refine w_reti (runV_X (As := []) (rest := []) (q0 := 0) (n := 0) S hml hK (hZ.at E) (Cut.app E1 hA) (c_Jx4a65c_size_8abf5 l g q.2.2.1 0 0 (g.2.2 0) _ _) (gi_wsV ml_X6_229 im_Jx4a65c_size_8abf5 sl_Jx4a65c_size_8abf5 in_Jx4a65c co_Jx4a65c_size_8abf5) ⟨rfl, by decide +kernel, by decide +kernel, by decide +kernel⟩ ⟨Nat.le_of_ble_eq_true rfl, Nat.le_of_ble_eq_true rfl⟩ rfl rfl rfl hl.1 rfl (Nat.le_of_ble_eq_true rfl) dX6_carryOut_4 ⟨Nat.le_of_ble_eq_true rfl, Nat.le_of_ble_eq_true rfl⟩) (Cut.app E1 hA) E1 (fun r9 u9 H locs hp E2 => ?_)
  subst hp
  have E : Ev g _ s.heap H locs (SF g q u σ ++ [(cl, cE v)]) := E2.perm pm_f1.symm
  refine lv_sipush (v := 512) hx hb dX6_carryOut_7 (by decide) ?_
  refine lv_icmp_ge (tgt := 22) hx hb dX6_carryOut_10 (by decide) (fun c2 => absurd c2 (show ¬ (512 : Int32) ≤ 0 by decide)) (fun _ => ?_)
  refine lv_aload_n hx hb dX6_carryOut_13 rfl (lv_at hl 0 rfl) ?_
  refine wg_X6_28 (v := .ref q.2.2.1) S hK E 0 rfl rfl dX6_carryOut_14 ?_
  refine lv_aload_n hx hb dX6_carryOut_17 rfl (lv_at hl 1 rfl) ?_
  have E1 : Ev g _ s.heap H locs (OX g q u.1 σ ++ [(q.2.2.1, .inr (8, [.int 0, .ref (g.2.2 0), .int 0])), (cl, cE v)]) := E.perm pm_f2
  refine w_reti (runV_X (As := [.ref cl]) (rest := []) (q0 := 0) (n := 1) S hml hK (hZ.at E) (Cut.app E1 hA) (c_ad1 l g q.2.2.1 cl (cE v) any_X1 _ _) (gi_wsV ml_X6_232 im_Jx4a65c_add_9ea2d sl_Jx4a65c_add_9ea2d in_Jx4a65c co_Jx4a65c_add_9ea2d) ⟨rfl, by decide +kernel, by decide +kernel, by decide +kernel⟩ ⟨Nat.le_of_ble_eq_true rfl, Nat.le_of_ble_eq_true rfl⟩ rfl rfl rfl hl.1 rfl (Nat.le_of_ble_eq_true rfl) dX6_carryOut_18 ⟨by show 0 + 0 + 1 ≤ 60; decide, by show 0 + 0 + 10 ≤ 600000; decide⟩) (Cut.app E1 hA) E1 (fun r8 u8 H locs hp E2 => ?_)
  subst hp
  refine lv_pop hx hb dX6_carryOut_21 rfl ?_
  have hrf : va_up (fun _ => none) (0 : Int32).toNatClampNeg (some cl) = rfs [(cl, cE v)] := (congrArg (fun z => va_up z (nI 0).toNatClampNeg (some cl)) rfs_nil.symm).trans (rfs_add (dcs := []) (q := (cl, cE v)) (n := 0) rfl (by decide))
  rw [hrf] at E2
  have E : Ev g _ s.heap H locs (OX g q u.1 σ ++ [(q.2.2.1, .inr (8, [.int 1, .ref u8, .int 1])), (cl, cE v), (u8, .inl (g.2.1 4, 10, .inr (.inr (.inr (.inr (rfs [(cl, cE v)]))))))]) := E2
  refine lv_aload_n hx hb dX6_carryOut_22 rfl (lv_at hl 0 rfl) ?_
  refine wg_X6_14 (v := .ref (q.2.2.2.1 0)) S hK E 0 rfl rfl dX6_carryOut_23 ?_
  refine lv_aload_n hx hb dX6_carryOut_26 rfl (lv_at hl 1 rfl) ?_
  have E3 : Ev g _ s.heap H locs (([(q.1, .inr (6, [.ref (q.2.2.2.1 0), .ref (q.2.2.2.2.1 0), .ref q.2.1, .ref q.2.2.1]))] ++ [(q.2.2.1, .inr (8, [.int 1, .ref u8, .int 1])), (u8, .inl (g.2.1 4, 10, .inr (.inr (.inr (.inr (rfs [(cl, cE v)]))))))]) ++ wsF g q.2.2.2.1 (-1) 1 0 (cl, cE v) u.1 σ) := E.perm pm_f3
  refine w_retv (runV_X (As := [.ref cl]) (rest := []) (q0 := 0) (n := 1) S hml hK (hZ.at E) (Cut.app E3 hA) (c_follow l g cl q.2.2.2.1 (-1) 1 0 u.1 σ v hI (Or.inr rfl) hv _ _) (gi_wsV ml_X6_236 im_X5_follow sl_X5_follow in_X5 co_X5_follow) ⟨rfl, by decide +kernel, by decide +kernel, by decide +kernel⟩ ⟨Nat.le_of_ble_eq_true rfl, Nat.le_of_ble_eq_true rfl⟩ rfl rfl rfl hl.1 rfl (Nat.le_of_ble_eq_true rfl) dX6_carryOut_27 ⟨by show 0 + 0 + 1 + 49 ≤ 60; decide, by show 0 + 0 + 10 + 500002 ≤ 600000; decide⟩) (Cut.app E3 hA) E3 (fun w9 H locs hp E4 => ?_)
  obtain ⟨τ1, ea1⟩ := w9
  have hp : τ1 = (fo1 (-1) v σ) := hp
  subst hp
  have E5 : Ev g _ s.heap H locs ((OX g q ea1 (fo1 (-1) v σ) ++ [(q.2.2.1, .inr (8, [.int 1, .ref u8, .int 1])), (u8, .inl (g.2.1 4, 10, .inr (.inr (.inr (.inr (rfs [(cl, cE v)]))))))]) ++ [(cl, cE v)]) := E4.perm pm_f4.symm
  refine x_vret (ea1, 1, u8, 10, [(cl, cE v)]) S hr hlk hsz htt hK E5 dX6_carryOut_30 ?_ rfl ⟨by show 0 + 0 + 1 + (eg (fo1 (-1) v σ) - eg σ) ≤ eg (fo1 (-1) v σ) - eg σ + 2; omega, by show 0 + 0 + 10 + (2 * ec (fo1 (-1) v σ) - 2 * ec σ) ≤ 2 * ec (fo1 (-1) v σ) - 2 * ec σ + 810; omega⟩ ⟨by show 0 + 0 + 1 + (eg (fo1 (-1) v σ) - eg σ) ≤ 60; omega, by show 0 + 0 + 10 + (2 * ec (fo1 (-1) v σ) - 2 * ec σ) ≤ 600000; omega⟩
  exact nx_of (u := u) hu (by rw [hne]; exact ⟨Or.inl ⟨by decide, cl, rfl⟩, by show 1 ≤ 10; decide, Nat.le_refl _, by show 10 ≤ 800; decide⟩)
