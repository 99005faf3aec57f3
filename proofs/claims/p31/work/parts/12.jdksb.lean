/-! THE JDK: StringBuilder of one-byte letters, by program out of the bytecode -/
theorem st_arraycopy : Cond.static arraycopyName ∈ lw_g := lw_gi 465 (by decide +kernel) (by decide +kernel)
theorem sb_s0 (x : Int32) : x <<< ((0 : Int32) &&& 31) = x := sb_shl0 x
theorem mx_r {a b : Nat} (h : a ≤ b) (hb : b < 2 ^ 31) : mx (nI a) (nI b) = nI b := by
  unfold mx
  by_cases q : a = b
  · subst q; rw [if_neg (nI_nlt (Nat.le_refl _) hb)]
  · rw [if_pos (nI_lt (by omega) hb)]
theorem mn_l {a b : Nat} (h : a ≤ b) (hb : b < 2 ^ 31) : mn (nI a) (nI b) = nI a := by
  unfold mn
  rw [if_neg (nI_nlt h hb)]
theorem dJ1_canEncode_fc78d_0 : decode cJ1_canEncode_fc78d 0 = .ok (.iload_n 0, 1) := by decide +kernel
theorem dJ1_canEncode_fc78d_1 : decode cJ1_canEncode_fc78d 1 = .ok (.sipush 255, 3) := by decide +kernel
theorem dJ1_canEncode_fc78d_4 : decode cJ1_canEncode_fc78d 4 = .ok (.if_icmp .gt 7, 3) := by decide +kernel
theorem dJ1_canEncode_fc78d_7 : decode cJ1_canEncode_fc78d 7 = .ok (.iconst 1, 1) := by decide +kernel
theorem dJ1_canEncode_fc78d_8 : decode cJ1_canEncode_fc78d 8 = .ok (.goto 4, 3) := by decide +kernel
theorem dJ1_canEncode_fc78d_11 : decode cJ1_canEncode_fc78d 11 = .ok (.iconst 0, 1) := by decide +kernel
theorem dJ1_canEncode_fc78d_12 : decode cJ1_canEncode_fc78d 12 = .ok (.ireturn, 1) := by decide +kernel
set_option maxHeartbeats 4000000 in
set_option maxRecDepth 100000 in
/-- StringLatin1.canEncode of a one-byte letter -/
theorem c_J1_canEncode_fc78d (l : Launch) (g : Gm) (c0 : Nat) (hc : c0 < 256) : MXi (S := Unit) l g yJ1_canEncode_fc78d cJ1_canEncode_fc78d 1 .boolean ({ frames := 0, cells := 0, slots := 0, locals := 0 } : Room) [.int (nI c0)] [] (fun r _ => r = 1) ((fun _ => [])) (fun _ => (0, 0)) := by
  intro sz tt
  refine ofX RJ1 rfl (by decide +kernel) (Nat.le_of_ble_eq_true rfl) (fun p e s m args below meth c hargs S hml hr hlk hnm hsz htt hK hA hZ E ls hl => ?_)
  have hx := S.1
  have hb := S.2.1
  have hl : lv_has ls 1 [(0, .int (nI c0))] := hl
  refine lv_iload_n hx hb dJ1_canEncode_fc78d_0 rfl (lv_at hl 0 rfl) ?_
  refine lv_sipush (v := 255) hx hb dJ1_canEncode_fc78d_1 (by decide) ?_
  refine lv_icmp_gt (tgt := 11) hx hb dJ1_canEncode_fc78d_4 (by decide) (fun c_ => absurd c_ (show ¬ nI 255 < nI c0 from nI_nlt (by omega) (by decide))) (fun _ => ?_)
  refine lv_iconst (v := 1) hx hb dJ1_canEncode_fc78d_7 (by decide) ?_
  refine lv_goto (tgt := 12) hx hb dJ1_canEncode_fc78d_8 (by decide) ?_
  exact x_zret () S hr hlk hsz htt hK E dJ1_canEncode_fc78d_12 rfl rfl rfl ⟨Nat.le_of_ble_eq_true rfl, Nat.le_of_ble_eq_true rfl⟩ ⟨Nat.le_of_ble_eq_true rfl, Nat.le_of_ble_eq_true rfl⟩

theorem dJ5_isLatin1_aae02_0 : decode cJ5_isLatin1_aae02 0 = .ok (.getstatic 18, 3) := by decide +kernel
theorem dJ5_isLatin1_aae02_3 : decode cJ5_isLatin1_aae02 3 = .ok (.ifCond .eq 14, 3) := by decide +kernel
theorem dJ5_isLatin1_aae02_6 : decode cJ5_isLatin1_aae02 6 = .ok (.aload_n 0, 1) := by decide +kernel
theorem dJ5_isLatin1_aae02_7 : decode cJ5_isLatin1_aae02 7 = .ok (.getfield 22, 3) := by decide +kernel
theorem dJ5_isLatin1_aae02_10 : decode cJ5_isLatin1_aae02 10 = .ok (.ifCond .ne 7, 3) := by decide +kernel
theorem dJ5_isLatin1_aae02_13 : decode cJ5_isLatin1_aae02 13 = .ok (.iconst 1, 1) := by decide +kernel
theorem dJ5_isLatin1_aae02_14 : decode cJ5_isLatin1_aae02 14 = .ok (.goto 4, 3) := by decide +kernel
theorem dJ5_isLatin1_aae02_17 : decode cJ5_isLatin1_aae02 17 = .ok (.iconst 0, 1) := by decide +kernel
theorem dJ5_isLatin1_aae02_18 : decode cJ5_isLatin1_aae02 18 = .ok (.ireturn, 1) := by decide +kernel
set_option maxHeartbeats 4000000 in
set_option maxRecDepth 100000 in
/-- isLatin1 -/
theorem c_J5_isLatin1_aae02 (l : Launch) (g : Gm) (a ea cap : Nat) (n : Int32) (t : Nat → Int32) : MXi (S := Unit) l g yJ5_isLatin1_aae02 cJ5_isLatin1_aae02 1 .boolean ({ frames := 0, cells := 0, slots := 0, locals := 0 } : Room) [.ref a] [(a, .inr (7, [.ref ea, .int 0, .int 0, .int n])), (ea, .inl (g.2.1 3, cap, .inl t))] (fun r _ => r = 1) ((fun _ => [(a, .inr (7, [.ref ea, .int 0, .int 0, .int n])), (ea, .inl (g.2.1 3, cap, .inl t))])) (fun _ => (0, 0)) := by
  intro sz tt
  refine ofX RJ5 rfl (by decide +kernel) (Nat.le_of_ble_eq_true rfl) (fun p e s m args below meth c hargs S hml hr hlk hnm hsz htt hK hA hZ E ls hl => ?_)
  have hx := S.1
  have hb := S.2.1
  have hl : lv_has ls 1 [(0, .ref a)] := hl
  refine w_gets S hZ.1 E fl_J5_18 dJ5_isLatin1_aae02_0 ?_
  refine lv_if_eq (tgt := 17) hx hb dJ5_isLatin1_aae02_3 (by decide) (fun c_ => absurd c_ (by decide)) (fun _ => ?_)
  refine lv_aload_n hx hb dJ5_isLatin1_aae02_6 rfl (lv_at hl 0 rfl) ?_
  refine wg_J5_22 (v := .int 0) S hK E 0 rfl rfl dJ5_isLatin1_aae02_7 ?_
  refine lv_if_ne (tgt := 17) hx hb dJ5_isLatin1_aae02_10 (by decide) (fun c_ => absurd (by decide) c_) (fun _ => ?_)
  refine lv_iconst (v := 1) hx hb dJ5_isLatin1_aae02_13 (by decide) ?_
  refine lv_goto (tgt := 18) hx hb dJ5_isLatin1_aae02_14 (by decide) ?_
  exact x_zret () S hr hlk hsz htt hK E dJ5_isLatin1_aae02_18 rfl rfl rfl ⟨Nat.le_of_ble_eq_true rfl, Nat.le_of_ble_eq_true rfl⟩ ⟨Nat.le_of_ble_eq_true rfl, Nat.le_of_ble_eq_true rfl⟩

theorem dJ8_newLength_cabcc_0 : decode cJ8_newLength_cabcc 0 = .ok (.iload_n 0, 1) := by decide +kernel
theorem dJ8_newLength_cabcc_1 : decode cJ8_newLength_cabcc 1 = .ok (.iload_n 1, 1) := by decide +kernel
theorem dJ8_newLength_cabcc_2 : decode cJ8_newLength_cabcc 2 = .ok (.iload_n 2, 1) := by decide +kernel
theorem dJ8_newLength_cabcc_3 : decode cJ8_newLength_cabcc 3 = .ok (.invokestatic 194, 3) := by decide +kernel
theorem dJ8_newLength_cabcc_6 : decode cJ8_newLength_cabcc 6 = .ok (.iadd, 1) := by decide +kernel
theorem dJ8_newLength_cabcc_7 : decode cJ8_newLength_cabcc 7 = .ok (.istore_n 3, 1) := by decide +kernel
theorem dJ8_newLength_cabcc_8 : decode cJ8_newLength_cabcc 8 = .ok (.iconst 0, 1) := by decide +kernel
theorem dJ8_newLength_cabcc_9 : decode cJ8_newLength_cabcc 9 = .ok (.iload_n 3, 1) := by decide +kernel
theorem dJ8_newLength_cabcc_10 : decode cJ8_newLength_cabcc 10 = .ok (.if_icmp .ge 11, 3) := by decide +kernel
theorem dJ8_newLength_cabcc_13 : decode cJ8_newLength_cabcc 13 = .ok (.iload_n 3, 1) := by decide +kernel
theorem dJ8_newLength_cabcc_14 : decode cJ8_newLength_cabcc 14 = .ok (.ldc 200, 2) := by decide +kernel
theorem dJ8_newLength_cabcc_16 : decode cJ8_newLength_cabcc 16 = .ok (.if_icmp .gt 5, 3) := by decide +kernel
theorem dJ8_newLength_cabcc_19 : decode cJ8_newLength_cabcc 19 = .ok (.iload_n 3, 1) := by decide +kernel
theorem dJ8_newLength_cabcc_20 : decode cJ8_newLength_cabcc 20 = .ok (.ireturn, 1) := by decide +kernel
theorem dJ8_newLength_cabcc_21 : decode cJ8_newLength_cabcc 21 = .ok (.iload_n 0, 1) := by decide +kernel
theorem dJ8_newLength_cabcc_22 : decode cJ8_newLength_cabcc 22 = .ok (.iload_n 1, 1) := by decide +kernel
theorem dJ8_newLength_cabcc_23 : decode cJ8_newLength_cabcc 23 = .ok (.invokestatic 201, 3) := by decide +kernel
theorem dJ8_newLength_cabcc_26 : decode cJ8_newLength_cabcc 26 = .ok (.ireturn, 1) := by decide +kernel
set_option maxHeartbeats 4000000 in
set_option maxRecDepth 100000 in
/-- ArraysSupport.newLength -/
theorem c_J8_newLength_cabcc (l : Launch) (g : Gm) (x y z : Nat) (h1 : y ≤ z) (h2 : 0 < x + z) (h3 : x + z < 1000000) : MXi (S := Unit) l g yJ8_newLength_cabcc cJ8_newLength_cabcc 4 .int ({ frames := 1, cells := 0, slots := 0, locals := 14 } : Room) [.int (nI x), .int (nI y), .int (nI z)] [] (fun r _ => r = nI (x + z)) ((fun _ => [])) (fun _ => (0, 0)) := by
  intro sz tt
  refine ofX RJ8 rfl (by decide +kernel) (Nat.le_of_ble_eq_true rfl) (fun p e s m args below meth c hargs S hml hr hlk hnm hsz htt hK hA hZ E ls hl => ?_)
  have hx := S.1
  have hb := S.2.1
  have hl : lv_has ls 4 [(0, .int (nI x)), (1, .int (nI y)), (2, .int (nI z))] := hl
  refine lv_iload_n hx hb dJ8_newLength_cabcc_0 rfl (lv_at hl 0 rfl) ?_
  refine lv_iload_n hx hb dJ8_newLength_cabcc_1 rfl (lv_at hl 1 rfl) ?_
  refine lv_iload_n hx hb dJ8_newLength_cabcc_2 rfl (lv_at hl 2 rfl) ?_
  refine w_max (v := (mx (nI y) (nI z))) S hml hl ml_J8_194 st_max in_J9 co_max (Nat.le_of_ble_eq_true rfl) (Nat.le_of_ble_eq_true rfl) ⟨Nat.le_of_ble_eq_true rfl, Nat.le_of_ble_eq_true rfl⟩ rfl dJ8_newLength_cabcc_3 ?_
  rw [show ((mx (nI y) (nI z)) : Int32) = (nI z) from mx_r h1 (by omega)]
  refine lv_iadd hx hb dJ8_newLength_cabcc_6 ?_
  rw [show (((nI x) + (nI z)) : Int32) = (nI (x + z)) from nI_add x z]
  refine lv_istore_n (lv' := [(3, .int (nI (x + z))), (0, .int (nI x)), (1, .int (nI y)), (2, .int (nI z))]) hx hb dJ8_newLength_cabcc_7 rfl hl (by decide) rfl (fun ls hl => ?_)
  refine lv_iconst (v := 0) hx hb dJ8_newLength_cabcc_8 (by decide) ?_
  refine lv_iload_n hx hb dJ8_newLength_cabcc_9 rfl (lv_at hl 0 rfl) ?_
  refine lv_icmp_ge (tgt := 21) hx hb dJ8_newLength_cabcc_10 (by decide) (fun c_ => absurd c_ (nI_nle h2 (by omega))) (fun _ => ?_)
  refine lv_iload_n hx hb dJ8_newLength_cabcc_13 rfl (lv_at hl 0 rfl) ?_
  refine lv_ldc (v := 2147483639) hx hb S.2.2.2 (S.2.2.1 _ cn_J8_200) dJ8_newLength_cabcc_14 ?_
  refine lv_icmp_gt (tgt := 21) hx hb dJ8_newLength_cabcc_16 (by decide) (fun c_ => absurd c_ (show ¬ nI 2147483639 < nI (x + z) from nI_nlt (by omega) (by decide))) (fun _ => ?_)
  refine lv_iload_n hx hb dJ8_newLength_cabcc_19 rfl (lv_at hl 0 rfl) ?_
  exact x_iret () S hr hlk hsz htt hK E dJ8_newLength_cabcc_20 rfl rfl ⟨Nat.le_of_ble_eq_true rfl, Nat.le_of_ble_eq_true rfl⟩ ⟨Nat.le_of_ble_eq_true rfl, Nat.le_of_ble_eq_true rfl⟩

theorem dJ5_newCapacity_0f7a4_0 : decode cJ5_newCapacity_0f7a4 0 = .ok (.aload_n 0, 1) := by decide +kernel
theorem dJ5_newCapacity_0f7a4_1 : decode cJ5_newCapacity_0f7a4 1 = .ok (.getfield 15, 3) := by decide +kernel
theorem dJ5_newCapacity_0f7a4_4 : decode cJ5_newCapacity_0f7a4 4 = .ok (.arraylength, 1) := by decide +kernel
theorem dJ5_newCapacity_0f7a4_5 : decode cJ5_newCapacity_0f7a4 5 = .ok (.istore_n 2, 1) := by decide +kernel
theorem dJ5_newCapacity_0f7a4_6 : decode cJ5_newCapacity_0f7a4 6 = .ok (.iload_n 1, 1) := by decide +kernel
theorem dJ5_newCapacity_0f7a4_7 : decode cJ5_newCapacity_0f7a4 7 = .ok (.aload_n 0, 1) := by decide +kernel
theorem dJ5_newCapacity_0f7a4_8 : decode cJ5_newCapacity_0f7a4 8 = .ok (.getfield 22, 3) := by decide +kernel
theorem dJ5_newCapacity_0f7a4_11 : decode cJ5_newCapacity_0f7a4 11 = .ok (.ishl, 1) := by decide +kernel
theorem dJ5_newCapacity_0f7a4_12 : decode cJ5_newCapacity_0f7a4 12 = .ok (.istore_n 3, 1) := by decide +kernel
theorem dJ5_newCapacity_0f7a4_13 : decode cJ5_newCapacity_0f7a4 13 = .ok (.iload_n 3, 1) := by decide +kernel
theorem dJ5_newCapacity_0f7a4_14 : decode cJ5_newCapacity_0f7a4 14 = .ok (.iload_n 2, 1) := by decide +kernel
theorem dJ5_newCapacity_0f7a4_15 : decode cJ5_newCapacity_0f7a4 15 = .ok (.isub, 1) := by decide +kernel
theorem dJ5_newCapacity_0f7a4_16 : decode cJ5_newCapacity_0f7a4 16 = .ok (.istore 4, 2) := by decide +kernel
theorem dJ5_newCapacity_0f7a4_18 : decode cJ5_newCapacity_0f7a4 18 = .ok (.iload_n 2, 1) := by decide +kernel
theorem dJ5_newCapacity_0f7a4_19 : decode cJ5_newCapacity_0f7a4 19 = .ok (.iload 4, 2) := by decide +kernel
theorem dJ5_newCapacity_0f7a4_21 : decode cJ5_newCapacity_0f7a4 21 = .ok (.iload_n 2, 1) := by decide +kernel
theorem dJ5_newCapacity_0f7a4_22 : decode cJ5_newCapacity_0f7a4 22 = .ok (.iconst 2, 1) := by decide +kernel
theorem dJ5_newCapacity_0f7a4_23 : decode cJ5_newCapacity_0f7a4 23 = .ok (.aload_n 0, 1) := by decide +kernel
theorem dJ5_newCapacity_0f7a4_24 : decode cJ5_newCapacity_0f7a4 24 = .ok (.getfield 22, 3) := by decide +kernel
theorem dJ5_newCapacity_0f7a4_27 : decode cJ5_newCapacity_0f7a4 27 = .ok (.ishl, 1) := by decide +kernel
theorem dJ5_newCapacity_0f7a4_28 : decode cJ5_newCapacity_0f7a4 28 = .ok (.iadd, 1) := by decide +kernel
theorem dJ5_newCapacity_0f7a4_29 : decode cJ5_newCapacity_0f7a4 29 = .ok (.invokestatic 114, 3) := by decide +kernel
theorem dJ5_newCapacity_0f7a4_32 : decode cJ5_newCapacity_0f7a4 32 = .ok (.istore 5, 2) := by decide +kernel
theorem dJ5_newCapacity_0f7a4_34 : decode cJ5_newCapacity_0f7a4 34 = .ok (.iload 5, 2) := by decide +kernel
theorem dJ5_newCapacity_0f7a4_36 : decode cJ5_newCapacity_0f7a4 36 = .ok (.ldc 39, 2) := by decide +kernel
theorem dJ5_newCapacity_0f7a4_38 : decode cJ5_newCapacity_0f7a4 38 = .ok (.if_icmp .ne 13, 3) := by decide +kernel
theorem dJ5_newCapacity_0f7a4_41 : decode cJ5_newCapacity_0f7a4 41 = .ok (.new 120, 3) := by decide +kernel
theorem dJ5_newCapacity_0f7a4_44 : decode cJ5_newCapacity_0f7a4 44 = .ok (.dup, 1) := by decide +kernel
theorem dJ5_newCapacity_0f7a4_45 : decode cJ5_newCapacity_0f7a4 45 = .ok (.ldc 122, 2) := by decide +kernel
theorem dJ5_newCapacity_0f7a4_47 : decode cJ5_newCapacity_0f7a4 47 = .ok (.invokespecial 124, 3) := by decide +kernel
theorem dJ5_newCapacity_0f7a4_50 : decode cJ5_newCapacity_0f7a4 50 = .ok (.athrow, 1) := by decide +kernel
theorem dJ5_newCapacity_0f7a4_51 : decode cJ5_newCapacity_0f7a4 51 = .ok (.iload 5, 2) := by decide +kernel
theorem dJ5_newCapacity_0f7a4_53 : decode cJ5_newCapacity_0f7a4 53 = .ok (.aload_n 0, 1) := by decide +kernel
theorem dJ5_newCapacity_0f7a4_54 : decode cJ5_newCapacity_0f7a4 54 = .ok (.getfield 22, 3) := by decide +kernel
theorem dJ5_newCapacity_0f7a4_57 : decode cJ5_newCapacity_0f7a4 57 = .ok (.ishr, 1) := by decide +kernel
theorem dJ5_newCapacity_0f7a4_58 : decode cJ5_newCapacity_0f7a4 58 = .ok (.ireturn, 1) := by decide +kernel
set_option maxHeartbeats 4000000 in
set_option maxRecDepth 100000 in
/-- newCapacity, of one letter more than there is room for -/
theorem c_J5_newCapacity_0f7a4 (l : Launch) (g : Gm) (a ea cap w : Nat) (n : Int32) (t : Nat → Int32) (hc : cap < 100000) (hw : w = cap + 1) : MXi (S := Unit) l g yJ5_newCapacity_0f7a4 cJ5_newCapacity_0f7a4 6 .int ({ frames := 2, cells := 0, slots := 0, locals := 37 } : Room) [.ref a, .int (nI w)] [(a, .inr (7, [.ref ea, .int 0, .int 0, .int n])), (ea, .inl (g.2.1 3, cap, .inl t))] (fun r _ => r = nI (cap + (cap + 2))) ((fun _ => [(a, .inr (7, [.ref ea, .int 0, .int 0, .int n])), (ea, .inl (g.2.1 3, cap, .inl t))])) (fun _ => (0, 0)) := by
  intro sz tt
  refine ofX RJ5 rfl (by decide +kernel) (Nat.le_of_ble_eq_true rfl) (fun p e s m args below meth c hargs S hml hr hlk hnm hsz htt hK hA hZ E ls hl => ?_)
  have hx := S.1
  have hb := S.2.1
  have hl : lv_has ls 6 [(0, .ref a), (1, .int (nI w))] := hl
  refine lv_aload_n hx hb dJ5_newCapacity_0f7a4_0 rfl (lv_at hl 0 rfl) ?_
  refine wg_J5_15 (v := .ref ea) S hK E 0 rfl rfl dJ5_newCapacity_0f7a4_1 ?_
  refine w_alen (v := nI cap) S hK E 1 3 rfl rfl rfl dJ5_newCapacity_0f7a4_4 ?_
  refine lv_istore_n (lv' := [(2, .int (nI cap)), (0, .ref a), (1, .int (nI w))]) hx hb dJ5_newCapacity_0f7a4_5 rfl hl (by decide) rfl (fun ls hl => ?_)
  refine lv_iload_n hx hb dJ5_newCapacity_0f7a4_6 rfl (lv_at hl 2 rfl) ?_
  refine lv_aload_n hx hb dJ5_newCapacity_0f7a4_7 rfl (lv_at hl 1 rfl) ?_
  refine wg_J5_22 (v := .int 0) S hK E 0 rfl rfl dJ5_newCapacity_0f7a4_8 ?_
  refine lv_ishl hx hb dJ5_newCapacity_0f7a4_11 ?_
  rw [show (((nI w) <<< (0 &&& 31)) : Int32) = (nI w) from sb_shl0 _]
  refine lv_istore_n (lv' := [(3, .int (nI w)), (2, .int (nI cap)), (0, .ref a), (1, .int (nI w))]) hx hb dJ5_newCapacity_0f7a4_12 rfl hl (by decide) rfl (fun ls hl => ?_)
  refine lv_iload_n hx hb dJ5_newCapacity_0f7a4_13 rfl (lv_at hl 0 rfl) ?_
  refine lv_iload_n hx hb dJ5_newCapacity_0f7a4_14 rfl (lv_at hl 1 rfl) ?_
  refine lv_isub hx hb dJ5_newCapacity_0f7a4_15 ?_
  rw [show (((nI w) - (nI cap)) : Int32) = (nI 1) from (by rw [hw, pk_sub (by omega), Nat.add_sub_cancel_left])]
  refine lv_istore (lv' := [(4, .int (nI 1)), (3, .int (nI w)), (2, .int (nI cap)), (0, .ref a), (1, .int (nI w))]) hx hb dJ5_newCapacity_0f7a4_16 hl (by decide) rfl (fun ls hl => ?_)
  refine lv_iload_n hx hb dJ5_newCapacity_0f7a4_18 rfl (lv_at hl 2 rfl) ?_
  refine lv_iload hx hb dJ5_newCapacity_0f7a4_19 (lv_at hl 0 rfl) ?_
  refine lv_iload_n hx hb dJ5_newCapacity_0f7a4_21 rfl (lv_at hl 2 rfl) ?_
  refine lv_iconst (v := 2) hx hb dJ5_newCapacity_0f7a4_22 (by decide) ?_
  refine lv_aload_n hx hb dJ5_newCapacity_0f7a4_23 rfl (lv_at hl 3 rfl) ?_
  refine wg_J5_22 (v := .int 0) S hK E 0 rfl rfl dJ5_newCapacity_0f7a4_24 ?_
  refine lv_ishl hx hb dJ5_newCapacity_0f7a4_27 ?_
  rw [show (((2 : Int32) <<< (0 &&& 31)) : Int32) = 2 from sb_shl0 _]
  refine lv_iadd hx hb dJ5_newCapacity_0f7a4_28 ?_
  rw [show (((nI cap) + 2) : Int32) = (nI (cap + 2)) from nI_add cap 2]
  refine w_reti (runS_X (As := [.int (nI cap), .int (nI 1), .int (nI (cap + 2))]) (rest := []) (n := 3) S hml hK (hZ.at E) (Cut.of (wc := []) (wr := [(a, .inr (7, [.ref ea, .int 0, .int 0, .int n])), (ea, .inl (g.2.1 3, cap, .inl t))]) E hA [] [0, 1] rfl rfl rfl rfl (by decide)) (c_J8_newLength_cabcc l g cap 1 (cap + 2) (by omega) (by omega) (by omega) _ _) ml_J5_114 st_J8_newLength_cabcc in_J8 co_J8_newLength_cabcc ⟨by decide +kernel, by decide +kernel, by decide +kernel⟩ ⟨Nat.le_of_ble_eq_true rfl, Nat.le_of_ble_eq_true rfl⟩ rfl hl.1 rfl (Nat.le_of_ble_eq_true rfl) dJ5_newCapacity_0f7a4_29 ⟨Nat.le_of_ble_eq_true rfl, Nat.le_of_ble_eq_true rfl⟩) (Cut.of (wc := []) (wr := [(a, .inr (7, [.ref ea, .int 0, .int 0, .int n])), (ea, .inl (g.2.1 3, cap, .inl t))]) E hA [] [0, 1] rfl rfl rfl rfl (by decide)) E (fun r u0 H locs hp E => ?_)
  subst hp
  have E : Ev g _ s.heap H locs [(a, .inr (7, [.ref ea, .int 0, .int 0, .int n])), (ea, .inl (g.2.1 3, cap, .inl t))] := E
  refine lv_istore (lv' := [(5, .int (nI (cap + (cap + 2)))), (4, .int (nI 1)), (3, .int (nI w)), (2, .int (nI cap)), (0, .ref a), (1, .int (nI w))]) hx hb dJ5_newCapacity_0f7a4_32 hl (by decide) rfl (fun ls hl => ?_)
  refine lv_iload hx hb dJ5_newCapacity_0f7a4_34 (lv_at hl 0 rfl) ?_
  refine lv_ldc (v := 2147483647) hx hb S.2.2.2 (S.2.2.1 _ cn_J5_39) dJ5_newCapacity_0f7a4_36 ?_
  refine lv_icmp_ne (tgt := 51) hx hb dJ5_newCapacity_0f7a4_38 (by decide) (fun _ => ?_) (fun c_ => absurd c_ (fun z => by have := (nI_eq (by omega) (by decide)).mp (show nI (cap + (cap + 2)) = nI 2147483647 from z); omega))
  refine lv_iload hx hb dJ5_newCapacity_0f7a4_51 (lv_at hl 0 rfl) ?_
  refine lv_aload_n hx hb dJ5_newCapacity_0f7a4_53 rfl (lv_at hl 4 rfl) ?_
  refine wg_J5_22 (v := .int 0) S hK E 0 rfl rfl dJ5_newCapacity_0f7a4_54 ?_
  refine lv_ishr hx hb dJ5_newCapacity_0f7a4_57 ?_
  rw [show (((nI (cap + (cap + 2))) >>> (0 &&& 31)) : Int32) = (nI (cap + (cap + 2))) from sb_shr0 _]
  exact x_iret () S hr hlk hsz htt hK E dJ5_newCapacity_0f7a4_58 rfl rfl ⟨Nat.le_of_ble_eq_true rfl, Nat.le_of_ble_eq_true rfl⟩ ⟨Nat.le_of_ble_eq_true rfl, Nat.le_of_ble_eq_true rfl⟩

theorem Ev.sub {g : Gm} {A : Nat → Prop} {H0 H : Heap} {locs : List Loc} {ws ws' : va_W} (E : Ev g A H0 H locs ws) (is : List Nat) (hs : is.map (fun i => ws[i]?) = ws'.map some) (hn : va_nd is = true) : Ev g A H0 H locs ws' := by
  refine ⟨fun k q hk => ?_, E.2.1.sub is hn hs, E.2.2⟩
  have h1 : (is.map (fun i => ws[i]?))[k]? = some (some q) := by rw [hs, List.getElem?_map, hk]; rfl
  rw [List.getElem?_map] at h1
  cases hi : is[k]? with
  | none => rw [hi] at h1; cases h1
  | some i => rw [hi] at h1; exact E.1 i q (Option.some.inj h1)
theorem cpy_all {t : Nat → Int32} {cap : Nat} (hc : cap < 2 ^ 31) (hz : ∀ j, cap ≤ j → t j = 0) : va_cpy t (fun _ => 0) (0 : Int32).toNatClampNeg (0 : Int32).toNatClampNeg (nI cap).toNatClampNeg = t := by
  funext j
  have e0 : (0 : Int32).toNatClampNeg = 0 := by decide
  rw [e0, nI_clamp hc]
  unfold va_cpy
  by_cases h : j < cap
  · rw [if_pos ⟨Nat.zero_le _, by omega⟩]; congr 1; omega
  · rw [if_neg (fun q => h (by omega)), hz j (by omega)]
def capf (w cap : Nat) : Nat := if w ≤ cap then cap else cap + (cap + 2)
theorem dw_le {w cap : Nat} (h : nI w - nI cap ≤ 0) (hw : w < 2 ^ 30) (hc : cap < 2 ^ 30) : w ≤ cap := by
  rw [Int32.le_iff_toInt_le, pk_sub_toInt hw hc, Int32.toInt_zero] at h; omega
theorem dw_gt {w cap : Nat} (h : ¬ nI w - nI cap ≤ 0) (hw : w < 2 ^ 30) (hc : cap < 2 ^ 30) : cap < w := by
  rw [Int32.le_iff_toInt_le, pk_sub_toInt hw hc, Int32.toInt_zero] at h; omega
theorem i2b_l : ∀ c, c < 128 → (nI c).toInt8.toInt32 = nI c := by decide +kernel
theorem nar_l : ∀ c, c < 128 → vp_nar .byte (nI c) = nI c := by decide +kernel
theorem capf_lt {n cap : Nat} (h : n ≤ cap) : n < capf (n + 1) cap := by unfold capf; split <;> omega
theorem capf_le {n cap : Nat} : capf (n + 1) cap ≤ cap + (cap + 2) := by unfold capf; split <;> omega
theorem dJ7_copyOf_9075b_0 : decode cJ7_copyOf_9075b 0 = .ok (.iload_n 1, 1) := by decide +kernel
theorem dJ7_copyOf_9075b_1 : decode cJ7_copyOf_9075b 1 = .ok (.aload_n 0, 1) := by decide +kernel
theorem dJ7_copyOf_9075b_2 : decode cJ7_copyOf_9075b 2 = .ok (.arraylength, 1) := by decide +kernel
theorem dJ7_copyOf_9075b_3 : decode cJ7_copyOf_9075b 3 = .ok (.if_icmp .ne 11, 3) := by decide +kernel
theorem dJ7_copyOf_9075b_6 : decode cJ7_copyOf_9075b 6 = .ok (.aload_n 0, 1) := by decide +kernel
theorem dJ7_copyOf_9075b_7 : decode cJ7_copyOf_9075b 7 = .ok (.invokevirtual 310, 3) := by decide +kernel
theorem dJ7_copyOf_9075b_10 : decode cJ7_copyOf_9075b 10 = .ok (.checkcast 311, 3) := by decide +kernel
theorem dJ7_copyOf_9075b_13 : decode cJ7_copyOf_9075b 13 = .ok (.areturn, 1) := by decide +kernel
theorem dJ7_copyOf_9075b_14 : decode cJ7_copyOf_9075b 14 = .ok (.iload_n 1, 1) := by decide +kernel
theorem dJ7_copyOf_9075b_15 : decode cJ7_copyOf_9075b 15 = .ok (.newarray .byte, 2) := by decide +kernel
theorem dJ7_copyOf_9075b_17 : decode cJ7_copyOf_9075b 17 = .ok (.astore_n 2, 1) := by decide +kernel
theorem dJ7_copyOf_9075b_18 : decode cJ7_copyOf_9075b 18 = .ok (.aload_n 0, 1) := by decide +kernel
theorem dJ7_copyOf_9075b_19 : decode cJ7_copyOf_9075b 19 = .ok (.iconst 0, 1) := by decide +kernel
theorem dJ7_copyOf_9075b_20 : decode cJ7_copyOf_9075b 20 = .ok (.aload_n 2, 1) := by decide +kernel
theorem dJ7_copyOf_9075b_21 : decode cJ7_copyOf_9075b 21 = .ok (.iconst 0, 1) := by decide +kernel
theorem dJ7_copyOf_9075b_22 : decode cJ7_copyOf_9075b 22 = .ok (.aload_n 0, 1) := by decide +kernel
theorem dJ7_copyOf_9075b_23 : decode cJ7_copyOf_9075b 23 = .ok (.arraylength, 1) := by decide +kernel
theorem dJ7_copyOf_9075b_24 : decode cJ7_copyOf_9075b 24 = .ok (.iload_n 1, 1) := by decide +kernel
theorem dJ7_copyOf_9075b_25 : decode cJ7_copyOf_9075b 25 = .ok (.invokestatic 304, 3) := by decide +kernel
theorem dJ7_copyOf_9075b_28 : decode cJ7_copyOf_9075b 28 = .ok (.invokestatic 150, 3) := by decide +kernel
theorem dJ7_copyOf_9075b_31 : decode cJ7_copyOf_9075b 31 = .ok (.aload_n 2, 1) := by decide +kernel
theorem dJ7_copyOf_9075b_32 : decode cJ7_copyOf_9075b 32 = .ok (.areturn, 1) := by decide +kernel
set_option maxHeartbeats 4000000 in
set_option maxRecDepth 100000 in
/-- Arrays.copyOf(byte[], N), N more than there are -/
theorem c_J7_copyOf_9075b (l : Launch) (g : Gm) (ea cap N : Nat) (t : Nat → Int32) (h : cap < N) (hN : N < 1000000) (hf : ∀ j, fits .byte (.int (t j)) = true) (hz : ∀ j, cap ≤ j → t j = 0) : MXr (S := Nat) l g yJ7_copyOf_9075b cJ7_copyOf_9075b 3 (.array .byte) ({ frames := 1, cells := 1, slots := N, locals := 600 } : Room) [.ref ea, .int (nI N)] [(ea, .inl (g.2.1 3, cap, .inl t))] (fun _ => True) (fun u => u) (fun u => [(ea, .inl (g.2.1 3, cap, .inl t)), (u, .inl (g.2.1 3, N, .inl t))]) (fun _ => (1, N)) := by
  intro sz tt
  refine ofX RJ7 rfl (by decide +kernel) (Nat.le_of_ble_eq_true rfl) (fun p e s m args below meth c hargs S hml hr hlk hnm hsz htt hK hA hZ E ls hl => ?_)
  have hx := S.1
  have hb := S.2.1
  have hl : lv_has ls 3 [(0, .ref ea), (1, .int (nI N))] := hl
  refine lv_iload_n hx hb dJ7_copyOf_9075b_0 rfl (lv_at hl 1 rfl) ?_
  refine lv_aload_n hx hb dJ7_copyOf_9075b_1 rfl (lv_at hl 0 rfl) ?_
  refine w_alen (v := nI cap) S hK E 0 3 rfl rfl rfl dJ7_copyOf_9075b_2 ?_
  refine lv_icmp_ne (tgt := 14) hx hb dJ7_copyOf_9075b_3 (by decide) (fun _ => ?_) (fun c_ => absurd c_ (fun z => by have := (nI_eq (by omega) (by omega)).mp z; omega))
  refine lv_iload_n hx hb dJ7_copyOf_9075b_14 rfl (lv_at hl 1 rfl) ?_
  refine w_newa (atype := .byte) (ty := .byte) (a0 := (N, .inl (fun _ => 0))) (N' := N) 3 S hK E hA ac_byte rfl rfl (fun C h => by cases h) (fun cA => by first | rfl | (rw [vp_cell_i]; rfl)) (nI_pos (by omega)) (nI_clamp (by omega)) (by rw [show componentBytes .byte = 1 from rfl]; omega) (Nat.le_of_ble_eq_true rfl) (by show 0 + N ≤ N; omega) dJ7_copyOf_9075b_15 (fun q1 H E => ?_)
  have E : Ev g _ s.heap H _ [(ea, .inl (g.2.1 3, cap, .inl t)), (q1, .inl (g.2.1 3, N, .inl (fun _ => 0)))] := E
  refine lv_astore_n (lv' := [(2, .ref q1), (0, .ref ea), (1, .int (nI N))]) hx hb dJ7_copyOf_9075b_17 rfl hl (by decide) rfl (fun ls hl => ?_)
  refine lv_aload_n hx hb dJ7_copyOf_9075b_18 rfl (lv_at hl 1 rfl) ?_
  refine lv_iconst (v := 0) hx hb dJ7_copyOf_9075b_19 (by decide) ?_
  refine lv_aload_n hx hb dJ7_copyOf_9075b_20 rfl (lv_at hl 0 rfl) ?_
  refine lv_iconst (v := 0) hx hb dJ7_copyOf_9075b_21 (by decide) ?_
  refine lv_aload_n hx hb dJ7_copyOf_9075b_22 rfl (lv_at hl 1 rfl) ?_
  refine w_alen (v := nI cap) S hK E 0 3 rfl rfl rfl dJ7_copyOf_9075b_23 ?_
  refine lv_iload_n hx hb dJ7_copyOf_9075b_24 rfl (lv_at hl 2 rfl) ?_
  refine w_min (v := (mn (nI cap) (nI N))) S hml hl ml_J7_304 st_min in_J9 co_min (Nat.le_of_ble_eq_true rfl) (Nat.le_of_ble_eq_true rfl) ⟨Nat.le_of_ble_eq_true rfl, (by show 0 + N ≤ N; omega)⟩ rfl dJ7_copyOf_9075b_25 ?_
  rw [show ((mn (nI cap) (nI N)) : Int32) = (nI cap) from mn_l (by omega) (by omega)]
  refine va_copyi hx hb (hml.trans hl.1.symm) S.2.2.2 (S.2.2.1 _ ml_J7_150) (S.2.2.1 _ nt_arraycopy) (S.2.2.1 _ st_arraycopy) (S.2.2.1 _ in_J10) hK E.1 E.2.1 E.2.2 0 1 3 3 rfl rfl rfl rfl rfl (by decide) (by decide) (nI_pos (by omega)) (by rw [nI_clamp (by omega)]; show 0 + cap ≤ cap; omega) (by rw [nI_clamp (by omega)]; show 0 + cap ≤ N; omega) (fun i _ => hf _) (Nat.le_of_ble_eq_true rfl) (Nat.le_of_ble_eq_true rfl) dJ7_copyOf_9075b_28 (fun H locs hP hD hS => ?_)
  have E : Ev g _ s.heap H locs [(ea, .inl (g.2.1 3, cap, .inl t)), (q1, .inl (g.2.1 3, N, .inl (va_cpy t (fun _ => 0) (0 : Int32).toNatClampNeg (0 : Int32).toNatClampNeg (nI cap).toNatClampNeg)))] := ⟨hP, hD, hS⟩
  refine lv_aload_n hx hb dJ7_copyOf_9075b_31 rfl (lv_at hl 0 rfl) ?_
  exact x_aret q1 S hr (by first | exact Or.inl ⟨_, rfl⟩ | exact Or.inr ⟨_, rfl⟩) hlk hsz htt hK E dJ7_copyOf_9075b_32 trivial rfl (by rw [cpy_all (by omega) hz]) ⟨Nat.le_of_ble_eq_true rfl, (by show 0 + N ≤ N; omega)⟩ ⟨Nat.le_of_ble_eq_true rfl, (by show 0 + N ≤ N; omega)⟩

theorem dJ5_ensureCapacityInternal_d00df_0 : decode cJ5_ensureCapacityInternal_d00df 0 = .ok (.aload_n 0, 1) := by decide +kernel
theorem dJ5_ensureCapacityInternal_d00df_1 : decode cJ5_ensureCapacityInternal_d00df 1 = .ok (.getfield 15, 3) := by decide +kernel
theorem dJ5_ensureCapacityInternal_d00df_4 : decode cJ5_ensureCapacityInternal_d00df 4 = .ok (.arraylength, 1) := by decide +kernel
theorem dJ5_ensureCapacityInternal_d00df_5 : decode cJ5_ensureCapacityInternal_d00df 5 = .ok (.aload_n 0, 1) := by decide +kernel
theorem dJ5_ensureCapacityInternal_d00df_6 : decode cJ5_ensureCapacityInternal_d00df 6 = .ok (.getfield 22, 3) := by decide +kernel
theorem dJ5_ensureCapacityInternal_d00df_9 : decode cJ5_ensureCapacityInternal_d00df 9 = .ok (.ishr, 1) := by decide +kernel
theorem dJ5_ensureCapacityInternal_d00df_10 : decode cJ5_ensureCapacityInternal_d00df 10 = .ok (.istore_n 2, 1) := by decide +kernel
theorem dJ5_ensureCapacityInternal_d00df_11 : decode cJ5_ensureCapacityInternal_d00df 11 = .ok (.iload_n 1, 1) := by decide +kernel
theorem dJ5_ensureCapacityInternal_d00df_12 : decode cJ5_ensureCapacityInternal_d00df 12 = .ok (.iload_n 2, 1) := by decide +kernel
theorem dJ5_ensureCapacityInternal_d00df_13 : decode cJ5_ensureCapacityInternal_d00df 13 = .ok (.isub, 1) := by decide +kernel
theorem dJ5_ensureCapacityInternal_d00df_14 : decode cJ5_ensureCapacityInternal_d00df 14 = .ok (.ifCond .le 24, 3) := by decide +kernel
theorem dJ5_ensureCapacityInternal_d00df_17 : decode cJ5_ensureCapacityInternal_d00df 17 = .ok (.aload_n 0, 1) := by decide +kernel
theorem dJ5_ensureCapacityInternal_d00df_18 : decode cJ5_ensureCapacityInternal_d00df 18 = .ok (.aload_n 0, 1) := by decide +kernel
theorem dJ5_ensureCapacityInternal_d00df_19 : decode cJ5_ensureCapacityInternal_d00df 19 = .ok (.getfield 15, 3) := by decide +kernel
theorem dJ5_ensureCapacityInternal_d00df_22 : decode cJ5_ensureCapacityInternal_d00df 22 = .ok (.aload_n 0, 1) := by decide +kernel
theorem dJ5_ensureCapacityInternal_d00df_23 : decode cJ5_ensureCapacityInternal_d00df 23 = .ok (.iload_n 1, 1) := by decide +kernel
theorem dJ5_ensureCapacityInternal_d00df_24 : decode cJ5_ensureCapacityInternal_d00df 24 = .ok (.invokevirtual 104, 3) := by decide +kernel
theorem dJ5_ensureCapacityInternal_d00df_27 : decode cJ5_ensureCapacityInternal_d00df 27 = .ok (.aload_n 0, 1) := by decide +kernel
theorem dJ5_ensureCapacityInternal_d00df_28 : decode cJ5_ensureCapacityInternal_d00df 28 = .ok (.getfield 22, 3) := by decide +kernel
theorem dJ5_ensureCapacityInternal_d00df_31 : decode cJ5_ensureCapacityInternal_d00df 31 = .ok (.ishl, 1) := by decide +kernel
theorem dJ5_ensureCapacityInternal_d00df_32 : decode cJ5_ensureCapacityInternal_d00df 32 = .ok (.invokestatic 108, 3) := by decide +kernel
theorem dJ5_ensureCapacityInternal_d00df_35 : decode cJ5_ensureCapacityInternal_d00df 35 = .ok (.putfield 15, 3) := by decide +kernel
theorem dJ5_ensureCapacityInternal_d00df_38 : decode cJ5_ensureCapacityInternal_d00df 38 = .ok (.return_, 1) := by decide +kernel
set_option maxHeartbeats 4000000 in
set_option maxRecDepth 100000 in
/-- ensureCapacityInternal(w), w at most one more than there is room for -/
theorem c_J5_ensureCapacityInternal_d00df (l : Launch) (g : Gm) (a ea cap w : Nat) (n : Int32) (t : Nat → Int32) (hc : cap < 100000) (hw : w ≤ cap + 1) (hf : ∀ j, fits .byte (.int (t j)) = true) (hz : ∀ j, cap ≤ j → t j = 0) : MXv (S := Nat) l g yJ5_ensureCapacityInternal_d00df cJ5_ensureCapacityInternal_d00df 3 ({ frames := 3, cells := 1, slots := cap + (cap + 2), locals := 622 } : Room) [.ref a, .int (nI w)] [(a, .inr (7, [.ref ea, .int 0, .int 0, .int n])), (ea, .inl (g.2.1 3, cap, .inl t))] (fun u => w ≤ cap → u = ea) (fun u => [(a, .inr (7, [.ref u, .int 0, .int 0, .int n])), (u, .inl (g.2.1 3, capf w cap, .inl t))]) (fun _ => (if w ≤ cap then 0 else 1, if w ≤ cap then 0 else cap + (cap + 2))) := by
  intro sz tt
  refine ofX RJ5 rfl (by decide +kernel) (Nat.le_of_ble_eq_true rfl) (fun p e s m args below meth c hargs S hml hr hlk hnm hsz htt hK hA hZ E ls hl => ?_)
  have hx := S.1
  have hb := S.2.1
  have hl : lv_has ls 3 [(0, .ref a), (1, .int (nI w))] := hl
  refine lv_aload_n hx hb dJ5_ensureCapacityInternal_d00df_0 rfl (lv_at hl 0 rfl) ?_
  refine wg_J5_15 (v := .ref ea) S hK E 0 rfl rfl dJ5_ensureCapacityInternal_d00df_1 ?_
  refine w_alen (v := nI cap) S hK E 1 3 rfl rfl rfl dJ5_ensureCapacityInternal_d00df_4 ?_
  refine lv_aload_n hx hb dJ5_ensureCapacityInternal_d00df_5 rfl (lv_at hl 0 rfl) ?_
  refine wg_J5_22 (v := .int 0) S hK E 0 rfl rfl dJ5_ensureCapacityInternal_d00df_6 ?_
  refine lv_ishr hx hb dJ5_ensureCapacityInternal_d00df_9 ?_
  rw [show (((nI cap) >>> (0 &&& 31)) : Int32) = (nI cap) from sb_shr0 _]
  refine lv_istore_n (lv' := [(2, .int (nI cap)), (0, .ref a), (1, .int (nI w))]) hx hb dJ5_ensureCapacityInternal_d00df_10 rfl hl (by decide) rfl (fun ls hl => ?_)
  refine lv_iload_n hx hb dJ5_ensureCapacityInternal_d00df_11 rfl (lv_at hl 2 rfl) ?_
  refine lv_iload_n hx hb dJ5_ensureCapacityInternal_d00df_12 rfl (lv_at hl 0 rfl) ?_
  refine lv_isub hx hb dJ5_ensureCapacityInternal_d00df_13 ?_
  refine lv_if_le (tgt := 38) hx hb dJ5_ensureCapacityInternal_d00df_14 (by decide) (fun c1 => ?_) (fun c1 => ?_)
  · have c1 : ((nI w) - (nI cap)) ≤ 0 := c1
    have hle : w ≤ cap := dw_le c1 (by omega) (by omega)
    exact x_vret ea S hr hlk hsz htt hK E dJ5_ensureCapacityInternal_d00df_38 (fun _ => rfl) (by unfold capf; rw [if_pos hle]) ⟨Nat.zero_le _, Nat.zero_le _⟩ ⟨Nat.zero_le _, Nat.zero_le _⟩
  · have c1 : ¬ (((nI w) - (nI cap)) ≤ 0) := c1
    refine lv_aload_n hx hb dJ5_ensureCapacityInternal_d00df_17 rfl (lv_at hl 1 rfl) ?_
    refine lv_aload_n hx hb dJ5_ensureCapacityInternal_d00df_18 rfl (lv_at hl 1 rfl) ?_
    refine wg_J5_15 (v := .ref ea) S hK E 0 rfl rfl dJ5_ensureCapacityInternal_d00df_19 ?_
    refine lv_aload_n hx hb dJ5_ensureCapacityInternal_d00df_22 rfl (lv_at hl 1 rfl) ?_
    refine lv_iload_n hx hb dJ5_ensureCapacityInternal_d00df_23 rfl (lv_at hl 2 rfl) ?_
    refine w_reti (runU_X (owner := RJ5) (C := RJ4) (As := [.int (nI w)]) (rest := [.ref ea, .ref a]) (q0 := 0) (n := 1) S hml hK (hZ.at E) (Cut.full E hA) (c_J5_newCapacity_0f7a4 l g a ea cap w n t hc (Nat.le_antisymm hw (dw_gt c1 (by omega) (by omega))) _ _) ml_J5_104 sm_J5_newCapacity (lw_gx (List.mem_of_getElem? (i := 1) rfl) rfl) im_J5_newCapacity_0f7a4 in_J5 co_J5_newCapacity_0f7a4 rfl ⟨by decide +kernel, by decide +kernel, by decide +kernel⟩ ⟨Nat.le_of_ble_eq_true rfl, Nat.le_of_ble_eq_true rfl⟩ rfl rfl rfl hl.1 rfl (Nat.le_of_ble_eq_true rfl) dJ5_ensureCapacityInternal_d00df_24 ⟨Nat.zero_le _, Nat.zero_le _⟩) (Cut.full E hA) E (fun r u0 H locs hp E => ?_)
    subst hp
    have hgt : cap < w := dw_gt c1 (by omega) (by omega)
    have E : Ev g _ s.heap H locs [(a, .inr (7, [.ref ea, .int 0, .int 0, .int n])), (ea, .inl (g.2.1 3, cap, .inl t))] := E
    refine lv_aload_n hx hb dJ5_ensureCapacityInternal_d00df_27 rfl (lv_at hl 1 rfl) ?_
    refine wg_J5_22 (v := .int 0) S hK E 0 rfl rfl dJ5_ensureCapacityInternal_d00df_28 ?_
    refine lv_ishl hx hb dJ5_ensureCapacityInternal_d00df_31 ?_
    rw [show (((nI (cap + (cap + 2))) <<< (0 &&& 31)) : Int32) = (nI (cap + (cap + 2))) from sb_shl0 _]
    refine w_retr (runS_X (As := [.ref ea, .int (nI (cap + (cap + 2)))]) (rest := [.ref a]) (n := 2) S hml hK (hZ.at E) (Cut.of (wc := [(ea, .inl (g.2.1 3, cap, .inl t))]) (wr := [(a, .inr (7, [.ref ea, .int 0, .int 0, .int n]))]) E hA [1] [0] rfl rfl rfl rfl (by decide)) (c_J7_copyOf_9075b l g ea cap (cap + (cap + 2)) t (by omega) (by omega) hf hz _ _) ml_J5_108 st_J7_copyOf_9075b in_J7 co_J7_copyOf_9075b ⟨by decide +kernel, by decide +kernel, by decide +kernel⟩ ⟨Nat.le_of_ble_eq_true rfl, Nat.le_of_ble_eq_true rfl⟩ rfl hl.1 rfl (Nat.le_of_ble_eq_true rfl) dJ5_ensureCapacityInternal_d00df_32 ⟨Nat.le_of_ble_eq_true rfl, (by show 0 + 0 + (cap + (cap + 2)) ≤ cap + (cap + 2); omega)⟩) (Cut.of (wc := [(ea, .inl (g.2.1 3, cap, .inl t))]) (wr := [(a, .inr (7, [.ref ea, .int 0, .int 0, .int n]))]) E hA [1] [0] rfl rfl rfl rfl (by decide)) E (fun u H locs hp E => ?_)
    have E : Ev g _ s.heap H locs [(a, .inr (7, [.ref ea, .int 0, .int 0, .int n])), (ea, .inl (g.2.1 3, cap, .inl t)), (u, .inl (g.2.1 3, cap + (cap + 2), .inl t))] := E
    refine wp_J5_15 (w' := [(a, .inr (7, [.ref u, .int 0, .int 0, .int n])), (ea, .inl (g.2.1 3, cap, .inl t)), (u, .inl (g.2.1 3, cap + (cap + 2), .inl t))]) S hK E 0 rfl rfl rfl (Nat.le_of_ble_eq_true rfl) rfl dJ5_ensureCapacityInternal_d00df_35 (fun H locs E => ?_)
    have E := Ev.sub (ws' := [(a, .inr (7, [.ref u, .int 0, .int 0, .int n])), (u, .inl (g.2.1 3, cap + (cap + 2), .inl t))]) E [0, 2] rfl rfl
    exact x_vret u S hr hlk hsz htt hK E dJ5_ensureCapacityInternal_d00df_38 (fun q => absurd q (Nat.not_le.mpr hgt)) (by unfold capf; rw [if_neg (Nat.not_le.mpr hgt)]) ⟨(by show _ ≤ (if w ≤ cap then 0 else 1); rw [if_neg (Nat.not_le.mpr hgt)]; exact Nat.le_of_ble_eq_true rfl), (by show 0 + 0 + (cap + (cap + 2)) ≤ (if w ≤ cap then 0 else cap + (cap + 2)); rw [if_neg (Nat.not_le.mpr hgt)]; omega)⟩ ⟨Nat.le_of_ble_eq_true rfl, (by show 0 + 0 + (cap + (cap + 2)) ≤ cap + (cap + 2); omega)⟩

theorem dJ5_append_3fe6f_0 : decode cJ5_append_3fe6f 0 = .ok (.aload_n 0, 1) := by decide +kernel
theorem dJ5_append_3fe6f_1 : decode cJ5_append_3fe6f 1 = .ok (.aload_n 0, 1) := by decide +kernel
theorem dJ5_append_3fe6f_2 : decode cJ5_append_3fe6f 2 = .ok (.getfield 79, 3) := by decide +kernel
theorem dJ5_append_3fe6f_5 : decode cJ5_append_3fe6f 5 = .ok (.iconst 1, 1) := by decide +kernel
theorem dJ5_append_3fe6f_6 : decode cJ5_append_3fe6f 6 = .ok (.iadd, 1) := by decide +kernel
theorem dJ5_append_3fe6f_7 : decode cJ5_append_3fe6f 7 = .ok (.invokevirtual 100, 3) := by decide +kernel
theorem dJ5_append_3fe6f_10 : decode cJ5_append_3fe6f 10 = .ok (.aload_n 0, 1) := by decide +kernel
theorem dJ5_append_3fe6f_11 : decode cJ5_append_3fe6f 11 = .ok (.invokevirtual 83, 3) := by decide +kernel
theorem dJ5_append_3fe6f_14 : decode cJ5_append_3fe6f 14 = .ok (.ifCond .eq 31, 3) := by decide +kernel
theorem dJ5_append_3fe6f_17 : decode cJ5_append_3fe6f 17 = .ok (.iload_n 1, 1) := by decide +kernel
theorem dJ5_append_3fe6f_18 : decode cJ5_append_3fe6f 18 = .ok (.invokestatic 191, 3) := by decide +kernel
theorem dJ5_append_3fe6f_21 : decode cJ5_append_3fe6f 21 = .ok (.ifCond .eq 24, 3) := by decide +kernel
theorem dJ5_append_3fe6f_24 : decode cJ5_append_3fe6f 24 = .ok (.aload_n 0, 1) := by decide +kernel
theorem dJ5_append_3fe6f_25 : decode cJ5_append_3fe6f 25 = .ok (.getfield 15, 3) := by decide +kernel
theorem dJ5_append_3fe6f_28 : decode cJ5_append_3fe6f 28 = .ok (.aload_n 0, 1) := by decide +kernel
theorem dJ5_append_3fe6f_29 : decode cJ5_append_3fe6f 29 = .ok (.dup, 1) := by decide +kernel
theorem dJ5_append_3fe6f_30 : decode cJ5_append_3fe6f 30 = .ok (.getfield 79, 3) := by decide +kernel
theorem dJ5_append_3fe6f_33 : decode cJ5_append_3fe6f 33 = .ok (.dup_x1, 1) := by decide +kernel
theorem dJ5_append_3fe6f_34 : decode cJ5_append_3fe6f 34 = .ok (.iconst 1, 1) := by decide +kernel
theorem dJ5_append_3fe6f_35 : decode cJ5_append_3fe6f 35 = .ok (.iadd, 1) := by decide +kernel
theorem dJ5_append_3fe6f_36 : decode cJ5_append_3fe6f 36 = .ok (.putfield 79, 3) := by decide +kernel
theorem dJ5_append_3fe6f_39 : decode cJ5_append_3fe6f 39 = .ok (.iload_n 1, 1) := by decide +kernel
theorem dJ5_append_3fe6f_40 : decode cJ5_append_3fe6f 40 = .ok (.i2b, 1) := by decide +kernel
theorem dJ5_append_3fe6f_41 : decode cJ5_append_3fe6f 41 = .ok (.bastore, 1) := by decide +kernel
theorem dJ5_append_3fe6f_42 : decode cJ5_append_3fe6f 42 = .ok (.goto 33, 3) := by decide +kernel
theorem dJ5_append_3fe6f_45 : decode cJ5_append_3fe6f 45 = .ok (.aload_n 0, 1) := by decide +kernel
theorem dJ5_append_3fe6f_46 : decode cJ5_append_3fe6f 46 = .ok (.invokevirtual 83, 3) := by decide +kernel
theorem dJ5_append_3fe6f_49 : decode cJ5_append_3fe6f 49 = .ok (.ifCond .eq 7, 3) := by decide +kernel
theorem dJ5_append_3fe6f_52 : decode cJ5_append_3fe6f 52 = .ok (.aload_n 0, 1) := by decide +kernel
theorem dJ5_append_3fe6f_53 : decode cJ5_append_3fe6f 53 = .ok (.invokevirtual 195, 3) := by decide +kernel
theorem dJ5_append_3fe6f_56 : decode cJ5_append_3fe6f 56 = .ok (.aload_n 0, 1) := by decide +kernel
theorem dJ5_append_3fe6f_57 : decode cJ5_append_3fe6f 57 = .ok (.getfield 15, 3) := by decide +kernel
theorem dJ5_append_3fe6f_60 : decode cJ5_append_3fe6f 60 = .ok (.aload_n 0, 1) := by decide +kernel
theorem dJ5_append_3fe6f_61 : decode cJ5_append_3fe6f 61 = .ok (.dup, 1) := by decide +kernel
theorem dJ5_append_3fe6f_62 : decode cJ5_append_3fe6f 62 = .ok (.getfield 79, 3) := by decide +kernel
theorem dJ5_append_3fe6f_65 : decode cJ5_append_3fe6f 65 = .ok (.dup_x1, 1) := by decide +kernel
theorem dJ5_append_3fe6f_66 : decode cJ5_append_3fe6f 66 = .ok (.iconst 1, 1) := by decide +kernel
theorem dJ5_append_3fe6f_67 : decode cJ5_append_3fe6f 67 = .ok (.iadd, 1) := by decide +kernel
theorem dJ5_append_3fe6f_68 : decode cJ5_append_3fe6f 68 = .ok (.putfield 79, 3) := by decide +kernel
theorem dJ5_append_3fe6f_71 : decode cJ5_append_3fe6f 71 = .ok (.iload_n 1, 1) := by decide +kernel
theorem dJ5_append_3fe6f_72 : decode cJ5_append_3fe6f 72 = .ok (.invokestatic 197, 3) := by decide +kernel
theorem dJ5_append_3fe6f_75 : decode cJ5_append_3fe6f 75 = .ok (.aload_n 0, 1) := by decide +kernel
theorem dJ5_append_3fe6f_76 : decode cJ5_append_3fe6f 76 = .ok (.areturn, 1) := by decide +kernel
set_option maxHeartbeats 4000000 in
set_option maxRecDepth 100000 in
/-- AbstractStringBuilder.append of a letter -/
theorem c_J5_append_3fe6f (l : Launch) (g : Gm) (a ea cap n c0 : Nat) (t : Nat → Int32) (hc : cap < 50000) (hn : n ≤ cap) (h0 : c0 < 128) (hf : ∀ j, fits .byte (.int (t j)) = true) (hz : ∀ j, cap ≤ j → t j = 0) : MXr (S := Nat) l g yJ5_append_3fe6f cJ5_append_3fe6f 2 (.object "java/lang/AbstractStringBuilder") ({ frames := 4, cells := 1, slots := cap + (cap + 2), locals := 644 } : Room) [.ref a, .int (nI c0)] [(a, .inr (7, [.ref ea, .int 0, .int 0, .int (nI n)])), (ea, .inl (g.2.1 3, cap, .inl t))] (fun _ => True) (fun _ => a) (fun u => [(a, .inr (7, [.ref u, .int 0, .int 0, .int (nI (n + 1))])), (u, .inl (g.2.1 3, capf (n + 1) cap, .inl (upd t n (nI c0))))]) (fun _ => (if n + 1 ≤ cap then 0 else 1, if n + 1 ≤ cap then 0 else cap + (cap + 2))) := by
  intro sz tt
  refine ofX RJ5 rfl (by decide +kernel) (Nat.le_of_ble_eq_true rfl) (fun p e s m args below meth c hargs S hml hr hlk hnm hsz htt hK hA hZ E ls hl => ?_)
  have hx := S.1
  have hb := S.2.1
  have hl : lv_has ls 2 [(0, .ref a), (1, .int (nI c0))] := hl
  refine lv_aload_n hx hb dJ5_append_3fe6f_0 rfl (lv_at hl 0 rfl) ?_
  refine lv_aload_n hx hb dJ5_append_3fe6f_1 rfl (lv_at hl 0 rfl) ?_
  refine wg_J5_79 (v := .int (nI n)) S hK E 0 rfl rfl dJ5_append_3fe6f_2 ?_
  refine lv_iconst (v := 1) hx hb dJ5_append_3fe6f_5 (by decide) ?_
  refine lv_iadd hx hb dJ5_append_3fe6f_6 ?_
  rw [show (((nI n) + 1) : Int32) = (nI (n + 1)) from nI_1 n]
  refine w_retv (runU_X (owner := RJ5) (C := RJ4) (As := [.int (nI (n + 1))]) (rest := []) (q0 := 0) (n := 1) S hml hK (hZ.at E) (Cut.full E hA) (c_J5_ensureCapacityInternal_d00df l g a ea cap (n + 1) (nI n) t (by omega) (by omega) hf hz _ _) ml_J5_100 sm_J5_ensureCapacityInternal (lw_gx (List.mem_of_getElem? (i := 0) rfl) rfl) im_J5_ensureCapacityInternal_d00df in_J5 co_J5_ensureCapacityInternal_d00df rfl ⟨by decide +kernel, by decide +kernel, by decide +kernel⟩ ⟨Nat.le_of_ble_eq_true rfl, Nat.le_of_ble_eq_true rfl⟩ rfl rfl rfl hl.1 rfl (Nat.le_of_ble_eq_true rfl) dJ5_append_3fe6f_7 ⟨Nat.le_of_ble_eq_true rfl, (by show 0 + (cap + (cap + 2)) ≤ cap + (cap + 2); omega)⟩) (Cut.full E hA) E (fun u H locs hp E => ?_)
  have E : Ev g _ s.heap H locs [(a, .inr (7, [.ref u, .int 0, .int 0, .int (nI n)])), (u, .inl (g.2.1 3, capf (n + 1) cap, .inl t))] := E
  refine lv_aload_n hx hb dJ5_append_3fe6f_10 rfl (lv_at hl 0 rfl) ?_
  refine w_reti (runU_X (owner := RJ5) (C := RJ4) (As := []) (rest := []) (q0 := 0) (n := 0) S hml hK (hZ.at E) (Cut.full E hA) (c_J5_isLatin1_aae02 l g a u (capf (n + 1) cap) (nI n) t _ _) ml_J5_83 sm_J5_isLatin1 sl_J4_J5_isLatin1_aae02 im_J5_isLatin1_aae02 in_J5 co_J5_isLatin1_aae02 rfl ⟨by decide +kernel, by decide +kernel, by decide +kernel⟩ ⟨Nat.le_of_ble_eq_true rfl, Nat.le_of_ble_eq_true rfl⟩ rfl rfl rfl hl.1 rfl (Nat.le_of_ble_eq_true rfl) dJ5_append_3fe6f_11 ⟨(by show 0 + (if n + 1 ≤ cap then 0 else 1) + 0 ≤ 1; split <;> omega), (by show 0 + (if n + 1 ≤ cap then 0 else cap + (cap + 2)) + 0 ≤ cap + (cap + 2); split <;> omega)⟩) (Cut.full E hA) E (fun r u0 H locs hp E => ?_)
  subst hp
  have E : Ev g _ s.heap H locs [(a, .inr (7, [.ref u, .int 0, .int 0, .int (nI n)])), (u, .inl (g.2.1 3, capf (n + 1) cap, .inl t))] := E
  refine lv_if_eq (tgt := 45) hx hb dJ5_append_3fe6f_14 (by decide) (fun c_ => absurd c_ (by decide)) (fun _ => ?_)
  refine lv_iload_n hx hb dJ5_append_3fe6f_17 rfl (lv_at hl 1 rfl) ?_
  refine w_reti (runS_X (As := [.int (nI c0)]) (rest := []) (n := 1) S hml hK (hZ.at E) (Cut.of (wc := []) (wr := [(a, .inr (7, [.ref u, .int 0, .int 0, .int (nI n)])), (u, .inl (g.2.1 3, capf (n + 1) cap, .inl t))]) E hA [] [0, 1] rfl rfl rfl rfl (by decide)) (c_J1_canEncode_fc78d l g c0 (by omega) _ _) ml_J5_191 st_J1_canEncode_fc78d in_J1 co_J1_canEncode_fc78d ⟨by decide +kernel, by decide +kernel, by decide +kernel⟩ ⟨Nat.le_of_ble_eq_true rfl, Nat.le_of_ble_eq_true rfl⟩ rfl hl.1 rfl (Nat.le_of_ble_eq_true rfl) dJ5_append_3fe6f_18 ⟨(by show 0 + (if n + 1 ≤ cap then 0 else 1) + 0 + 0 ≤ 1; split <;> omega), (by show 0 + (if n + 1 ≤ cap then 0 else cap + (cap + 2)) + 0 + 0 ≤ cap + (cap + 2); split <;> omega)⟩) (Cut.of (wc := []) (wr := [(a, .inr (7, [.ref u, .int 0, .int 0, .int (nI n)])), (u, .inl (g.2.1 3, capf (n + 1) cap, .inl t))]) E hA [] [0, 1] rfl rfl rfl rfl (by decide)) E (fun r u0 H locs hp E => ?_)
  subst hp
  have E : Ev g _ s.heap H locs [(a, .inr (7, [.ref u, .int 0, .int 0, .int (nI n)])), (u, .inl (g.2.1 3, capf (n + 1) cap, .inl t))] := E
  refine lv_if_eq (tgt := 45) hx hb dJ5_append_3fe6f_21 (by decide) (fun c_ => absurd c_ (by decide)) (fun _ => ?_)
  refine lv_aload_n hx hb dJ5_append_3fe6f_24 rfl (lv_at hl 0 rfl) ?_
  refine wg_J5_15 (v := .ref u) S hK E 0 rfl rfl dJ5_append_3fe6f_25 ?_
  refine lv_aload_n hx hb dJ5_append_3fe6f_28 rfl (lv_at hl 0 rfl) ?_
  refine lv_dup hx hb dJ5_append_3fe6f_29 rfl ?_
  refine wg_J5_79 (v := .int (nI n)) S hK E 0 rfl rfl dJ5_append_3fe6f_30 ?_
  refine lv_dup_x1 hx hb dJ5_append_3fe6f_33 rfl rfl ?_
  refine lv_iconst (v := 1) hx hb dJ5_append_3fe6f_34 (by decide) ?_
  refine lv_iadd hx hb dJ5_append_3fe6f_35 ?_
  rw [show (((nI n) + 1) : Int32) = (nI (n + 1)) from nI_1 n]
  refine wp_J5_79 (w' := [(a, .inr (7, [.ref u, .int 0, .int 0, .int (nI (n + 1))])), (u, .inl (g.2.1 3, capf (n + 1) cap, .inl t))]) S hK E 0 rfl rfl rfl (Nat.le_of_ble_eq_true rfl) rfl dJ5_append_3fe6f_36 (fun H locs E => ?_)
  refine lv_iload_n hx hb dJ5_append_3fe6f_39 rfl (lv_at hl 1 rfl) ?_
  refine lv_i2b (v := ((nI c0)).toInt8.toInt32) hx hb dJ5_append_3fe6f_40 rfl ?_
  rw [show (((nI c0)).toInt8.toInt32 : Int32) = (nI c0) from i2b_l _ h0]
  refine w_bst (w' := [(a, .inr (7, [.ref u, .int 0, .int 0, .int (nI (n + 1))])), (u, .inl (g.2.1 3, capf (n + 1) cap, .inl (upd t (nI n).toNatClampNeg (vp_nar .byte (nI c0)))))]) S hK E 1 3 rfl rfl (vp_in_nI (capf_lt hn) (by have := @capf_le n cap; omega)) rfl dJ5_append_3fe6f_41 (fun H locs E => ?_)
  refine lv_goto (tgt := 75) hx hb dJ5_append_3fe6f_42 (by decide) ?_
  refine lv_aload_n hx hb dJ5_append_3fe6f_75 rfl (lv_at hl 0 rfl) ?_
  exact x_aret u S hr (by first | exact Or.inl ⟨_, rfl⟩ | exact Or.inr ⟨_, rfl⟩) hlk hsz htt hK E dJ5_append_3fe6f_76 trivial rfl (by rw [nI_clamp (by omega), nar_l _ h0]) ⟨(by show 0 + (if n + 1 ≤ cap then 0 else 1) + 0 + 0 ≤ (if n + 1 ≤ cap then 0 else 1); omega), (by show 0 + (if n + 1 ≤ cap then 0 else cap + (cap + 2)) + 0 + 0 ≤ (if n + 1 ≤ cap then 0 else cap + (cap + 2)); omega)⟩ ⟨(by show 0 + (if n + 1 ≤ cap then 0 else 1) + 0 + 0 ≤ 1; split <;> omega), (by show 0 + (if n + 1 ≤ cap then 0 else cap + (cap + 2)) + 0 + 0 ≤ cap + (cap + 2); split <;> omega)⟩

theorem dJ4_append_cf468_0 : decode cJ4_append_cf468 0 = .ok (.aload_n 0, 1) := by decide +kernel
theorem dJ4_append_cf468_1 : decode cJ4_append_cf468 1 = .ok (.iload_n 1, 1) := by decide +kernel
theorem dJ4_append_cf468_2 : decode cJ4_append_cf468 2 = .ok (.invokespecial 50, 3) := by decide +kernel
theorem dJ4_append_cf468_5 : decode cJ4_append_cf468 5 = .ok (.pop, 1) := by decide +kernel
theorem dJ4_append_cf468_6 : decode cJ4_append_cf468 6 = .ok (.aload_n 0, 1) := by decide +kernel
theorem dJ4_append_cf468_7 : decode cJ4_append_cf468 7 = .ok (.areturn, 1) := by decide +kernel
set_option maxHeartbeats 4000000 in
set_option maxRecDepth 100000 in
/-- StringBuilder.append of a letter -/
theorem c_J4_append_cf468 (l : Launch) (g : Gm) (a ea cap n c0 : Nat) (t : Nat → Int32) (hc : cap < 50000) (hn : n ≤ cap) (h0 : c0 < 128) (hf : ∀ j, fits .byte (.int (t j)) = true) (hz : ∀ j, cap ≤ j → t j = 0) : MXr (S := Nat) l g yJ4_append_cf468 cJ4_append_cf468 2 (.object "java/lang/StringBuilder") ({ frames := 5, cells := 1, slots := cap + (cap + 2), locals := 665 } : Room) [.ref a, .int (nI c0)] [(a, .inr (7, [.ref ea, .int 0, .int 0, .int (nI n)])), (ea, .inl (g.2.1 3, cap, .inl t))] (fun _ => True) (fun _ => a) (fun u => [(a, .inr (7, [.ref u, .int 0, .int 0, .int (nI (n + 1))])), (u, .inl (g.2.1 3, capf (n + 1) cap, .inl (upd t n (nI c0))))]) (fun _ => (if n + 1 ≤ cap then 0 else 1, if n + 1 ≤ cap then 0 else cap + (cap + 2))) := by
  intro sz tt
  refine ofX RJ4 rfl (by decide +kernel) (Nat.le_of_ble_eq_true rfl) (fun p e s m args below meth c hargs S hml hr hlk hnm hsz htt hK hA hZ E ls hl => ?_)
  have hx := S.1
  have hb := S.2.1
  have hl : lv_has ls 2 [(0, .ref a), (1, .int (nI c0))] := hl
  refine lv_aload_n hx hb dJ4_append_cf468_0 rfl (lv_at hl 0 rfl) ?_
  refine lv_iload_n hx hb dJ4_append_cf468_1 rfl (lv_at hl 1 rfl) ?_
  refine w_retr (runSU_X (As := [.int (nI c0)]) (rest := []) (q0 := 0) (n := 1) S hml hK (hZ.at E) (Cut.full E hA) (c_J5_append_3fe6f l g a ea cap n c0 t hc hn h0 hf hz _ _) ml_J4_50 sm_J5_append su_J4 im_J5_append_3fe6f in_J5 co_J5_append_3fe6f ⟨by decide +kernel, by decide +kernel⟩ ⟨Nat.le_of_ble_eq_true rfl, Nat.le_of_ble_eq_true rfl⟩ rfl rfl rfl hl.1 rfl (Nat.le_of_ble_eq_true rfl) dJ4_append_cf468_2 ⟨Nat.le_of_ble_eq_true rfl, (by show 0 + (cap + (cap + 2)) ≤ cap + (cap + 2); omega)⟩) (Cut.full E hA) E (fun u H locs hp E => ?_)
  have E : Ev g _ s.heap H locs [(a, .inr (7, [.ref u, .int 0, .int 0, .int (nI (n + 1))])), (u, .inl (g.2.1 3, capf (n + 1) cap, .inl (upd t n (nI c0))))] := E
  refine lv_pop hx hb dJ4_append_cf468_5 rfl ?_
  refine lv_aload_n hx hb dJ4_append_cf468_6 rfl (lv_at hl 0 rfl) ?_
  exact x_aret u S hr (by first | exact Or.inl ⟨_, rfl⟩ | exact Or.inr ⟨_, rfl⟩) hlk hsz htt hK E dJ4_append_cf468_7 trivial rfl rfl ⟨(by show 0 + (if n + 1 ≤ cap then 0 else 1) ≤ (if n + 1 ≤ cap then 0 else 1); omega), (by show 0 + (if n + 1 ≤ cap then 0 else cap + (cap + 2)) ≤ (if n + 1 ≤ cap then 0 else cap + (cap + 2)); omega)⟩ ⟨(by show 0 + (if n + 1 ≤ cap then 0 else 1) ≤ 1; split <;> omega), (by show 0 + (if n + 1 ≤ cap then 0 else cap + (cap + 2)) ≤ cap + (cap + 2); split <;> omega)⟩

