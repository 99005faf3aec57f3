/-! JDK: empty lists, the first add; empty texts -/
theorem dJxa1e45_init_da8c8_0 : decode cJxa1e45_init_da8c8 0 = .ok (.aload_n 0, 1) := by decide +kernel
theorem dJxa1e45_init_da8c8_1 : decode cJxa1e45_init_da8c8 1 = .ok (.invokespecial 1, 3) := by decide +kernel
theorem dJxa1e45_init_da8c8_4 : decode cJxa1e45_init_da8c8 4 = .ok (.return_, 1) := by decide +kernel
theorem dJxc12de_init_da8c8_0 : decode cJxc12de_init_da8c8 0 = .ok (.aload_n 0, 1) := by decide +kernel
theorem dJxc12de_init_da8c8_1 : decode cJxc12de_init_da8c8 1 = .ok (.invokespecial 1, 3) := by decide +kernel
theorem dJxc12de_init_da8c8_4 : decode cJxc12de_init_da8c8 4 = .ok (.aload_n 0, 1) := by decide +kernel
theorem dJxc12de_init_da8c8_5 : decode cJxc12de_init_da8c8 5 = .ok (.iconst 0, 1) := by decide +kernel
theorem dJxc12de_init_da8c8_6 : decode cJxc12de_init_da8c8 6 = .ok (.putfield 7, 3) := by decide +kernel
theorem dJxc12de_init_da8c8_9 : decode cJxc12de_init_da8c8 9 = .ok (.return_, 1) := by decide +kernel
theorem dJx4a65c_init_da8c8_0 : decode cJx4a65c_init_da8c8 0 = .ok (.aload_n 0, 1) := by decide +kernel
theorem dJx4a65c_init_da8c8_1 : decode cJx4a65c_init_da8c8 1 = .ok (.invokespecial 1, 3) := by decide +kernel
theorem dJx4a65c_init_da8c8_4 : decode cJx4a65c_init_da8c8 4 = .ok (.aload_n 0, 1) := by decide +kernel
theorem dJx4a65c_init_da8c8_5 : decode cJx4a65c_init_da8c8 5 = .ok (.getstatic 39, 3) := by decide +kernel
theorem dJx4a65c_init_da8c8_8 : decode cJx4a65c_init_da8c8 8 = .ok (.putfield 9, 3) := by decide +kernel
theorem dJx4a65c_init_da8c8_11 : decode cJx4a65c_init_da8c8 11 = .ok (.return_, 1) := by decide +kernel
theorem dJx4a65c_grow_92f84_0 : decode cJx4a65c_grow_92f84 0 = .ok (.aload_n 0, 1) := by decide +kernel
theorem dJx4a65c_grow_92f84_1 : decode cJx4a65c_grow_92f84 1 = .ok (.getfield 9, 3) := by decide +kernel
theorem dJx4a65c_grow_92f84_4 : decode cJx4a65c_grow_92f84 4 = .ok (.arraylength, 1) := by decide +kernel
theorem dJx4a65c_grow_92f84_5 : decode cJx4a65c_grow_92f84 5 = .ok (.istore_n 2, 1) := by decide +kernel
theorem dJx4a65c_grow_92f84_6 : decode cJx4a65c_grow_92f84 6 = .ok (.iload_n 2, 1) := by decide +kernel
theorem dJx4a65c_grow_92f84_7 : decode cJx4a65c_grow_92f84 7 = .ok (.ifCond .gt 13, 3) := by decide +kernel
theorem dJx4a65c_grow_92f84_10 : decode cJx4a65c_grow_92f84 10 = .ok (.aload_n 0, 1) := by decide +kernel
theorem dJx4a65c_grow_92f84_11 : decode cJx4a65c_grow_92f84 11 = .ok (.getfield 9, 3) := by decide +kernel
theorem dJx4a65c_grow_92f84_14 : decode cJx4a65c_grow_92f84 14 = .ok (.getstatic 39, 3) := by decide +kernel
theorem dJx4a65c_grow_92f84_17 : decode cJx4a65c_grow_92f84 17 = .ok (.if_acmp .eq 28, 3) := by decide +kernel
theorem dJx4a65c_grow_92f84_20 : decode cJx4a65c_grow_92f84 20 = .ok (.iload_n 2, 1) := by decide +kernel
theorem dJx4a65c_grow_92f84_21 : decode cJx4a65c_grow_92f84 21 = .ok (.iload_n 1, 1) := by decide +kernel
theorem dJx4a65c_grow_92f84_22 : decode cJx4a65c_grow_92f84 22 = .ok (.iload_n 2, 1) := by decide +kernel
theorem dJx4a65c_grow_92f84_23 : decode cJx4a65c_grow_92f84 23 = .ok (.isub, 1) := by decide +kernel
theorem dJx4a65c_grow_92f84_24 : decode cJx4a65c_grow_92f84 24 = .ok (.iload_n 2, 1) := by decide +kernel
theorem dJx4a65c_grow_92f84_25 : decode cJx4a65c_grow_92f84 25 = .ok (.iconst 1, 1) := by decide +kernel
theorem dJx4a65c_grow_92f84_26 : decode cJx4a65c_grow_92f84 26 = .ok (.ishr, 1) := by decide +kernel
theorem dJx4a65c_grow_92f84_27 : decode cJx4a65c_grow_92f84 27 = .ok (.invokestatic 73, 3) := by decide +kernel
theorem dJx4a65c_grow_92f84_30 : decode cJx4a65c_grow_92f84 30 = .ok (.istore_n 3, 1) := by decide +kernel
theorem dJx4a65c_grow_92f84_31 : decode cJx4a65c_grow_92f84 31 = .ok (.aload_n 0, 1) := by decide +kernel
theorem dJx4a65c_grow_92f84_32 : decode cJx4a65c_grow_92f84 32 = .ok (.aload_n 0, 1) := by decide +kernel
theorem dJx4a65c_grow_92f84_33 : decode cJx4a65c_grow_92f84 33 = .ok (.getfield 9, 3) := by decide +kernel
theorem dJx4a65c_grow_92f84_36 : decode cJx4a65c_grow_92f84 36 = .ok (.iload_n 3, 1) := by decide +kernel
theorem dJx4a65c_grow_92f84_37 : decode cJx4a65c_grow_92f84 37 = .ok (.invokestatic 66, 3) := by decide +kernel
theorem dJx4a65c_grow_92f84_40 : decode cJx4a65c_grow_92f84 40 = .ok (.dup_x1, 1) := by decide +kernel
theorem dJx4a65c_grow_92f84_41 : decode cJx4a65c_grow_92f84 41 = .ok (.putfield 9, 3) := by decide +kernel
theorem dJx4a65c_grow_92f84_44 : decode cJx4a65c_grow_92f84 44 = .ok (.areturn, 1) := by decide +kernel
theorem dJx4a65c_grow_92f84_45 : decode cJx4a65c_grow_92f84 45 = .ok (.aload_n 0, 1) := by decide +kernel
theorem dJx4a65c_grow_92f84_46 : decode cJx4a65c_grow_92f84 46 = .ok (.bipush 10, 2) := by decide +kernel
theorem dJx4a65c_grow_92f84_48 : decode cJx4a65c_grow_92f84 48 = .ok (.iload_n 1, 1) := by decide +kernel
theorem dJx4a65c_grow_92f84_49 : decode cJx4a65c_grow_92f84 49 = .ok (.invokestatic 79, 3) := by decide +kernel
theorem dJx4a65c_grow_92f84_52 : decode cJx4a65c_grow_92f84 52 = .ok (.anewarray 7, 3) := by decide +kernel
theorem dJx4a65c_grow_92f84_55 : decode cJx4a65c_grow_92f84 55 = .ok (.dup_x1, 1) := by decide +kernel
theorem dJx4a65c_grow_92f84_56 : decode cJx4a65c_grow_92f84 56 = .ok (.putfield 9, 3) := by decide +kernel
theorem dJx4a65c_grow_92f84_59 : decode cJx4a65c_grow_92f84 59 = .ok (.areturn, 1) := by decide +kernel
theorem dJx4a65c_grow_d5877_0 : decode cJx4a65c_grow_d5877 0 = .ok (.aload_n 0, 1) := by decide +kernel
theorem dJx4a65c_grow_d5877_1 : decode cJx4a65c_grow_d5877 1 = .ok (.aload_n 0, 1) := by decide +kernel
theorem dJx4a65c_grow_d5877_2 : decode cJx4a65c_grow_d5877 2 = .ok (.getfield 48, 3) := by decide +kernel
theorem dJx4a65c_grow_d5877_5 : decode cJx4a65c_grow_d5877 5 = .ok (.iconst 1, 1) := by decide +kernel
theorem dJx4a65c_grow_d5877_6 : decode cJx4a65c_grow_d5877 6 = .ok (.iadd, 1) := by decide +kernel
theorem dJx4a65c_grow_d5877_7 : decode cJx4a65c_grow_d5877 7 = .ok (.invokevirtual 69, 3) := by decide +kernel
theorem dJx4a65c_grow_d5877_10 : decode cJx4a65c_grow_d5877 10 = .ok (.areturn, 1) := by decide +kernel
theorem dJx4a65c_add_72be8_0 : decode cJx4a65c_add_72be8 0 = .ok (.iload_n 3, 1) := by decide +kernel
theorem dJx4a65c_add_72be8_1 : decode cJx4a65c_add_72be8 1 = .ok (.aload_n 2, 1) := by decide +kernel
theorem dJx4a65c_add_72be8_2 : decode cJx4a65c_add_72be8 2 = .ok (.arraylength, 1) := by decide +kernel
theorem dJx4a65c_add_72be8_3 : decode cJx4a65c_add_72be8 3 = .ok (.if_icmp .ne 8, 3) := by decide +kernel
theorem dJx4a65c_add_72be8_6 : decode cJx4a65c_add_72be8 6 = .ok (.aload_n 0, 1) := by decide +kernel
theorem dJx4a65c_add_72be8_7 : decode cJx4a65c_add_72be8 7 = .ok (.invokevirtual 129, 3) := by decide +kernel
theorem dJx4a65c_add_72be8_10 : decode cJx4a65c_add_72be8 10 = .ok (.astore_n 2, 1) := by decide +kernel
theorem dJx4a65c_add_72be8_11 : decode cJx4a65c_add_72be8 11 = .ok (.aload_n 2, 1) := by decide +kernel
theorem dJx4a65c_add_72be8_12 : decode cJx4a65c_add_72be8 12 = .ok (.iload_n 3, 1) := by decide +kernel
theorem dJx4a65c_add_72be8_13 : decode cJx4a65c_add_72be8 13 = .ok (.aload_n 1, 1) := by decide +kernel
theorem dJx4a65c_add_72be8_14 : decode cJx4a65c_add_72be8 14 = .ok (.aastore, 1) := by decide +kernel
theorem dJx4a65c_add_72be8_15 : decode cJx4a65c_add_72be8 15 = .ok (.aload_n 0, 1) := by decide +kernel
theorem dJx4a65c_add_72be8_16 : decode cJx4a65c_add_72be8 16 = .ok (.iload_n 3, 1) := by decide +kernel
theorem dJx4a65c_add_72be8_17 : decode cJx4a65c_add_72be8 17 = .ok (.iconst 1, 1) := by decide +kernel
theorem dJx4a65c_add_72be8_18 : decode cJx4a65c_add_72be8 18 = .ok (.iadd, 1) := by decide +kernel
theorem dJx4a65c_add_72be8_19 : decode cJx4a65c_add_72be8 19 = .ok (.putfield 48, 3) := by decide +kernel
theorem dJx4a65c_add_72be8_22 : decode cJx4a65c_add_72be8 22 = .ok (.return_, 1) := by decide +kernel
theorem dJx4a65c_add_9ea2d_0 : decode cJx4a65c_add_9ea2d 0 = .ok (.aload_n 0, 1) := by decide +kernel
theorem dJx4a65c_add_9ea2d_1 : decode cJx4a65c_add_9ea2d 1 = .ok (.dup, 1) := by decide +kernel
theorem dJx4a65c_add_9ea2d_2 : decode cJx4a65c_add_9ea2d 2 = .ok (.getfield 63, 3) := by decide +kernel
theorem dJx4a65c_add_9ea2d_5 : decode cJx4a65c_add_9ea2d 5 = .ok (.iconst 1, 1) := by decide +kernel
theorem dJx4a65c_add_9ea2d_6 : decode cJx4a65c_add_9ea2d 6 = .ok (.iadd, 1) := by decide +kernel
theorem dJx4a65c_add_9ea2d_7 : decode cJx4a65c_add_9ea2d 7 = .ok (.putfield 63, 3) := by decide +kernel
theorem dJx4a65c_add_9ea2d_10 : decode cJx4a65c_add_9ea2d 10 = .ok (.aload_n 0, 1) := by decide +kernel
theorem dJx4a65c_add_9ea2d_11 : decode cJx4a65c_add_9ea2d 11 = .ok (.aload_n 1, 1) := by decide +kernel
theorem dJx4a65c_add_9ea2d_12 : decode cJx4a65c_add_9ea2d 12 = .ok (.aload_n 0, 1) := by decide +kernel
theorem dJx4a65c_add_9ea2d_13 : decode cJx4a65c_add_9ea2d 13 = .ok (.getfield 9, 3) := by decide +kernel
theorem dJx4a65c_add_9ea2d_16 : decode cJx4a65c_add_9ea2d 16 = .ok (.aload_n 0, 1) := by decide +kernel
theorem dJx4a65c_add_9ea2d_17 : decode cJx4a65c_add_9ea2d 17 = .ok (.getfield 48, 3) := by decide +kernel
theorem dJx4a65c_add_9ea2d_20 : decode cJx4a65c_add_9ea2d 20 = .ok (.invokevirtual 131, 3) := by decide +kernel
theorem dJx4a65c_add_9ea2d_23 : decode cJx4a65c_add_9ea2d 23 = .ok (.iconst 1, 1) := by decide +kernel
theorem dJx4a65c_add_9ea2d_24 : decode cJx4a65c_add_9ea2d 24 = .ok (.ireturn, 1) := by decide +kernel
theorem dJ5_init_d00df_0 : decode cJ5_init_d00df 0 = .ok (.aload_n 0, 1) := by decide +kernel
theorem dJ5_init_d00df_1 : decode cJ5_init_d00df 1 = .ok (.invokespecial 3, 3) := by decide +kernel
theorem dJ5_init_d00df_4 : decode cJ5_init_d00df 4 = .ok (.getstatic 18, 3) := by decide +kernel
theorem dJ5_init_d00df_7 : decode cJ5_init_d00df 7 = .ok (.ifCond .eq 18, 3) := by decide +kernel
theorem dJ5_init_d00df_10 : decode cJ5_init_d00df 10 = .ok (.aload_n 0, 1) := by decide +kernel
theorem dJ5_init_d00df_11 : decode cJ5_init_d00df 11 = .ok (.iload_n 1, 1) := by decide +kernel
theorem dJ5_init_d00df_12 : decode cJ5_init_d00df 12 = .ok (.newarray .byte, 2) := by decide +kernel
theorem dJ5_init_d00df_14 : decode cJ5_init_d00df 14 = .ok (.putfield 15, 3) := by decide +kernel
theorem dJ5_init_d00df_17 : decode cJ5_init_d00df 17 = .ok (.aload_n 0, 1) := by decide +kernel
theorem dJ5_init_d00df_18 : decode cJ5_init_d00df 18 = .ok (.iconst 0, 1) := by decide +kernel
theorem dJ5_init_d00df_19 : decode cJ5_init_d00df 19 = .ok (.putfield 22, 3) := by decide +kernel
theorem dJ5_init_d00df_22 : decode cJ5_init_d00df 22 = .ok (.goto 16, 3) := by decide +kernel
theorem dJ5_init_d00df_25 : decode cJ5_init_d00df 25 = .ok (.aload_n 0, 1) := by decide +kernel
theorem dJ5_init_d00df_26 : decode cJ5_init_d00df 26 = .ok (.iload_n 1, 1) := by decide +kernel
theorem dJ5_init_d00df_27 : decode cJ5_init_d00df 27 = .ok (.invokestatic 26, 3) := by decide +kernel
theorem dJ5_init_d00df_30 : decode cJ5_init_d00df 30 = .ok (.putfield 15, 3) := by decide +kernel
theorem dJ5_init_d00df_33 : decode cJ5_init_d00df 33 = .ok (.aload_n 0, 1) := by decide +kernel
theorem dJ5_init_d00df_34 : decode cJ5_init_d00df 34 = .ok (.iconst 1, 1) := by decide +kernel
theorem dJ5_init_d00df_35 : decode cJ5_init_d00df 35 = .ok (.putfield 22, 3) := by decide +kernel
theorem dJ5_init_d00df_38 : decode cJ5_init_d00df 38 = .ok (.return_, 1) := by decide +kernel
theorem dJ4_init_da8c8_0 : decode cJ4_init_da8c8 0 = .ok (.aload_n 0, 1) := by decide +kernel
theorem dJ4_init_da8c8_1 : decode cJ4_init_da8c8 1 = .ok (.bipush 16, 2) := by decide +kernel
theorem dJ4_init_da8c8_3 : decode cJ4_init_da8c8 3 = .ok (.invokespecial 1, 3) := by decide +kernel
theorem dJ4_init_da8c8_6 : decode cJ4_init_da8c8 6 = .ok (.return_, 1) := by decide +kernel
set_option maxHeartbeats 4000000 in
set_option maxRecDepth 100000 in
/-- AbstractCollection() -/
theorem c_Jxa1e45_init_da8c8 (l : Launch) (g : Gm) (a : Nat) : MXv (S := Unit) l g yJxa1e45_init_da8c8 cJxa1e45_init_da8c8 1 ({ frames := 1, cells := 0, slots := 0, locals := 12 } : Room) [.ref a] [] (fun _ => True) (fun _ => []) (fun _ => (0, 0)) := by
  intro sz tt
  refine ofX RJxa1e45 rfl (by decide +kernel) (Nat.le_of_ble_eq_true rfl) (fun p e s m args below meth c hargs S hml hr hlk hnm hsz htt hK hA hZ E ls hl => ?_)
  have hx := S.1
  have hb := S.2.1
  have hl : lv_has ls 1 [(0, .ref a)] := hl
  refine lv_aload_n hx hb dJxa1e45_init_da8c8_0 rfl (lv_at hl 0 rfl) ?_
  refine w_obj S hml hl ml_Jxa1e45_1 (Nat.le_of_ble_eq_true rfl) (Nat.le_of_ble_eq_true rfl) dJxa1e45_init_da8c8_1 ?_
  exact x_vret () S hr hlk hsz htt hK E dJxa1e45_init_da8c8_4 trivial rfl ⟨Nat.le_of_ble_eq_true rfl, Nat.le_of_ble_eq_true rfl⟩ ⟨Nat.le_of_ble_eq_true rfl, Nat.le_of_ble_eq_true rfl⟩

set_option maxHeartbeats 4000000 in
set_option maxRecDepth 100000 in
/-- AbstractList() -/
theorem c_Jxc12de_init_da8c8 (l : Launch) (g : Gm) (a : Nat) : MXv (S := Unit) l g yJxc12de_init_da8c8 cJxc12de_init_da8c8 1 ({ frames := 2, cells := 0, slots := 0, locals := 32 } : Room) [.ref a] [(a, .inr (8, [.int 0, .null, .int 0]))] (fun _ => True) (fun _ => [(a, .inr (8, [.int 0, .null, .int 0]))]) (fun _ => (0, 0)) := by
  intro sz tt
  refine ofX RJxc12de rfl (by decide +kernel) (Nat.le_of_ble_eq_true rfl) (fun p e s m args below meth c hargs S hml hr hlk hnm hsz htt hK hA hZ E ls hl => ?_)
  have hx := S.1
  have hb := S.2.1
  have hl : lv_has ls 1 [(0, .ref a)] := hl
  refine lv_aload_n hx hb dJxc12de_init_da8c8_0 rfl (lv_at hl 0 rfl) ?_
  refine w_retv (runI_X (As := []) (rest := []) (n := 0) S hml hK (hZ.at E) (Cut.of (wc := []) (wr := [(a, .inr (8, [.int 0, .null, .int 0]))]) E hA [] [0] rfl rfl rfl rfl (by decide)) (c_Jxa1e45_init_da8c8 l g a _ _) ml_Jxc12de_1 im_Jxa1e45_init_da8c8 in_Jxa1e45 co_Jxa1e45_init_da8c8 rfl ⟨by decide +kernel, by decide +kernel, by decide +kernel⟩ ⟨Nat.le_of_ble_eq_true rfl, Nat.le_of_ble_eq_true rfl⟩ rfl hl.1 rfl (Nat.le_of_ble_eq_true rfl) dJxc12de_init_da8c8_1 ⟨Nat.le_of_ble_eq_true rfl, Nat.le_of_ble_eq_true rfl⟩) (Cut.of (wc := []) (wr := [(a, .inr (8, [.int 0, .null, .int 0]))]) E hA [] [0] rfl rfl rfl rfl (by decide)) E (fun u1 H locs hp E => ?_)
  have E : Ev g _ s.heap H locs [(a, .inr (8, [.int 0, .null, .int 0]))] := E
  refine lv_aload_n hx hb dJxc12de_init_da8c8_4 rfl (lv_at hl 0 rfl) ?_
  refine lv_iconst (v := 0) hx hb dJxc12de_init_da8c8_5 (by decide) ?_
  refine wp_Jxc12de_7 (w' := [(a, .inr (8, [.int 0, .null, .int 0]))]) S hK E 0 rfl rfl rfl (Nat.le_of_ble_eq_true rfl) rfl dJxc12de_init_da8c8_6 (fun H locs E => ?_)
  exact x_vret () S hr hlk hsz htt hK E dJxc12de_init_da8c8_9 trivial rfl ⟨Nat.le_of_ble_eq_true rfl, Nat.le_of_ble_eq_true rfl⟩ ⟨Nat.le_of_ble_eq_true rfl, Nat.le_of_ble_eq_true rfl⟩

set_option maxHeartbeats 4000000 in
set_option maxRecDepth 100000 in
/-- new ArrayList() -/
theorem c_Jx4a65c_init_da8c8 (l : Launch) (g : Gm) (a : Nat) : MXv (S := Unit) l g yJx4a65c_init_da8c8 cJx4a65c_init_da8c8 1 ({ frames := 3, cells := 0, slots := 0, locals := 52 } : Room) [.ref a] [(a, .inr (8, [.int 0, .null, .int 0]))] (fun _ => True) (fun _ => [(a, .inr (8, [.int 0, .ref (g.2.2 0), .int 0]))]) (fun _ => (0, 0)) := by
  intro sz tt
  refine ofX RJx4a65c rfl (by decide +kernel) (Nat.le_of_ble_eq_true rfl) (fun p e s m args below meth c hargs S hml hr hlk hnm hsz htt hK hA hZ E ls hl => ?_)
  have hx := S.1
  have hb := S.2.1
  have hl : lv_has ls 1 [(0, .ref a)] := hl
  refine lv_aload_n hx hb dJx4a65c_init_da8c8_0 rfl (lv_at hl 0 rfl) ?_
  refine w_retv (runI_X (As := []) (rest := []) (n := 0) S hml hK (hZ.at E) (Cut.full E hA) (c_Jxc12de_init_da8c8 l g a _ _) ml_Jx4a65c_1 im_Jxc12de_init_da8c8 in_Jxc12de co_Jxc12de_init_da8c8 rfl ⟨by decide +kernel, by decide +kernel, by decide +kernel⟩ ⟨Nat.le_of_ble_eq_true rfl, Nat.le_of_ble_eq_true rfl⟩ rfl hl.1 rfl (Nat.le_of_ble_eq_true rfl) dJx4a65c_init_da8c8_1 ⟨Nat.le_of_ble_eq_true rfl, Nat.le_of_ble_eq_true rfl⟩) (Cut.full E hA) E (fun u1 H locs hp E => ?_)
  have E : Ev g _ s.heap H locs [(a, .inr (8, [.int 0, .null, .int 0]))] := E
  refine lv_aload_n hx hb dJx4a65c_init_da8c8_4 rfl (lv_at hl 0 rfl) ?_
  refine w_gets S hZ.2.1 E fl_Jx4a65c_39 dJx4a65c_init_da8c8_5 ?_
  refine wp_Jx4a65c_9 (w' := [(a, .inr (8, [.int 0, .ref (g.2.2 0), .int 0]))]) S hK E 0 rfl rfl rfl (Nat.le_of_ble_eq_true rfl) rfl dJx4a65c_init_da8c8_8 (fun H locs E => ?_)
  exact x_vret () S hr hlk hsz htt hK E dJx4a65c_init_da8c8_11 trivial rfl ⟨Nat.le_of_ble_eq_true rfl, Nat.le_of_ble_eq_true rfl⟩ ⟨Nat.le_of_ble_eq_true rfl, Nat.le_of_ble_eq_true rfl⟩

set_option maxHeartbeats 4000000 in
set_option maxRecDepth 100000 in
/-- ArrayList.grow(1), the first time -/
theorem c_gr1 (l : Launch) (g : Gm) (a : Nat) (mc : Int32) : MXr (S := Nat) l g yJx4a65c_grow_92f84 cJx4a65c_grow_92f84 4 (.array (.object "java/lang/Object")) ({ frames := 1, cells := 1, slots := 10, locals := 14 } : Room) [.ref a, .int 1] [(a, .inr (8, [.int mc, .ref (g.2.2 0), .int 0]))] (fun _ => True) (fun u => u) (fun u => [(a, .inr (8, [.int mc, .ref u, .int 0])), (u, .inl (g.2.1 4, 10, .inr (.inr (.inr (.inr (fun _ => none))))))]) (fun _ => (1, 10)) := by
  intro sz tt
  refine ofX RJx4a65c rfl (by decide +kernel) (Nat.le_of_ble_eq_true rfl) (fun p e s m args below meth c hargs S hml hr hlk hnm hsz htt hK hA hZ E ls hl => ?_)
  have hx := S.1
  have hb := S.2.1
  have hl : lv_has ls 4 [(0, .ref a), (1, .int 1)] := hl
  refine lv_aload_n hx hb dJx4a65c_grow_92f84_0 rfl (lv_at hl 0 rfl) ?_
  refine wg_Jx4a65c_9 (v := .ref (g.2.2 0)) S hK E 0 rfl rfl dJx4a65c_grow_92f84_1 ?_
  refine w_alenZ S hZ E dJx4a65c_grow_92f84_4 ?_
  refine lv_istore_n (lv' := [(2, .int 0), (0, .ref a), (1, .int 1)]) hx hb dJx4a65c_grow_92f84_5 rfl hl (by decide) rfl (fun ls hl => ?_)
  refine lv_iload_n hx hb dJx4a65c_grow_92f84_6 rfl (lv_at hl 0 rfl) ?_
  refine lv_if_gt (tgt := 20) hx hb dJx4a65c_grow_92f84_7 (by decide) (fun c_ => absurd c_ (show ¬ (0 < (0 : Int32)) by decide)) (fun _ => ?_)
  refine lv_aload_n hx hb dJx4a65c_grow_92f84_10 rfl (lv_at hl 1 rfl) ?_
  refine wg_Jx4a65c_9 (v := .ref (g.2.2 0)) S hK E 0 rfl rfl dJx4a65c_grow_92f84_11 ?_
  refine w_gets S hZ.2.1 E fl_Jx4a65c_39 dJx4a65c_grow_92f84_14 ?_
  refine k_acmpT (tgt := 45) hx hb dJx4a65c_grow_92f84_17 (by decide) ?_
  refine lv_aload_n hx hb dJx4a65c_grow_92f84_45 rfl (lv_at hl 1 rfl) ?_
  refine lv_bipush (v := 10) hx hb dJx4a65c_grow_92f84_46 (by decide) ?_
  refine lv_iload_n hx hb dJx4a65c_grow_92f84_48 rfl (lv_at hl 2 rfl) ?_
  refine w_max (v := 10) S hml hl ml_Jx4a65c_79 st_max in_J9 co_max (Nat.le_of_ble_eq_true rfl) (Nat.le_of_ble_eq_true rfl) ⟨Nat.le_of_ble_eq_true rfl, Nat.le_of_ble_eq_true rfl⟩ (by decide) dJx4a65c_grow_92f84_49 ?_
  refine w_newq (N' := 10) 4 S hK E hA rfl cl_Jx4a65c_7 hZ.2.2.2.1.1 (by decide) (by decide) (by decide) (Nat.le_of_ble_eq_true rfl) (Nat.le_of_ble_eq_true rfl) dJx4a65c_grow_92f84_52 (fun q1 H E => ?_)
  have E : Ev g _ s.heap H _ [(a, .inr (8, [.int mc, .ref (g.2.2 0), .int 0])), (q1, .inl (g.2.1 4, 10, .inr (.inr (.inr (.inr (fun _ => none))))))] := E
  refine lv_dup_x1 hx hb dJx4a65c_grow_92f84_55 rfl rfl ?_
  refine wp_Jx4a65c_9 (w' := [(a, .inr (8, [.int mc, .ref q1, .int 0])), (q1, .inl (g.2.1 4, 10, .inr (.inr (.inr (.inr (fun _ => none))))))]) S hK E 0 rfl rfl rfl (Nat.le_of_ble_eq_true rfl) rfl dJx4a65c_grow_92f84_56 (fun H locs E => ?_)
  exact x_aret q1 S hr (by first | exact Or.inl ⟨_, rfl⟩ | exact Or.inr ⟨_, rfl⟩) hlk hsz htt hK E dJx4a65c_grow_92f84_59 trivial rfl rfl ⟨Nat.le_of_ble_eq_true rfl, Nat.le_of_ble_eq_true rfl⟩ ⟨Nat.le_of_ble_eq_true rfl, Nat.le_of_ble_eq_true rfl⟩

set_option maxHeartbeats 4000000 in
set_option maxRecDepth 100000 in
/-- ArrayList.grow(), the first time -/
theorem c_gr0 (l : Launch) (g : Gm) (a : Nat) (mc : Int32) : MXr (S := Nat) l g yJx4a65c_grow_d5877 cJx4a65c_grow_d5877 1 (.array (.object "java/lang/Object")) ({ frames := 2, cells := 1, slots := 10, locals := 37 } : Room) [.ref a] [(a, .inr (8, [.int mc, .ref (g.2.2 0), .int 0]))] (fun _ => True) (fun u => u) (fun u => [(a, .inr (8, [.int mc, .ref u, .int 0])), (u, .inl (g.2.1 4, 10, .inr (.inr (.inr (.inr (fun _ => none))))))]) (fun _ => (1, 10)) := by
  intro sz tt
  refine ofX RJx4a65c rfl (by decide +kernel) (Nat.le_of_ble_eq_true rfl) (fun p e s m args below meth c hargs S hml hr hlk hnm hsz htt hK hA hZ E ls hl => ?_)
  have hx := S.1
  have hb := S.2.1
  have hl : lv_has ls 1 [(0, .ref a)] := hl
  refine lv_aload_n hx hb dJx4a65c_grow_d5877_0 rfl (lv_at hl 0 rfl) ?_
  refine lv_aload_n hx hb dJx4a65c_grow_d5877_1 rfl (lv_at hl 0 rfl) ?_
  refine wg_Jx4a65c_48 (v := .int 0) S hK E 0 rfl rfl dJx4a65c_grow_d5877_2 ?_
  refine lv_iconst (v := 1) hx hb dJx4a65c_grow_d5877_5 (by decide) ?_
  refine k_iadd (v := 1) hx hb (by decide) dJx4a65c_grow_d5877_6 ?_
  refine w_retr (runV_X (As := [.int 1]) (rest := []) (q0 := 0) (n := 1) S hml hK (hZ.at E) (Cut.full E hA) (c_gr1 l g a mc _ _) (gi_wsV ml_Jx4a65c_69 im_Jx4a65c_grow_92f84 sl_Jx4a65c_grow_92f84 in_Jx4a65c co_Jx4a65c_grow_92f84) ⟨rfl, by decide +kernel, by decide +kernel, by decide +kernel⟩ ⟨Nat.le_of_ble_eq_true rfl, Nat.le_of_ble_eq_true rfl⟩ rfl rfl rfl hl.1 rfl (Nat.le_of_ble_eq_true rfl) dJx4a65c_grow_d5877_7 ⟨Nat.le_of_ble_eq_true rfl, Nat.le_of_ble_eq_true rfl⟩) (Cut.full E hA) E (fun u1 H locs hp E => ?_)
  have E : Ev g _ s.heap H locs [(a, .inr (8, [.int mc, .ref u1, .int 0])), (u1, .inl (g.2.1 4, 10, .inr (.inr (.inr (.inr (fun _ => none))))))] := E
  exact x_aret u1 S hr (by first | exact Or.inl ⟨_, rfl⟩ | exact Or.inr ⟨_, rfl⟩) hlk hsz htt hK E dJx4a65c_grow_d5877_10 trivial rfl rfl ⟨Nat.le_of_ble_eq_true rfl, Nat.le_of_ble_eq_true rfl⟩ ⟨Nat.le_of_ble_eq_true rfl, Nat.le_of_ble_eq_true rfl⟩

set_option maxHeartbeats 4000000 in
set_option maxRecDepth 100000 in
/-- ArrayList.add(e, elementData, 0) -/
theorem c_ad3 (l : Launch) (g : Gm) (a : Nat) (mc : Int32) (eo : Nat) (ec : va_E) (hAny : ∀ (s : State) (H : Heap), va_K g.1 vwC (tysG g) s → NWs s → va_at g.1 vwC (eo, ec) H → va_Any "java/lang/Object" s H eo) : MXv (S := Nat) l g yJx4a65c_add_72be8 cJx4a65c_add_72be8 4 ({ frames := 3, cells := 1, slots := 10, locals := 57 } : Room) [.ref a, .ref eo, .ref (g.2.2 0), .int 0] [(a, .inr (8, [.int mc, .ref (g.2.2 0), .int 0])), (eo, ec)] (fun _ => True) (fun u => [(a, .inr (8, [.int mc, .ref u, .int 1])), (eo, ec), (u, .inl (g.2.1 4, 10, .inr (.inr (.inr (.inr (va_up (fun _ => none) (0 : Int32).toNatClampNeg (some eo)))))))]) (fun _ => (1, 10)) := by
  intro sz tt
  refine ofX RJx4a65c rfl (by decide +kernel) (Nat.le_of_ble_eq_true rfl) (fun p e s m args below meth c hargs S hml hr hlk hnm hsz htt hK hA hZ E ls hl => ?_)
  have hx := S.1
  have hb := S.2.1
  have hl : lv_has ls 4 [(0, .ref a), (1, .ref eo), (2, .ref (g.2.2 0)), (3, .int 0)] := hl
  refine lv_iload_n hx hb dJx4a65c_add_72be8_0 rfl (lv_at hl 3 rfl) ?_
  refine lv_aload_n hx hb dJx4a65c_add_72be8_1 rfl (lv_at hl 2 rfl) ?_
  refine w_alenZ S hZ E dJx4a65c_add_72be8_2 ?_
  refine lv_icmp_ne (tgt := 11) hx hb dJx4a65c_add_72be8_3 (by decide) (fun c_ => absurd (show (0 : Int32) = (0 : Int32) by decide) c_) (fun _ => ?_)
  refine lv_aload_n hx hb dJx4a65c_add_72be8_6 rfl (lv_at hl 0 rfl) ?_
  refine w_retr (runV_X (As := []) (rest := []) (q0 := 0) (n := 0) S hml hK (hZ.at E) (Cut.of (wc := [(a, .inr (8, [.int mc, .ref (g.2.2 0), .int 0]))]) (wr := [(eo, ec)]) E hA [0] [1] rfl rfl rfl rfl (by decide)) (c_gr0 l g a mc _ _) (gi_wsV ml_Jx4a65c_129 im_Jx4a65c_grow_d5877 sl_Jx4a65c_grow_d5877 in_Jx4a65c co_Jx4a65c_grow_d5877) ⟨rfl, by decide +kernel, by decide +kernel, by decide +kernel⟩ ⟨Nat.le_of_ble_eq_true rfl, Nat.le_of_ble_eq_true rfl⟩ rfl rfl rfl hl.1 rfl (Nat.le_of_ble_eq_true rfl) dJx4a65c_add_72be8_7 ⟨Nat.le_of_ble_eq_true rfl, Nat.le_of_ble_eq_true rfl⟩) (Cut.of (wc := [(a, .inr (8, [.int mc, .ref (g.2.2 0), .int 0]))]) (wr := [(eo, ec)]) E hA [0] [1] rfl rfl rfl rfl (by decide)) E (fun u1 H locs hp E => ?_)
  have E : Ev g _ s.heap H locs [(eo, ec), (a, .inr (8, [.int mc, .ref u1, .int 0])), (u1, .inl (g.2.1 4, 10, .inr (.inr (.inr (.inr (fun _ => none))))))] := E
  refine lv_astore_n (lv' := [(2, .ref u1), (0, .ref a), (1, .ref eo), (3, .int 0)]) hx hb dJx4a65c_add_72be8_10 rfl hl (by decide) rfl (fun ls hl => ?_)
  refine lv_aload_n hx hb dJx4a65c_add_72be8_11 rfl (lv_at hl 0 rfl) ?_
  refine lv_iload_n hx hb dJx4a65c_add_72be8_12 rfl (lv_at hl 3 rfl) ?_
  refine lv_aload_n hx hb dJx4a65c_add_72be8_13 rfl (lv_at hl 2 rfl) ?_
  refine w_astM (w' := [(eo, ec), (a, .inr (8, [.int mc, .ref u1, .int 0])), (u1, .inl (g.2.1 4, 10, .inr (.inr (.inr (.inr (va_up (fun _ => none) (0 : Int32).toNatClampNeg (some eo)))))))]) S hK E 2 4 rfl rfl (hAny s H hK hZ.2.2.2.2.2.2.1 (E.1 0 _ rfl)) (show vp_in 0 10 by unfold vp_in; decide) rfl dJx4a65c_add_72be8_14 (fun H locs E => ?_)
  refine lv_aload_n hx hb dJx4a65c_add_72be8_15 rfl (lv_at hl 1 rfl) ?_
  refine lv_iload_n hx hb dJx4a65c_add_72be8_16 rfl (lv_at hl 3 rfl) ?_
  refine lv_iconst (v := 1) hx hb dJx4a65c_add_72be8_17 (by decide) ?_
  refine k_iadd (v := 1) hx hb (by decide) dJx4a65c_add_72be8_18 ?_
  refine wp_Jx4a65c_48 (w' := [(eo, ec), (a, .inr (8, [.int mc, .ref u1, .int 1])), (u1, .inl (g.2.1 4, 10, .inr (.inr (.inr (.inr (va_up (fun _ => none) (0 : Int32).toNatClampNeg (some eo)))))))]) S hK E 1 rfl rfl rfl (Nat.le_of_ble_eq_true rfl) rfl dJx4a65c_add_72be8_19 (fun H locs E => ?_)
  have E : Ev g _ s.heap H locs [(a, .inr (8, [.int mc, .ref u1, .int 1])), (eo, ec), (u1, .inl (g.2.1 4, 10, .inr (.inr (.inr (.inr (va_up (fun _ => none) (0 : Int32).toNatClampNeg (some eo)))))))] := Ev.sub E [1, 0, 2] rfl rfl
  exact x_vret u1 S hr hlk hsz htt hK E dJx4a65c_add_72be8_22 trivial rfl ⟨Nat.le_of_ble_eq_true rfl, Nat.le_of_ble_eq_true rfl⟩ ⟨Nat.le_of_ble_eq_true rfl, Nat.le_of_ble_eq_true rfl⟩

set_option maxHeartbeats 4000000 in
set_option maxRecDepth 100000 in
/-- ArrayList.add(e), the first time -/
theorem c_ad1 (l : Launch) (g : Gm) (a : Nat) (eo : Nat) (ec : va_E) (hAny : ∀ (s : State) (H : Heap), va_K g.1 vwC (tysG g) s → NWs s → va_at g.1 vwC (eo, ec) H → va_Any "java/lang/Object" s H eo) : MXi (S := Nat) l g yJx4a65c_add_9ea2d cJx4a65c_add_9ea2d 2 .boolean ({ frames := 4, cells := 1, slots := 10, locals := 80 } : Room) [.ref a, .ref eo] [(a, .inr (8, [.int 0, .ref (g.2.2 0), .int 0])), (eo, ec)] (fun r _ => r = 1) (fun u => [(a, .inr (8, [.int 1, .ref u, .int 1])), (eo, ec), (u, .inl (g.2.1 4, 10, .inr (.inr (.inr (.inr (va_up (fun _ => none) (0 : Int32).toNatClampNeg (some eo)))))))]) (fun _ => (1, 10)) := by
  intro sz tt
  refine ofX RJx4a65c rfl (by decide +kernel) (Nat.le_of_ble_eq_true rfl) (fun p e s m args below meth c hargs S hml hr hlk hnm hsz htt hK hA hZ E ls hl => ?_)
  have hx := S.1
  have hb := S.2.1
  have hl : lv_has ls 2 [(0, .ref a), (1, .ref eo)] := hl
  refine lv_aload_n hx hb dJx4a65c_add_9ea2d_0 rfl (lv_at hl 0 rfl) ?_
  refine lv_dup hx hb dJx4a65c_add_9ea2d_1 rfl ?_
  refine wg_Jx4a65c_63 (v := .int 0) S hK E 0 rfl rfl dJx4a65c_add_9ea2d_2 ?_
  refine lv_iconst (v := 1) hx hb dJx4a65c_add_9ea2d_5 (by decide) ?_
  refine k_iadd (v := 1) hx hb (by decide) dJx4a65c_add_9ea2d_6 ?_
  refine wp_Jx4a65c_63 (w' := [(a, .inr (8, [.int 1, .ref (g.2.2 0), .int 0])), (eo, ec)]) S hK E 0 rfl rfl rfl (Nat.le_of_ble_eq_true rfl) rfl dJx4a65c_add_9ea2d_7 (fun H locs E => ?_)
  refine lv_aload_n hx hb dJx4a65c_add_9ea2d_10 rfl (lv_at hl 0 rfl) ?_
  refine lv_aload_n hx hb dJx4a65c_add_9ea2d_11 rfl (lv_at hl 1 rfl) ?_
  refine lv_aload_n hx hb dJx4a65c_add_9ea2d_12 rfl (lv_at hl 0 rfl) ?_
  refine wg_Jx4a65c_9 (v := .ref (g.2.2 0)) S hK E 0 rfl rfl dJx4a65c_add_9ea2d_13 ?_
  refine lv_aload_n hx hb dJx4a65c_add_9ea2d_16 rfl (lv_at hl 0 rfl) ?_
  refine wg_Jx4a65c_48 (v := .int 0) S hK E 0 rfl rfl dJx4a65c_add_9ea2d_17 ?_
  refine w_retv (runV_X (As := [.ref eo, .ref (g.2.2 0), .int 0]) (rest := []) (q0 := 0) (n := 3) S hml hK (hZ.at E) (Cut.full E hA) (c_ad3 l g a 1 eo (ec) hAny _ _) (gi_wsV ml_Jx4a65c_131 im_Jx4a65c_add_72be8 sl_Jx4a65c_add_72be8 in_Jx4a65c co_Jx4a65c_add_72be8) ⟨rfl, by decide +kernel, by decide +kernel, by decide +kernel⟩ ⟨Nat.le_of_ble_eq_true rfl, Nat.le_of_ble_eq_true rfl⟩ rfl rfl rfl hl.1 rfl (Nat.le_of_ble_eq_true rfl) dJx4a65c_add_9ea2d_20 ⟨Nat.le_of_ble_eq_true rfl, Nat.le_of_ble_eq_true rfl⟩) (Cut.full E hA) E (fun u1 H locs hp E => ?_)
  have E : Ev g _ s.heap H locs [(a, .inr (8, [.int 1, .ref u1, .int 1])), (eo, ec), (u1, .inl (g.2.1 4, 10, .inr (.inr (.inr (.inr (va_up (fun _ => none) (0 : Int32).toNatClampNeg (some eo)))))))] := E
  refine lv_iconst (v := 1) hx hb dJx4a65c_add_9ea2d_23 (by decide) ?_
  exact x_zret u1 S hr hlk hsz htt hK E dJx4a65c_add_9ea2d_24 rfl rfl rfl ⟨Nat.le_of_ble_eq_true rfl, Nat.le_of_ble_eq_true rfl⟩ ⟨Nat.le_of_ble_eq_true rfl, Nat.le_of_ble_eq_true rfl⟩

set_option maxHeartbeats 4000000 in
set_option maxRecDepth 100000 in
/-- AbstractStringBuilder(16) -/
theorem c_J5_init_d00df (l : Launch) (g : Gm) (a : Nat) : MXv (S := Nat) l g yJ5_init_d00df cJ5_init_d00df 2 ({ frames := 1, cells := 1, slots := 16, locals := 12 } : Room) [.ref a, .int 16] [(a, .inr (7, [.null, .int 0, .int 0, .int 0]))] (fun _ => True) (fun u => [(a, .inr (7, [.ref u, .int 0, .int 0, .int 0])), (u, .inl (g.2.1 3, 16, .inl (fun _ => 0)))]) (fun _ => (1, 16)) := by
  intro sz tt
  refine ofX RJ5 rfl (by decide +kernel) (Nat.le_of_ble_eq_true rfl) (fun p e s m args below meth c hargs S hml hr hlk hnm hsz htt hK hA hZ E ls hl => ?_)
  have hx := S.1
  have hb := S.2.1
  have hl : lv_has ls 2 [(0, .ref a), (1, .int 16)] := hl
  refine lv_aload_n hx hb dJ5_init_d00df_0 rfl (lv_at hl 0 rfl) ?_
  refine w_obj S hml hl ml_J5_3 (Nat.le_of_ble_eq_true rfl) (Nat.le_of_ble_eq_true rfl) dJ5_init_d00df_1 ?_
  refine w_gets S hZ.1 E fl_J5_18 dJ5_init_d00df_4 ?_
  refine lv_if_eq (tgt := 25) hx hb dJ5_init_d00df_7 (by decide) (fun c_ => absurd c_ (show ¬ ((1 : Int32) = 0) by decide)) (fun _ => ?_)
  refine lv_aload_n hx hb dJ5_init_d00df_10 rfl (lv_at hl 0 rfl) ?_
  refine lv_iload_n hx hb dJ5_init_d00df_11 rfl (lv_at hl 1 rfl) ?_
  refine w_newa (atype := .byte) (ty := .byte) (a0 := (16, .inl (fun _ => 0))) (N' := 16) 3 S hK E hA ac_byte rfl rfl (fun C h => by cases h) (fun cA => by first | rfl | (rw [vp_cell_i]; rfl)) (by decide) (by decide) (by decide) (Nat.le_of_ble_eq_true rfl) (Nat.le_of_ble_eq_true rfl) dJ5_init_d00df_12 (fun q1 H E => ?_)
  have E : Ev g _ s.heap H _ [(a, .inr (7, [.null, .int 0, .int 0, .int 0])), (q1, .inl (g.2.1 3, 16, .inl (fun _ => 0)))] := E
  refine wp_J5_15 (w' := [(a, .inr (7, [.ref q1, .int 0, .int 0, .int 0])), (q1, .inl (g.2.1 3, 16, .inl (fun _ => 0)))]) S hK E 0 rfl rfl rfl (Nat.le_of_ble_eq_true rfl) rfl dJ5_init_d00df_14 (fun H locs E => ?_)
  refine lv_aload_n hx hb dJ5_init_d00df_17 rfl (lv_at hl 0 rfl) ?_
  refine lv_iconst (v := 0) hx hb dJ5_init_d00df_18 (by decide) ?_
  refine wp_J5_22 (w' := [(a, .inr (7, [.ref q1, .int 0, .int 0, .int 0])), (q1, .inl (g.2.1 3, 16, .inl (fun _ => 0)))]) S hK E 0 rfl rfl rfl (Nat.le_of_ble_eq_true rfl) rfl dJ5_init_d00df_19 (fun H locs E => ?_)
  refine lv_goto (tgt := 38) hx hb dJ5_init_d00df_22 (by decide) ?_
  exact x_vret q1 S hr hlk hsz htt hK E dJ5_init_d00df_38 trivial rfl ⟨Nat.le_of_ble_eq_true rfl, Nat.le_of_ble_eq_true rfl⟩ ⟨Nat.le_of_ble_eq_true rfl, Nat.le_of_ble_eq_true rfl⟩

set_option maxHeartbeats 4000000 in
set_option maxRecDepth 100000 in
/-- new StringBuilder() -/
theorem c_J4_init_da8c8 (l : Launch) (g : Gm) (a : Nat) : MXv (S := Nat) l g yJ4_init_da8c8 cJ4_init_da8c8 1 ({ frames := 2, cells := 1, slots := 16, locals := 33 } : Room) [.ref a] [(a, .inr (7, [.null, .int 0, .int 0, .int 0]))] (fun _ => True) (fun u => [(a, .inr (7, [.ref u, .int 0, .int 0, .int 0])), (u, .inl (g.2.1 3, 16, .inl (fun _ => 0)))]) (fun _ => (1, 16)) := by
  intro sz tt
  refine ofX RJ4 rfl (by decide +kernel) (Nat.le_of_ble_eq_true rfl) (fun p e s m args below meth c hargs S hml hr hlk hnm hsz htt hK hA hZ E ls hl => ?_)
  have hx := S.1
  have hb := S.2.1
  have hl : lv_has ls 1 [(0, .ref a)] := hl
  refine lv_aload_n hx hb dJ4_init_da8c8_0 rfl (lv_at hl 0 rfl) ?_
  refine lv_bipush (v := 16) hx hb dJ4_init_da8c8_1 (by decide) ?_
  refine w_retv (runI_X (As := [.int 16]) (rest := []) (n := 1) S hml hK (hZ.at E) (Cut.full E hA) (c_J5_init_d00df l g a _ _) ml_J4_1 im_J5_init_d00df in_J5 co_J5_init_d00df rfl ⟨by decide +kernel, by decide +kernel, by decide +kernel⟩ ⟨Nat.le_of_ble_eq_true rfl, Nat.le_of_ble_eq_true rfl⟩ rfl hl.1 rfl (Nat.le_of_ble_eq_true rfl) dJ4_init_da8c8_3 ⟨Nat.le_of_ble_eq_true rfl, Nat.le_of_ble_eq_true rfl⟩) (Cut.full E hA) E (fun u1 H locs hp E => ?_)
  have E : Ev g _ s.heap H locs [(a, .inr (7, [.ref u1, .int 0, .int 0, .int 0])), (u1, .inl (g.2.1 3, 16, .inl (fun _ => 0)))] := E
  exact x_vret u1 S hr hlk hsz htt hK E dJ4_init_da8c8_6 trivial rfl ⟨Nat.le_of_ble_eq_true rfl, Nat.le_of_ble_eq_true rfl⟩ ⟨Nat.le_of_ble_eq_true rfl, Nat.le_of_ble_eq_true rfl⟩

/-- what may stand in an Object[] -/
theorem any_X1 {g : Gm} {q : Nat} {fs : List Value} (s : State) (H : Heap) (hK : va_K g.1 vwC (tysG g) s) (hN : NWs s) (h : va_at g.1 vwC (q, .inr (1, fs)) H) : va_Any "java/lang/Object" s H q :=
  va_rAny (ws := [(q, .inr (1, fs))]) (q0 := 0) hK (va_P_iff.mpr fun z hz => by rw [List.mem_singleton.mp hz]; exact h) rfl rfl (fun c c0 h1 h2 => vb_asgC (hN _ nw_X1 rfl) c c0 h1 h2)
