/-! THE JDK: ArrayList, what is read -/
theorem w_aldq {p : Program} {l : Launch} {e : Env} {R : Room} {s : State} {m : MethodId} {args : Array Value} {below : List Frame} {meth : Method} {c : Code} {H : Heap} {locs : List Loc} {cells slots : Nat} {Q : State → Prop} {cc : ByteArray} {pc : Nat} {ls : Array Slot} {rest : List Value} {g : Gm} {A : Nat → Prop} {H0 : Heap} {ws : va_W} {own C : String} {a n : Nat} {cA : ClassId} {f : Nat → Option Nat} {i : Int32} {v : Nat} (S : Sta p c cc s args own m) (hK : va_K g.1 vwC (tysG g) s) (E : Ev g A H0 H locs ws) (q0 t0 : Nat) (ha : ws[q0]? = some (a, .inl (cA, n, .inr (.inr (.inr (.inr f)))))) (ht : (tysG g)[t0]? = some (cA, .object C)) (hin : vp_in i n) (hv : f i.toNatClampNeg = some v) (hdg : decode cc pc = .ok (.aaload, 1))
    (kk : W p l e R s m args below meth c H locs cells slots Q (F0 m (pc + 1) ls (.ref v :: rest))) : W p l e R s m args below meth c H locs cells slots Q (F0 m pc ls (.int i :: .ref a :: rest)) := by
  refine va_aldq S.1 S.2.1 hK E.1 q0 t0 ha ht hin hdg ?_
  rw [hv]
  exact kk
theorem dJx4a65c_size_8abf5_0 : decode cJx4a65c_size_8abf5 0 = .ok (.aload_n 0, 1) := by decide +kernel
theorem dJx4a65c_size_8abf5_1 : decode cJx4a65c_size_8abf5 1 = .ok (.getfield 48, 3) := by decide +kernel
theorem dJx4a65c_size_8abf5_4 : decode cJx4a65c_size_8abf5 4 = .ok (.ireturn, 1) := by decide +kernel
set_option maxHeartbeats 4000000 in
set_option maxRecDepth 100000 in
/-- ArrayList.size -/
theorem c_Jx4a65c_size_8abf5 (l : Launch) (g : Gm) (a : Nat) (mc n : Int32) (el : Nat) : MXi (S := Unit) l g yJx4a65c_size_8abf5 cJx4a65c_size_8abf5 1 .int ({ frames := 0, cells := 0, slots := 0, locals := 0 } : Room) [.ref a] [(a, .inr (8, [.int mc, .ref el, .int n]))] (fun r _ => r = n) ((fun _ => [(a, .inr (8, [.int mc, .ref el, .int n]))])) (fun _ => (0, 0)) := by
  intro sz tt
  refine ofX RJx4a65c rfl (by decide +kernel) (Nat.le_of_ble_eq_true rfl) (fun p e s m args below meth c hargs S hml hr hlk hnm hsz htt hK hA hZ E ls hl => ?_)
  have hx := S.1
  have hb := S.2.1
  have hl : lv_has ls 1 [(0, .ref a)] := hl
  refine lv_aload_n hx hb dJx4a65c_size_8abf5_0 rfl (lv_at hl 0 rfl) ?_
  refine wg_Jx4a65c_48 (v := .int n) S hK E 0 rfl rfl dJx4a65c_size_8abf5_1 ?_
  exact x_iret () S hr hlk hsz htt hK E dJx4a65c_size_8abf5_4 rfl rfl ⟨Nat.le_of_ble_eq_true rfl, Nat.le_of_ble_eq_true rfl⟩ ⟨Nat.le_of_ble_eq_true rfl, Nat.le_of_ble_eq_true rfl⟩

theorem dJ3_checkIndex_8e157_0 : decode cJ3_checkIndex_8e157 0 = .ok (.iload_n 0, 1) := by decide +kernel
theorem dJ3_checkIndex_8e157_1 : decode cJ3_checkIndex_8e157 1 = .ok (.ifCond .lt 8, 3) := by decide +kernel
theorem dJ3_checkIndex_8e157_4 : decode cJ3_checkIndex_8e157 4 = .ok (.iload_n 0, 1) := by decide +kernel
theorem dJ3_checkIndex_8e157_5 : decode cJ3_checkIndex_8e157 5 = .ok (.iload_n 1, 1) := by decide +kernel
theorem dJ3_checkIndex_8e157_6 : decode cJ3_checkIndex_8e157 6 = .ok (.if_icmp .lt 10, 3) := by decide +kernel
theorem dJ3_checkIndex_8e157_9 : decode cJ3_checkIndex_8e157 9 = .ok (.aload_n 2, 1) := by decide +kernel
theorem dJ3_checkIndex_8e157_10 : decode cJ3_checkIndex_8e157 10 = .ok (.iload_n 0, 1) := by decide +kernel
theorem dJ3_checkIndex_8e157_11 : decode cJ3_checkIndex_8e157 11 = .ok (.iload_n 1, 1) := by decide +kernel
theorem dJ3_checkIndex_8e157_12 : decode cJ3_checkIndex_8e157 12 = .ok (.invokestatic 95, 3) := by decide +kernel
theorem dJ3_checkIndex_8e157_15 : decode cJ3_checkIndex_8e157 15 = .ok (.athrow, 1) := by decide +kernel
theorem dJ3_checkIndex_8e157_16 : decode cJ3_checkIndex_8e157 16 = .ok (.iload_n 0, 1) := by decide +kernel
theorem dJ3_checkIndex_8e157_17 : decode cJ3_checkIndex_8e157 17 = .ok (.ireturn, 1) := by decide +kernel
set_option maxHeartbeats 4000000 in
set_option maxRecDepth 100000 in
/-- Preconditions.checkIndex -/
theorem c_J3_checkIndex_8e157 (l : Launch) (g : Gm) (i n : Nat) (hi : i < n) (hn : n < 1000000) : MXi (S := Unit) l g yJ3_checkIndex_8e157 cJ3_checkIndex_8e157 3 .int ({ frames := 0, cells := 0, slots := 0, locals := 0 } : Room) [.int (nI i), .int (nI n), .null] [] (fun r _ => r = nI i) ((fun _ => [])) (fun _ => (0, 0)) := by
  intro sz tt
  refine ofX RJ3 rfl (by decide +kernel) (Nat.le_of_ble_eq_true rfl) (fun p e s m args below meth c hargs S hml hr hlk hnm hsz htt hK hA hZ E ls hl => ?_)
  have hx := S.1
  have hb := S.2.1
  have hl : lv_has ls 3 [(0, .int (nI i)), (1, .int (nI n)), (2, .null)] := hl
  refine lv_iload_n hx hb dJ3_checkIndex_8e157_0 rfl (lv_at hl 0 rfl) ?_
  refine lv_if_lt (tgt := 9) hx hb dJ3_checkIndex_8e157_1 (by decide) (fun c_ => absurd c_ (nI_pos (by omega))) (fun _ => ?_)
  refine lv_iload_n hx hb dJ3_checkIndex_8e157_4 rfl (lv_at hl 0 rfl) ?_
  refine lv_iload_n hx hb dJ3_checkIndex_8e157_5 rfl (lv_at hl 1 rfl) ?_
  refine lv_icmp_lt (tgt := 16) hx hb dJ3_checkIndex_8e157_6 (by decide) (fun _ => ?_) (fun c_ => absurd (nI_lt hi (by omega)) c_)
  refine lv_iload_n hx hb dJ3_checkIndex_8e157_16 rfl (lv_at hl 0 rfl) ?_
  exact x_iret () S hr hlk hsz htt hK E dJ3_checkIndex_8e157_17 rfl rfl ⟨Nat.le_of_ble_eq_true rfl, Nat.le_of_ble_eq_true rfl⟩ ⟨Nat.le_of_ble_eq_true rfl, Nat.le_of_ble_eq_true rfl⟩

theorem dJ15_checkIndex_7cf53_0 : decode cJ15_checkIndex_7cf53 0 = .ok (.iload_n 0, 1) := by decide +kernel
theorem dJ15_checkIndex_7cf53_1 : decode cJ15_checkIndex_7cf53 1 = .ok (.iload_n 1, 1) := by decide +kernel
theorem dJ15_checkIndex_7cf53_2 : decode cJ15_checkIndex_7cf53 2 = .ok (.aconst_null, 1) := by decide +kernel
theorem dJ15_checkIndex_7cf53_3 : decode cJ15_checkIndex_7cf53 3 = .ok (.invokestatic 105, 3) := by decide +kernel
theorem dJ15_checkIndex_7cf53_6 : decode cJ15_checkIndex_7cf53 6 = .ok (.ireturn, 1) := by decide +kernel
set_option maxHeartbeats 4000000 in
set_option maxRecDepth 100000 in
/-- Objects.checkIndex -/
theorem c_J15_checkIndex_7cf53 (l : Launch) (g : Gm) (i n : Nat) (hi : i < n) (hn : n < 1000000) : MXi (S := Unit) l g yJ15_checkIndex_7cf53 cJ15_checkIndex_7cf53 2 .int ({ frames := 1, cells := 0, slots := 0, locals := 22 } : Room) [.int (nI i), .int (nI n)] [] (fun r _ => r = nI i) ((fun _ => [])) (fun _ => (0, 0)) := by
  intro sz tt
  refine ofX RJ15 rfl (by decide +kernel) (Nat.le_of_ble_eq_true rfl) (fun p e s m args below meth c hargs S hml hr hlk hnm hsz htt hK hA hZ E ls hl => ?_)
  have hx := S.1
  have hb := S.2.1
  have hl : lv_has ls 2 [(0, .int (nI i)), (1, .int (nI n))] := hl
  refine lv_iload_n hx hb dJ15_checkIndex_7cf53_0 rfl (lv_at hl 0 rfl) ?_
  refine lv_iload_n hx hb dJ15_checkIndex_7cf53_1 rfl (lv_at hl 1 rfl) ?_
  refine lv_null hx hb dJ15_checkIndex_7cf53_2 ?_
  refine w_reti (runS_X (As := [.int (nI i), .int (nI n), .null]) (rest := []) (n := 3) S hml hK (hZ.at E) (Cut.full E hA) (c_J3_checkIndex_8e157 l g i n hi hn _ _) ml_J15_105 st_J3_checkIndex_8e157 in_J3 co_J3_checkIndex_8e157 ⟨by decide +kernel, by decide +kernel, by decide +kernel⟩ ⟨Nat.le_of_ble_eq_true rfl, Nat.le_of_ble_eq_true rfl⟩ rfl hl.1 rfl (Nat.le_of_ble_eq_true rfl) dJ15_checkIndex_7cf53_3 ⟨Nat.le_of_ble_eq_true rfl, Nat.le_of_ble_eq_true rfl⟩) (Cut.full E hA) E (fun r u0 H locs hp E => ?_)
  subst hp
  have E : Ev g _ s.heap H locs [] := E
  exact x_iret () S hr hlk hsz htt hK E dJ15_checkIndex_7cf53_6 rfl rfl ⟨Nat.le_of_ble_eq_true rfl, Nat.le_of_ble_eq_true rfl⟩ ⟨Nat.le_of_ble_eq_true rfl, Nat.le_of_ble_eq_true rfl⟩

theorem dJx4a65c_elementData_915e3_0 : decode cJx4a65c_elementData_915e3 0 = .ok (.aload_n 0, 1) := by decide +kernel
theorem dJx4a65c_elementData_915e3_1 : decode cJx4a65c_elementData_915e3 1 = .ok (.getfield 9, 3) := by decide +kernel
theorem dJx4a65c_elementData_915e3_4 : decode cJx4a65c_elementData_915e3 4 = .ok (.iload_n 1, 1) := by decide +kernel
theorem dJx4a65c_elementData_915e3_5 : decode cJx4a65c_elementData_915e3 5 = .ok (.aaload, 1) := by decide +kernel
theorem dJx4a65c_elementData_915e3_6 : decode cJx4a65c_elementData_915e3 6 = .ok (.areturn, 1) := by decide +kernel
set_option maxHeartbeats 4000000 in
set_option maxRecDepth 100000 in
/-- ArrayList.elementData -/
theorem c_Jx4a65c_elementData_915e3 (l : Launch) (g : Gm) (a el cap n : Nat) (mc : Int32) (f : Nat → Option Nat) (i q : Nat) (hi : i < cap) (hc : cap < 1000000) (hq : f i = some q) : MXr (S := Unit) l g yJx4a65c_elementData_915e3 cJx4a65c_elementData_915e3 2 (.object "java/lang/Object") ({ frames := 0, cells := 0, slots := 0, locals := 0 } : Room) [.ref a, .int (nI i)] [(a, .inr (8, [.int mc, .ref el, .int (nI n)])), (el, .inl (g.2.1 4, cap, .inr (.inr (.inr (.inr f)))))] (fun _ => True) (fun _ => q) ((fun _ => [(a, .inr (8, [.int mc, .ref el, .int (nI n)])), (el, .inl (g.2.1 4, cap, .inr (.inr (.inr (.inr f)))))])) (fun _ => (0, 0)) := by
  intro sz tt
  refine ofX RJx4a65c rfl (by decide +kernel) (Nat.le_of_ble_eq_true rfl) (fun p e s m args below meth c hargs S hml hr hlk hnm hsz htt hK hA hZ E ls hl => ?_)
  have hx := S.1
  have hb := S.2.1
  have hl : lv_has ls 2 [(0, .ref a), (1, .int (nI i))] := hl
  refine lv_aload_n hx hb dJx4a65c_elementData_915e3_0 rfl (lv_at hl 0 rfl) ?_
  refine wg_Jx4a65c_9 (v := .ref el) S hK E 0 rfl rfl dJx4a65c_elementData_915e3_1 ?_
  refine lv_iload_n hx hb dJx4a65c_elementData_915e3_4 rfl (lv_at hl 1 rfl) ?_
  refine w_aldq (v := q) S hK E 1 4 rfl rfl (vp_in_nI (n := i) (by omega) (by omega)) (by rw [nI_clamp (by omega)]; exact hq) dJx4a65c_elementData_915e3_5 ?_
  exact x_aret () S hr (by first | exact Or.inl ⟨_, rfl⟩ | exact Or.inr ⟨_, rfl⟩) hlk hsz htt hK E dJx4a65c_elementData_915e3_6 trivial rfl rfl ⟨Nat.le_of_ble_eq_true rfl, Nat.le_of_ble_eq_true rfl⟩ ⟨Nat.le_of_ble_eq_true rfl, Nat.le_of_ble_eq_true rfl⟩

theorem dJx4a65c_get_915e3_0 : decode cJx4a65c_get_915e3 0 = .ok (.iload_n 1, 1) := by decide +kernel
theorem dJx4a65c_get_915e3_1 : decode cJx4a65c_get_915e3 1 = .ok (.aload_n 0, 1) := by decide +kernel
theorem dJx4a65c_get_915e3_2 : decode cJx4a65c_get_915e3 2 = .ok (.getfield 48, 3) := by decide +kernel
theorem dJx4a65c_get_915e3_5 : decode cJx4a65c_get_915e3 5 = .ok (.invokestatic 118, 3) := by decide +kernel
theorem dJx4a65c_get_915e3_8 : decode cJx4a65c_get_915e3 8 = .ok (.pop, 1) := by decide +kernel
theorem dJx4a65c_get_915e3_9 : decode cJx4a65c_get_915e3 9 = .ok (.aload_n 0, 1) := by decide +kernel
theorem dJx4a65c_get_915e3_10 : decode cJx4a65c_get_915e3 10 = .ok (.iload_n 1, 1) := by decide +kernel
theorem dJx4a65c_get_915e3_11 : decode cJx4a65c_get_915e3 11 = .ok (.invokevirtual 123, 3) := by decide +kernel
theorem dJx4a65c_get_915e3_14 : decode cJx4a65c_get_915e3 14 = .ok (.areturn, 1) := by decide +kernel
set_option maxHeartbeats 4000000 in
set_option maxRecDepth 100000 in
/-- ArrayList.get -/
theorem c_Jx4a65c_get_915e3 (l : Launch) (g : Gm) (a el cap n : Nat) (mc : Int32) (f : Nat → Option Nat) (i q : Nat) (hi : i < n) (hn : n ≤ cap) (hc : cap < 1000000) (hq : f i = some q) : MXr (S := Unit) l g yJx4a65c_get_915e3 cJx4a65c_get_915e3 2 (.object "java/lang/Object") ({ frames := 2, cells := 0, slots := 0, locals := 43 } : Room) [.ref a, .int (nI i)] [(a, .inr (8, [.int mc, .ref el, .int (nI n)])), (el, .inl (g.2.1 4, cap, .inr (.inr (.inr (.inr f)))))] (fun _ => True) (fun _ => q) ((fun _ => [(a, .inr (8, [.int mc, .ref el, .int (nI n)])), (el, .inl (g.2.1 4, cap, .inr (.inr (.inr (.inr f)))))])) (fun _ => (0, 0)) := by
  intro sz tt
  refine ofX RJx4a65c rfl (by decide +kernel) (Nat.le_of_ble_eq_true rfl) (fun p e s m args below meth c hargs S hml hr hlk hnm hsz htt hK hA hZ E ls hl => ?_)
  have hx := S.1
  have hb := S.2.1
  have hl : lv_has ls 2 [(0, .ref a), (1, .int (nI i))] := hl
  refine lv_iload_n hx hb dJx4a65c_get_915e3_0 rfl (lv_at hl 1 rfl) ?_
  refine lv_aload_n hx hb dJx4a65c_get_915e3_1 rfl (lv_at hl 0 rfl) ?_
  refine wg_Jx4a65c_48 (v := .int (nI n)) S hK E 0 rfl rfl dJx4a65c_get_915e3_2 ?_
  refine w_reti (runS_X (As := [.int (nI i), .int (nI n)]) (rest := []) (n := 2) S hml hK (hZ.at E) (Cut.of (wc := []) (wr := [(a, .inr (8, [.int mc, .ref el, .int (nI n)])), (el, .inl (g.2.1 4, cap, .inr (.inr (.inr (.inr f)))))]) E hA [] [0, 1] rfl rfl rfl rfl (by decide)) (c_J15_checkIndex_7cf53 l g i n hi (by omega) _ _) ml_Jx4a65c_118 st_J15_checkIndex_7cf53 in_J15 co_J15_checkIndex_7cf53 ⟨by decide +kernel, by decide +kernel, by decide +kernel⟩ ⟨Nat.le_of_ble_eq_true rfl, Nat.le_of_ble_eq_true rfl⟩ rfl hl.1 rfl (Nat.le_of_ble_eq_true rfl) dJx4a65c_get_915e3_5 ⟨Nat.le_of_ble_eq_true rfl, Nat.le_of_ble_eq_true rfl⟩) (Cut.of (wc := []) (wr := [(a, .inr (8, [.int mc, .ref el, .int (nI n)])), (el, .inl (g.2.1 4, cap, .inr (.inr (.inr (.inr f)))))]) E hA [] [0, 1] rfl rfl rfl rfl (by decide)) E (fun r u0 H locs hp E => ?_)
  subst hp
  have E : Ev g _ s.heap H locs [(a, .inr (8, [.int mc, .ref el, .int (nI n)])), (el, .inl (g.2.1 4, cap, .inr (.inr (.inr (.inr f)))))] := E
  refine lv_pop hx hb dJx4a65c_get_915e3_8 rfl ?_
  refine lv_aload_n hx hb dJx4a65c_get_915e3_9 rfl (lv_at hl 0 rfl) ?_
  refine lv_iload_n hx hb dJx4a65c_get_915e3_10 rfl (lv_at hl 1 rfl) ?_
  refine w_retr (runV_X (As := [.int (nI i)]) (rest := []) (q0 := 0) (n := 1) S hml hK (hZ.at E) (Cut.full E hA) (c_Jx4a65c_elementData_915e3 l g a el cap n mc f i q (by omega) hc hq _ _) (gi_wsV ml_Jx4a65c_123 im_Jx4a65c_elementData_915e3 sl_Jx4a65c_elementData_915e3 in_Jx4a65c co_Jx4a65c_elementData_915e3) ⟨rfl, by decide +kernel, by decide +kernel, by decide +kernel⟩ ⟨Nat.le_of_ble_eq_true rfl, Nat.le_of_ble_eq_true rfl⟩ rfl rfl rfl hl.1 rfl (Nat.le_of_ble_eq_true rfl) dJx4a65c_get_915e3_11 ⟨Nat.le_of_ble_eq_true rfl, Nat.le_of_ble_eq_true rfl⟩) (Cut.full E hA) E (fun u H locs hp E => ?_)
  have E : Ev g _ s.heap H locs [(a, .inr (8, [.int mc, .ref el, .int (nI n)])), (el, .inl (g.2.1 4, cap, .inr (.inr (.inr (.inr f)))))] := E
  exact x_aret () S hr (by first | exact Or.inl ⟨_, rfl⟩ | exact Or.inr ⟨_, rfl⟩) hlk hsz htt hK E dJx4a65c_get_915e3_14 trivial rfl rfl ⟨Nat.le_of_ble_eq_true rfl, Nat.le_of_ble_eq_true rfl⟩ ⟨Nat.le_of_ble_eq_true rfl, Nat.le_of_ble_eq_true rfl⟩

