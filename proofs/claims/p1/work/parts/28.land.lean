/-! THE REFERENCE AT ITS BEGINNING: its land -/
section FACE
variable {p : Program} {l : Launch} {e : Env} {R : Room} {s : State} {m : MethodId} {args : Array Value} {below : List Frame} {meth : Method} {c : Code} {H : Heap} {locs : List Loc} {cells slots : Nat} {Q : State → Prop}
variable {cc : ByteArray} {pc : Nat} {ls : Array Slot} {rest st0 : List Value} {g : Gm} {A : Nat → Prop} {H0 : Heap} {ws wc wr : va_W} {own C : String} {nL : Nat}
theorem runF_X {x y : MethodName} {cb : ByteArray} {mL n idx count b : Nat} {ret : Option FieldType} {rm : Room} {Qc : Array Value → State → Outcome → State → Prop} {As : List Value} {ci q0 : Nat} {fs : List Value} {T : u_T} {N : Nat}
    (S : Sta p c cc s args own m) (hml : c.maxLocals = nL) (hK : va_K g.1 vwC (tysG g) s) (hZ : Zs g A s H) (hc : Cut g A H wc wr)
    (hM : Met l y (wsY y cb mL ret) rm (va_Pc (.ref b :: As) (PreX g wc H.size (tot H))) Qc rm.cells rm.slots (va_A wc H.size))
    (h1 : Cond.methodLink own idx x ∈ lw_g) (h2 : Cond.selects C x y ∈ lw_g) (h3 : Cond.instanceMethod y ∈ lw_g) (h4 : Cond.initialized y.cls ∈ lw_g) (h5 : Cond.code y cb mL ret ∈ lw_g) (hF : va_Fw C x y s)
    (hd : x.cls ≠ "java/lang/invoke/MethodHandle" ∧ x.cls ≠ "java/lang/invoke/VarHandle" ∧ (parseMethodDescriptor x.desc).map (fun d => d.parameters.length) = some n)
    (hR : rm.frames + 1 ≤ R.frames ∧ 8 + (mL + 11) + rm.locals ≤ R.locals) (hr : wc[q0]? = some (b, .inr (ci, fs))) (hci : vwC[ci]? = some (C, T, N)) (hn : As.length = n) (hls : ls.size = nL) (hst : st0 = As.reverse ++ .ref b :: rest) (hw : (rest.map fun v => v.category).sum ≤ 8) (hdg : decode cc pc = .ok (.invokeinterface idx count, 5)) (hf : cells + rm.cells ≤ R.cells ∧ slots + rm.slots ≤ R.slots) :
    va_Run5 p l e R s m args below meth c H locs cells slots rm.cells rm.slots (F0 m pc ls st0) rest (Qc (Value.ref b :: As).toArray) (va_A wc H.size) := by
  subst hst
  have hg : GoodIn lw_g (va_wsF own idx C x y (wsY y cb mL ret)) := by
    intro w hw
    have hm : w ∈ lw_g := by
      rcases List.mem_append.mp hw with h | h
      · simp only [List.mem_cons, List.not_mem_nil, or_false] at h
        rcases h with rfl | rfl | rfl | rfl <;> assumption
      · exact (gi_Y h5 w h).1
    exact ⟨hm, good_of_word (lw_gg w hm)⟩
  exact va_runF (As := As) (rest := rest) (hK.1 ci _ hci).2 ⟨S.1, S.2.1, hml, S.2.2.2, S.2.2.1⟩ hM (va_cwF n S.2.2.1 hg rfl rfl rfl hF hd hR) ⟨PreX.blind, va_recv hK hc.1 hci hr, fun U hU hW => ⟨rfl, by rw [hU], by rw [hU], by rw [hU]; exact hc.1, va_K.moved hW.alike hK, hc.2.1, by rw [hU]; exact (hZ.narrow hc.2.2.1).warm hW⟩⟩ rfl hn hls rfl (lv_room hw) hdg hf
theorem w_ret5i {S : Type} {post : Int32 → S → Prop} {wf : S → va_W} {kx : S → Nat × Nat} {a : Array Value} {mc ms : Nat}
    (hr : va_Run5 p l e R s m args below meth c H locs cells slots mc ms (F0 m pc ls st0) rest (va_Qi post (AtX g (va_A wc H.size) wf kx H.size (tot H)) (va_A wc H.size) a) (va_A wc H.size)) (hc : Cut g A H wc wr) (E : Ev g A H0 H locs ws)
    (kk : ∀ (r : Int32) (u : S) (H1 : Heap) (locs1 : List Loc), post r u → Ev g A H0 H1 locs1 (wr ++ wf u) → W p l e R s m args below meth c H1 locs1 (cells + (kx u).1) (slots + (kx u).2) Q (F0 m (pc + 5) ls (.int r :: rest))) : W p l e R s m args below meth c H locs cells slots Q (F0 m pc ls st0) := by
  refine W.know (fun g1 g2 _ => ?_)
  refine va_callFi hr E.2.2 (fun q _ h => hc.2.2.1 q h) hc.2.2.1 (fun r u t H1 locs1 ht hvm hw hB hz1 hk1 hS => ?_)
  obtain ⟨hP1, -, hD1, n1, n2⟩ := hB
  rw [ht] at hP1 n1 n2
  obtain ⟨hP, hD⟩ := hc.2.2.2 _ H1 hk1 hP1 hD1
  exact W.tight (by omega) (by omega) (kk r u H1 locs1 hw ⟨hP, hD, hS⟩)
end FACE
theorem ml_it : Cond.methodLink RX7 165 yItI ∈ lw_g := lw_gi 1540 (by decide +kernel) (by decide +kernel)
theorem sl_it : Cond.selects RJx35411 yItI yJx35411_hasNext_aae02 ∈ lw_g := lw_gi 1544 (by decide +kernel) (by decide +kernel)
theorem dJx35411_init_45d68_0 : decode cJx35411_init_45d68 0 = .ok (.aload_n 0, 1) := by decide +kernel
theorem dJx35411_init_45d68_1 : decode cJx35411_init_45d68 1 = .ok (.aload_n 1, 1) := by decide +kernel
theorem dJx35411_init_45d68_2 : decode cJx35411_init_45d68 2 = .ok (.putfield 1, 3) := by decide +kernel
theorem dJx35411_init_45d68_5 : decode cJx35411_init_45d68 5 = .ok (.aload_n 0, 1) := by decide +kernel
theorem dJx35411_init_45d68_6 : decode cJx35411_init_45d68 6 = .ok (.invokespecial 7, 3) := by decide +kernel
theorem dJx35411_init_45d68_9 : decode cJx35411_init_45d68 9 = .ok (.aload_n 0, 1) := by decide +kernel
theorem dJx35411_init_45d68_10 : decode cJx35411_init_45d68 10 = .ok (.iconst (-1), 1) := by decide +kernel
theorem dJx35411_init_45d68_11 : decode cJx35411_init_45d68 11 = .ok (.putfield 13, 3) := by decide +kernel
theorem dJx35411_init_45d68_14 : decode cJx35411_init_45d68 14 = .ok (.aload_n 0, 1) := by decide +kernel
theorem dJx35411_init_45d68_15 : decode cJx35411_init_45d68 15 = .ok (.aload_n 0, 1) := by decide +kernel
theorem dJx35411_init_45d68_16 : decode cJx35411_init_45d68 16 = .ok (.getfield 1, 3) := by decide +kernel
theorem dJx35411_init_45d68_19 : decode cJx35411_init_45d68 19 = .ok (.getfield 17, 3) := by decide +kernel
theorem dJx35411_init_45d68_22 : decode cJx35411_init_45d68 22 = .ok (.putfield 22, 3) := by decide +kernel
theorem dJx35411_init_45d68_25 : decode cJx35411_init_45d68 25 = .ok (.return_, 1) := by decide +kernel
theorem dJx35411_hasNext_aae02_0 : decode cJx35411_hasNext_aae02 0 = .ok (.aload_n 0, 1) := by decide +kernel
theorem dJx35411_hasNext_aae02_1 : decode cJx35411_hasNext_aae02 1 = .ok (.getfield 25, 3) := by decide +kernel
theorem dJx35411_hasNext_aae02_4 : decode cJx35411_hasNext_aae02 4 = .ok (.aload_n 0, 1) := by decide +kernel
theorem dJx35411_hasNext_aae02_5 : decode cJx35411_hasNext_aae02 5 = .ok (.getfield 1, 3) := by decide +kernel
theorem dJx35411_hasNext_aae02_8 : decode cJx35411_hasNext_aae02 8 = .ok (.getfield 28, 3) := by decide +kernel
theorem dJx35411_hasNext_aae02_11 : decode cJx35411_hasNext_aae02 11 = .ok (.if_icmp .eq 7, 3) := by decide +kernel
theorem dJx35411_hasNext_aae02_14 : decode cJx35411_hasNext_aae02 14 = .ok (.iconst 1, 1) := by decide +kernel
theorem dJx35411_hasNext_aae02_15 : decode cJx35411_hasNext_aae02 15 = .ok (.goto 4, 3) := by decide +kernel
theorem dJx35411_hasNext_aae02_18 : decode cJx35411_hasNext_aae02 18 = .ok (.iconst 0, 1) := by decide +kernel
theorem dJx35411_hasNext_aae02_19 : decode cJx35411_hasNext_aae02 19 = .ok (.ireturn, 1) := by decide +kernel
theorem dJx4a65c_iterator_32c93_0 : decode cJx4a65c_iterator_32c93 0 = .ok (.new 267, 3) := by decide +kernel
theorem dJx4a65c_iterator_32c93_3 : decode cJx4a65c_iterator_32c93 3 = .ok (.dup, 1) := by decide +kernel
theorem dJx4a65c_iterator_32c93_4 : decode cJx4a65c_iterator_32c93 4 = .ok (.aload_n 0, 1) := by decide +kernel
theorem dJx4a65c_iterator_32c93_5 : decode cJx4a65c_iterator_32c93 5 = .ok (.invokespecial 269, 3) := by decide +kernel
theorem dJx4a65c_iterator_32c93_8 : decode cJx4a65c_iterator_32c93 8 = .ok (.areturn, 1) := by decide +kernel
set_option maxHeartbeats 4000000 in
set_option maxRecDepth 100000 in
/-- new ArrayList$Itr -/
theorem c_Jx35411_init_45d68 (l : Launch) (g : Gm) (a : Nat) (b : Nat) : MXv (S := Unit) l g yJx35411_init_45d68 cJx35411_init_45d68 2 ({ frames := 1, cells := 0, slots := 0, locals := 12 } : Room) [.ref a, .ref b] [(a, .inr (12, [.int 0, .int 0, .int 0, .null])), (b, .inr (8, [.int 0, .ref (g.2.2 0), .int 0]))] (fun _ => True) (fun _ => [(a, .inr (12, [.int 0, .int (-1), .int 0, .ref b])), (b, .inr (8, [.int 0, .ref (g.2.2 0), .int 0]))]) (fun _ => (0, 0)) := by
  intro sz tt
  refine ofX RJx35411 rfl (by decide +kernel) (Nat.le_of_ble_eq_true rfl) (fun p e s m args below meth c hargs S hml hr hlk hnm hsz htt hK hA hZ E ls hl => ?_)
  have hx := S.1
  have hb := S.2.1
  have hl : lv_has ls 2 [(0, .ref a), (1, .ref b)] := hl
  refine lv_aload_n hx hb dJx35411_init_45d68_0 rfl (lv_at hl 0 rfl) ?_
  refine lv_aload_n hx hb dJx35411_init_45d68_1 rfl (lv_at hl 1 rfl) ?_
  refine wpF_Jx35411_1 (w' := [(a, .inr (12, [.int 0, .int 0, .int 0, .ref b])), (b, .inr (8, [.int 0, .ref (g.2.2 0), .int 0]))]) S hK E 0 hnm rfl rfl rfl (Nat.le_of_ble_eq_true rfl) rfl dJx35411_init_45d68_2 (fun H locs E => ?_)
  refine lv_aload_n hx hb dJx35411_init_45d68_5 rfl (lv_at hl 0 rfl) ?_
  refine w_obj S hml hl ml_Jx35411_7 (Nat.le_of_ble_eq_true rfl) (Nat.le_of_ble_eq_true rfl) dJx35411_init_45d68_6 ?_
  refine lv_aload_n hx hb dJx35411_init_45d68_9 rfl (lv_at hl 0 rfl) ?_
  refine lv_iconst (v := (-1)) hx hb dJx35411_init_45d68_10 (by decide) ?_
  refine wp_Jx35411_13 (w' := [(a, .inr (12, [.int 0, .int (-1), .int 0, .ref b])), (b, .inr (8, [.int 0, .ref (g.2.2 0), .int 0]))]) S hK E 0 rfl rfl rfl (Nat.le_of_ble_eq_true rfl) rfl dJx35411_init_45d68_11 (fun H locs E => ?_)
  refine lv_aload_n hx hb dJx35411_init_45d68_14 rfl (lv_at hl 0 rfl) ?_
  refine lv_aload_n hx hb dJx35411_init_45d68_15 rfl (lv_at hl 0 rfl) ?_
  refine wg_Jx35411_1 (v := .ref b) S hK E 0 rfl rfl dJx35411_init_45d68_16 ?_
  refine wg_Jx35411_17 (v := .int 0) S hK E 1 rfl rfl dJx35411_init_45d68_19 ?_
  refine wp_Jx35411_22 (w' := [(a, .inr (12, [.int 0, .int (-1), .int 0, .ref b])), (b, .inr (8, [.int 0, .ref (g.2.2 0), .int 0]))]) S hK E 0 rfl rfl rfl (Nat.le_of_ble_eq_true rfl) rfl dJx35411_init_45d68_22 (fun H locs E => ?_)
  exact x_vret () S hr hlk hsz htt hK E dJx35411_init_45d68_25 trivial rfl ⟨Nat.le_of_ble_eq_true rfl, Nat.le_of_ble_eq_true rfl⟩ ⟨Nat.le_of_ble_eq_true rfl, Nat.le_of_ble_eq_true rfl⟩

set_option maxHeartbeats 4000000 in
set_option maxRecDepth 100000 in
/-- ArrayList.iterator -/
theorem c_Jx4a65c_iterator_32c93 (l : Launch) (g : Gm) (b : Nat) : MXr (S := Nat) l g yJx4a65c_iterator_32c93 cJx4a65c_iterator_32c93 1 (.object "java/util/Iterator") ({ frames := 2, cells := 1, slots := 4, locals := 33 } : Room) [.ref b] [(b, .inr (8, [.int 0, .ref (g.2.2 0), .int 0]))] (fun _ => True) (fun u => u) (fun u => [(b, .inr (8, [.int 0, .ref (g.2.2 0), .int 0])), (u, .inr (12, [.int 0, .int (-1), .int 0, .ref b]))]) (fun _ => (1, 4)) := by
  intro sz tt
  refine ofX RJx4a65c rfl (by decide +kernel) (Nat.le_of_ble_eq_true rfl) (fun p e s m args below meth c hargs S hml hr hlk hnm hsz htt hK hA hZ E ls hl => ?_)
  have hx := S.1
  have hb := S.2.1
  have hl : lv_has ls 1 [(0, .ref b)] := hl
  refine w_new (ci := 12) (fs := [.int 0, .int 0, .int 0, .null]) (C := RJx35411) (T := TJx35411) (N := 4) S hK E hA fw_Jx35411 tyJx35411 tyJx35411_ok cl_Jx4a65c_267 ib_Jx35411 in_Jx35411 rfl (fun j hj => by rcases (show j = 0 ∨ j = 1 ∨ j = 2 ∨ j = 3 by omega) with rfl | rfl | rfl | rfl <;> rfl) (Nat.le_of_ble_eq_true rfl) (Nat.le_of_ble_eq_true rfl) dJx4a65c_iterator_32c93_0 (fun q1 H E => ?_)
  have E : Ev g _ s.heap H _ [(b, .inr (8, [.int 0, .ref (g.2.2 0), .int 0])), (q1, .inr (12, [.int 0, .int 0, .int 0, .null]))] := E
  refine lv_dup hx hb dJx4a65c_iterator_32c93_3 rfl ?_
  refine lv_aload_n hx hb dJx4a65c_iterator_32c93_4 rfl (lv_at hl 0 rfl) ?_
  refine w_retv (runI_X (As := [.ref b]) (rest := [.ref q1]) (n := 1) S hml hK (hZ.at E) (Cut.of (wc := [(q1, .inr (12, [.int 0, .int 0, .int 0, .null])), (b, .inr (8, [.int 0, .ref (g.2.2 0), .int 0]))]) (wr := []) E hA [1, 0] [] rfl rfl rfl rfl (by decide)) (c_Jx35411_init_45d68 l g q1 b _ _) ml_Jx4a65c_269 im_Jx35411_init_45d68 in_Jx35411 co_Jx35411_init_45d68 rfl ⟨by decide +kernel, by decide +kernel, by decide +kernel⟩ ⟨Nat.le_of_ble_eq_true rfl, Nat.le_of_ble_eq_true rfl⟩ rfl hl.1 rfl (Nat.le_of_ble_eq_true rfl) dJx4a65c_iterator_32c93_5 ⟨Nat.le_of_ble_eq_true rfl, Nat.le_of_ble_eq_true rfl⟩) (Cut.of (wc := [(q1, .inr (12, [.int 0, .int 0, .int 0, .null])), (b, .inr (8, [.int 0, .ref (g.2.2 0), .int 0]))]) (wr := []) E hA [1, 0] [] rfl rfl rfl rfl (by decide)) E (fun u2 H locs hp E => ?_)
  have E : Ev g _ s.heap H locs [(q1, .inr (12, [.int 0, .int (-1), .int 0, .ref b])), (b, .inr (8, [.int 0, .ref (g.2.2 0), .int 0]))] := E
  have E : Ev g _ s.heap H locs [(b, .inr (8, [.int 0, .ref (g.2.2 0), .int 0])), (q1, .inr (12, [.int 0, .int (-1), .int 0, .ref b]))] := Ev.sub E [1, 0] rfl rfl
  exact x_aret q1 S hr (by first | exact Or.inl ⟨_, rfl⟩ | exact Or.inr ⟨_, rfl⟩) hlk hsz htt hK E dJx4a65c_iterator_32c93_8 trivial rfl rfl ⟨Nat.le_of_ble_eq_true rfl, Nat.le_of_ble_eq_true rfl⟩ ⟨Nat.le_of_ble_eq_true rfl, Nat.le_of_ble_eq_true rfl⟩

set_option maxHeartbeats 4000000 in
set_option maxRecDepth 100000 in
/-- ArrayList$Itr.hasNext, of an empty list -/
theorem c_hn0 (l : Launch) (g : Gm) (a : Nat) (b : Nat) : MXi (S := Unit) l g yJx35411_hasNext_aae02 cJx35411_hasNext_aae02 1 .boolean ({ frames := 0, cells := 0, slots := 0, locals := 0 } : Room) [.ref a] [(a, .inr (12, [.int 0, .int (-1), .int 0, .ref b])), (b, .inr (8, [.int 0, .ref (g.2.2 0), .int 0]))] (fun r _ => r = 0) (fun _ => [(a, .inr (12, [.int 0, .int (-1), .int 0, .ref b])), (b, .inr (8, [.int 0, .ref (g.2.2 0), .int 0]))]) (fun _ => (0, 0)) := by
  intro sz tt
  refine ofX RJx35411 rfl (by decide +kernel) (Nat.le_of_ble_eq_true rfl) (fun p e s m args below meth c hargs S hml hr hlk hnm hsz htt hK hA hZ E ls hl => ?_)
  have hx := S.1
  have hb := S.2.1
  have hl : lv_has ls 1 [(0, .ref a)] := hl
  refine lv_aload_n hx hb dJx35411_hasNext_aae02_0 rfl (lv_at hl 0 rfl) ?_
  refine wg_Jx35411_25 (v := .int 0) S hK E 0 rfl rfl dJx35411_hasNext_aae02_1 ?_
  refine lv_aload_n hx hb dJx35411_hasNext_aae02_4 rfl (lv_at hl 0 rfl) ?_
  refine wg_Jx35411_1 (v := .ref b) S hK E 0 rfl rfl dJx35411_hasNext_aae02_5 ?_
  refine wg_Jx35411_28 (v := .int 0) S hZ.2.2.2.2.2.2.1 hK E 1 rfl rfl dJx35411_hasNext_aae02_8 ?_
  refine lv_icmp_eq (tgt := 18) hx hb dJx35411_hasNext_aae02_11 (by decide) (fun _ => ?_) (fun c_ => absurd (show (0 : Int32) = (0 : Int32) by decide) c_)
  refine lv_iconst (v := 0) hx hb dJx35411_hasNext_aae02_18 (by decide) ?_
  exact x_zret () S hr hlk hsz htt hK E dJx35411_hasNext_aae02_19 rfl rfl rfl ⟨Nat.le_of_ble_eq_true rfl, Nat.le_of_ble_eq_true rfl⟩ ⟨Nat.le_of_ble_eq_true rfl, Nat.le_of_ble_eq_true rfl⟩

theorem dX7_level_0 : decode cX7_level 0 = .ok (.aload_n 0, 1) := by decide +kernel
theorem dX7_level_1 : decode cX7_level 1 = .ok (.getfield 9, 3) := by decide +kernel
theorem dX7_level_4 : decode cX7_level 4 = .ok (.iload_n 1, 1) := by decide +kernel
theorem dX7_level_5 : decode cX7_level 5 = .ok (.iaload, 1) := by decide +kernel
theorem dX7_level_6 : decode cX7_level 6 = .ok (.aload_n 0, 1) := by decide +kernel
theorem dX7_level_7 : decode cX7_level 7 = .ok (.getfield 18, 3) := by decide +kernel
theorem dX7_level_10 : decode cX7_level 10 = .ok (.iload_n 1, 1) := by decide +kernel
theorem dX7_level_11 : decode cX7_level 11 = .ok (.iaload, 1) := by decide +kernel
theorem dX7_level_12 : decode cX7_level 12 = .ok (.aload_n 0, 1) := by decide +kernel
theorem dX7_level_13 : decode cX7_level 13 = .ok (.getfield 15, 3) := by decide +kernel
theorem dX7_level_16 : decode cX7_level 16 = .ok (.iload_n 1, 1) := by decide +kernel
theorem dX7_level_17 : decode cX7_level 17 = .ok (.iaload, 1) := by decide +kernel
theorem dX7_level_18 : decode cX7_level 18 = .ok (.idiv, 1) := by decide +kernel
theorem dX7_level_19 : decode cX7_level 19 = .ok (.iadd, 1) := by decide +kernel
theorem dX7_level_20 : decode cX7_level 20 = .ok (.ireturn, 1) := by decide +kernel
theorem dX7_count_0 : decode cX7_count 0 = .ok (.aload_n 0, 1) := by decide +kernel
theorem dX7_count_1 : decode cX7_count 1 = .ok (.getfield 62, 3) := by decide +kernel
theorem dX7_count_4 : decode cX7_count 4 = .ok (.iload_n 1, 1) := by decide +kernel
theorem dX7_count_5 : decode cX7_count 5 = .ok (.bipush 97, 2) := by decide +kernel
theorem dX7_count_7 : decode cX7_count 7 = .ok (.isub, 1) := by decide +kernel
theorem dX7_count_8 : decode cX7_count 8 = .ok (.dup2, 1) := by decide +kernel
theorem dX7_count_9 : decode cX7_count 9 = .ok (.laload, 1) := by decide +kernel
theorem dX7_count_10 : decode cX7_count 10 = .ok (.iload_n 2, 1) := by decide +kernel
theorem dX7_count_11 : decode cX7_count 11 = .ok (.i2l, 1) := by decide +kernel
theorem dX7_count_12 : decode cX7_count 12 = .ok (.ladd, 1) := by decide +kernel
theorem dX7_count_13 : decode cX7_count 13 = .ok (.lastore, 1) := by decide +kernel
theorem dX7_count_14 : decode cX7_count 14 = .ok (.return_, 1) := by decide +kernel
theorem dX7_takes_0 : decode cX7_takes 0 = .ok (.iload_n 2, 1) := by decide +kernel
theorem dX7_takes_1 : decode cX7_takes 1 = .ok (.ifCond .ne 5, 3) := by decide +kernel
theorem dX7_takes_4 : decode cX7_takes 4 = .ok (.iconst 0, 1) := by decide +kernel
theorem dX7_takes_5 : decode cX7_takes 5 = .ok (.ireturn, 1) := by decide +kernel
theorem dX7_takes_6 : decode cX7_takes 6 = .ok (.aload_n 0, 1) := by decide +kernel
theorem dX7_takes_7 : decode cX7_takes 7 = .ok (.getfield 21, 3) := by decide +kernel
theorem dX7_takes_10 : decode cX7_takes 10 = .ok (.iload_n 1, 1) := by decide +kernel
theorem dX7_takes_11 : decode cX7_takes 11 = .ok (.iaload, 1) := by decide +kernel
theorem dX7_takes_12 : decode cX7_takes 12 = .ok (.i2l, 1) := by decide +kernel
theorem dX7_takes_13 : decode cX7_takes 13 = .ok (.iload_n 2, 1) := by decide +kernel
theorem dX7_takes_14 : decode cX7_takes 14 = .ok (.i2l, 1) := by decide +kernel
theorem dX7_takes_15 : decode cX7_takes 15 = .ok (.lmul, 1) := by decide +kernel
theorem dX7_takes_16 : decode cX7_takes 16 = .ok (.aload_n 0, 1) := by decide +kernel
theorem dX7_takes_17 : decode cX7_takes 17 = .ok (.getfield 18, 3) := by decide +kernel
theorem dX7_takes_20 : decode cX7_takes 20 = .ok (.iload_n 1, 1) := by decide +kernel
theorem dX7_takes_21 : decode cX7_takes 21 = .ok (.iaload, 1) := by decide +kernel
theorem dX7_takes_22 : decode cX7_takes 22 = .ok (.i2l, 1) := by decide +kernel
theorem dX7_takes_23 : decode cX7_takes 23 = .ok (.ldiv, 1) := by decide +kernel
theorem dX7_takes_24 : decode cX7_takes 24 = .ok (.l2i, 1) := by decide +kernel
theorem dX7_takes_25 : decode cX7_takes 25 = .ok (.istore_n 3, 1) := by decide +kernel
theorem dX7_takes_26 : decode cX7_takes 26 = .ok (.aload_n 0, 1) := by decide +kernel
theorem dX7_takes_27 : decode cX7_takes 27 = .ok (.getfield 18, 3) := by decide +kernel
theorem dX7_takes_30 : decode cX7_takes 30 = .ok (.iload_n 1, 1) := by decide +kernel
theorem dX7_takes_31 : decode cX7_takes 31 = .ok (.dup2, 1) := by decide +kernel
theorem dX7_takes_32 : decode cX7_takes 32 = .ok (.iaload, 1) := by decide +kernel
theorem dX7_takes_33 : decode cX7_takes 33 = .ok (.iload_n 2, 1) := by decide +kernel
theorem dX7_takes_34 : decode cX7_takes 34 = .ok (.isub, 1) := by decide +kernel
theorem dX7_takes_35 : decode cX7_takes 35 = .ok (.iastore, 1) := by decide +kernel
theorem dX7_takes_36 : decode cX7_takes 36 = .ok (.aload_n 0, 1) := by decide +kernel
theorem dX7_takes_37 : decode cX7_takes 37 = .ok (.getfield 21, 3) := by decide +kernel
theorem dX7_takes_40 : decode cX7_takes 40 = .ok (.iload_n 1, 1) := by decide +kernel
theorem dX7_takes_41 : decode cX7_takes 41 = .ok (.dup2, 1) := by decide +kernel
theorem dX7_takes_42 : decode cX7_takes 42 = .ok (.iaload, 1) := by decide +kernel
theorem dX7_takes_43 : decode cX7_takes 43 = .ok (.iload_n 3, 1) := by decide +kernel
theorem dX7_takes_44 : decode cX7_takes 44 = .ok (.isub, 1) := by decide +kernel
theorem dX7_takes_45 : decode cX7_takes 45 = .ok (.iastore, 1) := by decide +kernel
theorem dX7_takes_46 : decode cX7_takes 46 = .ok (.iload_n 3, 1) := by decide +kernel
theorem dX7_takes_47 : decode cX7_takes 47 = .ok (.ireturn, 1) := by decide +kernel
theorem dX7_flow_0 : decode cX7_flow 0 = .ok (.iload_n 2, 1) := by decide +kernel
theorem dX7_flow_1 : decode cX7_flow 1 = .ok (.bipush 8, 2) := by decide +kernel
theorem dX7_flow_3 : decode cX7_flow 3 = .ok (.idiv, 1) := by decide +kernel
theorem dX7_flow_4 : decode cX7_flow 4 = .ok (.iload_n 3, 1) := by decide +kernel
theorem dX7_flow_5 : decode cX7_flow 5 = .ok (.bipush 8, 2) := by decide +kernel
theorem dX7_flow_7 : decode cX7_flow 7 = .ok (.idiv, 1) := by decide +kernel
theorem dX7_flow_8 : decode cX7_flow 8 = .ok (.if_icmp .ne 15, 3) := by decide +kernel
theorem dX7_flow_11 : decode cX7_flow 11 = .ok (.aload_n 0, 1) := by decide +kernel
theorem dX7_flow_12 : decode cX7_flow 12 = .ok (.getfield 27, 3) := by decide +kernel
theorem dX7_flow_15 : decode cX7_flow 15 = .ok (.iload_n 2, 1) := by decide +kernel
theorem dX7_flow_16 : decode cX7_flow 16 = .ok (.bipush 8, 2) := by decide +kernel
theorem dX7_flow_18 : decode cX7_flow 18 = .ok (.idiv, 1) := by decide +kernel
theorem dX7_flow_19 : decode cX7_flow 19 = .ok (.iaload, 1) := by decide +kernel
theorem dX7_flow_20 : decode cX7_flow 20 = .ok (.goto 12, 3) := by decide +kernel
theorem dX7_flow_23 : decode cX7_flow 23 = .ok (.aload_n 0, 1) := by decide +kernel
theorem dX7_flow_24 : decode cX7_flow 24 = .ok (.getfield 30, 3) := by decide +kernel
theorem dX7_flow_27 : decode cX7_flow 27 = .ok (.iload_n 2, 1) := by decide +kernel
theorem dX7_flow_28 : decode cX7_flow 28 = .ok (.bipush 8, 2) := by decide +kernel
theorem dX7_flow_30 : decode cX7_flow 30 = .ok (.irem, 1) := by decide +kernel
theorem dX7_flow_31 : decode cX7_flow 31 = .ok (.iaload, 1) := by decide +kernel
theorem dX7_flow_32 : decode cX7_flow 32 = .ok (.istore 4, 2) := by decide +kernel
theorem dX7_flow_34 : decode cX7_flow 34 = .ok (.aload_n 1, 1) := by decide +kernel
theorem dX7_flow_35 : decode cX7_flow 35 = .ok (.iload_n 2, 1) := by decide +kernel
theorem dX7_flow_36 : decode cX7_flow 36 = .ok (.iaload, 1) := by decide +kernel
theorem dX7_flow_37 : decode cX7_flow 37 = .ok (.aload_n 1, 1) := by decide +kernel
theorem dX7_flow_38 : decode cX7_flow 38 = .ok (.iload_n 3, 1) := by decide +kernel
theorem dX7_flow_39 : decode cX7_flow 39 = .ok (.iaload, 1) := by decide +kernel
theorem dX7_flow_40 : decode cX7_flow 40 = .ok (.isub, 1) := by decide +kernel
theorem dX7_flow_41 : decode cX7_flow 41 = .ok (.iload 4, 2) := by decide +kernel
theorem dX7_flow_43 : decode cX7_flow 43 = .ok (.imul, 1) := by decide +kernel
theorem dX7_flow_44 : decode cX7_flow 44 = .ok (.iconst 4, 1) := by decide +kernel
theorem dX7_flow_45 : decode cX7_flow 45 = .ok (.idiv, 1) := by decide +kernel
theorem dX7_flow_46 : decode cX7_flow 46 = .ok (.ireturn, 1) := by decide +kernel
theorem dX7_goes_0 : decode cX7_goes 0 = .ok (.iconst 0, 1) := by decide +kernel
theorem dX7_goes_1 : decode cX7_goes 1 = .ok (.aload_n 0, 1) := by decide +kernel
theorem dX7_goes_2 : decode cX7_goes 2 = .ok (.aload_n 1, 1) := by decide +kernel
theorem dX7_goes_3 : decode cX7_goes 3 = .ok (.iload_n 2, 1) := by decide +kernel
theorem dX7_goes_4 : decode cX7_goes 4 = .ok (.iload_n 3, 1) := by decide +kernel
theorem dX7_goes_5 : decode cX7_goes 5 = .ok (.invokevirtual 144, 3) := by decide +kernel
theorem dX7_goes_8 : decode cX7_goes 8 = .ok (.invokestatic 113, 3) := by decide +kernel
theorem dX7_goes_11 : decode cX7_goes 11 = .ok (.aload_n 0, 1) := by decide +kernel
theorem dX7_goes_12 : decode cX7_goes 12 = .ok (.getfield 18, 3) := by decide +kernel
theorem dX7_goes_15 : decode cX7_goes 15 = .ok (.iload_n 2, 1) := by decide +kernel
theorem dX7_goes_16 : decode cX7_goes 16 = .ok (.iaload, 1) := by decide +kernel
theorem dX7_goes_17 : decode cX7_goes 17 = .ok (.invokestatic 119, 3) := by decide +kernel
theorem dX7_goes_20 : decode cX7_goes 20 = .ok (.istore 4, 2) := by decide +kernel
theorem dX7_goes_22 : decode cX7_goes 22 = .ok (.aload_n 0, 1) := by decide +kernel
theorem dX7_goes_23 : decode cX7_goes 23 = .ok (.getfield 45, 3) := by decide +kernel
theorem dX7_goes_26 : decode cX7_goes 26 = .ok (.iload_n 3, 1) := by decide +kernel
theorem dX7_goes_27 : decode cX7_goes 27 = .ok (.dup2, 1) := by decide +kernel
theorem dX7_goes_28 : decode cX7_goes 28 = .ok (.iaload, 1) := by decide +kernel
theorem dX7_goes_29 : decode cX7_goes 29 = .ok (.aload_n 0, 1) := by decide +kernel
theorem dX7_goes_30 : decode cX7_goes 30 = .ok (.iload_n 2, 1) := by decide +kernel
theorem dX7_goes_31 : decode cX7_goes 31 = .ok (.iload 4, 2) := by decide +kernel
theorem dX7_goes_33 : decode cX7_goes 33 = .ok (.invokevirtual 125, 3) := by decide +kernel
theorem dX7_goes_36 : decode cX7_goes 36 = .ok (.iadd, 1) := by decide +kernel
theorem dX7_goes_37 : decode cX7_goes 37 = .ok (.iastore, 1) := by decide +kernel
theorem dX7_goes_38 : decode cX7_goes 38 = .ok (.aload_n 0, 1) := by decide +kernel
theorem dX7_goes_39 : decode cX7_goes 39 = .ok (.getfield 42, 3) := by decide +kernel
theorem dX7_goes_42 : decode cX7_goes 42 = .ok (.iload_n 3, 1) := by decide +kernel
theorem dX7_goes_43 : decode cX7_goes 43 = .ok (.dup2, 1) := by decide +kernel
theorem dX7_goes_44 : decode cX7_goes 44 = .ok (.iaload, 1) := by decide +kernel
theorem dX7_goes_45 : decode cX7_goes 45 = .ok (.iload 4, 2) := by decide +kernel
theorem dX7_goes_47 : decode cX7_goes 47 = .ok (.iadd, 1) := by decide +kernel
theorem dX7_goes_48 : decode cX7_goes 48 = .ok (.iastore, 1) := by decide +kernel
theorem dX7_goes_49 : decode cX7_goes 49 = .ok (.return_, 1) := by decide +kernel
theorem dX7_flowAll_0 : decode cX7_flowAll 0 = .ok (.bipush 16, 2) := by decide +kernel
theorem dX7_flowAll_2 : decode cX7_flowAll 2 = .ok (.newarray .int, 2) := by decide +kernel
theorem dX7_flowAll_4 : decode cX7_flowAll 4 = .ok (.astore_n 1, 1) := by decide +kernel
theorem dX7_flowAll_5 : decode cX7_flowAll 5 = .ok (.iconst 0, 1) := by decide +kernel
theorem dX7_flowAll_6 : decode cX7_flowAll 6 = .ok (.istore_n 2, 1) := by decide +kernel
theorem dX7_flowAll_7 : decode cX7_flowAll 7 = .ok (.iload_n 2, 1) := by decide +kernel
theorem dX7_flowAll_8 : decode cX7_flowAll 8 = .ok (.bipush 16, 2) := by decide +kernel
theorem dX7_flowAll_10 : decode cX7_flowAll 10 = .ok (.if_icmp .ge 31, 3) := by decide +kernel
theorem dX7_flowAll_13 : decode cX7_flowAll 13 = .ok (.aload_n 1, 1) := by decide +kernel
theorem dX7_flowAll_14 : decode cX7_flowAll 14 = .ok (.iload_n 2, 1) := by decide +kernel
theorem dX7_flowAll_15 : decode cX7_flowAll 15 = .ok (.aload_n 0, 1) := by decide +kernel
theorem dX7_flowAll_16 : decode cX7_flowAll 16 = .ok (.iload_n 2, 1) := by decide +kernel
theorem dX7_flowAll_17 : decode cX7_flowAll 17 = .ok (.invokevirtual 148, 3) := by decide +kernel
theorem dX7_flowAll_20 : decode cX7_flowAll 20 = .ok (.iastore, 1) := by decide +kernel
theorem dX7_flowAll_21 : decode cX7_flowAll 21 = .ok (.aload_n 0, 1) := by decide +kernel
theorem dX7_flowAll_22 : decode cX7_flowAll 22 = .ok (.getfield 42, 3) := by decide +kernel
theorem dX7_flowAll_25 : decode cX7_flowAll 25 = .ok (.iload_n 2, 1) := by decide +kernel
theorem dX7_flowAll_26 : decode cX7_flowAll 26 = .ok (.iconst 0, 1) := by decide +kernel
theorem dX7_flowAll_27 : decode cX7_flowAll 27 = .ok (.iastore, 1) := by decide +kernel
theorem dX7_flowAll_28 : decode cX7_flowAll 28 = .ok (.aload_n 0, 1) := by decide +kernel
theorem dX7_flowAll_29 : decode cX7_flowAll 29 = .ok (.getfield 45, 3) := by decide +kernel
theorem dX7_flowAll_32 : decode cX7_flowAll 32 = .ok (.iload_n 2, 1) := by decide +kernel
theorem dX7_flowAll_33 : decode cX7_flowAll 33 = .ok (.iconst 0, 1) := by decide +kernel
theorem dX7_flowAll_34 : decode cX7_flowAll 34 = .ok (.iastore, 1) := by decide +kernel
theorem dX7_flowAll_35 : decode cX7_flowAll 35 = .ok (.iinc 2 1, 3) := by decide +kernel
theorem dX7_flowAll_38 : decode cX7_flowAll 38 = .ok (.goto (-31), 3) := by decide +kernel
theorem dX7_flowAll_41 : decode cX7_flowAll 41 = .ok (.iconst 0, 1) := by decide +kernel
theorem dX7_flowAll_42 : decode cX7_flowAll 42 = .ok (.istore_n 2, 1) := by decide +kernel
theorem dX7_flowAll_43 : decode cX7_flowAll 43 = .ok (.iload_n 2, 1) := by decide +kernel
theorem dX7_flowAll_44 : decode cX7_flowAll 44 = .ok (.bipush 16, 2) := by decide +kernel
theorem dX7_flowAll_46 : decode cX7_flowAll 46 = .ok (.if_icmp .ge 55, 3) := by decide +kernel
theorem dX7_flowAll_49 : decode cX7_flowAll 49 = .ok (.iload_n 2, 1) := by decide +kernel
theorem dX7_flowAll_50 : decode cX7_flowAll 50 = .ok (.bipush 8, 2) := by decide +kernel
theorem dX7_flowAll_52 : decode cX7_flowAll 52 = .ok (.irem, 1) := by decide +kernel
theorem dX7_flowAll_53 : decode cX7_flowAll 53 = .ok (.istore_n 3, 1) := by decide +kernel
theorem dX7_flowAll_54 : decode cX7_flowAll 54 = .ok (.iload_n 3, 1) := by decide +kernel
theorem dX7_flowAll_55 : decode cX7_flowAll 55 = .ok (.ifCond .le 12, 3) := by decide +kernel
theorem dX7_flowAll_58 : decode cX7_flowAll 58 = .ok (.aload_n 0, 1) := by decide +kernel
theorem dX7_flowAll_59 : decode cX7_flowAll 59 = .ok (.aload_n 1, 1) := by decide +kernel
theorem dX7_flowAll_60 : decode cX7_flowAll 60 = .ok (.iload_n 2, 1) := by decide +kernel
theorem dX7_flowAll_61 : decode cX7_flowAll 61 = .ok (.iload_n 2, 1) := by decide +kernel
theorem dX7_flowAll_62 : decode cX7_flowAll 62 = .ok (.iconst 1, 1) := by decide +kernel
theorem dX7_flowAll_63 : decode cX7_flowAll 63 = .ok (.isub, 1) := by decide +kernel
theorem dX7_flowAll_64 : decode cX7_flowAll 64 = .ok (.invokevirtual 151, 3) := by decide +kernel
theorem dX7_flowAll_67 : decode cX7_flowAll 67 = .ok (.iload_n 3, 1) := by decide +kernel
theorem dX7_flowAll_68 : decode cX7_flowAll 68 = .ok (.bipush 7, 2) := by decide +kernel
theorem dX7_flowAll_70 : decode cX7_flowAll 70 = .ok (.if_icmp .ge 12, 3) := by decide +kernel
theorem dX7_flowAll_73 : decode cX7_flowAll 73 = .ok (.aload_n 0, 1) := by decide +kernel
theorem dX7_flowAll_74 : decode cX7_flowAll 74 = .ok (.aload_n 1, 1) := by decide +kernel
theorem dX7_flowAll_75 : decode cX7_flowAll 75 = .ok (.iload_n 2, 1) := by decide +kernel
theorem dX7_flowAll_76 : decode cX7_flowAll 76 = .ok (.iload_n 2, 1) := by decide +kernel
theorem dX7_flowAll_77 : decode cX7_flowAll 77 = .ok (.iconst 1, 1) := by decide +kernel
theorem dX7_flowAll_78 : decode cX7_flowAll 78 = .ok (.iadd, 1) := by decide +kernel
theorem dX7_flowAll_79 : decode cX7_flowAll 79 = .ok (.invokevirtual 151, 3) := by decide +kernel
theorem dX7_flowAll_82 : decode cX7_flowAll 82 = .ok (.aload_n 0, 1) := by decide +kernel
theorem dX7_flowAll_83 : decode cX7_flowAll 83 = .ok (.aload_n 1, 1) := by decide +kernel
theorem dX7_flowAll_84 : decode cX7_flowAll 84 = .ok (.iload_n 2, 1) := by decide +kernel
theorem dX7_flowAll_85 : decode cX7_flowAll 85 = .ok (.iload_n 2, 1) := by decide +kernel
theorem dX7_flowAll_86 : decode cX7_flowAll 86 = .ok (.bipush 8, 2) := by decide +kernel
theorem dX7_flowAll_88 : decode cX7_flowAll 88 = .ok (.iadd, 1) := by decide +kernel
theorem dX7_flowAll_89 : decode cX7_flowAll 89 = .ok (.bipush 16, 2) := by decide +kernel
theorem dX7_flowAll_91 : decode cX7_flowAll 91 = .ok (.irem, 1) := by decide +kernel
theorem dX7_flowAll_92 : decode cX7_flowAll 92 = .ok (.invokevirtual 151, 3) := by decide +kernel
theorem dX7_flowAll_95 : decode cX7_flowAll 95 = .ok (.iinc 2 1, 3) := by decide +kernel
theorem dX7_flowAll_98 : decode cX7_flowAll 98 = .ok (.goto (-55), 3) := by decide +kernel
theorem dX7_flowAll_101 : decode cX7_flowAll 101 = .ok (.iconst 0, 1) := by decide +kernel
theorem dX7_flowAll_102 : decode cX7_flowAll 102 = .ok (.istore_n 2, 1) := by decide +kernel
theorem dX7_flowAll_103 : decode cX7_flowAll 103 = .ok (.iload_n 2, 1) := by decide +kernel
theorem dX7_flowAll_104 : decode cX7_flowAll 104 = .ok (.bipush 16, 2) := by decide +kernel
theorem dX7_flowAll_106 : decode cX7_flowAll 106 = .ok (.if_icmp .ge 39, 3) := by decide +kernel
theorem dX7_flowAll_109 : decode cX7_flowAll 109 = .ok (.aload_n 0, 1) := by decide +kernel
theorem dX7_flowAll_110 : decode cX7_flowAll 110 = .ok (.getfield 18, 3) := by decide +kernel
theorem dX7_flowAll_113 : decode cX7_flowAll 113 = .ok (.iload_n 2, 1) := by decide +kernel
theorem dX7_flowAll_114 : decode cX7_flowAll 114 = .ok (.dup2, 1) := by decide +kernel
theorem dX7_flowAll_115 : decode cX7_flowAll 115 = .ok (.iaload, 1) := by decide +kernel
theorem dX7_flowAll_116 : decode cX7_flowAll 116 = .ok (.aload_n 0, 1) := by decide +kernel
theorem dX7_flowAll_117 : decode cX7_flowAll 117 = .ok (.getfield 42, 3) := by decide +kernel
theorem dX7_flowAll_120 : decode cX7_flowAll 120 = .ok (.iload_n 2, 1) := by decide +kernel
theorem dX7_flowAll_121 : decode cX7_flowAll 121 = .ok (.iaload, 1) := by decide +kernel
theorem dX7_flowAll_122 : decode cX7_flowAll 122 = .ok (.iadd, 1) := by decide +kernel
theorem dX7_flowAll_123 : decode cX7_flowAll 123 = .ok (.iastore, 1) := by decide +kernel
theorem dX7_flowAll_124 : decode cX7_flowAll 124 = .ok (.aload_n 0, 1) := by decide +kernel
theorem dX7_flowAll_125 : decode cX7_flowAll 125 = .ok (.getfield 21, 3) := by decide +kernel
theorem dX7_flowAll_128 : decode cX7_flowAll 128 = .ok (.iload_n 2, 1) := by decide +kernel
theorem dX7_flowAll_129 : decode cX7_flowAll 129 = .ok (.dup2, 1) := by decide +kernel
theorem dX7_flowAll_130 : decode cX7_flowAll 130 = .ok (.iaload, 1) := by decide +kernel
theorem dX7_flowAll_131 : decode cX7_flowAll 131 = .ok (.aload_n 0, 1) := by decide +kernel
theorem dX7_flowAll_132 : decode cX7_flowAll 132 = .ok (.getfield 45, 3) := by decide +kernel
theorem dX7_flowAll_135 : decode cX7_flowAll 135 = .ok (.iload_n 2, 1) := by decide +kernel
theorem dX7_flowAll_136 : decode cX7_flowAll 136 = .ok (.iaload, 1) := by decide +kernel
theorem dX7_flowAll_137 : decode cX7_flowAll 137 = .ok (.iadd, 1) := by decide +kernel
theorem dX7_flowAll_138 : decode cX7_flowAll 138 = .ok (.iastore, 1) := by decide +kernel
theorem dX7_flowAll_139 : decode cX7_flowAll 139 = .ok (.iinc 2 1, 3) := by decide +kernel
theorem dX7_flowAll_142 : decode cX7_flowAll 142 = .ok (.goto (-39), 3) := by decide +kernel
theorem dX7_flowAll_145 : decode cX7_flowAll 145 = .ok (.return_, 1) := by decide +kernel
theorem dX7_byAge_0 : decode cX7_byAge 0 = .ok (.new 48, 3) := by decide +kernel
theorem dX7_byAge_3 : decode cX7_byAge 3 = .ok (.dup, 1) := by decide +kernel
theorem dX7_byAge_4 : decode cX7_byAge 4 = .ok (.invokespecial 50, 3) := by decide +kernel
theorem dX7_byAge_7 : decode cX7_byAge 7 = .ok (.astore_n 1, 1) := by decide +kernel
theorem dX7_byAge_8 : decode cX7_byAge 8 = .ok (.iconst 0, 1) := by decide +kernel
theorem dX7_byAge_9 : decode cX7_byAge 9 = .ok (.istore_n 2, 1) := by decide +kernel
theorem dX7_byAge_10 : decode cX7_byAge 10 = .ok (.iload_n 2, 1) := by decide +kernel
theorem dX7_byAge_11 : decode cX7_byAge 11 = .ok (.aload_n 0, 1) := by decide +kernel
theorem dX7_byAge_12 : decode cX7_byAge 12 = .ok (.getfield 51, 3) := by decide +kernel
theorem dX7_byAge_15 : decode cX7_byAge 15 = .ok (.invokevirtual 66, 3) := by decide +kernel
theorem dX7_byAge_18 : decode cX7_byAge 18 = .ok (.if_icmp .ge 75, 3) := by decide +kernel
theorem dX7_byAge_21 : decode cX7_byAge 21 = .ok (.iconst 0, 1) := by decide +kernel
theorem dX7_byAge_22 : decode cX7_byAge 22 = .ok (.istore_n 3, 1) := by decide +kernel
theorem dX7_byAge_23 : decode cX7_byAge 23 = .ok (.iload_n 3, 1) := by decide +kernel
theorem dX7_byAge_24 : decode cX7_byAge 24 = .ok (.aload_n 1, 1) := by decide +kernel
theorem dX7_byAge_25 : decode cX7_byAge 25 = .ok (.invokevirtual 66, 3) := by decide +kernel
theorem dX7_byAge_28 : decode cX7_byAge 28 = .ok (.if_icmp .ge 50, 3) := by decide +kernel
theorem dX7_byAge_31 : decode cX7_byAge 31 = .ok (.aload_n 0, 1) := by decide +kernel
theorem dX7_byAge_32 : decode cX7_byAge 32 = .ok (.getfield 51, 3) := by decide +kernel
theorem dX7_byAge_35 : decode cX7_byAge 35 = .ok (.aload_n 1, 1) := by decide +kernel
theorem dX7_byAge_36 : decode cX7_byAge 36 = .ok (.iload_n 3, 1) := by decide +kernel
theorem dX7_byAge_37 : decode cX7_byAge 37 = .ok (.invokevirtual 70, 3) := by decide +kernel
theorem dX7_byAge_40 : decode cX7_byAge 40 = .ok (.checkcast 74, 3) := by decide +kernel
theorem dX7_byAge_43 : decode cX7_byAge 43 = .ok (.invokevirtual 76, 3) := by decide +kernel
theorem dX7_byAge_46 : decode cX7_byAge 46 = .ok (.invokevirtual 70, 3) := by decide +kernel
theorem dX7_byAge_49 : decode cX7_byAge 49 = .ok (.checkcast 79, 3) := by decide +kernel
theorem dX7_byAge_52 : decode cX7_byAge 52 = .ok (.getfield 81, 3) := by decide +kernel
theorem dX7_byAge_55 : decode cX7_byAge 55 = .ok (.aload_n 0, 1) := by decide +kernel
theorem dX7_byAge_56 : decode cX7_byAge 56 = .ok (.getfield 51, 3) := by decide +kernel
theorem dX7_byAge_59 : decode cX7_byAge 59 = .ok (.iload_n 2, 1) := by decide +kernel
theorem dX7_byAge_60 : decode cX7_byAge 60 = .ok (.invokevirtual 70, 3) := by decide +kernel
theorem dX7_byAge_63 : decode cX7_byAge 63 = .ok (.checkcast 79, 3) := by decide +kernel
theorem dX7_byAge_66 : decode cX7_byAge 66 = .ok (.getfield 81, 3) := by decide +kernel
theorem dX7_byAge_69 : decode cX7_byAge 69 = .ok (.if_icmp .gt 9, 3) := by decide +kernel
theorem dX7_byAge_72 : decode cX7_byAge 72 = .ok (.iinc 3 1, 3) := by decide +kernel
theorem dX7_byAge_75 : decode cX7_byAge 75 = .ok (.goto (-52), 3) := by decide +kernel
theorem dX7_byAge_78 : decode cX7_byAge 78 = .ok (.aload_n 1, 1) := by decide +kernel
theorem dX7_byAge_79 : decode cX7_byAge 79 = .ok (.iload_n 3, 1) := by decide +kernel
theorem dX7_byAge_80 : decode cX7_byAge 80 = .ok (.iload_n 2, 1) := by decide +kernel
theorem dX7_byAge_81 : decode cX7_byAge 81 = .ok (.invokestatic 85, 3) := by decide +kernel
theorem dX7_byAge_84 : decode cX7_byAge 84 = .ok (.invokevirtual 89, 3) := by decide +kernel
theorem dX7_byAge_87 : decode cX7_byAge 87 = .ok (.iinc 2 1, 3) := by decide +kernel
theorem dX7_byAge_90 : decode cX7_byAge 90 = .ok (.goto (-80), 3) := by decide +kernel
theorem dX7_byAge_93 : decode cX7_byAge 93 = .ok (.aload_n 1, 1) := by decide +kernel
theorem dX7_byAge_94 : decode cX7_byAge 94 = .ok (.areturn, 1) := by decide +kernel
theorem dX7_pump_0 : decode cX7_pump 0 = .ok (.aload_n 0, 1) := by decide +kernel
theorem dX7_pump_1 : decode cX7_pump 1 = .ok (.invokevirtual 93, 3) := by decide +kernel
theorem dX7_pump_4 : decode cX7_pump 4 = .ok (.astore_n 1, 1) := by decide +kernel
theorem dX7_pump_5 : decode cX7_pump 5 = .ok (.iconst 0, 1) := by decide +kernel
theorem dX7_pump_6 : decode cX7_pump 6 = .ok (.istore_n 2, 1) := by decide +kernel
theorem dX7_pump_7 : decode cX7_pump 7 = .ok (.iload_n 2, 1) := by decide +kernel
theorem dX7_pump_8 : decode cX7_pump 8 = .ok (.aload_n 1, 1) := by decide +kernel
theorem dX7_pump_9 : decode cX7_pump 9 = .ok (.invokevirtual 66, 3) := by decide +kernel
theorem dX7_pump_12 : decode cX7_pump 12 = .ok (.if_icmp .ge 261, 3) := by decide +kernel
theorem dX7_pump_15 : decode cX7_pump 15 = .ok (.aload_n 0, 1) := by decide +kernel
theorem dX7_pump_16 : decode cX7_pump 16 = .ok (.getfield 51, 3) := by decide +kernel
theorem dX7_pump_19 : decode cX7_pump 19 = .ok (.aload_n 1, 1) := by decide +kernel
theorem dX7_pump_20 : decode cX7_pump 20 = .ok (.iload_n 2, 1) := by decide +kernel
theorem dX7_pump_21 : decode cX7_pump 21 = .ok (.invokevirtual 70, 3) := by decide +kernel
theorem dX7_pump_24 : decode cX7_pump 24 = .ok (.checkcast 74, 3) := by decide +kernel
theorem dX7_pump_27 : decode cX7_pump 27 = .ok (.invokevirtual 76, 3) := by decide +kernel
theorem dX7_pump_30 : decode cX7_pump 30 = .ok (.invokevirtual 70, 3) := by decide +kernel
theorem dX7_pump_33 : decode cX7_pump 33 = .ok (.checkcast 79, 3) := by decide +kernel
theorem dX7_pump_36 : decode cX7_pump 36 = .ok (.astore_n 3, 1) := by decide +kernel
theorem dX7_pump_37 : decode cX7_pump 37 = .ok (.aload_n 3, 1) := by decide +kernel
theorem dX7_pump_38 : decode cX7_pump 38 = .ok (.getfield 97, 3) := by decide +kernel
theorem dX7_pump_41 : decode cX7_pump 41 = .ok (.ifCond .ne 226, 3) := by decide +kernel
theorem dX7_pump_44 : decode cX7_pump 44 = .ok (.aload_n 3, 1) := by decide +kernel
theorem dX7_pump_45 : decode cX7_pump 45 = .ok (.getfield 101, 3) := by decide +kernel
theorem dX7_pump_48 : decode cX7_pump 48 = .ok (.ifCond .ne 219, 3) := by decide +kernel
theorem dX7_pump_51 : decode cX7_pump 51 = .ok (.aload_n 3, 1) := by decide +kernel
theorem dX7_pump_52 : decode cX7_pump 52 = .ok (.getfield 104, 3) := by decide +kernel
theorem dX7_pump_55 : decode cX7_pump 55 = .ok (.iconst 0, 1) := by decide +kernel
theorem dX7_pump_56 : decode cX7_pump 56 = .ok (.aload_n 3, 1) := by decide +kernel
theorem dX7_pump_57 : decode cX7_pump 57 = .ok (.getfield 107, 3) := by decide +kernel
theorem dX7_pump_60 : decode cX7_pump 60 = .ok (.aload_n 3, 1) := by decide +kernel
theorem dX7_pump_61 : decode cX7_pump 61 = .ok (.getfield 110, 3) := by decide +kernel
theorem dX7_pump_64 : decode cX7_pump 64 = .ok (.isub, 1) := by decide +kernel
theorem dX7_pump_65 : decode cX7_pump 65 = .ok (.invokestatic 113, 3) := by decide +kernel
theorem dX7_pump_68 : decode cX7_pump 68 = .ok (.invokestatic 119, 3) := by decide +kernel
theorem dX7_pump_71 : decode cX7_pump 71 = .ok (.istore 4, 2) := by decide +kernel
theorem dX7_pump_73 : decode cX7_pump 73 = .ok (.iload 4, 2) := by decide +kernel
theorem dX7_pump_75 : decode cX7_pump 75 = .ok (.aload_n 0, 1) := by decide +kernel
theorem dX7_pump_76 : decode cX7_pump 76 = .ok (.getfield 18, 3) := by decide +kernel
theorem dX7_pump_79 : decode cX7_pump 79 = .ok (.aload_n 3, 1) := by decide +kernel
theorem dX7_pump_80 : decode cX7_pump 80 = .ok (.getfield 122, 3) := by decide +kernel
theorem dX7_pump_83 : decode cX7_pump 83 = .ok (.iaload, 1) := by decide +kernel
theorem dX7_pump_84 : decode cX7_pump 84 = .ok (.invokestatic 119, 3) := by decide +kernel
theorem dX7_pump_87 : decode cX7_pump 87 = .ok (.istore 5, 2) := by decide +kernel
theorem dX7_pump_89 : decode cX7_pump 89 = .ok (.aload_n 0, 1) := by decide +kernel
theorem dX7_pump_90 : decode cX7_pump 90 = .ok (.aload_n 3, 1) := by decide +kernel
theorem dX7_pump_91 : decode cX7_pump 91 = .ok (.getfield 122, 3) := by decide +kernel
theorem dX7_pump_94 : decode cX7_pump 94 = .ok (.iload 5, 2) := by decide +kernel
theorem dX7_pump_96 : decode cX7_pump 96 = .ok (.invokevirtual 125, 3) := by decide +kernel
theorem dX7_pump_99 : decode cX7_pump 99 = .ok (.istore 6, 2) := by decide +kernel
theorem dX7_pump_101 : decode cX7_pump 101 = .ok (.aload_n 3, 1) := by decide +kernel
theorem dX7_pump_102 : decode cX7_pump 102 = .ok (.dup, 1) := by decide +kernel
theorem dX7_pump_103 : decode cX7_pump 103 = .ok (.getfield 110, 3) := by decide +kernel
theorem dX7_pump_106 : decode cX7_pump 106 = .ok (.iload 5, 2) := by decide +kernel
theorem dX7_pump_108 : decode cX7_pump 108 = .ok (.iadd, 1) := by decide +kernel
theorem dX7_pump_109 : decode cX7_pump 109 = .ok (.putfield 110, 3) := by decide +kernel
theorem dX7_pump_112 : decode cX7_pump 112 = .ok (.aload_n 3, 1) := by decide +kernel
theorem dX7_pump_113 : decode cX7_pump 113 = .ok (.dup, 1) := by decide +kernel
theorem dX7_pump_114 : decode cX7_pump 114 = .ok (.getfield 128, 3) := by decide +kernel
theorem dX7_pump_117 : decode cX7_pump 117 = .ok (.iload 5, 2) := by decide +kernel
theorem dX7_pump_119 : decode cX7_pump 119 = .ok (.i2l, 1) := by decide +kernel
theorem dX7_pump_120 : decode cX7_pump 120 = .ok (.ladd, 1) := by decide +kernel
theorem dX7_pump_121 : decode cX7_pump 121 = .ok (.putfield 128, 3) := by decide +kernel
theorem dX7_pump_124 : decode cX7_pump 124 = .ok (.aload_n 0, 1) := by decide +kernel
theorem dX7_pump_125 : decode cX7_pump 125 = .ok (.bipush 112, 2) := by decide +kernel
theorem dX7_pump_127 : decode cX7_pump 127 = .ok (.iload 5, 2) := by decide +kernel
theorem dX7_pump_129 : decode cX7_pump 129 = .ok (.invokevirtual 132, 3) := by decide +kernel
theorem dX7_pump_132 : decode cX7_pump 132 = .ok (.iload 5, 2) := by decide +kernel
theorem dX7_pump_134 : decode cX7_pump 134 = .ok (.iload 4, 2) := by decide +kernel
theorem dX7_pump_136 : decode cX7_pump 136 = .ok (.if_icmp .ge 131, 3) := by decide +kernel
theorem dX7_pump_139 : decode cX7_pump 139 = .ok (.aload_n 0, 1) := by decide +kernel
theorem dX7_pump_140 : decode cX7_pump 140 = .ok (.getfield 58, 3) := by decide +kernel
theorem dX7_pump_143 : decode cX7_pump 143 = .ok (.bipush 99, 2) := by decide +kernel
theorem dX7_pump_145 : decode cX7_pump 145 = .ok (.invokevirtual 136, 3) := by decide +kernel
theorem dX7_pump_148 : decode cX7_pump 148 = .ok (.astore 7, 2) := by decide +kernel
theorem dX7_pump_150 : decode cX7_pump 150 = .ok (.iload_n 2, 1) := by decide +kernel
theorem dX7_pump_151 : decode cX7_pump 151 = .ok (.iconst 1, 1) := by decide +kernel
theorem dX7_pump_152 : decode cX7_pump 152 = .ok (.iadd, 1) := by decide +kernel
theorem dX7_pump_153 : decode cX7_pump 153 = .ok (.istore 8, 2) := by decide +kernel
theorem dX7_pump_155 : decode cX7_pump 155 = .ok (.iload 8, 2) := by decide +kernel
theorem dX7_pump_157 : decode cX7_pump 157 = .ok (.aload_n 1, 1) := by decide +kernel
theorem dX7_pump_158 : decode cX7_pump 158 = .ok (.invokevirtual 66, 3) := by decide +kernel
theorem dX7_pump_161 : decode cX7_pump 161 = .ok (.if_icmp .ge 106, 3) := by decide +kernel
theorem dX7_pump_164 : decode cX7_pump 164 = .ok (.aload_n 0, 1) := by decide +kernel
theorem dX7_pump_165 : decode cX7_pump 165 = .ok (.getfield 51, 3) := by decide +kernel
theorem dX7_pump_168 : decode cX7_pump 168 = .ok (.aload_n 1, 1) := by decide +kernel
theorem dX7_pump_169 : decode cX7_pump 169 = .ok (.iload 8, 2) := by decide +kernel
theorem dX7_pump_171 : decode cX7_pump 171 = .ok (.invokevirtual 70, 3) := by decide +kernel
theorem dX7_pump_174 : decode cX7_pump 174 = .ok (.checkcast 74, 3) := by decide +kernel
theorem dX7_pump_177 : decode cX7_pump 177 = .ok (.invokevirtual 76, 3) := by decide +kernel
theorem dX7_pump_180 : decode cX7_pump 180 = .ok (.invokevirtual 70, 3) := by decide +kernel
theorem dX7_pump_183 : decode cX7_pump 183 = .ok (.checkcast 79, 3) := by decide +kernel
theorem dX7_pump_186 : decode cX7_pump 186 = .ok (.astore 9, 2) := by decide +kernel
theorem dX7_pump_188 : decode cX7_pump 188 = .ok (.aload 9, 2) := by decide +kernel
theorem dX7_pump_190 : decode cX7_pump 190 = .ok (.getfield 122, 3) := by decide +kernel
theorem dX7_pump_193 : decode cX7_pump 193 = .ok (.bipush 8, 2) := by decide +kernel
theorem dX7_pump_195 : decode cX7_pump 195 = .ok (.idiv, 1) := by decide +kernel
theorem dX7_pump_196 : decode cX7_pump 196 = .ok (.aload_n 3, 1) := by decide +kernel
theorem dX7_pump_197 : decode cX7_pump 197 = .ok (.getfield 122, 3) := by decide +kernel
theorem dX7_pump_200 : decode cX7_pump 200 = .ok (.bipush 8, 2) := by decide +kernel
theorem dX7_pump_202 : decode cX7_pump 202 = .ok (.idiv, 1) := by decide +kernel
theorem dX7_pump_203 : decode cX7_pump 203 = .ok (.if_icmp .ne 24, 3) := by decide +kernel
theorem dX7_pump_206 : decode cX7_pump 206 = .ok (.aload 9, 2) := by decide +kernel
theorem dX7_pump_208 : decode cX7_pump 208 = .ok (.getfield 122, 3) := by decide +kernel
theorem dX7_pump_211 : decode cX7_pump 211 = .ok (.aload_n 3, 1) := by decide +kernel
theorem dX7_pump_212 : decode cX7_pump 212 = .ok (.getfield 122, 3) := by decide +kernel
theorem dX7_pump_215 : decode cX7_pump 215 = .ok (.isub, 1) := by decide +kernel
theorem dX7_pump_216 : decode cX7_pump 216 = .ok (.invokestatic 140, 3) := by decide +kernel
theorem dX7_pump_219 : decode cX7_pump 219 = .ok (.iconst 2, 1) := by decide +kernel
theorem dX7_pump_220 : decode cX7_pump 220 = .ok (.if_icmp .gt 7, 3) := by decide +kernel
theorem dX7_pump_223 : decode cX7_pump 223 = .ok (.iconst 1, 1) := by decide +kernel
theorem dX7_pump_224 : decode cX7_pump 224 = .ok (.goto 4, 3) := by decide +kernel
theorem dX7_pump_227 : decode cX7_pump 227 = .ok (.iconst 0, 1) := by decide +kernel
theorem dX7_pump_228 : decode cX7_pump 228 = .ok (.istore 10, 2) := by decide +kernel
theorem dX7_pump_230 : decode cX7_pump 230 = .ok (.aload 9, 2) := by decide +kernel
theorem dX7_pump_232 : decode cX7_pump 232 = .ok (.aload 9, 2) := by decide +kernel
theorem dX7_pump_234 : decode cX7_pump 234 = .ok (.getfield 97, 3) := by decide +kernel
theorem dX7_pump_237 : decode cX7_pump 237 = .ok (.ifCond .ne 16, 3) := by decide +kernel
theorem dX7_pump_240 : decode cX7_pump 240 = .ok (.iload 10, 2) := by decide +kernel
theorem dX7_pump_242 : decode cX7_pump 242 = .ok (.ifCond .eq 15, 3) := by decide +kernel
theorem dX7_pump_245 : decode cX7_pump 245 = .ok (.aload 9, 2) := by decide +kernel
theorem dX7_pump_247 : decode cX7_pump 247 = .ok (.getfield 101, 3) := by decide +kernel
theorem dX7_pump_250 : decode cX7_pump 250 = .ok (.ifCond .ne 7, 3) := by decide +kernel
theorem dX7_pump_253 : decode cX7_pump 253 = .ok (.iconst 1, 1) := by decide +kernel
theorem dX7_pump_254 : decode cX7_pump 254 = .ok (.goto 4, 3) := by decide +kernel
theorem dX7_pump_257 : decode cX7_pump 257 = .ok (.iconst 0, 1) := by decide +kernel
theorem dX7_pump_258 : decode cX7_pump 258 = .ok (.putfield 97, 3) := by decide +kernel
theorem dX7_pump_261 : decode cX7_pump 261 = .ok (.iinc 8 1, 3) := by decide +kernel
theorem dX7_pump_264 : decode cX7_pump 264 = .ok (.goto (-109), 3) := by decide +kernel
theorem dX7_pump_267 : decode cX7_pump 267 = .ok (.iinc 2 1, 3) := by decide +kernel
theorem dX7_pump_270 : decode cX7_pump 270 = .ok (.goto (-263), 3) := by decide +kernel
theorem dX7_pump_273 : decode cX7_pump 273 = .ok (.return_, 1) := by decide +kernel
theorem dX7_runRiver_0 : decode cX7_runRiver 0 = .ok (.aload_n 0, 1) := by decide +kernel
theorem dX7_runRiver_1 : decode cX7_runRiver 1 = .ok (.getfield 155, 3) := by decide +kernel
theorem dX7_runRiver_4 : decode cX7_runRiver 4 = .ok (.istore_n 1, 1) := by decide +kernel
theorem dX7_runRiver_5 : decode cX7_runRiver 5 = .ok (.bipush 7, 2) := by decide +kernel
theorem dX7_runRiver_7 : decode cX7_runRiver 7 = .ok (.istore_n 2, 1) := by decide +kernel
theorem dX7_runRiver_8 : decode cX7_runRiver 8 = .ok (.iload_n 2, 1) := by decide +kernel
theorem dX7_runRiver_9 : decode cX7_runRiver 9 = .ok (.ifCond .lt 123, 3) := by decide +kernel
theorem dX7_runRiver_12 : decode cX7_runRiver 12 = .ok (.aload_n 0, 1) := by decide +kernel
theorem dX7_runRiver_13 : decode cX7_runRiver 13 = .ok (.getfield 36, 3) := by decide +kernel
theorem dX7_runRiver_16 : decode cX7_runRiver 16 = .ok (.iload_n 2, 1) := by decide +kernel
theorem dX7_runRiver_17 : decode cX7_runRiver 17 = .ok (.iaload, 1) := by decide +kernel
theorem dX7_runRiver_18 : decode cX7_runRiver 18 = .ok (.aload_n 0, 1) := by decide +kernel
theorem dX7_runRiver_19 : decode cX7_runRiver 19 = .ok (.iload_n 2, 1) := by decide +kernel
theorem dX7_runRiver_20 : decode cX7_runRiver 20 = .ok (.invokevirtual 148, 3) := by decide +kernel
theorem dX7_runRiver_23 : decode cX7_runRiver 23 = .ok (.isub, 1) := by decide +kernel
theorem dX7_runRiver_24 : decode cX7_runRiver 24 = .ok (.aload_n 0, 1) := by decide +kernel
theorem dX7_runRiver_25 : decode cX7_runRiver 25 = .ok (.getfield 39, 3) := by decide +kernel
theorem dX7_runRiver_28 : decode cX7_runRiver 28 = .ok (.iload_n 2, 1) := by decide +kernel
theorem dX7_runRiver_29 : decode cX7_runRiver 29 = .ok (.iaload, 1) := by decide +kernel
theorem dX7_runRiver_30 : decode cX7_runRiver 30 = .ok (.imul, 1) := by decide +kernel
theorem dX7_runRiver_31 : decode cX7_runRiver 31 = .ok (.iconst 4, 1) := by decide +kernel
theorem dX7_runRiver_32 : decode cX7_runRiver 32 = .ok (.idiv, 1) := by decide +kernel
theorem dX7_runRiver_33 : decode cX7_runRiver 33 = .ok (.istore_n 3, 1) := by decide +kernel
theorem dX7_runRiver_34 : decode cX7_runRiver 34 = .ok (.iload_n 3, 1) := by decide +kernel
theorem dX7_runRiver_35 : decode cX7_runRiver 35 = .ok (.ifCond .le 52, 3) := by decide +kernel
theorem dX7_runRiver_38 : decode cX7_runRiver 38 = .ok (.iload_n 3, 1) := by decide +kernel
theorem dX7_runRiver_39 : decode cX7_runRiver 39 = .ok (.iload_n 1, 1) := by decide +kernel
theorem dX7_runRiver_40 : decode cX7_runRiver 40 = .ok (.invokestatic 119, 3) := by decide +kernel
theorem dX7_runRiver_43 : decode cX7_runRiver 43 = .ok (.istore 4, 2) := by decide +kernel
theorem dX7_runRiver_45 : decode cX7_runRiver 45 = .ok (.iload_n 1, 1) := by decide +kernel
theorem dX7_runRiver_46 : decode cX7_runRiver 46 = .ok (.iload 4, 2) := by decide +kernel
theorem dX7_runRiver_48 : decode cX7_runRiver 48 = .ok (.isub, 1) := by decide +kernel
theorem dX7_runRiver_49 : decode cX7_runRiver 49 = .ok (.istore_n 1, 1) := by decide +kernel
theorem dX7_runRiver_50 : decode cX7_runRiver 50 = .ok (.aload_n 0, 1) := by decide +kernel
theorem dX7_runRiver_51 : decode cX7_runRiver 51 = .ok (.getfield 18, 3) := by decide +kernel
theorem dX7_runRiver_54 : decode cX7_runRiver 54 = .ok (.iload_n 2, 1) := by decide +kernel
theorem dX7_runRiver_55 : decode cX7_runRiver 55 = .ok (.dup2, 1) := by decide +kernel
theorem dX7_runRiver_56 : decode cX7_runRiver 56 = .ok (.iaload, 1) := by decide +kernel
theorem dX7_runRiver_57 : decode cX7_runRiver 57 = .ok (.iload 4, 2) := by decide +kernel
theorem dX7_runRiver_59 : decode cX7_runRiver 59 = .ok (.iadd, 1) := by decide +kernel
theorem dX7_runRiver_60 : decode cX7_runRiver 60 = .ok (.iastore, 1) := by decide +kernel
theorem dX7_runRiver_61 : decode cX7_runRiver 61 = .ok (.aload_n 0, 1) := by decide +kernel
theorem dX7_runRiver_62 : decode cX7_runRiver 62 = .ok (.bipush 105, 2) := by decide +kernel
theorem dX7_runRiver_64 : decode cX7_runRiver 64 = .ok (.iload 4, 2) := by decide +kernel
theorem dX7_runRiver_66 : decode cX7_runRiver 66 = .ok (.invokevirtual 132, 3) := by decide +kernel
theorem dX7_runRiver_69 : decode cX7_runRiver 69 = .ok (.iload_n 1, 1) := by decide +kernel
theorem dX7_runRiver_70 : decode cX7_runRiver 70 = .ok (.ifCond .ne 14, 3) := by decide +kernel
theorem dX7_runRiver_73 : decode cX7_runRiver 73 = .ok (.aload_n 0, 1) := by decide +kernel
theorem dX7_runRiver_74 : decode cX7_runRiver 74 = .ok (.getfield 58, 3) := by decide +kernel
theorem dX7_runRiver_77 : decode cX7_runRiver 77 = .ok (.bipush 100, 2) := by decide +kernel
theorem dX7_runRiver_79 : decode cX7_runRiver 79 = .ok (.invokevirtual 136, 3) := by decide +kernel
theorem dX7_runRiver_82 : decode cX7_runRiver 82 = .ok (.astore 5, 2) := by decide +kernel
theorem dX7_runRiver_84 : decode cX7_runRiver 84 = .ok (.goto 42, 3) := by decide +kernel
theorem dX7_runRiver_87 : decode cX7_runRiver 87 = .ok (.iload_n 3, 1) := by decide +kernel
theorem dX7_runRiver_88 : decode cX7_runRiver 88 = .ok (.ifCond .ge 38, 3) := by decide +kernel
theorem dX7_runRiver_91 : decode cX7_runRiver 91 = .ok (.iload_n 3, 1) := by decide +kernel
theorem dX7_runRiver_92 : decode cX7_runRiver 92 = .ok (.ineg, 1) := by decide +kernel
theorem dX7_runRiver_93 : decode cX7_runRiver 93 = .ok (.aload_n 0, 1) := by decide +kernel
theorem dX7_runRiver_94 : decode cX7_runRiver 94 = .ok (.getfield 18, 3) := by decide +kernel
theorem dX7_runRiver_97 : decode cX7_runRiver 97 = .ok (.iload_n 2, 1) := by decide +kernel
theorem dX7_runRiver_98 : decode cX7_runRiver 98 = .ok (.iaload, 1) := by decide +kernel
theorem dX7_runRiver_99 : decode cX7_runRiver 99 = .ok (.invokestatic 119, 3) := by decide +kernel
theorem dX7_runRiver_102 : decode cX7_runRiver 102 = .ok (.istore 4, 2) := by decide +kernel
theorem dX7_runRiver_104 : decode cX7_runRiver 104 = .ok (.aload_n 0, 1) := by decide +kernel
theorem dX7_runRiver_105 : decode cX7_runRiver 105 = .ok (.iload_n 2, 1) := by decide +kernel
theorem dX7_runRiver_106 : decode cX7_runRiver 106 = .ok (.iload 4, 2) := by decide +kernel
theorem dX7_runRiver_108 : decode cX7_runRiver 108 = .ok (.invokevirtual 125, 3) := by decide +kernel
theorem dX7_runRiver_111 : decode cX7_runRiver 111 = .ok (.istore 5, 2) := by decide +kernel
theorem dX7_runRiver_113 : decode cX7_runRiver 113 = .ok (.iload_n 1, 1) := by decide +kernel
theorem dX7_runRiver_114 : decode cX7_runRiver 114 = .ok (.iload 4, 2) := by decide +kernel
theorem dX7_runRiver_116 : decode cX7_runRiver 116 = .ok (.iadd, 1) := by decide +kernel
theorem dX7_runRiver_117 : decode cX7_runRiver 117 = .ok (.istore_n 1, 1) := by decide +kernel
theorem dX7_runRiver_118 : decode cX7_runRiver 118 = .ok (.aload_n 0, 1) := by decide +kernel
theorem dX7_runRiver_119 : decode cX7_runRiver 119 = .ok (.bipush 111, 2) := by decide +kernel
theorem dX7_runRiver_121 : decode cX7_runRiver 121 = .ok (.iload 4, 2) := by decide +kernel
theorem dX7_runRiver_123 : decode cX7_runRiver 123 = .ok (.invokevirtual 132, 3) := by decide +kernel
theorem dX7_runRiver_126 : decode cX7_runRiver 126 = .ok (.iinc 2 (-1), 3) := by decide +kernel
theorem dX7_runRiver_129 : decode cX7_runRiver 129 = .ok (.goto (-121), 3) := by decide +kernel
theorem dX7_runRiver_132 : decode cX7_runRiver 132 = .ok (.aload_n 0, 1) := by decide +kernel
theorem dX7_runRiver_133 : decode cX7_runRiver 133 = .ok (.bipush 108, 2) := by decide +kernel
theorem dX7_runRiver_135 : decode cX7_runRiver 135 = .ok (.iload_n 1, 1) := by decide +kernel
theorem dX7_runRiver_136 : decode cX7_runRiver 136 = .ok (.invokevirtual 132, 3) := by decide +kernel
theorem dX7_runRiver_139 : decode cX7_runRiver 139 = .ok (.return_, 1) := by decide +kernel
theorem dX7_spring_0 : decode cX7_spring 0 = .ok (.iconst 0, 1) := by decide +kernel
theorem dX7_spring_1 : decode cX7_spring 1 = .ok (.istore_n 1, 1) := by decide +kernel
theorem dX7_spring_2 : decode cX7_spring 2 = .ok (.iload_n 1, 1) := by decide +kernel
theorem dX7_spring_3 : decode cX7_spring 3 = .ok (.bipush 8, 2) := by decide +kernel
theorem dX7_spring_5 : decode cX7_spring 5 = .ok (.if_icmp .ge 76, 3) := by decide +kernel
theorem dX7_spring_8 : decode cX7_spring 8 = .ok (.aload_n 0, 1) := by decide +kernel
theorem dX7_spring_9 : decode cX7_spring 9 = .ok (.iload_n 1, 1) := by decide +kernel
theorem dX7_spring_10 : decode cX7_spring 10 = .ok (.invokevirtual 148, 3) := by decide +kernel
theorem dX7_spring_13 : decode cX7_spring 13 = .ok (.aload_n 0, 1) := by decide +kernel
theorem dX7_spring_14 : decode cX7_spring 14 = .ok (.getfield 24, 3) := by decide +kernel
theorem dX7_spring_17 : decode cX7_spring 17 = .ok (.iload_n 1, 1) := by decide +kernel
theorem dX7_spring_18 : decode cX7_spring 18 = .ok (.iaload, 1) := by decide +kernel
theorem dX7_spring_19 : decode cX7_spring 19 = .ok (.if_icmp .le 56, 3) := by decide +kernel
theorem dX7_spring_22 : decode cX7_spring 22 = .ok (.iconst 0, 1) := by decide +kernel
theorem dX7_spring_23 : decode cX7_spring 23 = .ok (.aload_n 0, 1) := by decide +kernel
theorem dX7_spring_24 : decode cX7_spring 24 = .ok (.getfield 24, 3) := by decide +kernel
theorem dX7_spring_27 : decode cX7_spring 27 = .ok (.iload_n 1, 1) := by decide +kernel
theorem dX7_spring_28 : decode cX7_spring 28 = .ok (.iaload, 1) := by decide +kernel
theorem dX7_spring_29 : decode cX7_spring 29 = .ok (.aload_n 0, 1) := by decide +kernel
theorem dX7_spring_30 : decode cX7_spring 30 = .ok (.getfield 9, 3) := by decide +kernel
theorem dX7_spring_33 : decode cX7_spring 33 = .ok (.iload_n 1, 1) := by decide +kernel
theorem dX7_spring_34 : decode cX7_spring 34 = .ok (.iaload, 1) := by decide +kernel
theorem dX7_spring_35 : decode cX7_spring 35 = .ok (.isub, 1) := by decide +kernel
theorem dX7_spring_36 : decode cX7_spring 36 = .ok (.aload_n 0, 1) := by decide +kernel
theorem dX7_spring_37 : decode cX7_spring 37 = .ok (.getfield 15, 3) := by decide +kernel
theorem dX7_spring_40 : decode cX7_spring 40 = .ok (.iload_n 1, 1) := by decide +kernel
theorem dX7_spring_41 : decode cX7_spring 41 = .ok (.iaload, 1) := by decide +kernel
theorem dX7_spring_42 : decode cX7_spring 42 = .ok (.imul, 1) := by decide +kernel
theorem dX7_spring_43 : decode cX7_spring 43 = .ok (.invokestatic 113, 3) := by decide +kernel
theorem dX7_spring_46 : decode cX7_spring 46 = .ok (.istore_n 2, 1) := by decide +kernel
theorem dX7_spring_47 : decode cX7_spring 47 = .ok (.iconst 0, 1) := by decide +kernel
theorem dX7_spring_48 : decode cX7_spring 48 = .ok (.aload_n 0, 1) := by decide +kernel
theorem dX7_spring_49 : decode cX7_spring 49 = .ok (.getfield 18, 3) := by decide +kernel
theorem dX7_spring_52 : decode cX7_spring 52 = .ok (.iload_n 1, 1) := by decide +kernel
theorem dX7_spring_53 : decode cX7_spring 53 = .ok (.iaload, 1) := by decide +kernel
theorem dX7_spring_54 : decode cX7_spring 54 = .ok (.iload_n 2, 1) := by decide +kernel
theorem dX7_spring_55 : decode cX7_spring 55 = .ok (.isub, 1) := by decide +kernel
theorem dX7_spring_56 : decode cX7_spring 56 = .ok (.invokestatic 113, 3) := by decide +kernel
theorem dX7_spring_59 : decode cX7_spring 59 = .ok (.istore_n 3, 1) := by decide +kernel
theorem dX7_spring_60 : decode cX7_spring 60 = .ok (.aload_n 0, 1) := by decide +kernel
theorem dX7_spring_61 : decode cX7_spring 61 = .ok (.iload_n 1, 1) := by decide +kernel
theorem dX7_spring_62 : decode cX7_spring 62 = .ok (.iload_n 3, 1) := by decide +kernel
theorem dX7_spring_63 : decode cX7_spring 63 = .ok (.invokevirtual 125, 3) := by decide +kernel
theorem dX7_spring_66 : decode cX7_spring 66 = .ok (.istore 4, 2) := by decide +kernel
theorem dX7_spring_68 : decode cX7_spring 68 = .ok (.aload_n 0, 1) := by decide +kernel
theorem dX7_spring_69 : decode cX7_spring 69 = .ok (.bipush 115, 2) := by decide +kernel
theorem dX7_spring_71 : decode cX7_spring 71 = .ok (.iload_n 3, 1) := by decide +kernel
theorem dX7_spring_72 : decode cX7_spring 72 = .ok (.invokevirtual 132, 3) := by decide +kernel
theorem dX7_spring_75 : decode cX7_spring 75 = .ok (.iinc 1 1, 3) := by decide +kernel
theorem dX7_spring_78 : decode cX7_spring 78 = .ok (.goto (-76), 3) := by decide +kernel
theorem dX7_spring_81 : decode cX7_spring 81 = .ok (.return_, 1) := by decide +kernel
theorem dX7_meetSea_0 : decode cX7_meetSea 0 = .ok (.iconst 0, 1) := by decide +kernel
theorem dX7_meetSea_1 : decode cX7_meetSea 1 = .ok (.istore_n 1, 1) := by decide +kernel
theorem dX7_meetSea_2 : decode cX7_meetSea 2 = .ok (.iload_n 1, 1) := by decide +kernel
theorem dX7_meetSea_3 : decode cX7_meetSea 3 = .ok (.bipush 16, 2) := by decide +kernel
theorem dX7_meetSea_5 : decode cX7_meetSea 5 = .ok (.if_icmp .ge 87, 3) := by decide +kernel
theorem dX7_meetSea_8 : decode cX7_meetSea 8 = .ok (.aload_n 0, 1) := by decide +kernel
theorem dX7_meetSea_9 : decode cX7_meetSea 9 = .ok (.iload_n 1, 1) := by decide +kernel
theorem dX7_meetSea_10 : decode cX7_meetSea 10 = .ok (.invokevirtual 148, 3) := by decide +kernel
theorem dX7_meetSea_13 : decode cX7_meetSea 13 = .ok (.ineg, 1) := by decide +kernel
theorem dX7_meetSea_14 : decode cX7_meetSea 14 = .ok (.aload_n 0, 1) := by decide +kernel
theorem dX7_meetSea_15 : decode cX7_meetSea 15 = .ok (.getfield 158, 3) := by decide +kernel
theorem dX7_meetSea_18 : decode cX7_meetSea 18 = .ok (.imul, 1) := by decide +kernel
theorem dX7_meetSea_19 : decode cX7_meetSea 19 = .ok (.iconst 4, 1) := by decide +kernel
theorem dX7_meetSea_20 : decode cX7_meetSea 20 = .ok (.idiv, 1) := by decide +kernel
theorem dX7_meetSea_21 : decode cX7_meetSea 21 = .ok (.istore_n 2, 1) := by decide +kernel
theorem dX7_meetSea_22 : decode cX7_meetSea 22 = .ok (.iload_n 2, 1) := by decide +kernel
theorem dX7_meetSea_23 : decode cX7_meetSea 23 = .ok (.ifCond .le 36, 3) := by decide +kernel
theorem dX7_meetSea_26 : decode cX7_meetSea 26 = .ok (.aload_n 0, 1) := by decide +kernel
theorem dX7_meetSea_27 : decode cX7_meetSea 27 = .ok (.getfield 18, 3) := by decide +kernel
theorem dX7_meetSea_30 : decode cX7_meetSea 30 = .ok (.iload_n 1, 1) := by decide +kernel
theorem dX7_meetSea_31 : decode cX7_meetSea 31 = .ok (.dup2, 1) := by decide +kernel
theorem dX7_meetSea_32 : decode cX7_meetSea 32 = .ok (.iaload, 1) := by decide +kernel
theorem dX7_meetSea_33 : decode cX7_meetSea 33 = .ok (.iload_n 2, 1) := by decide +kernel
theorem dX7_meetSea_34 : decode cX7_meetSea 34 = .ok (.iadd, 1) := by decide +kernel
theorem dX7_meetSea_35 : decode cX7_meetSea 35 = .ok (.iastore, 1) := by decide +kernel
theorem dX7_meetSea_36 : decode cX7_meetSea 36 = .ok (.aload_n 0, 1) := by decide +kernel
theorem dX7_meetSea_37 : decode cX7_meetSea 37 = .ok (.getfield 21, 3) := by decide +kernel
theorem dX7_meetSea_40 : decode cX7_meetSea 40 = .ok (.iload_n 1, 1) := by decide +kernel
theorem dX7_meetSea_41 : decode cX7_meetSea 41 = .ok (.dup2, 1) := by decide +kernel
theorem dX7_meetSea_42 : decode cX7_meetSea 42 = .ok (.iaload, 1) := by decide +kernel
theorem dX7_meetSea_43 : decode cX7_meetSea 43 = .ok (.bipush 35, 2) := by decide +kernel
theorem dX7_meetSea_45 : decode cX7_meetSea 45 = .ok (.iload_n 2, 1) := by decide +kernel
theorem dX7_meetSea_46 : decode cX7_meetSea 46 = .ok (.imul, 1) := by decide +kernel
theorem dX7_meetSea_47 : decode cX7_meetSea 47 = .ok (.iadd, 1) := by decide +kernel
theorem dX7_meetSea_48 : decode cX7_meetSea 48 = .ok (.iastore, 1) := by decide +kernel
theorem dX7_meetSea_49 : decode cX7_meetSea 49 = .ok (.aload_n 0, 1) := by decide +kernel
theorem dX7_meetSea_50 : decode cX7_meetSea 50 = .ok (.bipush 110, 2) := by decide +kernel
theorem dX7_meetSea_52 : decode cX7_meetSea 52 = .ok (.iload_n 2, 1) := by decide +kernel
theorem dX7_meetSea_53 : decode cX7_meetSea 53 = .ok (.invokevirtual 132, 3) := by decide +kernel
theorem dX7_meetSea_56 : decode cX7_meetSea 56 = .ok (.goto 30, 3) := by decide +kernel
theorem dX7_meetSea_59 : decode cX7_meetSea 59 = .ok (.iload_n 2, 1) := by decide +kernel
theorem dX7_meetSea_60 : decode cX7_meetSea 60 = .ok (.ineg, 1) := by decide +kernel
theorem dX7_meetSea_61 : decode cX7_meetSea 61 = .ok (.aload_n 0, 1) := by decide +kernel
theorem dX7_meetSea_62 : decode cX7_meetSea 62 = .ok (.getfield 18, 3) := by decide +kernel
theorem dX7_meetSea_65 : decode cX7_meetSea 65 = .ok (.iload_n 1, 1) := by decide +kernel
theorem dX7_meetSea_66 : decode cX7_meetSea 66 = .ok (.iaload, 1) := by decide +kernel
theorem dX7_meetSea_67 : decode cX7_meetSea 67 = .ok (.invokestatic 119, 3) := by decide +kernel
theorem dX7_meetSea_70 : decode cX7_meetSea 70 = .ok (.istore_n 3, 1) := by decide +kernel
theorem dX7_meetSea_71 : decode cX7_meetSea 71 = .ok (.aload_n 0, 1) := by decide +kernel
theorem dX7_meetSea_72 : decode cX7_meetSea 72 = .ok (.iload_n 1, 1) := by decide +kernel
theorem dX7_meetSea_73 : decode cX7_meetSea 73 = .ok (.iload_n 3, 1) := by decide +kernel
theorem dX7_meetSea_74 : decode cX7_meetSea 74 = .ok (.invokevirtual 125, 3) := by decide +kernel
theorem dX7_meetSea_77 : decode cX7_meetSea 77 = .ok (.istore 4, 2) := by decide +kernel
theorem dX7_meetSea_79 : decode cX7_meetSea 79 = .ok (.aload_n 0, 1) := by decide +kernel
theorem dX7_meetSea_80 : decode cX7_meetSea 80 = .ok (.bipush 109, 2) := by decide +kernel
theorem dX7_meetSea_82 : decode cX7_meetSea 82 = .ok (.iload_n 3, 1) := by decide +kernel
theorem dX7_meetSea_83 : decode cX7_meetSea 83 = .ok (.invokevirtual 132, 3) := by decide +kernel
theorem dX7_meetSea_86 : decode cX7_meetSea 86 = .ok (.iinc 1 8, 3) := by decide +kernel
theorem dX7_meetSea_89 : decode cX7_meetSea 89 = .ok (.goto (-87), 3) := by decide +kernel
theorem dX7_meetSea_92 : decode cX7_meetSea 92 = .ok (.return_, 1) := by decide +kernel
theorem dX7_endYear_0 : decode cX7_endYear 0 = .ok (.aload_n 0, 1) := by decide +kernel
theorem dX7_endYear_1 : decode cX7_endYear 1 = .ok (.getfield 51, 3) := by decide +kernel
theorem dX7_endYear_4 : decode cX7_endYear 4 = .ok (.invokevirtual 161, 3) := by decide +kernel
theorem dX7_endYear_7 : decode cX7_endYear 7 = .ok (.astore_n 1, 1) := by decide +kernel
theorem dX7_endYear_8 : decode cX7_endYear 8 = .ok (.aload_n 1, 1) := by decide +kernel
theorem dX7_endYear_9 : decode cX7_endYear 9 = .ok (.invokeinterface 165 1, 5) := by decide +kernel
theorem dX7_endYear_14 : decode cX7_endYear 14 = .ok (.ifCond .eq 96, 3) := by decide +kernel
theorem dX7_endYear_17 : decode cX7_endYear 17 = .ok (.aload_n 1, 1) := by decide +kernel
theorem dX7_endYear_18 : decode cX7_endYear 18 = .ok (.invokeinterface 171 1, 5) := by decide +kernel
theorem dX7_endYear_23 : decode cX7_endYear 23 = .ok (.checkcast 79, 3) := by decide +kernel
theorem dX7_endYear_26 : decode cX7_endYear 26 = .ok (.astore_n 2, 1) := by decide +kernel
theorem dX7_endYear_27 : decode cX7_endYear 27 = .ok (.aload_n 2, 1) := by decide +kernel
theorem dX7_endYear_28 : decode cX7_endYear 28 = .ok (.aload_n 2, 1) := by decide +kernel
theorem dX7_endYear_29 : decode cX7_endYear 29 = .ok (.getfield 110, 3) := by decide +kernel
theorem dX7_endYear_32 : decode cX7_endYear 32 = .ok (.ifCond .ne 26, 3) := by decide +kernel
theorem dX7_endYear_35 : decode cX7_endYear 35 = .ok (.aload_n 2, 1) := by decide +kernel
theorem dX7_endYear_36 : decode cX7_endYear 36 = .ok (.getfield 104, 3) := by decide +kernel
theorem dX7_endYear_39 : decode cX7_endYear 39 = .ok (.ifCond .le 19, 3) := by decide +kernel
theorem dX7_endYear_42 : decode cX7_endYear 42 = .ok (.aload_n 2, 1) := by decide +kernel
theorem dX7_endYear_43 : decode cX7_endYear 43 = .ok (.getfield 101, 3) := by decide +kernel
theorem dX7_endYear_46 : decode cX7_endYear 46 = .ok (.ifCond .ne 12, 3) := by decide +kernel
theorem dX7_endYear_49 : decode cX7_endYear 49 = .ok (.aload_n 2, 1) := by decide +kernel
theorem dX7_endYear_50 : decode cX7_endYear 50 = .ok (.getfield 175, 3) := by decide +kernel
theorem dX7_endYear_53 : decode cX7_endYear 53 = .ok (.iconst 1, 1) := by decide +kernel
theorem dX7_endYear_54 : decode cX7_endYear 54 = .ok (.iadd, 1) := by decide +kernel
theorem dX7_endYear_55 : decode cX7_endYear 55 = .ok (.goto 4, 3) := by decide +kernel
theorem dX7_endYear_58 : decode cX7_endYear 58 = .ok (.iconst 0, 1) := by decide +kernel
theorem dX7_endYear_59 : decode cX7_endYear 59 = .ok (.putfield 175, 3) := by decide +kernel
theorem dX7_endYear_62 : decode cX7_endYear 62 = .ok (.aload_n 2, 1) := by decide +kernel
theorem dX7_endYear_63 : decode cX7_endYear 63 = .ok (.getfield 175, 3) := by decide +kernel
theorem dX7_endYear_66 : decode cX7_endYear 66 = .ok (.iconst 3, 1) := by decide +kernel
theorem dX7_endYear_67 : decode cX7_endYear 67 = .ok (.if_icmp .lt 30, 3) := by decide +kernel
theorem dX7_endYear_70 : decode cX7_endYear 70 = .ok (.aload_n 2, 1) := by decide +kernel
theorem dX7_endYear_71 : decode cX7_endYear 71 = .ok (.getfield 107, 3) := by decide +kernel
theorem dX7_endYear_74 : decode cX7_endYear 74 = .ok (.ifCond .le 23, 3) := by decide +kernel
theorem dX7_endYear_77 : decode cX7_endYear 77 = .ok (.aload_n 2, 1) := by decide +kernel
theorem dX7_endYear_78 : decode cX7_endYear 78 = .ok (.iconst 0, 1) := by decide +kernel
theorem dX7_endYear_79 : decode cX7_endYear 79 = .ok (.putfield 175, 3) := by decide +kernel
theorem dX7_endYear_82 : decode cX7_endYear 82 = .ok (.aload_n 2, 1) := by decide +kernel
theorem dX7_endYear_83 : decode cX7_endYear 83 = .ok (.iconst 0, 1) := by decide +kernel
theorem dX7_endYear_84 : decode cX7_endYear 84 = .ok (.putfield 107, 3) := by decide +kernel
theorem dX7_endYear_87 : decode cX7_endYear 87 = .ok (.aload_n 0, 1) := by decide +kernel
theorem dX7_endYear_88 : decode cX7_endYear 88 = .ok (.getfield 58, 3) := by decide +kernel
theorem dX7_endYear_91 : decode cX7_endYear 91 = .ok (.bipush 102, 2) := by decide +kernel
theorem dX7_endYear_93 : decode cX7_endYear 93 = .ok (.invokevirtual 136, 3) := by decide +kernel
theorem dX7_endYear_96 : decode cX7_endYear 96 = .ok (.astore_n 3, 1) := by decide +kernel
theorem dX7_endYear_97 : decode cX7_endYear 97 = .ok (.aload_n 2, 1) := by decide +kernel
theorem dX7_endYear_98 : decode cX7_endYear 98 = .ok (.iconst 0, 1) := by decide +kernel
theorem dX7_endYear_99 : decode cX7_endYear 99 = .ok (.putfield 97, 3) := by decide +kernel
theorem dX7_endYear_102 : decode cX7_endYear 102 = .ok (.aload_n 2, 1) := by decide +kernel
theorem dX7_endYear_103 : decode cX7_endYear 103 = .ok (.iconst 0, 1) := by decide +kernel
theorem dX7_endYear_104 : decode cX7_endYear 104 = .ok (.putfield 110, 3) := by decide +kernel
theorem dX7_endYear_107 : decode cX7_endYear 107 = .ok (.goto (-99), 3) := by decide +kernel
theorem dX7_endYear_110 : decode cX7_endYear 110 = .ok (.return_, 1) := by decide +kernel
theorem dX7_pass_0 : decode cX7_pass 0 = .ok (.iconst 0, 1) := by decide +kernel
theorem dX7_pass_1 : decode cX7_pass 1 = .ok (.istore_n 1, 1) := by decide +kernel
theorem dX7_pass_2 : decode cX7_pass 2 = .ok (.iload_n 1, 1) := by decide +kernel
theorem dX7_pass_3 : decode cX7_pass 3 = .ok (.bipush 8, 2) := by decide +kernel
theorem dX7_pass_5 : decode cX7_pass 5 = .ok (.if_icmp .ge 36, 3) := by decide +kernel
theorem dX7_pass_8 : decode cX7_pass 8 = .ok (.aload_n 0, 1) := by decide +kernel
theorem dX7_pass_9 : decode cX7_pass 9 = .ok (.getfield 18, 3) := by decide +kernel
theorem dX7_pass_12 : decode cX7_pass 12 = .ok (.iload_n 1, 1) := by decide +kernel
theorem dX7_pass_13 : decode cX7_pass 13 = .ok (.dup2, 1) := by decide +kernel
theorem dX7_pass_14 : decode cX7_pass 14 = .ok (.iaload, 1) := by decide +kernel
theorem dX7_pass_15 : decode cX7_pass 15 = .ok (.aload_n 0, 1) := by decide +kernel
theorem dX7_pass_16 : decode cX7_pass 16 = .ok (.getfield 33, 3) := by decide +kernel
theorem dX7_pass_19 : decode cX7_pass 19 = .ok (.iload_n 1, 1) := by decide +kernel
theorem dX7_pass_20 : decode cX7_pass 20 = .ok (.iaload, 1) := by decide +kernel
theorem dX7_pass_21 : decode cX7_pass 21 = .ok (.iadd, 1) := by decide +kernel
theorem dX7_pass_22 : decode cX7_pass 22 = .ok (.iastore, 1) := by decide +kernel
theorem dX7_pass_23 : decode cX7_pass 23 = .ok (.aload_n 0, 1) := by decide +kernel
theorem dX7_pass_24 : decode cX7_pass 24 = .ok (.bipush 114, 2) := by decide +kernel
theorem dX7_pass_26 : decode cX7_pass 26 = .ok (.aload_n 0, 1) := by decide +kernel
theorem dX7_pass_27 : decode cX7_pass 27 = .ok (.getfield 33, 3) := by decide +kernel
theorem dX7_pass_30 : decode cX7_pass 30 = .ok (.iload_n 1, 1) := by decide +kernel
theorem dX7_pass_31 : decode cX7_pass 31 = .ok (.iaload, 1) := by decide +kernel
theorem dX7_pass_32 : decode cX7_pass 32 = .ok (.invokevirtual 132, 3) := by decide +kernel
theorem dX7_pass_35 : decode cX7_pass 35 = .ok (.iinc 1 1, 3) := by decide +kernel
theorem dX7_pass_38 : decode cX7_pass 38 = .ok (.goto (-36), 3) := by decide +kernel
theorem dX7_pass_41 : decode cX7_pass 41 = .ok (.aload_n 0, 1) := by decide +kernel
theorem dX7_pass_42 : decode cX7_pass 42 = .ok (.invokevirtual 178, 3) := by decide +kernel
theorem dX7_pass_45 : decode cX7_pass 45 = .ok (.aload_n 0, 1) := by decide +kernel
theorem dX7_pass_46 : decode cX7_pass 46 = .ok (.invokevirtual 181, 3) := by decide +kernel
theorem dX7_pass_49 : decode cX7_pass 49 = .ok (.aload_n 0, 1) := by decide +kernel
theorem dX7_pass_50 : decode cX7_pass 50 = .ok (.invokevirtual 184, 3) := by decide +kernel
theorem dX7_pass_53 : decode cX7_pass 53 = .ok (.aload_n 0, 1) := by decide +kernel
theorem dX7_pass_54 : decode cX7_pass 54 = .ok (.invokevirtual 187, 3) := by decide +kernel
theorem dX7_pass_57 : decode cX7_pass 57 = .ok (.aload_n 0, 1) := by decide +kernel
theorem dX7_pass_58 : decode cX7_pass 58 = .ok (.invokevirtual 190, 3) := by decide +kernel
theorem dX7_pass_61 : decode cX7_pass 61 = .ok (.aload_n 0, 1) := by decide +kernel
theorem dX7_pass_62 : decode cX7_pass 62 = .ok (.dup, 1) := by decide +kernel
theorem dX7_pass_63 : decode cX7_pass 63 = .ok (.getfield 193, 3) := by decide +kernel
theorem dX7_pass_66 : decode cX7_pass 66 = .ok (.iconst 1, 1) := by decide +kernel
theorem dX7_pass_67 : decode cX7_pass 67 = .ok (.iadd, 1) := by decide +kernel
theorem dX7_pass_68 : decode cX7_pass 68 = .ok (.putfield 193, 3) := by decide +kernel
theorem dX7_pass_71 : decode cX7_pass 71 = .ok (.aload_n 0, 1) := by decide +kernel
theorem dX7_pass_72 : decode cX7_pass 72 = .ok (.getfield 193, 3) := by decide +kernel
theorem dX7_pass_75 : decode cX7_pass 75 = .ok (.bipush 12, 2) := by decide +kernel
theorem dX7_pass_77 : decode cX7_pass 77 = .ok (.irem, 1) := by decide +kernel
theorem dX7_pass_78 : decode cX7_pass 78 = .ok (.ifCond .ne 7, 3) := by decide +kernel
theorem dX7_pass_81 : decode cX7_pass 81 = .ok (.aload_n 0, 1) := by decide +kernel
theorem dX7_pass_82 : decode cX7_pass 82 = .ok (.invokevirtual 196, 3) := by decide +kernel
theorem dX7_pass_85 : decode cX7_pass 85 = .ok (.return_, 1) := by decide +kernel
theorem dX7_init_0 : decode cX7_init 0 = .ok (.aload_n 0, 1) := by decide +kernel
theorem dX7_init_1 : decode cX7_init 1 = .ok (.invokespecial 3, 3) := by decide +kernel
theorem dX7_init_4 : decode cX7_init 4 = .ok (.aload_n 0, 1) := by decide +kernel
theorem dX7_init_5 : decode cX7_init 5 = .ok (.bipush 16, 2) := by decide +kernel
theorem dX7_init_7 : decode cX7_init 7 = .ok (.newarray .int, 2) := by decide +kernel
theorem dX7_init_9 : decode cX7_init 9 = .ok (.putfield 9, 3) := by decide +kernel
theorem dX7_init_12 : decode cX7_init 12 = .ok (.aload_n 0, 1) := by decide +kernel
theorem dX7_init_13 : decode cX7_init 13 = .ok (.bipush 16, 2) := by decide +kernel
theorem dX7_init_15 : decode cX7_init 15 = .ok (.newarray .int, 2) := by decide +kernel
theorem dX7_init_17 : decode cX7_init 17 = .ok (.putfield 15, 3) := by decide +kernel
theorem dX7_init_20 : decode cX7_init 20 = .ok (.aload_n 0, 1) := by decide +kernel
theorem dX7_init_21 : decode cX7_init 21 = .ok (.bipush 16, 2) := by decide +kernel
theorem dX7_init_23 : decode cX7_init 23 = .ok (.newarray .int, 2) := by decide +kernel
theorem dX7_init_25 : decode cX7_init 25 = .ok (.putfield 18, 3) := by decide +kernel
theorem dX7_init_28 : decode cX7_init 28 = .ok (.aload_n 0, 1) := by decide +kernel
theorem dX7_init_29 : decode cX7_init 29 = .ok (.bipush 16, 2) := by decide +kernel
theorem dX7_init_31 : decode cX7_init 31 = .ok (.newarray .int, 2) := by decide +kernel
theorem dX7_init_33 : decode cX7_init 33 = .ok (.putfield 21, 3) := by decide +kernel
theorem dX7_init_36 : decode cX7_init 36 = .ok (.aload_n 0, 1) := by decide +kernel
theorem dX7_init_37 : decode cX7_init 37 = .ok (.bipush 8, 2) := by decide +kernel
theorem dX7_init_39 : decode cX7_init 39 = .ok (.newarray .int, 2) := by decide +kernel
theorem dX7_init_41 : decode cX7_init 41 = .ok (.putfield 24, 3) := by decide +kernel
theorem dX7_init_44 : decode cX7_init 44 = .ok (.aload_n 0, 1) := by decide +kernel
theorem dX7_init_45 : decode cX7_init 45 = .ok (.iconst 2, 1) := by decide +kernel
theorem dX7_init_46 : decode cX7_init 46 = .ok (.newarray .int, 2) := by decide +kernel
theorem dX7_init_48 : decode cX7_init 48 = .ok (.dup, 1) := by decide +kernel
theorem dX7_init_49 : decode cX7_init 49 = .ok (.iconst 0, 1) := by decide +kernel
theorem dX7_init_50 : decode cX7_init 50 = .ok (.iconst 4, 1) := by decide +kernel
theorem dX7_init_51 : decode cX7_init 51 = .ok (.iastore, 1) := by decide +kernel
theorem dX7_init_52 : decode cX7_init 52 = .ok (.dup, 1) := by decide +kernel
theorem dX7_init_53 : decode cX7_init 53 = .ok (.iconst 1, 1) := by decide +kernel
theorem dX7_init_54 : decode cX7_init 54 = .ok (.iconst 4, 1) := by decide +kernel
theorem dX7_init_55 : decode cX7_init 55 = .ok (.iastore, 1) := by decide +kernel
theorem dX7_init_56 : decode cX7_init 56 = .ok (.putfield 27, 3) := by decide +kernel
theorem dX7_init_59 : decode cX7_init 59 = .ok (.aload_n 0, 1) := by decide +kernel
theorem dX7_init_60 : decode cX7_init 60 = .ok (.bipush 8, 2) := by decide +kernel
theorem dX7_init_62 : decode cX7_init 62 = .ok (.newarray .int, 2) := by decide +kernel
theorem dX7_init_64 : decode cX7_init 64 = .ok (.putfield 30, 3) := by decide +kernel
theorem dX7_init_67 : decode cX7_init 67 = .ok (.aload_n 0, 1) := by decide +kernel
theorem dX7_init_68 : decode cX7_init 68 = .ok (.bipush 8, 2) := by decide +kernel
theorem dX7_init_70 : decode cX7_init 70 = .ok (.newarray .int, 2) := by decide +kernel
theorem dX7_init_72 : decode cX7_init 72 = .ok (.putfield 33, 3) := by decide +kernel
theorem dX7_init_75 : decode cX7_init 75 = .ok (.aload_n 0, 1) := by decide +kernel
theorem dX7_init_76 : decode cX7_init 76 = .ok (.bipush 8, 2) := by decide +kernel
theorem dX7_init_78 : decode cX7_init 78 = .ok (.newarray .int, 2) := by decide +kernel
theorem dX7_init_80 : decode cX7_init 80 = .ok (.putfield 36, 3) := by decide +kernel
theorem dX7_init_83 : decode cX7_init 83 = .ok (.aload_n 0, 1) := by decide +kernel
theorem dX7_init_84 : decode cX7_init 84 = .ok (.bipush 8, 2) := by decide +kernel
theorem dX7_init_86 : decode cX7_init 86 = .ok (.newarray .int, 2) := by decide +kernel
theorem dX7_init_88 : decode cX7_init 88 = .ok (.putfield 39, 3) := by decide +kernel
theorem dX7_init_91 : decode cX7_init 91 = .ok (.aload_n 0, 1) := by decide +kernel
theorem dX7_init_92 : decode cX7_init 92 = .ok (.bipush 16, 2) := by decide +kernel
theorem dX7_init_94 : decode cX7_init 94 = .ok (.newarray .int, 2) := by decide +kernel
theorem dX7_init_96 : decode cX7_init 96 = .ok (.putfield 42, 3) := by decide +kernel
theorem dX7_init_99 : decode cX7_init 99 = .ok (.aload_n 0, 1) := by decide +kernel
theorem dX7_init_100 : decode cX7_init 100 = .ok (.bipush 16, 2) := by decide +kernel
theorem dX7_init_102 : decode cX7_init 102 = .ok (.newarray .int, 2) := by decide +kernel
theorem dX7_init_104 : decode cX7_init 104 = .ok (.putfield 45, 3) := by decide +kernel
theorem dX7_init_107 : decode cX7_init 107 = .ok (.aload_n 0, 1) := by decide +kernel
theorem dX7_init_108 : decode cX7_init 108 = .ok (.new 48, 3) := by decide +kernel
theorem dX7_init_111 : decode cX7_init 111 = .ok (.dup, 1) := by decide +kernel
theorem dX7_init_112 : decode cX7_init 112 = .ok (.invokespecial 50, 3) := by decide +kernel
theorem dX7_init_115 : decode cX7_init 115 = .ok (.putfield 51, 3) := by decide +kernel
theorem dX7_init_118 : decode cX7_init 118 = .ok (.aload_n 0, 1) := by decide +kernel
theorem dX7_init_119 : decode cX7_init 119 = .ok (.new 55, 3) := by decide +kernel
theorem dX7_init_122 : decode cX7_init 122 = .ok (.dup, 1) := by decide +kernel
theorem dX7_init_123 : decode cX7_init 123 = .ok (.invokespecial 57, 3) := by decide +kernel
theorem dX7_init_126 : decode cX7_init 126 = .ok (.putfield 58, 3) := by decide +kernel
theorem dX7_init_129 : decode cX7_init 129 = .ok (.aload_n 0, 1) := by decide +kernel
theorem dX7_init_130 : decode cX7_init 130 = .ok (.bipush 26, 2) := by decide +kernel
theorem dX7_init_132 : decode cX7_init 132 = .ok (.newarray .long, 2) := by decide +kernel
theorem dX7_init_134 : decode cX7_init 134 = .ok (.putfield 62, 3) := by decide +kernel
theorem dX7_init_137 : decode cX7_init 137 = .ok (.iconst 0, 1) := by decide +kernel
theorem dX7_init_138 : decode cX7_init 138 = .ok (.istore_n 1, 1) := by decide +kernel
theorem dX7_init_139 : decode cX7_init 139 = .ok (.iload_n 1, 1) := by decide +kernel
theorem dX7_init_140 : decode cX7_init 140 = .ok (.bipush 16, 2) := by decide +kernel
theorem dX7_init_142 : decode cX7_init 142 = .ok (.if_icmp .ge 28, 3) := by decide +kernel
theorem dX7_init_145 : decode cX7_init 145 = .ok (.aload_n 0, 1) := by decide +kernel
theorem dX7_init_146 : decode cX7_init 146 = .ok (.getfield 15, 3) := by decide +kernel
theorem dX7_init_149 : decode cX7_init 149 = .ok (.iload_n 1, 1) := by decide +kernel
theorem dX7_init_150 : decode cX7_init 150 = .ok (.bipush 10, 2) := by decide +kernel
theorem dX7_init_152 : decode cX7_init 152 = .ok (.iastore, 1) := by decide +kernel
theorem dX7_init_153 : decode cX7_init 153 = .ok (.aload_n 0, 1) := by decide +kernel
theorem dX7_init_154 : decode cX7_init 154 = .ok (.getfield 24, 3) := by decide +kernel
theorem dX7_init_157 : decode cX7_init 157 = .ok (.iload_n 1, 1) := by decide +kernel
theorem dX7_init_158 : decode cX7_init 158 = .ok (.bipush 8, 2) := by decide +kernel
theorem dX7_init_160 : decode cX7_init 160 = .ok (.irem, 1) := by decide +kernel
theorem dX7_init_161 : decode cX7_init 161 = .ok (.bipush 100, 2) := by decide +kernel
theorem dX7_init_163 : decode cX7_init 163 = .ok (.iastore, 1) := by decide +kernel
theorem dX7_init_164 : decode cX7_init 164 = .ok (.iinc 1 1, 3) := by decide +kernel
theorem dX7_init_167 : decode cX7_init 167 = .ok (.goto (-28), 3) := by decide +kernel
theorem dX7_init_170 : decode cX7_init 170 = .ok (.return_, 1) := by decide +kernel
set_option maxHeartbeats 4000000 in
set_option maxRecDepth 100000 in
/-- level -/
theorem c_X7_level (l : Launch) (g : Gm) (b : Nat → Nat) (mo : Nat) (i : Int32) (hi : vp_in i 16) : MXi (S := Unit) l g yX7_level cX7_level 2 .int ({ frames := 0, cells := 0, slots := 0, locals := 0 } : Room) [.ref (b 0), .int i] [((b 0), .inr (10, [.ref (b 1), .ref (b 2), .ref (b 3), .ref (b 4), .ref (b 5), .ref (b 6), .ref (b 7), .ref (b 8), .ref (b 9), .ref (b 10), .ref (b 11), .ref (b 12), .int 0, .int 0, .int (nI mo), .ref (b 13), .ref (b 14), .ref (b 16)])), ((b 1), .inl (g.2.1 0, 16, .inl (fun _ => 0))), ((b 2), .inl (g.2.1 0, 16, .inl (fun _ => 10))), ((b 3), .inl (g.2.1 0, 16, .inl (fun _ => 0)))] (fun r _ => r = 0) (fun _ => [((b 0), .inr (10, [.ref (b 1), .ref (b 2), .ref (b 3), .ref (b 4), .ref (b 5), .ref (b 6), .ref (b 7), .ref (b 8), .ref (b 9), .ref (b 10), .ref (b 11), .ref (b 12), .int 0, .int 0, .int (nI mo), .ref (b 13), .ref (b 14), .ref (b 16)])), ((b 1), .inl (g.2.1 0, 16, .inl (fun _ => 0))), ((b 2), .inl (g.2.1 0, 16, .inl (fun _ => 10))), ((b 3), .inl (g.2.1 0, 16, .inl (fun _ => 0)))]) (fun _ => (0, 0)) := by
  intro sz tt
  refine ofX RX7 rfl (by decide +kernel) (Nat.le_of_ble_eq_true rfl) (fun p e s m args below meth c hargs S hml hr hlk hnm hsz htt hK hA hZ E ls hl => ?_)
  have hx := S.1
  have hb := S.2.1
  have hl : lv_has ls 2 [(0, .ref (b 0)), (1, .int i)] := hl
  refine lv_aload_n hx hb dX7_level_0 rfl (lv_at hl 0 rfl) ?_
  refine wg_X7_9 (v := .ref (b 1)) S hK E 0 rfl rfl dX7_level_1 ?_
  refine lv_iload_n hx hb dX7_level_4 rfl (lv_at hl 1 rfl) ?_
  refine w_ild (v := 0) S hK E 1 0 rfl rfl hi rfl dX7_level_5 ?_
  refine lv_aload_n hx hb dX7_level_6 rfl (lv_at hl 0 rfl) ?_
  refine wg_X7_18 (v := .ref (b 3)) S hK E 0 rfl rfl dX7_level_7 ?_
  refine lv_iload_n hx hb dX7_level_10 rfl (lv_at hl 1 rfl) ?_
  refine w_ild (v := 0) S hK E 3 0 rfl rfl hi rfl dX7_level_11 ?_
  refine lv_aload_n hx hb dX7_level_12 rfl (lv_at hl 0 rfl) ?_
  refine wg_X7_15 (v := .ref (b 2)) S hK E 0 rfl rfl dX7_level_13 ?_
  refine lv_iload_n hx hb dX7_level_16 rfl (lv_at hl 1 rfl) ?_
  refine w_ild (v := 10) S hK E 2 0 rfl rfl hi rfl dX7_level_17 ?_
  refine k_idiv (v := 0) hx hb (by decide) (by decide) dX7_level_18 ?_
  refine k_iadd (v := 0) hx hb (by decide) dX7_level_19 ?_
  exact x_iret () S hr hlk hsz htt hK E dX7_level_20 rfl rfl ⟨Nat.le_of_ble_eq_true rfl, Nat.le_of_ble_eq_true rfl⟩ ⟨Nat.le_of_ble_eq_true rfl, Nat.le_of_ble_eq_true rfl⟩

set_option maxHeartbeats 4000000 in
set_option maxRecDepth 100000 in
/-- count(.., 0) -/
theorem c_ct105 (l : Launch) (g : Gm) (b : Nat → Nat) (mo : Nat) : MXv (S := Unit) l g yX7_count cX7_count 3 ({ frames := 0, cells := 0, slots := 0, locals := 0 } : Room) [.ref (b 0), .int 105, .int 0] [((b 0), .inr (10, [.ref (b 1), .ref (b 2), .ref (b 3), .ref (b 4), .ref (b 5), .ref (b 6), .ref (b 7), .ref (b 8), .ref (b 9), .ref (b 10), .ref (b 11), .ref (b 12), .int 0, .int 0, .int (nI mo), .ref (b 13), .ref (b 14), .ref (b 16)])), ((b 16), .inl (g.2.1 1, 26, .inr (.inl (fun _ => 0))))] (fun _ => True) (fun _ => [((b 0), .inr (10, [.ref (b 1), .ref (b 2), .ref (b 3), .ref (b 4), .ref (b 5), .ref (b 6), .ref (b 7), .ref (b 8), .ref (b 9), .ref (b 10), .ref (b 11), .ref (b 12), .int 0, .int 0, .int (nI mo), .ref (b 13), .ref (b 14), .ref (b 16)])), ((b 16), .inl (g.2.1 1, 26, .inr (.inl (fun _ => 0))))]) (fun _ => (0, 0)) := by
  intro sz tt
  refine ofX RX7 rfl (by decide +kernel) (Nat.le_of_ble_eq_true rfl) (fun p e s m args below meth c hargs S hml hr hlk hnm hsz htt hK hA hZ E ls hl => ?_)
  have hx := S.1
  have hb := S.2.1
  have hl : lv_has ls 3 [(0, .ref (b 0)), (1, .int 105), (2, .int 0)] := hl
  refine lv_aload_n hx hb dX7_count_0 rfl (lv_at hl 0 rfl) ?_
  refine wg_X7_62 (v := .ref (b 16)) S hK E 0 rfl rfl dX7_count_1 ?_
  refine lv_iload_n hx hb dX7_count_4 rfl (lv_at hl 1 rfl) ?_
  refine lv_bipush (v := 97) hx hb dX7_count_5 (by decide) ?_
  refine k_isub (v := 8) hx hb (by decide) dX7_count_7 ?_
  refine lv_dup2_11 hx hb dX7_count_8 rfl rfl ?_
  refine w_lld (v := 0) S hK E 1 1 rfl rfl (show vp_in 8 26 by unfold vp_in; decide) rfl dX7_count_9 ?_
  refine lv_iload_n hx hb dX7_count_10 rfl (lv_at hl 2 rfl) ?_
  refine lv_i2l (v := 0) hx hb dX7_count_11 (by decide) ?_
  refine k_ladd (v := 0) hx hb (by decide) dX7_count_12 ?_
  refine w_lst (w' := [((b 0), .inr (10, [.ref (b 1), .ref (b 2), .ref (b 3), .ref (b 4), .ref (b 5), .ref (b 6), .ref (b 7), .ref (b 8), .ref (b 9), .ref (b 10), .ref (b 11), .ref (b 12), .int 0, .int 0, .int (nI mo), .ref (b 13), .ref (b 14), .ref (b 16)])), ((b 16), .inl (g.2.1 1, 26, .inr (.inl (fun _ => 0))))]) S hK E 1 1 rfl rfl (show vp_in 8 26 by unfold vp_in; decide) (by rw [updL_c]; rfl) dX7_count_13 (fun H locs E => ?_)
  exact x_vret () S hr hlk hsz htt hK E dX7_count_14 trivial rfl ⟨Nat.le_of_ble_eq_true rfl, Nat.le_of_ble_eq_true rfl⟩ ⟨Nat.le_of_ble_eq_true rfl, Nat.le_of_ble_eq_true rfl⟩

set_option maxHeartbeats 4000000 in
set_option maxRecDepth 100000 in
/-- count(.., 0) -/
theorem c_ct108 (l : Launch) (g : Gm) (b : Nat → Nat) (mo : Nat) : MXv (S := Unit) l g yX7_count cX7_count 3 ({ frames := 0, cells := 0, slots := 0, locals := 0 } : Room) [.ref (b 0), .int 108, .int 0] [((b 0), .inr (10, [.ref (b 1), .ref (b 2), .ref (b 3), .ref (b 4), .ref (b 5), .ref (b 6), .ref (b 7), .ref (b 8), .ref (b 9), .ref (b 10), .ref (b 11), .ref (b 12), .int 0, .int 0, .int (nI mo), .ref (b 13), .ref (b 14), .ref (b 16)])), ((b 16), .inl (g.2.1 1, 26, .inr (.inl (fun _ => 0))))] (fun _ => True) (fun _ => [((b 0), .inr (10, [.ref (b 1), .ref (b 2), .ref (b 3), .ref (b 4), .ref (b 5), .ref (b 6), .ref (b 7), .ref (b 8), .ref (b 9), .ref (b 10), .ref (b 11), .ref (b 12), .int 0, .int 0, .int (nI mo), .ref (b 13), .ref (b 14), .ref (b 16)])), ((b 16), .inl (g.2.1 1, 26, .inr (.inl (fun _ => 0))))]) (fun _ => (0, 0)) := by
  intro sz tt
  refine ofX RX7 rfl (by decide +kernel) (Nat.le_of_ble_eq_true rfl) (fun p e s m args below meth c hargs S hml hr hlk hnm hsz htt hK hA hZ E ls hl => ?_)
  have hx := S.1
  have hb := S.2.1
  have hl : lv_has ls 3 [(0, .ref (b 0)), (1, .int 108), (2, .int 0)] := hl
  refine lv_aload_n hx hb dX7_count_0 rfl (lv_at hl 0 rfl) ?_
  refine wg_X7_62 (v := .ref (b 16)) S hK E 0 rfl rfl dX7_count_1 ?_
  refine lv_iload_n hx hb dX7_count_4 rfl (lv_at hl 1 rfl) ?_
  refine lv_bipush (v := 97) hx hb dX7_count_5 (by decide) ?_
  refine k_isub (v := 11) hx hb (by decide) dX7_count_7 ?_
  refine lv_dup2_11 hx hb dX7_count_8 rfl rfl ?_
  refine w_lld (v := 0) S hK E 1 1 rfl rfl (show vp_in 11 26 by unfold vp_in; decide) rfl dX7_count_9 ?_
  refine lv_iload_n hx hb dX7_count_10 rfl (lv_at hl 2 rfl) ?_
  refine lv_i2l (v := 0) hx hb dX7_count_11 (by decide) ?_
  refine k_ladd (v := 0) hx hb (by decide) dX7_count_12 ?_
  refine w_lst (w' := [((b 0), .inr (10, [.ref (b 1), .ref (b 2), .ref (b 3), .ref (b 4), .ref (b 5), .ref (b 6), .ref (b 7), .ref (b 8), .ref (b 9), .ref (b 10), .ref (b 11), .ref (b 12), .int 0, .int 0, .int (nI mo), .ref (b 13), .ref (b 14), .ref (b 16)])), ((b 16), .inl (g.2.1 1, 26, .inr (.inl (fun _ => 0))))]) S hK E 1 1 rfl rfl (show vp_in 11 26 by unfold vp_in; decide) (by rw [updL_c]; rfl) dX7_count_13 (fun H locs E => ?_)
  exact x_vret () S hr hlk hsz htt hK E dX7_count_14 trivial rfl ⟨Nat.le_of_ble_eq_true rfl, Nat.le_of_ble_eq_true rfl⟩ ⟨Nat.le_of_ble_eq_true rfl, Nat.le_of_ble_eq_true rfl⟩

set_option maxHeartbeats 4000000 in
set_option maxRecDepth 100000 in
/-- count(.., 0) -/
theorem c_ct109 (l : Launch) (g : Gm) (b : Nat → Nat) (mo : Nat) : MXv (S := Unit) l g yX7_count cX7_count 3 ({ frames := 0, cells := 0, slots := 0, locals := 0 } : Room) [.ref (b 0), .int 109, .int 0] [((b 0), .inr (10, [.ref (b 1), .ref (b 2), .ref (b 3), .ref (b 4), .ref (b 5), .ref (b 6), .ref (b 7), .ref (b 8), .ref (b 9), .ref (b 10), .ref (b 11), .ref (b 12), .int 0, .int 0, .int (nI mo), .ref (b 13), .ref (b 14), .ref (b 16)])), ((b 16), .inl (g.2.1 1, 26, .inr (.inl (fun _ => 0))))] (fun _ => True) (fun _ => [((b 0), .inr (10, [.ref (b 1), .ref (b 2), .ref (b 3), .ref (b 4), .ref (b 5), .ref (b 6), .ref (b 7), .ref (b 8), .ref (b 9), .ref (b 10), .ref (b 11), .ref (b 12), .int 0, .int 0, .int (nI mo), .ref (b 13), .ref (b 14), .ref (b 16)])), ((b 16), .inl (g.2.1 1, 26, .inr (.inl (fun _ => 0))))]) (fun _ => (0, 0)) := by
  intro sz tt
  refine ofX RX7 rfl (by decide +kernel) (Nat.le_of_ble_eq_true rfl) (fun p e s m args below meth c hargs S hml hr hlk hnm hsz htt hK hA hZ E ls hl => ?_)
  have hx := S.1
  have hb := S.2.1
  have hl : lv_has ls 3 [(0, .ref (b 0)), (1, .int 109), (2, .int 0)] := hl
  refine lv_aload_n hx hb dX7_count_0 rfl (lv_at hl 0 rfl) ?_
  refine wg_X7_62 (v := .ref (b 16)) S hK E 0 rfl rfl dX7_count_1 ?_
  refine lv_iload_n hx hb dX7_count_4 rfl (lv_at hl 1 rfl) ?_
  refine lv_bipush (v := 97) hx hb dX7_count_5 (by decide) ?_
  refine k_isub (v := 12) hx hb (by decide) dX7_count_7 ?_
  refine lv_dup2_11 hx hb dX7_count_8 rfl rfl ?_
  refine w_lld (v := 0) S hK E 1 1 rfl rfl (show vp_in 12 26 by unfold vp_in; decide) rfl dX7_count_9 ?_
  refine lv_iload_n hx hb dX7_count_10 rfl (lv_at hl 2 rfl) ?_
  refine lv_i2l (v := 0) hx hb dX7_count_11 (by decide) ?_
  refine k_ladd (v := 0) hx hb (by decide) dX7_count_12 ?_
  refine w_lst (w' := [((b 0), .inr (10, [.ref (b 1), .ref (b 2), .ref (b 3), .ref (b 4), .ref (b 5), .ref (b 6), .ref (b 7), .ref (b 8), .ref (b 9), .ref (b 10), .ref (b 11), .ref (b 12), .int 0, .int 0, .int (nI mo), .ref (b 13), .ref (b 14), .ref (b 16)])), ((b 16), .inl (g.2.1 1, 26, .inr (.inl (fun _ => 0))))]) S hK E 1 1 rfl rfl (show vp_in 12 26 by unfold vp_in; decide) (by rw [updL_c]; rfl) dX7_count_13 (fun H locs E => ?_)
  exact x_vret () S hr hlk hsz htt hK E dX7_count_14 trivial rfl ⟨Nat.le_of_ble_eq_true rfl, Nat.le_of_ble_eq_true rfl⟩ ⟨Nat.le_of_ble_eq_true rfl, Nat.le_of_ble_eq_true rfl⟩

set_option maxHeartbeats 4000000 in
set_option maxRecDepth 100000 in
/-- count(.., 0) -/
theorem c_ct110 (l : Launch) (g : Gm) (b : Nat → Nat) (mo : Nat) : MXv (S := Unit) l g yX7_count cX7_count 3 ({ frames := 0, cells := 0, slots := 0, locals := 0 } : Room) [.ref (b 0), .int 110, .int 0] [((b 0), .inr (10, [.ref (b 1), .ref (b 2), .ref (b 3), .ref (b 4), .ref (b 5), .ref (b 6), .ref (b 7), .ref (b 8), .ref (b 9), .ref (b 10), .ref (b 11), .ref (b 12), .int 0, .int 0, .int (nI mo), .ref (b 13), .ref (b 14), .ref (b 16)])), ((b 16), .inl (g.2.1 1, 26, .inr (.inl (fun _ => 0))))] (fun _ => True) (fun _ => [((b 0), .inr (10, [.ref (b 1), .ref (b 2), .ref (b 3), .ref (b 4), .ref (b 5), .ref (b 6), .ref (b 7), .ref (b 8), .ref (b 9), .ref (b 10), .ref (b 11), .ref (b 12), .int 0, .int 0, .int (nI mo), .ref (b 13), .ref (b 14), .ref (b 16)])), ((b 16), .inl (g.2.1 1, 26, .inr (.inl (fun _ => 0))))]) (fun _ => (0, 0)) := by
  intro sz tt
  refine ofX RX7 rfl (by decide +kernel) (Nat.le_of_ble_eq_true rfl) (fun p e s m args below meth c hargs S hml hr hlk hnm hsz htt hK hA hZ E ls hl => ?_)
  have hx := S.1
  have hb := S.2.1
  have hl : lv_has ls 3 [(0, .ref (b 0)), (1, .int 110), (2, .int 0)] := hl
  refine lv_aload_n hx hb dX7_count_0 rfl (lv_at hl 0 rfl) ?_
  refine wg_X7_62 (v := .ref (b 16)) S hK E 0 rfl rfl dX7_count_1 ?_
  refine lv_iload_n hx hb dX7_count_4 rfl (lv_at hl 1 rfl) ?_
  refine lv_bipush (v := 97) hx hb dX7_count_5 (by decide) ?_
  refine k_isub (v := 13) hx hb (by decide) dX7_count_7 ?_
  refine lv_dup2_11 hx hb dX7_count_8 rfl rfl ?_
  refine w_lld (v := 0) S hK E 1 1 rfl rfl (show vp_in 13 26 by unfold vp_in; decide) rfl dX7_count_9 ?_
  refine lv_iload_n hx hb dX7_count_10 rfl (lv_at hl 2 rfl) ?_
  refine lv_i2l (v := 0) hx hb dX7_count_11 (by decide) ?_
  refine k_ladd (v := 0) hx hb (by decide) dX7_count_12 ?_
  refine w_lst (w' := [((b 0), .inr (10, [.ref (b 1), .ref (b 2), .ref (b 3), .ref (b 4), .ref (b 5), .ref (b 6), .ref (b 7), .ref (b 8), .ref (b 9), .ref (b 10), .ref (b 11), .ref (b 12), .int 0, .int 0, .int (nI mo), .ref (b 13), .ref (b 14), .ref (b 16)])), ((b 16), .inl (g.2.1 1, 26, .inr (.inl (fun _ => 0))))]) S hK E 1 1 rfl rfl (show vp_in 13 26 by unfold vp_in; decide) (by rw [updL_c]; rfl) dX7_count_13 (fun H locs E => ?_)
  exact x_vret () S hr hlk hsz htt hK E dX7_count_14 trivial rfl ⟨Nat.le_of_ble_eq_true rfl, Nat.le_of_ble_eq_true rfl⟩ ⟨Nat.le_of_ble_eq_true rfl, Nat.le_of_ble_eq_true rfl⟩

set_option maxHeartbeats 4000000 in
set_option maxRecDepth 100000 in
/-- count(.., 0) -/
theorem c_ct111 (l : Launch) (g : Gm) (b : Nat → Nat) (mo : Nat) : MXv (S := Unit) l g yX7_count cX7_count 3 ({ frames := 0, cells := 0, slots := 0, locals := 0 } : Room) [.ref (b 0), .int 111, .int 0] [((b 0), .inr (10, [.ref (b 1), .ref (b 2), .ref (b 3), .ref (b 4), .ref (b 5), .ref (b 6), .ref (b 7), .ref (b 8), .ref (b 9), .ref (b 10), .ref (b 11), .ref (b 12), .int 0, .int 0, .int (nI mo), .ref (b 13), .ref (b 14), .ref (b 16)])), ((b 16), .inl (g.2.1 1, 26, .inr (.inl (fun _ => 0))))] (fun _ => True) (fun _ => [((b 0), .inr (10, [.ref (b 1), .ref (b 2), .ref (b 3), .ref (b 4), .ref (b 5), .ref (b 6), .ref (b 7), .ref (b 8), .ref (b 9), .ref (b 10), .ref (b 11), .ref (b 12), .int 0, .int 0, .int (nI mo), .ref (b 13), .ref (b 14), .ref (b 16)])), ((b 16), .inl (g.2.1 1, 26, .inr (.inl (fun _ => 0))))]) (fun _ => (0, 0)) := by
  intro sz tt
  refine ofX RX7 rfl (by decide +kernel) (Nat.le_of_ble_eq_true rfl) (fun p e s m args below meth c hargs S hml hr hlk hnm hsz htt hK hA hZ E ls hl => ?_)
  have hx := S.1
  have hb := S.2.1
  have hl : lv_has ls 3 [(0, .ref (b 0)), (1, .int 111), (2, .int 0)] := hl
  refine lv_aload_n hx hb dX7_count_0 rfl (lv_at hl 0 rfl) ?_
  refine wg_X7_62 (v := .ref (b 16)) S hK E 0 rfl rfl dX7_count_1 ?_
  refine lv_iload_n hx hb dX7_count_4 rfl (lv_at hl 1 rfl) ?_
  refine lv_bipush (v := 97) hx hb dX7_count_5 (by decide) ?_
  refine k_isub (v := 14) hx hb (by decide) dX7_count_7 ?_
  refine lv_dup2_11 hx hb dX7_count_8 rfl rfl ?_
  refine w_lld (v := 0) S hK E 1 1 rfl rfl (show vp_in 14 26 by unfold vp_in; decide) rfl dX7_count_9 ?_
  refine lv_iload_n hx hb dX7_count_10 rfl (lv_at hl 2 rfl) ?_
  refine lv_i2l (v := 0) hx hb dX7_count_11 (by decide) ?_
  refine k_ladd (v := 0) hx hb (by decide) dX7_count_12 ?_
  refine w_lst (w' := [((b 0), .inr (10, [.ref (b 1), .ref (b 2), .ref (b 3), .ref (b 4), .ref (b 5), .ref (b 6), .ref (b 7), .ref (b 8), .ref (b 9), .ref (b 10), .ref (b 11), .ref (b 12), .int 0, .int 0, .int (nI mo), .ref (b 13), .ref (b 14), .ref (b 16)])), ((b 16), .inl (g.2.1 1, 26, .inr (.inl (fun _ => 0))))]) S hK E 1 1 rfl rfl (show vp_in 14 26 by unfold vp_in; decide) (by rw [updL_c]; rfl) dX7_count_13 (fun H locs E => ?_)
  exact x_vret () S hr hlk hsz htt hK E dX7_count_14 trivial rfl ⟨Nat.le_of_ble_eq_true rfl, Nat.le_of_ble_eq_true rfl⟩ ⟨Nat.le_of_ble_eq_true rfl, Nat.le_of_ble_eq_true rfl⟩

set_option maxHeartbeats 4000000 in
set_option maxRecDepth 100000 in
/-- count(.., 0) -/
theorem c_ct114 (l : Launch) (g : Gm) (b : Nat → Nat) (mo : Nat) : MXv (S := Unit) l g yX7_count cX7_count 3 ({ frames := 0, cells := 0, slots := 0, locals := 0 } : Room) [.ref (b 0), .int 114, .int 0] [((b 0), .inr (10, [.ref (b 1), .ref (b 2), .ref (b 3), .ref (b 4), .ref (b 5), .ref (b 6), .ref (b 7), .ref (b 8), .ref (b 9), .ref (b 10), .ref (b 11), .ref (b 12), .int 0, .int 0, .int (nI mo), .ref (b 13), .ref (b 14), .ref (b 16)])), ((b 16), .inl (g.2.1 1, 26, .inr (.inl (fun _ => 0))))] (fun _ => True) (fun _ => [((b 0), .inr (10, [.ref (b 1), .ref (b 2), .ref (b 3), .ref (b 4), .ref (b 5), .ref (b 6), .ref (b 7), .ref (b 8), .ref (b 9), .ref (b 10), .ref (b 11), .ref (b 12), .int 0, .int 0, .int (nI mo), .ref (b 13), .ref (b 14), .ref (b 16)])), ((b 16), .inl (g.2.1 1, 26, .inr (.inl (fun _ => 0))))]) (fun _ => (0, 0)) := by
  intro sz tt
  refine ofX RX7 rfl (by decide +kernel) (Nat.le_of_ble_eq_true rfl) (fun p e s m args below meth c hargs S hml hr hlk hnm hsz htt hK hA hZ E ls hl => ?_)
  have hx := S.1
  have hb := S.2.1
  have hl : lv_has ls 3 [(0, .ref (b 0)), (1, .int 114), (2, .int 0)] := hl
  refine lv_aload_n hx hb dX7_count_0 rfl (lv_at hl 0 rfl) ?_
  refine wg_X7_62 (v := .ref (b 16)) S hK E 0 rfl rfl dX7_count_1 ?_
  refine lv_iload_n hx hb dX7_count_4 rfl (lv_at hl 1 rfl) ?_
  refine lv_bipush (v := 97) hx hb dX7_count_5 (by decide) ?_
  refine k_isub (v := 17) hx hb (by decide) dX7_count_7 ?_
  refine lv_dup2_11 hx hb dX7_count_8 rfl rfl ?_
  refine w_lld (v := 0) S hK E 1 1 rfl rfl (show vp_in 17 26 by unfold vp_in; decide) rfl dX7_count_9 ?_
  refine lv_iload_n hx hb dX7_count_10 rfl (lv_at hl 2 rfl) ?_
  refine lv_i2l (v := 0) hx hb dX7_count_11 (by decide) ?_
  refine k_ladd (v := 0) hx hb (by decide) dX7_count_12 ?_
  refine w_lst (w' := [((b 0), .inr (10, [.ref (b 1), .ref (b 2), .ref (b 3), .ref (b 4), .ref (b 5), .ref (b 6), .ref (b 7), .ref (b 8), .ref (b 9), .ref (b 10), .ref (b 11), .ref (b 12), .int 0, .int 0, .int (nI mo), .ref (b 13), .ref (b 14), .ref (b 16)])), ((b 16), .inl (g.2.1 1, 26, .inr (.inl (fun _ => 0))))]) S hK E 1 1 rfl rfl (show vp_in 17 26 by unfold vp_in; decide) (by rw [updL_c]; rfl) dX7_count_13 (fun H locs E => ?_)
  exact x_vret () S hr hlk hsz htt hK E dX7_count_14 trivial rfl ⟨Nat.le_of_ble_eq_true rfl, Nat.le_of_ble_eq_true rfl⟩ ⟨Nat.le_of_ble_eq_true rfl, Nat.le_of_ble_eq_true rfl⟩

set_option maxHeartbeats 4000000 in
set_option maxRecDepth 100000 in
/-- count(.., 0) -/
theorem c_ct115 (l : Launch) (g : Gm) (b : Nat → Nat) (mo : Nat) : MXv (S := Unit) l g yX7_count cX7_count 3 ({ frames := 0, cells := 0, slots := 0, locals := 0 } : Room) [.ref (b 0), .int 115, .int 0] [((b 0), .inr (10, [.ref (b 1), .ref (b 2), .ref (b 3), .ref (b 4), .ref (b 5), .ref (b 6), .ref (b 7), .ref (b 8), .ref (b 9), .ref (b 10), .ref (b 11), .ref (b 12), .int 0, .int 0, .int (nI mo), .ref (b 13), .ref (b 14), .ref (b 16)])), ((b 16), .inl (g.2.1 1, 26, .inr (.inl (fun _ => 0))))] (fun _ => True) (fun _ => [((b 0), .inr (10, [.ref (b 1), .ref (b 2), .ref (b 3), .ref (b 4), .ref (b 5), .ref (b 6), .ref (b 7), .ref (b 8), .ref (b 9), .ref (b 10), .ref (b 11), .ref (b 12), .int 0, .int 0, .int (nI mo), .ref (b 13), .ref (b 14), .ref (b 16)])), ((b 16), .inl (g.2.1 1, 26, .inr (.inl (fun _ => 0))))]) (fun _ => (0, 0)) := by
  intro sz tt
  refine ofX RX7 rfl (by decide +kernel) (Nat.le_of_ble_eq_true rfl) (fun p e s m args below meth c hargs S hml hr hlk hnm hsz htt hK hA hZ E ls hl => ?_)
  have hx := S.1
  have hb := S.2.1
  have hl : lv_has ls 3 [(0, .ref (b 0)), (1, .int 115), (2, .int 0)] := hl
  refine lv_aload_n hx hb dX7_count_0 rfl (lv_at hl 0 rfl) ?_
  refine wg_X7_62 (v := .ref (b 16)) S hK E 0 rfl rfl dX7_count_1 ?_
  refine lv_iload_n hx hb dX7_count_4 rfl (lv_at hl 1 rfl) ?_
  refine lv_bipush (v := 97) hx hb dX7_count_5 (by decide) ?_
  refine k_isub (v := 18) hx hb (by decide) dX7_count_7 ?_
  refine lv_dup2_11 hx hb dX7_count_8 rfl rfl ?_
  refine w_lld (v := 0) S hK E 1 1 rfl rfl (show vp_in 18 26 by unfold vp_in; decide) rfl dX7_count_9 ?_
  refine lv_iload_n hx hb dX7_count_10 rfl (lv_at hl 2 rfl) ?_
  refine lv_i2l (v := 0) hx hb dX7_count_11 (by decide) ?_
  refine k_ladd (v := 0) hx hb (by decide) dX7_count_12 ?_
  refine w_lst (w' := [((b 0), .inr (10, [.ref (b 1), .ref (b 2), .ref (b 3), .ref (b 4), .ref (b 5), .ref (b 6), .ref (b 7), .ref (b 8), .ref (b 9), .ref (b 10), .ref (b 11), .ref (b 12), .int 0, .int 0, .int (nI mo), .ref (b 13), .ref (b 14), .ref (b 16)])), ((b 16), .inl (g.2.1 1, 26, .inr (.inl (fun _ => 0))))]) S hK E 1 1 rfl rfl (show vp_in 18 26 by unfold vp_in; decide) (by rw [updL_c]; rfl) dX7_count_13 (fun H locs E => ?_)
  exact x_vret () S hr hlk hsz htt hK E dX7_count_14 trivial rfl ⟨Nat.le_of_ble_eq_true rfl, Nat.le_of_ble_eq_true rfl⟩ ⟨Nat.le_of_ble_eq_true rfl, Nat.le_of_ble_eq_true rfl⟩

set_option maxHeartbeats 4000000 in
set_option maxRecDepth 100000 in
/-- takes(.., 0) -/
theorem c_X7_takes (l : Launch) (g : Gm) (b : Nat → Nat) (mo : Nat) (i : Int32) : MXi (S := Unit) l g yX7_takes cX7_takes 4 .int ({ frames := 0, cells := 0, slots := 0, locals := 0 } : Room) [.ref (b 0), .int i, .int 0] [((b 0), .inr (10, [.ref (b 1), .ref (b 2), .ref (b 3), .ref (b 4), .ref (b 5), .ref (b 6), .ref (b 7), .ref (b 8), .ref (b 9), .ref (b 10), .ref (b 11), .ref (b 12), .int 0, .int 0, .int (nI mo), .ref (b 13), .ref (b 14), .ref (b 16)]))] (fun r _ => r = 0) (fun _ => [((b 0), .inr (10, [.ref (b 1), .ref (b 2), .ref (b 3), .ref (b 4), .ref (b 5), .ref (b 6), .ref (b 7), .ref (b 8), .ref (b 9), .ref (b 10), .ref (b 11), .ref (b 12), .int 0, .int 0, .int (nI mo), .ref (b 13), .ref (b 14), .ref (b 16)]))]) (fun _ => (0, 0)) := by
  intro sz tt
  refine ofX RX7 rfl (by decide +kernel) (Nat.le_of_ble_eq_true rfl) (fun p e s m args below meth c hargs S hml hr hlk hnm hsz htt hK hA hZ E ls hl => ?_)
  have hx := S.1
  have hb := S.2.1
  have hl : lv_has ls 4 [(0, .ref (b 0)), (1, .int i), (2, .int 0)] := hl
  refine lv_iload_n hx hb dX7_takes_0 rfl (lv_at hl 2 rfl) ?_
  refine lv_if_ne (tgt := 6) hx hb dX7_takes_1 (by decide) (fun c_ => absurd (show (0 : Int32) = 0 by decide) c_) (fun _ => ?_)
  refine lv_iconst (v := 0) hx hb dX7_takes_4 (by decide) ?_
  exact x_iret () S hr hlk hsz htt hK E dX7_takes_5 rfl rfl ⟨Nat.le_of_ble_eq_true rfl, Nat.le_of_ble_eq_true rfl⟩ ⟨Nat.le_of_ble_eq_true rfl, Nat.le_of_ble_eq_true rfl⟩

set_option maxHeartbeats 4000000 in
set_option maxRecDepth 100000 in
/-- flow -/
theorem c_X7_flow (l : Launch) (g : Gm) (b : Nat → Nat) (mo : Nat) (lv : Nat) (x : Nat) (y : Nat) (hx0 : x < 16) (hy0 : y < 16) : MXi (S := Unit) l g yX7_flow cX7_flow 5 .int ({ frames := 0, cells := 0, slots := 0, locals := 0 } : Room) [.ref (b 0), .ref lv, .int (nI x), .int (nI y)] [((b 0), .inr (10, [.ref (b 1), .ref (b 2), .ref (b 3), .ref (b 4), .ref (b 5), .ref (b 6), .ref (b 7), .ref (b 8), .ref (b 9), .ref (b 10), .ref (b 11), .ref (b 12), .int 0, .int 0, .int (nI mo), .ref (b 13), .ref (b 14), .ref (b 16)])), ((b 6), .inl (g.2.1 0, 2, .inl (fun _ => 4))), ((b 7), .inl (g.2.1 0, 8, .inl (fun _ => 0))), (lv, .inl (g.2.1 0, 16, .inl (fun _ => 0)))] (fun r _ => r = 0) (fun _ => [((b 0), .inr (10, [.ref (b 1), .ref (b 2), .ref (b 3), .ref (b 4), .ref (b 5), .ref (b 6), .ref (b 7), .ref (b 8), .ref (b 9), .ref (b 10), .ref (b 11), .ref (b 12), .int 0, .int 0, .int (nI mo), .ref (b 13), .ref (b 14), .ref (b 16)])), ((b 6), .inl (g.2.1 0, 2, .inl (fun _ => 4))), ((b 7), .inl (g.2.1 0, 8, .inl (fun _ => 0))), (lv, .inl (g.2.1 0, 16, .inl (fun _ => 0)))]) (fun _ => (0, 0)) := by
  intro sz tt
  refine ofX RX7 rfl (by decide +kernel) (Nat.le_of_ble_eq_true rfl) (fun p e s m args below meth c hargs S hml hr hlk hnm hsz htt hK hA hZ E ls hl => ?_)
  have hx := S.1
  have hb := S.2.1
  have hl : lv_has ls 5 [(0, .ref (b 0)), (1, .ref lv), (2, .int (nI x)), (3, .int (nI y))] := hl
  refine lv_iload_n hx hb dX7_flow_0 rfl (lv_at hl 2 rfl) ?_
  refine lv_bipush (v := 8) hx hb dX7_flow_1 (by decide) ?_
  refine k_idiv (v := (nI (x / 8))) hx hb (by decide) (pk_div (a := x) (d := 8) (by omega) (by decide) (by decide)) dX7_flow_3 ?_
  refine lv_iload_n hx hb dX7_flow_4 rfl (lv_at hl 3 rfl) ?_
  refine lv_bipush (v := 8) hx hb dX7_flow_5 (by decide) ?_
  refine k_idiv (v := (nI (y / 8))) hx hb (by decide) (pk_div (a := y) (d := 8) (by omega) (by decide) (by decide)) dX7_flow_7 ?_
  refine lv_icmp_ne (tgt := 23) hx hb dX7_flow_8 (by decide) (fun c1 => ?_) (fun c1 => ?_)
  · have c1 : ¬ ((nI (x / 8)) = (nI (y / 8))) := c1
    refine lv_aload_n hx hb dX7_flow_23 rfl (lv_at hl 0 rfl) ?_
    refine wg_X7_30 (v := .ref (b 7)) S hK E 0 rfl rfl dX7_flow_24 ?_
    refine lv_iload_n hx hb dX7_flow_27 rfl (lv_at hl 2 rfl) ?_
    refine lv_bipush (v := 8) hx hb dX7_flow_28 (by decide) ?_
    refine k_irem (v := (nI (x % 8))) hx hb (by decide) (pk_rem (a := x) (d := 8) (by omega) (by decide) (by decide)) dX7_flow_30 ?_
    refine w_ild (v := 0) S hK E 2 0 rfl rfl (vp_in_nI (n := (x % 8)) (by omega) (by decide)) rfl dX7_flow_31 ?_
    refine lv_istore (lv' := [(4, .int 0), (0, .ref (b 0)), (1, .ref lv), (2, .int (nI x)), (3, .int (nI y))]) hx hb dX7_flow_32 hl (by decide) rfl (fun ls hl => ?_)
    refine lv_aload_n hx hb dX7_flow_34 rfl (lv_at hl 2 rfl) ?_
    refine lv_iload_n hx hb dX7_flow_35 rfl (lv_at hl 3 rfl) ?_
    refine w_ild (v := 0) S hK E 3 0 rfl rfl (vp_in_nI (n := x) (by omega) (by decide)) rfl dX7_flow_36 ?_
    refine lv_aload_n hx hb dX7_flow_37 rfl (lv_at hl 2 rfl) ?_
    refine lv_iload_n hx hb dX7_flow_38 rfl (lv_at hl 4 rfl) ?_
    refine w_ild (v := 0) S hK E 3 0 rfl rfl (vp_in_nI (n := y) (by omega) (by decide)) rfl dX7_flow_39 ?_
    refine k_isub (v := 0) hx hb (by decide) dX7_flow_40 ?_
    refine lv_iload hx hb dX7_flow_41 (lv_at hl 0 rfl) ?_
    refine k_imul (v := 0) hx hb (by decide) dX7_flow_43 ?_
    refine lv_iconst (v := 4) hx hb dX7_flow_44 (by decide) ?_
    refine k_idiv (v := 0) hx hb (by decide) (by decide) dX7_flow_45 ?_
    exact x_iret () S hr hlk hsz htt hK E dX7_flow_46 rfl rfl ⟨Nat.le_of_ble_eq_true rfl, Nat.le_of_ble_eq_true rfl⟩ ⟨Nat.le_of_ble_eq_true rfl, Nat.le_of_ble_eq_true rfl⟩
  · have c1 : (nI (x / 8)) = (nI (y / 8)) := c1
    refine lv_aload_n hx hb dX7_flow_11 rfl (lv_at hl 0 rfl) ?_
    refine wg_X7_27 (v := .ref (b 6)) S hK E 0 rfl rfl dX7_flow_12 ?_
    refine lv_iload_n hx hb dX7_flow_15 rfl (lv_at hl 2 rfl) ?_
    refine lv_bipush (v := 8) hx hb dX7_flow_16 (by decide) ?_
    refine k_idiv (v := (nI (x / 8))) hx hb (by decide) (pk_div (a := x) (d := 8) (by omega) (by decide) (by decide)) dX7_flow_18 ?_
    refine w_ild (v := 4) S hK E 1 0 rfl rfl (vp_in_nI (n := (x / 8)) (by omega) (by decide)) rfl dX7_flow_19 ?_
    refine lv_goto (tgt := 32) hx hb dX7_flow_20 (by decide) ?_
    refine lv_istore (lv' := [(4, .int 4), (0, .ref (b 0)), (1, .ref lv), (2, .int (nI x)), (3, .int (nI y))]) hx hb dX7_flow_32 hl (by decide) rfl (fun ls hl => ?_)
    refine lv_aload_n hx hb dX7_flow_34 rfl (lv_at hl 2 rfl) ?_
    refine lv_iload_n hx hb dX7_flow_35 rfl (lv_at hl 3 rfl) ?_
    refine w_ild (v := 0) S hK E 3 0 rfl rfl (vp_in_nI (n := x) (by omega) (by decide)) rfl dX7_flow_36 ?_
    refine lv_aload_n hx hb dX7_flow_37 rfl (lv_at hl 2 rfl) ?_
    refine lv_iload_n hx hb dX7_flow_38 rfl (lv_at hl 4 rfl) ?_
    refine w_ild (v := 0) S hK E 3 0 rfl rfl (vp_in_nI (n := y) (by omega) (by decide)) rfl dX7_flow_39 ?_
    refine k_isub (v := 0) hx hb (by decide) dX7_flow_40 ?_
    refine lv_iload hx hb dX7_flow_41 (lv_at hl 0 rfl) ?_
    refine k_imul (v := 0) hx hb (by decide) dX7_flow_43 ?_
    refine lv_iconst (v := 4) hx hb dX7_flow_44 (by decide) ?_
    refine k_idiv (v := 0) hx hb (by decide) (by decide) dX7_flow_45 ?_
    exact x_iret () S hr hlk hsz htt hK E dX7_flow_46 rfl rfl ⟨Nat.le_of_ble_eq_true rfl, Nat.le_of_ble_eq_true rfl⟩ ⟨Nat.le_of_ble_eq_true rfl, Nat.le_of_ble_eq_true rfl⟩

set_option maxHeartbeats 4000000 in
set_option maxRecDepth 100000 in
/-- goes -/
theorem c_X7_goes (l : Launch) (g : Gm) (b : Nat → Nat) (mo : Nat) (lv : Nat) (x : Nat) (y : Nat) (hx0 : x < 16) (hy0 : y < 16) : MXv (S := Unit) l g yX7_goes cX7_goes 5 ({ frames := 1, cells := 0, slots := 0, locals := 24 } : Room) [.ref (b 0), .ref lv, .int (nI x), .int (nI y)] [((b 0), .inr (10, [.ref (b 1), .ref (b 2), .ref (b 3), .ref (b 4), .ref (b 5), .ref (b 6), .ref (b 7), .ref (b 8), .ref (b 9), .ref (b 10), .ref (b 11), .ref (b 12), .int 0, .int 0, .int (nI mo), .ref (b 13), .ref (b 14), .ref (b 16)])), ((b 6), .inl (g.2.1 0, 2, .inl (fun _ => 4))), ((b 7), .inl (g.2.1 0, 8, .inl (fun _ => 0))), ((b 3), .inl (g.2.1 0, 16, .inl (fun _ => 0))), ((b 11), .inl (g.2.1 0, 16, .inl (fun _ => 0))), ((b 12), .inl (g.2.1 0, 16, .inl (fun _ => 0))), (lv, .inl (g.2.1 0, 16, .inl (fun _ => 0)))] (fun _ => True) (fun _ => [((b 0), .inr (10, [.ref (b 1), .ref (b 2), .ref (b 3), .ref (b 4), .ref (b 5), .ref (b 6), .ref (b 7), .ref (b 8), .ref (b 9), .ref (b 10), .ref (b 11), .ref (b 12), .int 0, .int 0, .int (nI mo), .ref (b 13), .ref (b 14), .ref (b 16)])), ((b 6), .inl (g.2.1 0, 2, .inl (fun _ => 4))), ((b 7), .inl (g.2.1 0, 8, .inl (fun _ => 0))), ((b 3), .inl (g.2.1 0, 16, .inl (fun _ => 0))), ((b 11), .inl (g.2.1 0, 16, .inl (fun _ => 0))), ((b 12), .inl (g.2.1 0, 16, .inl (fun _ => 0))), (lv, .inl (g.2.1 0, 16, .inl (fun _ => 0)))]) (fun _ => (0, 0)) := by
  intro sz tt
  refine ofX RX7 rfl (by decide +kernel) (Nat.le_of_ble_eq_true rfl) (fun p e s m args below meth c hargs S hml hr hlk hnm hsz htt hK hA hZ E ls hl => ?_)
  have hx := S.1
  have hb := S.2.1
  have hl : lv_has ls 5 [(0, .ref (b 0)), (1, .ref lv), (2, .int (nI x)), (3, .int (nI y))] := hl
  refine lv_iconst (v := 0) hx hb dX7_goes_0 (by decide) ?_
  refine lv_aload_n hx hb dX7_goes_1 rfl (lv_at hl 0 rfl) ?_
  refine lv_aload_n hx hb dX7_goes_2 rfl (lv_at hl 1 rfl) ?_
  refine lv_iload_n hx hb dX7_goes_3 rfl (lv_at hl 2 rfl) ?_
  refine lv_iload_n hx hb dX7_goes_4 rfl (lv_at hl 3 rfl) ?_
  refine w_reti (runV_X (As := [.ref lv, .int (nI x), .int (nI y)]) (rest := [.int 0]) (q0 := 0) (n := 3) S hml hK (hZ.at E) (Cut.of (wc := [((b 0), .inr (10, [.ref (b 1), .ref (b 2), .ref (b 3), .ref (b 4), .ref (b 5), .ref (b 6), .ref (b 7), .ref (b 8), .ref (b 9), .ref (b 10), .ref (b 11), .ref (b 12), .int 0, .int 0, .int (nI mo), .ref (b 13), .ref (b 14), .ref (b 16)])), ((b 6), .inl (g.2.1 0, 2, .inl (fun _ => 4))), ((b 7), .inl (g.2.1 0, 8, .inl (fun _ => 0))), (lv, .inl (g.2.1 0, 16, .inl (fun _ => 0)))]) (wr := [((b 3), .inl (g.2.1 0, 16, .inl (fun _ => 0))), ((b 11), .inl (g.2.1 0, 16, .inl (fun _ => 0))), ((b 12), .inl (g.2.1 0, 16, .inl (fun _ => 0)))]) E hA [0, 1, 2, 6] [3, 4, 5] rfl rfl rfl rfl (by decide)) (c_X7_flow l g b mo lv x y (by omega) (by omega) _ _) (gi_wsV ml_X7_144 im_X7_flow sl_X7_flow in_X7 co_X7_flow) ⟨rfl, by decide +kernel, by decide +kernel, by decide +kernel⟩ ⟨Nat.le_of_ble_eq_true rfl, Nat.le_of_ble_eq_true rfl⟩ rfl rfl rfl hl.1 rfl (Nat.le_of_ble_eq_true rfl) dX7_goes_5 ⟨Nat.le_of_ble_eq_true rfl, Nat.le_of_ble_eq_true rfl⟩) (Cut.of (wc := [((b 0), .inr (10, [.ref (b 1), .ref (b 2), .ref (b 3), .ref (b 4), .ref (b 5), .ref (b 6), .ref (b 7), .ref (b 8), .ref (b 9), .ref (b 10), .ref (b 11), .ref (b 12), .int 0, .int 0, .int (nI mo), .ref (b 13), .ref (b 14), .ref (b 16)])), ((b 6), .inl (g.2.1 0, 2, .inl (fun _ => 4))), ((b 7), .inl (g.2.1 0, 8, .inl (fun _ => 0))), (lv, .inl (g.2.1 0, 16, .inl (fun _ => 0)))]) (wr := [((b 3), .inl (g.2.1 0, 16, .inl (fun _ => 0))), ((b 11), .inl (g.2.1 0, 16, .inl (fun _ => 0))), ((b 12), .inl (g.2.1 0, 16, .inl (fun _ => 0)))]) E hA [0, 1, 2, 6] [3, 4, 5] rfl rfl rfl rfl (by decide)) E (fun r1 u1 H locs hp E => ?_)
  have E : Ev g _ s.heap H locs [((b 3), .inl (g.2.1 0, 16, .inl (fun _ => 0))), ((b 11), .inl (g.2.1 0, 16, .inl (fun _ => 0))), ((b 12), .inl (g.2.1 0, 16, .inl (fun _ => 0))), ((b 0), .inr (10, [.ref (b 1), .ref (b 2), .ref (b 3), .ref (b 4), .ref (b 5), .ref (b 6), .ref (b 7), .ref (b 8), .ref (b 9), .ref (b 10), .ref (b 11), .ref (b 12), .int 0, .int 0, .int (nI mo), .ref (b 13), .ref (b 14), .ref (b 16)])), ((b 6), .inl (g.2.1 0, 2, .inl (fun _ => 4))), ((b 7), .inl (g.2.1 0, 8, .inl (fun _ => 0))), (lv, .inl (g.2.1 0, 16, .inl (fun _ => 0)))] := E
  subst hp
  refine w_max (v := 0) S hml hl ml_X7_113 st_max in_J9 co_max (Nat.le_of_ble_eq_true rfl) (Nat.le_of_ble_eq_true rfl) ⟨Nat.le_of_ble_eq_true rfl, Nat.le_of_ble_eq_true rfl⟩ (by decide) dX7_goes_8 ?_
  refine lv_aload_n hx hb dX7_goes_11 rfl (lv_at hl 0 rfl) ?_
  refine wg_X7_18 (v := .ref (b 3)) S hK E 3 rfl rfl dX7_goes_12 ?_
  refine lv_iload_n hx hb dX7_goes_15 rfl (lv_at hl 2 rfl) ?_
  refine w_ild (v := 0) S hK E 0 0 rfl rfl (vp_in_nI (n := x) (by omega) (by decide)) rfl dX7_goes_16 ?_
  refine w_min (v := 0) S hml hl ml_X7_119 st_min in_J9 co_min (Nat.le_of_ble_eq_true rfl) (Nat.le_of_ble_eq_true rfl) ⟨Nat.le_of_ble_eq_true rfl, Nat.le_of_ble_eq_true rfl⟩ (by decide) dX7_goes_17 ?_
  refine lv_istore (lv' := [(4, .int 0), (0, .ref (b 0)), (1, .ref lv), (2, .int (nI x)), (3, .int (nI y))]) hx hb dX7_goes_20 hl (by decide) rfl (fun ls hl => ?_)
  refine lv_aload_n hx hb dX7_goes_22 rfl (lv_at hl 1 rfl) ?_
  refine wg_X7_45 (v := .ref (b 12)) S hK E 3 rfl rfl dX7_goes_23 ?_
  refine lv_iload_n hx hb dX7_goes_26 rfl (lv_at hl 4 rfl) ?_
  refine lv_dup2_11 hx hb dX7_goes_27 rfl rfl ?_
  refine w_ild (v := 0) S hK E 2 0 rfl rfl (vp_in_nI (n := y) (by omega) (by decide)) rfl dX7_goes_28 ?_
  refine lv_aload_n hx hb dX7_goes_29 rfl (lv_at hl 1 rfl) ?_
  refine lv_iload_n hx hb dX7_goes_30 rfl (lv_at hl 3 rfl) ?_
  refine lv_iload hx hb dX7_goes_31 (lv_at hl 0 rfl) ?_
  refine w_reti (runV_X (As := [.int (nI x), .int 0]) (rest := [.int 0, .int (nI y), .ref (b 12)]) (q0 := 0) (n := 2) S hml hK (hZ.at E) (Cut.of (wc := [((b 0), .inr (10, [.ref (b 1), .ref (b 2), .ref (b 3), .ref (b 4), .ref (b 5), .ref (b 6), .ref (b 7), .ref (b 8), .ref (b 9), .ref (b 10), .ref (b 11), .ref (b 12), .int 0, .int 0, .int (nI mo), .ref (b 13), .ref (b 14), .ref (b 16)]))]) (wr := [((b 3), .inl (g.2.1 0, 16, .inl (fun _ => 0))), ((b 11), .inl (g.2.1 0, 16, .inl (fun _ => 0))), ((b 12), .inl (g.2.1 0, 16, .inl (fun _ => 0))), ((b 6), .inl (g.2.1 0, 2, .inl (fun _ => 4))), ((b 7), .inl (g.2.1 0, 8, .inl (fun _ => 0))), (lv, .inl (g.2.1 0, 16, .inl (fun _ => 0)))]) E hA [3] [0, 1, 2, 4, 5, 6] rfl rfl rfl rfl (by decide)) (c_X7_takes l g b mo (nI x) _ _) (gi_wsV ml_X7_125 im_X7_takes sl_X7_takes in_X7 co_X7_takes) ⟨rfl, by decide +kernel, by decide +kernel, by decide +kernel⟩ ⟨Nat.le_of_ble_eq_true rfl, Nat.le_of_ble_eq_true rfl⟩ rfl rfl rfl hl.1 rfl (Nat.le_of_ble_eq_true rfl) dX7_goes_33 ⟨Nat.le_of_ble_eq_true rfl, Nat.le_of_ble_eq_true rfl⟩) (Cut.of (wc := [((b 0), .inr (10, [.ref (b 1), .ref (b 2), .ref (b 3), .ref (b 4), .ref (b 5), .ref (b 6), .ref (b 7), .ref (b 8), .ref (b 9), .ref (b 10), .ref (b 11), .ref (b 12), .int 0, .int 0, .int (nI mo), .ref (b 13), .ref (b 14), .ref (b 16)]))]) (wr := [((b 3), .inl (g.2.1 0, 16, .inl (fun _ => 0))), ((b 11), .inl (g.2.1 0, 16, .inl (fun _ => 0))), ((b 12), .inl (g.2.1 0, 16, .inl (fun _ => 0))), ((b 6), .inl (g.2.1 0, 2, .inl (fun _ => 4))), ((b 7), .inl (g.2.1 0, 8, .inl (fun _ => 0))), (lv, .inl (g.2.1 0, 16, .inl (fun _ => 0)))]) E hA [3] [0, 1, 2, 4, 5, 6] rfl rfl rfl rfl (by decide)) E (fun r2 u2 H locs hp E => ?_)
  have E : Ev g _ s.heap H locs [((b 3), .inl (g.2.1 0, 16, .inl (fun _ => 0))), ((b 11), .inl (g.2.1 0, 16, .inl (fun _ => 0))), ((b 12), .inl (g.2.1 0, 16, .inl (fun _ => 0))), ((b 6), .inl (g.2.1 0, 2, .inl (fun _ => 4))), ((b 7), .inl (g.2.1 0, 8, .inl (fun _ => 0))), (lv, .inl (g.2.1 0, 16, .inl (fun _ => 0))), ((b 0), .inr (10, [.ref (b 1), .ref (b 2), .ref (b 3), .ref (b 4), .ref (b 5), .ref (b 6), .ref (b 7), .ref (b 8), .ref (b 9), .ref (b 10), .ref (b 11), .ref (b 12), .int 0, .int 0, .int (nI mo), .ref (b 13), .ref (b 14), .ref (b 16)]))] := E
  subst hp
  refine k_iadd (v := 0) hx hb (by decide) dX7_goes_36 ?_
  refine w_ist (w' := [((b 3), .inl (g.2.1 0, 16, .inl (fun _ => 0))), ((b 11), .inl (g.2.1 0, 16, .inl (fun _ => 0))), ((b 12), .inl (g.2.1 0, 16, .inl (fun _ => 0))), ((b 6), .inl (g.2.1 0, 2, .inl (fun _ => 4))), ((b 7), .inl (g.2.1 0, 8, .inl (fun _ => 0))), (lv, .inl (g.2.1 0, 16, .inl (fun _ => 0))), ((b 0), .inr (10, [.ref (b 1), .ref (b 2), .ref (b 3), .ref (b 4), .ref (b 5), .ref (b 6), .ref (b 7), .ref (b 8), .ref (b 9), .ref (b 10), .ref (b 11), .ref (b 12), .int 0, .int 0, .int (nI mo), .ref (b 13), .ref (b 14), .ref (b 16)]))]) S hK E 2 0 rfl rfl (vp_in_nI (n := y) (by omega) (by decide)) (by rw [upd_c]; rfl) dX7_goes_37 (fun H locs E => ?_)
  refine lv_aload_n hx hb dX7_goes_38 rfl (lv_at hl 1 rfl) ?_
  refine wg_X7_42 (v := .ref (b 11)) S hK E 6 rfl rfl dX7_goes_39 ?_
  refine lv_iload_n hx hb dX7_goes_42 rfl (lv_at hl 4 rfl) ?_
  refine lv_dup2_11 hx hb dX7_goes_43 rfl rfl ?_
  refine w_ild (v := 0) S hK E 1 0 rfl rfl (vp_in_nI (n := y) (by omega) (by decide)) rfl dX7_goes_44 ?_
  refine lv_iload hx hb dX7_goes_45 (lv_at hl 0 rfl) ?_
  refine k_iadd (v := 0) hx hb (by decide) dX7_goes_47 ?_
  refine w_ist (w' := [((b 3), .inl (g.2.1 0, 16, .inl (fun _ => 0))), ((b 11), .inl (g.2.1 0, 16, .inl (fun _ => 0))), ((b 12), .inl (g.2.1 0, 16, .inl (fun _ => 0))), ((b 6), .inl (g.2.1 0, 2, .inl (fun _ => 4))), ((b 7), .inl (g.2.1 0, 8, .inl (fun _ => 0))), (lv, .inl (g.2.1 0, 16, .inl (fun _ => 0))), ((b 0), .inr (10, [.ref (b 1), .ref (b 2), .ref (b 3), .ref (b 4), .ref (b 5), .ref (b 6), .ref (b 7), .ref (b 8), .ref (b 9), .ref (b 10), .ref (b 11), .ref (b 12), .int 0, .int 0, .int (nI mo), .ref (b 13), .ref (b 14), .ref (b 16)]))]) S hK E 1 0 rfl rfl (vp_in_nI (n := y) (by omega) (by decide)) (by rw [upd_c]; rfl) dX7_goes_48 (fun H locs E => ?_)
  have E : Ev g _ s.heap H locs [((b 0), .inr (10, [.ref (b 1), .ref (b 2), .ref (b 3), .ref (b 4), .ref (b 5), .ref (b 6), .ref (b 7), .ref (b 8), .ref (b 9), .ref (b 10), .ref (b 11), .ref (b 12), .int 0, .int 0, .int (nI mo), .ref (b 13), .ref (b 14), .ref (b 16)])), ((b 6), .inl (g.2.1 0, 2, .inl (fun _ => 4))), ((b 7), .inl (g.2.1 0, 8, .inl (fun _ => 0))), ((b 3), .inl (g.2.1 0, 16, .inl (fun _ => 0))), ((b 11), .inl (g.2.1 0, 16, .inl (fun _ => 0))), ((b 12), .inl (g.2.1 0, 16, .inl (fun _ => 0))), (lv, .inl (g.2.1 0, 16, .inl (fun _ => 0)))] := Ev.sub E [6, 3, 4, 0, 1, 2, 5] rfl rfl
  exact x_vret () S hr hlk hsz htt hK E dX7_goes_49 trivial rfl ⟨Nat.le_of_ble_eq_true rfl, Nat.le_of_ble_eq_true rfl⟩ ⟨Nat.le_of_ble_eq_true rfl, Nat.le_of_ble_eq_true rfl⟩

set_option maxHeartbeats 4000000 in
set_option maxRecDepth 100000 in
/-- flowAll -/
theorem c_X7_flowAll (l : Launch) (g : Gm) (b : Nat → Nat) (mo : Nat) : MXv (S := Unit) l g yX7_flowAll cX7_flowAll 4 ({ frames := 2, cells := 1, slots := 16, locals := 48 } : Room) [.ref (b 0)] [((b 0), .inr (10, [.ref (b 1), .ref (b 2), .ref (b 3), .ref (b 4), .ref (b 5), .ref (b 6), .ref (b 7), .ref (b 8), .ref (b 9), .ref (b 10), .ref (b 11), .ref (b 12), .int 0, .int 0, .int (nI mo), .ref (b 13), .ref (b 14), .ref (b 16)])), ((b 1), .inl (g.2.1 0, 16, .inl (fun _ => 0))), ((b 2), .inl (g.2.1 0, 16, .inl (fun _ => 10))), ((b 3), .inl (g.2.1 0, 16, .inl (fun _ => 0))), ((b 4), .inl (g.2.1 0, 16, .inl (fun _ => 0))), ((b 6), .inl (g.2.1 0, 2, .inl (fun _ => 4))), ((b 7), .inl (g.2.1 0, 8, .inl (fun _ => 0))), ((b 11), .inl (g.2.1 0, 16, .inl (fun _ => 0))), ((b 12), .inl (g.2.1 0, 16, .inl (fun _ => 0)))] (fun _ => True) (fun _ => [((b 0), .inr (10, [.ref (b 1), .ref (b 2), .ref (b 3), .ref (b 4), .ref (b 5), .ref (b 6), .ref (b 7), .ref (b 8), .ref (b 9), .ref (b 10), .ref (b 11), .ref (b 12), .int 0, .int 0, .int (nI mo), .ref (b 13), .ref (b 14), .ref (b 16)])), ((b 1), .inl (g.2.1 0, 16, .inl (fun _ => 0))), ((b 2), .inl (g.2.1 0, 16, .inl (fun _ => 10))), ((b 3), .inl (g.2.1 0, 16, .inl (fun _ => 0))), ((b 4), .inl (g.2.1 0, 16, .inl (fun _ => 0))), ((b 6), .inl (g.2.1 0, 2, .inl (fun _ => 4))), ((b 7), .inl (g.2.1 0, 8, .inl (fun _ => 0))), ((b 11), .inl (g.2.1 0, 16, .inl (fun _ => 0))), ((b 12), .inl (g.2.1 0, 16, .inl (fun _ => 0)))]) (fun _ => (1, 16)) := by
  intro sz tt
  refine ofX RX7 rfl (by decide +kernel) (Nat.le_of_ble_eq_true rfl) (fun p e s m args below meth c hargs S hml hr hlk hnm hsz htt hK hA hZ E ls hl => ?_)
  have hx := S.1
  have hb := S.2.1
  have hl : lv_has ls 4 [(0, .ref (b 0))] := hl
  refine lv_bipush (v := 16) hx hb dX7_flowAll_0 (by decide) ?_
  refine w_newa (atype := .int) (ty := .int) (a0 := (16, .inl (fun _ => 0))) (N' := 16) 0 S hK E hA ac_int rfl rfl (fun C h => by cases h) (fun cA => by first | rfl | (rw [vp_cell_i]; rfl)) (by decide) (by decide) (by decide) (Nat.le_of_ble_eq_true rfl) (Nat.le_of_ble_eq_true rfl) dX7_flowAll_2 (fun q1 H E => ?_)
  have E : Ev g _ s.heap H _ [((b 0), .inr (10, [.ref (b 1), .ref (b 2), .ref (b 3), .ref (b 4), .ref (b 5), .ref (b 6), .ref (b 7), .ref (b 8), .ref (b 9), .ref (b 10), .ref (b 11), .ref (b 12), .int 0, .int 0, .int (nI mo), .ref (b 13), .ref (b 14), .ref (b 16)])), ((b 1), .inl (g.2.1 0, 16, .inl (fun _ => 0))), ((b 2), .inl (g.2.1 0, 16, .inl (fun _ => 10))), ((b 3), .inl (g.2.1 0, 16, .inl (fun _ => 0))), ((b 4), .inl (g.2.1 0, 16, .inl (fun _ => 0))), ((b 6), .inl (g.2.1 0, 2, .inl (fun _ => 4))), ((b 7), .inl (g.2.1 0, 8, .inl (fun _ => 0))), ((b 11), .inl (g.2.1 0, 16, .inl (fun _ => 0))), ((b 12), .inl (g.2.1 0, 16, .inl (fun _ => 0))), (q1, .inl (g.2.1 0, 16, .inl (fun _ => 0)))] := E
  refine lv_astore_n (lv' := [(1, .ref q1), (0, .ref (b 0))]) hx hb dX7_flowAll_4 rfl hl (by decide) rfl (fun ls hl => ?_)
  refine lv_iconst (v := 0) hx hb dX7_flowAll_5 (by decide) ?_
  refine lv_istore_n (lv' := [(2, .int 0), (1, .ref q1), (0, .ref (b 0))]) hx hb dX7_flowAll_6 rfl hl (by decide) rfl (fun ls hl => ?_)
  have L2 : ∀ (k2 i2 : Nat), i2 + k2 = 16 → ∀ (H : Heap) (locs : List Loc), Ev g (va_A [((b 0), .inr (10, [.ref (b 1), .ref (b 2), .ref (b 3), .ref (b 4), .ref (b 5), .ref (b 6), .ref (b 7), .ref (b 8), .ref (b 9), .ref (b 10), .ref (b 11), .ref (b 12), .int 0, .int 0, .int (nI mo), .ref (b 13), .ref (b 14), .ref (b 16)])), ((b 1), .inl (g.2.1 0, 16, .inl (fun _ => 0))), ((b 2), .inl (g.2.1 0, 16, .inl (fun _ => 10))), ((b 3), .inl (g.2.1 0, 16, .inl (fun _ => 0))), ((b 4), .inl (g.2.1 0, 16, .inl (fun _ => 0))), ((b 6), .inl (g.2.1 0, 2, .inl (fun _ => 4))), ((b 7), .inl (g.2.1 0, 8, .inl (fun _ => 0))), ((b 11), .inl (g.2.1 0, 16, .inl (fun _ => 0))), ((b 12), .inl (g.2.1 0, 16, .inl (fun _ => 0)))] sz) s.heap H locs [((b 0), .inr (10, [.ref (b 1), .ref (b 2), .ref (b 3), .ref (b 4), .ref (b 5), .ref (b 6), .ref (b 7), .ref (b 8), .ref (b 9), .ref (b 10), .ref (b 11), .ref (b 12), .int 0, .int 0, .int (nI mo), .ref (b 13), .ref (b 14), .ref (b 16)])), ((b 1), .inl (g.2.1 0, 16, .inl (fun _ => 0))), ((b 2), .inl (g.2.1 0, 16, .inl (fun _ => 10))), ((b 3), .inl (g.2.1 0, 16, .inl (fun _ => 0))), ((b 4), .inl (g.2.1 0, 16, .inl (fun _ => 0))), ((b 6), .inl (g.2.1 0, 2, .inl (fun _ => 4))), ((b 7), .inl (g.2.1 0, 8, .inl (fun _ => 0))), ((b 11), .inl (g.2.1 0, 16, .inl (fun _ => 0))), ((b 12), .inl (g.2.1 0, 16, .inl (fun _ => 0))), (q1, .inl (g.2.1 0, 16, .inl (fun _ => 0)))] → ∀ ls : Array Slot, lv_has ls 4 [(2, .int (nI i2)), (1, .ref q1), (0, .ref (b 0))] → W p l e ({ frames := 2, cells := 1, slots := 16, locals := 48 } : Room) s m args below meth c H locs 1 16 (MQ below (va_Qv (S := Unit) (fun _ => True) (AtX g (va_A [((b 0), .inr (10, [.ref (b 1), .ref (b 2), .ref (b 3), .ref (b 4), .ref (b 5), .ref (b 6), .ref (b 7), .ref (b 8), .ref (b 9), .ref (b 10), .ref (b 11), .ref (b 12), .int 0, .int 0, .int (nI mo), .ref (b 13), .ref (b 14), .ref (b 16)])), ((b 1), .inl (g.2.1 0, 16, .inl (fun _ => 0))), ((b 2), .inl (g.2.1 0, 16, .inl (fun _ => 10))), ((b 3), .inl (g.2.1 0, 16, .inl (fun _ => 0))), ((b 4), .inl (g.2.1 0, 16, .inl (fun _ => 0))), ((b 6), .inl (g.2.1 0, 2, .inl (fun _ => 4))), ((b 7), .inl (g.2.1 0, 8, .inl (fun _ => 0))), ((b 11), .inl (g.2.1 0, 16, .inl (fun _ => 0))), ((b 12), .inl (g.2.1 0, 16, .inl (fun _ => 0)))] sz) (fun _ => [((b 0), .inr (10, [.ref (b 1), .ref (b 2), .ref (b 3), .ref (b 4), .ref (b 5), .ref (b 6), .ref (b 7), .ref (b 8), .ref (b 9), .ref (b 10), .ref (b 11), .ref (b 12), .int 0, .int 0, .int (nI mo), .ref (b 13), .ref (b 14), .ref (b 16)])), ((b 1), .inl (g.2.1 0, 16, .inl (fun _ => 0))), ((b 2), .inl (g.2.1 0, 16, .inl (fun _ => 10))), ((b 3), .inl (g.2.1 0, 16, .inl (fun _ => 0))), ((b 4), .inl (g.2.1 0, 16, .inl (fun _ => 0))), ((b 6), .inl (g.2.1 0, 2, .inl (fun _ => 4))), ((b 7), .inl (g.2.1 0, 8, .inl (fun _ => 0))), ((b 11), .inl (g.2.1 0, 16, .inl (fun _ => 0))), ((b 12), .inl (g.2.1 0, 16, .inl (fun _ => 0)))]) (fun _ => (1, 16)) sz tt) (va_A [((b 0), .inr (10, [.ref (b 1), .ref (b 2), .ref (b 3), .ref (b 4), .ref (b 5), .ref (b 6), .ref (b 7), .ref (b 8), .ref (b 9), .ref (b 10), .ref (b 11), .ref (b 12), .int 0, .int 0, .int (nI mo), .ref (b 13), .ref (b 14), .ref (b 16)])), ((b 1), .inl (g.2.1 0, 16, .inl (fun _ => 0))), ((b 2), .inl (g.2.1 0, 16, .inl (fun _ => 10))), ((b 3), .inl (g.2.1 0, 16, .inl (fun _ => 0))), ((b 4), .inl (g.2.1 0, 16, .inl (fun _ => 0))), ((b 6), .inl (g.2.1 0, 2, .inl (fun _ => 4))), ((b 7), .inl (g.2.1 0, 8, .inl (fun _ => 0))), ((b 11), .inl (g.2.1 0, 16, .inl (fun _ => 0))), ((b 12), .inl (g.2.1 0, 16, .inl (fun _ => 0)))] sz)) args s 1 16 (va_A [((b 0), .inr (10, [.ref (b 1), .ref (b 2), .ref (b 3), .ref (b 4), .ref (b 5), .ref (b 6), .ref (b 7), .ref (b 8), .ref (b 9), .ref (b 10), .ref (b 11), .ref (b 12), .int 0, .int 0, .int (nI mo), .ref (b 13), .ref (b 14), .ref (b 16)])), ((b 1), .inl (g.2.1 0, 16, .inl (fun _ => 0))), ((b 2), .inl (g.2.1 0, 16, .inl (fun _ => 10))), ((b 3), .inl (g.2.1 0, 16, .inl (fun _ => 0))), ((b 4), .inl (g.2.1 0, 16, .inl (fun _ => 0))), ((b 6), .inl (g.2.1 0, 2, .inl (fun _ => 4))), ((b 7), .inl (g.2.1 0, 8, .inl (fun _ => 0))), ((b 11), .inl (g.2.1 0, 16, .inl (fun _ => 0))), ((b 12), .inl (g.2.1 0, 16, .inl (fun _ => 0)))] sz)) (F0 m 7 ls []) := by
    intro k2
    induction k2 with
    | zero =>
      intro i2 hi2 H locs E ls hl
      obtain rfl : i2 = 16 := by omega
      have hl : lv_has ls 4 [(2, .int (nI 16)), (1, .ref q1), (0, .ref (b 0))] := hl
      refine lv_iload_n hx hb dX7_flowAll_7 rfl (lv_at hl 0 rfl) ?_
      refine lv_bipush (v := 16) hx hb dX7_flowAll_8 (by decide) ?_
      refine lv_icmp_ge (tgt := 41) hx hb dX7_flowAll_10 (by decide) (fun _ => ?_) (fun c_ => absurd (show 16 ≤ (nI 16) by decide) c_)
      refine lv_iconst (v := 0) hx hb dX7_flowAll_41 (by decide) ?_
      refine lv_istore_n (lv' := [(2, .int 0), (1, .ref q1), (0, .ref (b 0))]) hx hb dX7_flowAll_42 rfl hl (by decide) rfl (fun ls hl => ?_)
      have L3 : ∀ (k3 i3 : Nat), i3 + k3 = 16 → ∀ (H : Heap) (locs : List Loc), Ev g (va_A [((b 0), .inr (10, [.ref (b 1), .ref (b 2), .ref (b 3), .ref (b 4), .ref (b 5), .ref (b 6), .ref (b 7), .ref (b 8), .ref (b 9), .ref (b 10), .ref (b 11), .ref (b 12), .int 0, .int 0, .int (nI mo), .ref (b 13), .ref (b 14), .ref (b 16)])), ((b 1), .inl (g.2.1 0, 16, .inl (fun _ => 0))), ((b 2), .inl (g.2.1 0, 16, .inl (fun _ => 10))), ((b 3), .inl (g.2.1 0, 16, .inl (fun _ => 0))), ((b 4), .inl (g.2.1 0, 16, .inl (fun _ => 0))), ((b 6), .inl (g.2.1 0, 2, .inl (fun _ => 4))), ((b 7), .inl (g.2.1 0, 8, .inl (fun _ => 0))), ((b 11), .inl (g.2.1 0, 16, .inl (fun _ => 0))), ((b 12), .inl (g.2.1 0, 16, .inl (fun _ => 0)))] sz) s.heap H locs [((b 0), .inr (10, [.ref (b 1), .ref (b 2), .ref (b 3), .ref (b 4), .ref (b 5), .ref (b 6), .ref (b 7), .ref (b 8), .ref (b 9), .ref (b 10), .ref (b 11), .ref (b 12), .int 0, .int 0, .int (nI mo), .ref (b 13), .ref (b 14), .ref (b 16)])), ((b 1), .inl (g.2.1 0, 16, .inl (fun _ => 0))), ((b 2), .inl (g.2.1 0, 16, .inl (fun _ => 10))), ((b 3), .inl (g.2.1 0, 16, .inl (fun _ => 0))), ((b 4), .inl (g.2.1 0, 16, .inl (fun _ => 0))), ((b 6), .inl (g.2.1 0, 2, .inl (fun _ => 4))), ((b 7), .inl (g.2.1 0, 8, .inl (fun _ => 0))), ((b 11), .inl (g.2.1 0, 16, .inl (fun _ => 0))), ((b 12), .inl (g.2.1 0, 16, .inl (fun _ => 0))), (q1, .inl (g.2.1 0, 16, .inl (fun _ => 0)))] → ∀ ls : Array Slot, lv_has ls 4 [(2, .int (nI i3)), (1, .ref q1), (0, .ref (b 0))] → W p l e ({ frames := 2, cells := 1, slots := 16, locals := 48 } : Room) s m args below meth c H locs 1 16 (MQ below (va_Qv (S := Unit) (fun _ => True) (AtX g (va_A [((b 0), .inr (10, [.ref (b 1), .ref (b 2), .ref (b 3), .ref (b 4), .ref (b 5), .ref (b 6), .ref (b 7), .ref (b 8), .ref (b 9), .ref (b 10), .ref (b 11), .ref (b 12), .int 0, .int 0, .int (nI mo), .ref (b 13), .ref (b 14), .ref (b 16)])), ((b 1), .inl (g.2.1 0, 16, .inl (fun _ => 0))), ((b 2), .inl (g.2.1 0, 16, .inl (fun _ => 10))), ((b 3), .inl (g.2.1 0, 16, .inl (fun _ => 0))), ((b 4), .inl (g.2.1 0, 16, .inl (fun _ => 0))), ((b 6), .inl (g.2.1 0, 2, .inl (fun _ => 4))), ((b 7), .inl (g.2.1 0, 8, .inl (fun _ => 0))), ((b 11), .inl (g.2.1 0, 16, .inl (fun _ => 0))), ((b 12), .inl (g.2.1 0, 16, .inl (fun _ => 0)))] sz) (fun _ => [((b 0), .inr (10, [.ref (b 1), .ref (b 2), .ref (b 3), .ref (b 4), .ref (b 5), .ref (b 6), .ref (b 7), .ref (b 8), .ref (b 9), .ref (b 10), .ref (b 11), .ref (b 12), .int 0, .int 0, .int (nI mo), .ref (b 13), .ref (b 14), .ref (b 16)])), ((b 1), .inl (g.2.1 0, 16, .inl (fun _ => 0))), ((b 2), .inl (g.2.1 0, 16, .inl (fun _ => 10))), ((b 3), .inl (g.2.1 0, 16, .inl (fun _ => 0))), ((b 4), .inl (g.2.1 0, 16, .inl (fun _ => 0))), ((b 6), .inl (g.2.1 0, 2, .inl (fun _ => 4))), ((b 7), .inl (g.2.1 0, 8, .inl (fun _ => 0))), ((b 11), .inl (g.2.1 0, 16, .inl (fun _ => 0))), ((b 12), .inl (g.2.1 0, 16, .inl (fun _ => 0)))]) (fun _ => (1, 16)) sz tt) (va_A [((b 0), .inr (10, [.ref (b 1), .ref (b 2), .ref (b 3), .ref (b 4), .ref (b 5), .ref (b 6), .ref (b 7), .ref (b 8), .ref (b 9), .ref (b 10), .ref (b 11), .ref (b 12), .int 0, .int 0, .int (nI mo), .ref (b 13), .ref (b 14), .ref (b 16)])), ((b 1), .inl (g.2.1 0, 16, .inl (fun _ => 0))), ((b 2), .inl (g.2.1 0, 16, .inl (fun _ => 10))), ((b 3), .inl (g.2.1 0, 16, .inl (fun _ => 0))), ((b 4), .inl (g.2.1 0, 16, .inl (fun _ => 0))), ((b 6), .inl (g.2.1 0, 2, .inl (fun _ => 4))), ((b 7), .inl (g.2.1 0, 8, .inl (fun _ => 0))), ((b 11), .inl (g.2.1 0, 16, .inl (fun _ => 0))), ((b 12), .inl (g.2.1 0, 16, .inl (fun _ => 0)))] sz)) args s 1 16 (va_A [((b 0), .inr (10, [.ref (b 1), .ref (b 2), .ref (b 3), .ref (b 4), .ref (b 5), .ref (b 6), .ref (b 7), .ref (b 8), .ref (b 9), .ref (b 10), .ref (b 11), .ref (b 12), .int 0, .int 0, .int (nI mo), .ref (b 13), .ref (b 14), .ref (b 16)])), ((b 1), .inl (g.2.1 0, 16, .inl (fun _ => 0))), ((b 2), .inl (g.2.1 0, 16, .inl (fun _ => 10))), ((b 3), .inl (g.2.1 0, 16, .inl (fun _ => 0))), ((b 4), .inl (g.2.1 0, 16, .inl (fun _ => 0))), ((b 6), .inl (g.2.1 0, 2, .inl (fun _ => 4))), ((b 7), .inl (g.2.1 0, 8, .inl (fun _ => 0))), ((b 11), .inl (g.2.1 0, 16, .inl (fun _ => 0))), ((b 12), .inl (g.2.1 0, 16, .inl (fun _ => 0)))] sz)) (F0 m 43 ls []) := by
        intro k3
        induction k3 with
        | zero =>
          intro i3 hi3 H locs E ls hl
          obtain rfl : i3 = 16 := by omega
          have hl : lv_has ls 4 [(2, .int (nI 16)), (1, .ref q1), (0, .ref (b 0))] := hl
          refine lv_iload_n hx hb dX7_flowAll_43 rfl (lv_at hl 0 rfl) ?_
          refine lv_bipush (v := 16) hx hb dX7_flowAll_44 (by decide) ?_
          refine lv_icmp_ge (tgt := 101) hx hb dX7_flowAll_46 (by decide) (fun _ => ?_) (fun c_ => absurd (show 16 ≤ (nI 16) by decide) c_)
          refine lv_iconst (v := 0) hx hb dX7_flowAll_101 (by decide) ?_
          refine lv_istore_n (lv' := [(2, .int 0), (1, .ref q1), (0, .ref (b 0))]) hx hb dX7_flowAll_102 rfl hl (by decide) rfl (fun ls hl => ?_)
          have L4 : ∀ (k4 i4 : Nat), i4 + k4 = 16 → ∀ (H : Heap) (locs : List Loc), Ev g (va_A [((b 0), .inr (10, [.ref (b 1), .ref (b 2), .ref (b 3), .ref (b 4), .ref (b 5), .ref (b 6), .ref (b 7), .ref (b 8), .ref (b 9), .ref (b 10), .ref (b 11), .ref (b 12), .int 0, .int 0, .int (nI mo), .ref (b 13), .ref (b 14), .ref (b 16)])), ((b 1), .inl (g.2.1 0, 16, .inl (fun _ => 0))), ((b 2), .inl (g.2.1 0, 16, .inl (fun _ => 10))), ((b 3), .inl (g.2.1 0, 16, .inl (fun _ => 0))), ((b 4), .inl (g.2.1 0, 16, .inl (fun _ => 0))), ((b 6), .inl (g.2.1 0, 2, .inl (fun _ => 4))), ((b 7), .inl (g.2.1 0, 8, .inl (fun _ => 0))), ((b 11), .inl (g.2.1 0, 16, .inl (fun _ => 0))), ((b 12), .inl (g.2.1 0, 16, .inl (fun _ => 0)))] sz) s.heap H locs [((b 0), .inr (10, [.ref (b 1), .ref (b 2), .ref (b 3), .ref (b 4), .ref (b 5), .ref (b 6), .ref (b 7), .ref (b 8), .ref (b 9), .ref (b 10), .ref (b 11), .ref (b 12), .int 0, .int 0, .int (nI mo), .ref (b 13), .ref (b 14), .ref (b 16)])), ((b 1), .inl (g.2.1 0, 16, .inl (fun _ => 0))), ((b 2), .inl (g.2.1 0, 16, .inl (fun _ => 10))), ((b 3), .inl (g.2.1 0, 16, .inl (fun _ => 0))), ((b 4), .inl (g.2.1 0, 16, .inl (fun _ => 0))), ((b 6), .inl (g.2.1 0, 2, .inl (fun _ => 4))), ((b 7), .inl (g.2.1 0, 8, .inl (fun _ => 0))), ((b 11), .inl (g.2.1 0, 16, .inl (fun _ => 0))), ((b 12), .inl (g.2.1 0, 16, .inl (fun _ => 0))), (q1, .inl (g.2.1 0, 16, .inl (fun _ => 0)))] → ∀ ls : Array Slot, lv_has ls 4 [(2, .int (nI i4)), (1, .ref q1), (0, .ref (b 0))] → W p l e ({ frames := 2, cells := 1, slots := 16, locals := 48 } : Room) s m args below meth c H locs 1 16 (MQ below (va_Qv (S := Unit) (fun _ => True) (AtX g (va_A [((b 0), .inr (10, [.ref (b 1), .ref (b 2), .ref (b 3), .ref (b 4), .ref (b 5), .ref (b 6), .ref (b 7), .ref (b 8), .ref (b 9), .ref (b 10), .ref (b 11), .ref (b 12), .int 0, .int 0, .int (nI mo), .ref (b 13), .ref (b 14), .ref (b 16)])), ((b 1), .inl (g.2.1 0, 16, .inl (fun _ => 0))), ((b 2), .inl (g.2.1 0, 16, .inl (fun _ => 10))), ((b 3), .inl (g.2.1 0, 16, .inl (fun _ => 0))), ((b 4), .inl (g.2.1 0, 16, .inl (fun _ => 0))), ((b 6), .inl (g.2.1 0, 2, .inl (fun _ => 4))), ((b 7), .inl (g.2.1 0, 8, .inl (fun _ => 0))), ((b 11), .inl (g.2.1 0, 16, .inl (fun _ => 0))), ((b 12), .inl (g.2.1 0, 16, .inl (fun _ => 0)))] sz) (fun _ => [((b 0), .inr (10, [.ref (b 1), .ref (b 2), .ref (b 3), .ref (b 4), .ref (b 5), .ref (b 6), .ref (b 7), .ref (b 8), .ref (b 9), .ref (b 10), .ref (b 11), .ref (b 12), .int 0, .int 0, .int (nI mo), .ref (b 13), .ref (b 14), .ref (b 16)])), ((b 1), .inl (g.2.1 0, 16, .inl (fun _ => 0))), ((b 2), .inl (g.2.1 0, 16, .inl (fun _ => 10))), ((b 3), .inl (g.2.1 0, 16, .inl (fun _ => 0))), ((b 4), .inl (g.2.1 0, 16, .inl (fun _ => 0))), ((b 6), .inl (g.2.1 0, 2, .inl (fun _ => 4))), ((b 7), .inl (g.2.1 0, 8, .inl (fun _ => 0))), ((b 11), .inl (g.2.1 0, 16, .inl (fun _ => 0))), ((b 12), .inl (g.2.1 0, 16, .inl (fun _ => 0)))]) (fun _ => (1, 16)) sz tt) (va_A [((b 0), .inr (10, [.ref (b 1), .ref (b 2), .ref (b 3), .ref (b 4), .ref (b 5), .ref (b 6), .ref (b 7), .ref (b 8), .ref (b 9), .ref (b 10), .ref (b 11), .ref (b 12), .int 0, .int 0, .int (nI mo), .ref (b 13), .ref (b 14), .ref (b 16)])), ((b 1), .inl (g.2.1 0, 16, .inl (fun _ => 0))), ((b 2), .inl (g.2.1 0, 16, .inl (fun _ => 10))), ((b 3), .inl (g.2.1 0, 16, .inl (fun _ => 0))), ((b 4), .inl (g.2.1 0, 16, .inl (fun _ => 0))), ((b 6), .inl (g.2.1 0, 2, .inl (fun _ => 4))), ((b 7), .inl (g.2.1 0, 8, .inl (fun _ => 0))), ((b 11), .inl (g.2.1 0, 16, .inl (fun _ => 0))), ((b 12), .inl (g.2.1 0, 16, .inl (fun _ => 0)))] sz)) args s 1 16 (va_A [((b 0), .inr (10, [.ref (b 1), .ref (b 2), .ref (b 3), .ref (b 4), .ref (b 5), .ref (b 6), .ref (b 7), .ref (b 8), .ref (b 9), .ref (b 10), .ref (b 11), .ref (b 12), .int 0, .int 0, .int (nI mo), .ref (b 13), .ref (b 14), .ref (b 16)])), ((b 1), .inl (g.2.1 0, 16, .inl (fun _ => 0))), ((b 2), .inl (g.2.1 0, 16, .inl (fun _ => 10))), ((b 3), .inl (g.2.1 0, 16, .inl (fun _ => 0))), ((b 4), .inl (g.2.1 0, 16, .inl (fun _ => 0))), ((b 6), .inl (g.2.1 0, 2, .inl (fun _ => 4))), ((b 7), .inl (g.2.1 0, 8, .inl (fun _ => 0))), ((b 11), .inl (g.2.1 0, 16, .inl (fun _ => 0))), ((b 12), .inl (g.2.1 0, 16, .inl (fun _ => 0)))] sz)) (F0 m 103 ls []) := by
            intro k4
            induction k4 with
            | zero =>
              intro i4 hi4 H locs E ls hl
              obtain rfl : i4 = 16 := by omega
              have hl : lv_has ls 4 [(2, .int (nI 16)), (1, .ref q1), (0, .ref (b 0))] := hl
              refine lv_iload_n hx hb dX7_flowAll_103 rfl (lv_at hl 0 rfl) ?_
              refine lv_bipush (v := 16) hx hb dX7_flowAll_104 (by decide) ?_
              refine lv_icmp_ge (tgt := 145) hx hb dX7_flowAll_106 (by decide) (fun _ => ?_) (fun c_ => absurd (show 16 ≤ (nI 16) by decide) c_)
              have E : Ev g _ s.heap H locs [((b 0), .inr (10, [.ref (b 1), .ref (b 2), .ref (b 3), .ref (b 4), .ref (b 5), .ref (b 6), .ref (b 7), .ref (b 8), .ref (b 9), .ref (b 10), .ref (b 11), .ref (b 12), .int 0, .int 0, .int (nI mo), .ref (b 13), .ref (b 14), .ref (b 16)])), ((b 1), .inl (g.2.1 0, 16, .inl (fun _ => 0))), ((b 2), .inl (g.2.1 0, 16, .inl (fun _ => 10))), ((b 3), .inl (g.2.1 0, 16, .inl (fun _ => 0))), ((b 4), .inl (g.2.1 0, 16, .inl (fun _ => 0))), ((b 6), .inl (g.2.1 0, 2, .inl (fun _ => 4))), ((b 7), .inl (g.2.1 0, 8, .inl (fun _ => 0))), ((b 11), .inl (g.2.1 0, 16, .inl (fun _ => 0))), ((b 12), .inl (g.2.1 0, 16, .inl (fun _ => 0)))] := Ev.sub E [0, 1, 2, 3, 4, 5, 6, 7, 8] rfl rfl
              exact x_vret () S hr hlk hsz htt hK E dX7_flowAll_145 trivial rfl ⟨Nat.le_of_ble_eq_true rfl, Nat.le_of_ble_eq_true rfl⟩ ⟨Nat.le_of_ble_eq_true rfl, Nat.le_of_ble_eq_true rfl⟩
            | succ k4 ih4 =>
              intro i4 hi4 H locs E ls hl
              have hl : lv_has ls 4 [(2, .int (nI i4)), (1, .ref q1), (0, .ref (b 0))] := hl
              refine lv_iload_n hx hb dX7_flowAll_103 rfl (lv_at hl 0 rfl) ?_
              refine lv_bipush (v := 16) hx hb dX7_flowAll_104 (by decide) ?_
              refine lv_icmp_ge (tgt := 145) hx hb dX7_flowAll_106 (by decide) (fun c_ => absurd c_ (g_no (a := i4) (b := 16) rfl rfl (by omega) (by omega))) (fun _ => ?_)
              refine lv_aload_n hx hb dX7_flowAll_109 rfl (lv_at hl 2 rfl) ?_
              refine wg_X7_18 (v := .ref (b 3)) S hK E 0 rfl rfl dX7_flowAll_110 ?_
              refine lv_iload_n hx hb dX7_flowAll_113 rfl (lv_at hl 0 rfl) ?_
              refine lv_dup2_11 hx hb dX7_flowAll_114 rfl rfl ?_
              refine w_ild (v := 0) S hK E 3 0 rfl rfl (vp_in_nI (n := i4) (by omega) (by decide)) rfl dX7_flowAll_115 ?_
              refine lv_aload_n hx hb dX7_flowAll_116 rfl (lv_at hl 2 rfl) ?_
              refine wg_X7_42 (v := .ref (b 11)) S hK E 0 rfl rfl dX7_flowAll_117 ?_
              refine lv_iload_n hx hb dX7_flowAll_120 rfl (lv_at hl 0 rfl) ?_
              refine w_ild (v := 0) S hK E 7 0 rfl rfl (vp_in_nI (n := i4) (by omega) (by decide)) rfl dX7_flowAll_121 ?_
              refine k_iadd (v := 0) hx hb (by decide) dX7_flowAll_122 ?_
              refine w_ist (w' := [((b 0), .inr (10, [.ref (b 1), .ref (b 2), .ref (b 3), .ref (b 4), .ref (b 5), .ref (b 6), .ref (b 7), .ref (b 8), .ref (b 9), .ref (b 10), .ref (b 11), .ref (b 12), .int 0, .int 0, .int (nI mo), .ref (b 13), .ref (b 14), .ref (b 16)])), ((b 1), .inl (g.2.1 0, 16, .inl (fun _ => 0))), ((b 2), .inl (g.2.1 0, 16, .inl (fun _ => 10))), ((b 3), .inl (g.2.1 0, 16, .inl (fun _ => 0))), ((b 4), .inl (g.2.1 0, 16, .inl (fun _ => 0))), ((b 6), .inl (g.2.1 0, 2, .inl (fun _ => 4))), ((b 7), .inl (g.2.1 0, 8, .inl (fun _ => 0))), ((b 11), .inl (g.2.1 0, 16, .inl (fun _ => 0))), ((b 12), .inl (g.2.1 0, 16, .inl (fun _ => 0))), (q1, .inl (g.2.1 0, 16, .inl (fun _ => 0)))]) S hK E 3 0 rfl rfl (vp_in_nI (n := i4) (by omega) (by decide)) (by rw [upd_c]; rfl) dX7_flowAll_123 (fun H locs E => ?_)
              refine lv_aload_n hx hb dX7_flowAll_124 rfl (lv_at hl 2 rfl) ?_
              refine wg_X7_21 (v := .ref (b 4)) S hK E 0 rfl rfl dX7_flowAll_125 ?_
              refine lv_iload_n hx hb dX7_flowAll_128 rfl (lv_at hl 0 rfl) ?_
              refine lv_dup2_11 hx hb dX7_flowAll_129 rfl rfl ?_
              refine w_ild (v := 0) S hK E 4 0 rfl rfl (vp_in_nI (n := i4) (by omega) (by decide)) rfl dX7_flowAll_130 ?_
              refine lv_aload_n hx hb dX7_flowAll_131 rfl (lv_at hl 2 rfl) ?_
              refine wg_X7_45 (v := .ref (b 12)) S hK E 0 rfl rfl dX7_flowAll_132 ?_
              refine lv_iload_n hx hb dX7_flowAll_135 rfl (lv_at hl 0 rfl) ?_
              refine w_ild (v := 0) S hK E 8 0 rfl rfl (vp_in_nI (n := i4) (by omega) (by decide)) rfl dX7_flowAll_136 ?_
              refine k_iadd (v := 0) hx hb (by decide) dX7_flowAll_137 ?_
              refine w_ist (w' := [((b 0), .inr (10, [.ref (b 1), .ref (b 2), .ref (b 3), .ref (b 4), .ref (b 5), .ref (b 6), .ref (b 7), .ref (b 8), .ref (b 9), .ref (b 10), .ref (b 11), .ref (b 12), .int 0, .int 0, .int (nI mo), .ref (b 13), .ref (b 14), .ref (b 16)])), ((b 1), .inl (g.2.1 0, 16, .inl (fun _ => 0))), ((b 2), .inl (g.2.1 0, 16, .inl (fun _ => 10))), ((b 3), .inl (g.2.1 0, 16, .inl (fun _ => 0))), ((b 4), .inl (g.2.1 0, 16, .inl (fun _ => 0))), ((b 6), .inl (g.2.1 0, 2, .inl (fun _ => 4))), ((b 7), .inl (g.2.1 0, 8, .inl (fun _ => 0))), ((b 11), .inl (g.2.1 0, 16, .inl (fun _ => 0))), ((b 12), .inl (g.2.1 0, 16, .inl (fun _ => 0))), (q1, .inl (g.2.1 0, 16, .inl (fun _ => 0)))]) S hK E 4 0 rfl rfl (vp_in_nI (n := i4) (by omega) (by decide)) (by rw [upd_c]; rfl) dX7_flowAll_138 (fun H locs E => ?_)
              refine lv_iinc (v := (nI (i4 + 1))) (lv' := [(2, .int (nI (i4 + 1))), (1, .ref q1), (0, .ref (b 0))]) hx hb dX7_flowAll_139 hl (k := 0) rfl (nI_1 i4) (by decide) rfl (fun ls hl => ?_)
              refine lv_goto (tgt := 103) hx hb dX7_flowAll_142 (by decide) ?_
              exact ih4 (i4 + 1) (by omega) _ _ E ls (lv_sub hl [0, 1, 2] rfl)
          exact L4 16 0 (by omega) _ _ E ls (lv_sub hl [0, 1, 2] rfl)
        | succ k3 ih3 =>
          intro i3 hi3 H locs E ls hl
          have hl : lv_has ls 4 [(2, .int (nI i3)), (1, .ref q1), (0, .ref (b 0))] := hl
          refine lv_iload_n hx hb dX7_flowAll_43 rfl (lv_at hl 0 rfl) ?_
          refine lv_bipush (v := 16) hx hb dX7_flowAll_44 (by decide) ?_
          refine lv_icmp_ge (tgt := 101) hx hb dX7_flowAll_46 (by decide) (fun c_ => absurd c_ (g_no (a := i3) (b := 16) rfl rfl (by omega) (by omega))) (fun _ => ?_)
          refine lv_iload_n hx hb dX7_flowAll_49 rfl (lv_at hl 0 rfl) ?_
          refine lv_bipush (v := 8) hx hb dX7_flowAll_50 (by decide) ?_
          refine k_irem (v := (nI (i3 % 8))) hx hb (by decide) (pk_rem (a := i3) (d := 8) (by omega) (by decide) (by decide)) dX7_flowAll_52 ?_
          refine lv_istore_n (lv' := [(3, .int (nI (i3 % 8))), (2, .int (nI i3)), (1, .ref q1), (0, .ref (b 0))]) hx hb dX7_flowAll_53 rfl hl (by decide) rfl (fun ls hl => ?_)
          refine lv_iload_n hx hb dX7_flowAll_54 rfl (lv_at hl 0 rfl) ?_
          refine lv_if_le (tgt := 67) hx hb dX7_flowAll_55 (by decide) (fun c5 => ?_) (fun c5 => ?_)
          · have c5 : (nI (i3 % 8)) ≤ 0 := c5
            have c5n : (i3 % 8) ≤ 0 := (nI_leI (a := (i3 % 8)) (b := 0) (by omega) (by omega)).mp c5
            refine lv_iload_n hx hb dX7_flowAll_67 rfl (lv_at hl 0 rfl) ?_
            refine lv_bipush (v := 7) hx hb dX7_flowAll_68 (by decide) ?_
            refine lv_icmp_ge (tgt := 82) hx hb dX7_flowAll_70 (by decide) (fun c6 => ?_) (fun c6 => ?_)
            · have c6 : 7 ≤ (nI (i3 % 8)) := c6
              have c6n : 7 ≤ (i3 % 8) := (nI_leI (a := 7) (b := (i3 % 8)) (by omega) (by omega)).mp c6
              refine lv_aload_n hx hb dX7_flowAll_82 rfl (lv_at hl 3 rfl) ?_
              refine lv_aload_n hx hb dX7_flowAll_83 rfl (lv_at hl 2 rfl) ?_
              refine lv_iload_n hx hb dX7_flowAll_84 rfl (lv_at hl 1 rfl) ?_
              refine lv_iload_n hx hb dX7_flowAll_85 rfl (lv_at hl 1 rfl) ?_
              refine lv_bipush (v := 8) hx hb dX7_flowAll_86 (by decide) ?_
              refine k_iadd (v := (nI (i3 + 8))) hx hb (nI_add i3 8) dX7_flowAll_88 ?_
              refine lv_bipush (v := 16) hx hb dX7_flowAll_89 (by decide) ?_
              refine k_irem (v := (nI ((i3 + 8) % 16))) hx hb (by decide) (pk_rem (a := (i3 + 8)) (d := 16) (by omega) (by decide) (by decide)) dX7_flowAll_91 ?_
              refine w_retv (runV_X (As := [.ref q1, .int (nI i3), .int (nI ((i3 + 8) % 16))]) (rest := []) (q0 := 0) (n := 3) S hml hK (hZ.at E) (Cut.of (wc := [((b 0), .inr (10, [.ref (b 1), .ref (b 2), .ref (b 3), .ref (b 4), .ref (b 5), .ref (b 6), .ref (b 7), .ref (b 8), .ref (b 9), .ref (b 10), .ref (b 11), .ref (b 12), .int 0, .int 0, .int (nI mo), .ref (b 13), .ref (b 14), .ref (b 16)])), ((b 6), .inl (g.2.1 0, 2, .inl (fun _ => 4))), ((b 7), .inl (g.2.1 0, 8, .inl (fun _ => 0))), ((b 3), .inl (g.2.1 0, 16, .inl (fun _ => 0))), ((b 11), .inl (g.2.1 0, 16, .inl (fun _ => 0))), ((b 12), .inl (g.2.1 0, 16, .inl (fun _ => 0))), (q1, .inl (g.2.1 0, 16, .inl (fun _ => 0)))]) (wr := [((b 1), .inl (g.2.1 0, 16, .inl (fun _ => 0))), ((b 2), .inl (g.2.1 0, 16, .inl (fun _ => 10))), ((b 4), .inl (g.2.1 0, 16, .inl (fun _ => 0)))]) E hA [0, 5, 6, 3, 7, 8, 9] [1, 2, 4] rfl rfl rfl rfl (by decide)) (c_X7_goes l g b mo q1 i3 ((i3 + 8) % 16) (by omega) (by omega) _ _) (gi_wsV ml_X7_151 im_X7_goes sl_X7_goes in_X7 co_X7_goes) ⟨rfl, by decide +kernel, by decide +kernel, by decide +kernel⟩ ⟨Nat.le_of_ble_eq_true rfl, Nat.le_of_ble_eq_true rfl⟩ rfl rfl rfl hl.1 rfl (Nat.le_of_ble_eq_true rfl) dX7_flowAll_92 ⟨Nat.le_of_ble_eq_true rfl, Nat.le_of_ble_eq_true rfl⟩) (Cut.of (wc := [((b 0), .inr (10, [.ref (b 1), .ref (b 2), .ref (b 3), .ref (b 4), .ref (b 5), .ref (b 6), .ref (b 7), .ref (b 8), .ref (b 9), .ref (b 10), .ref (b 11), .ref (b 12), .int 0, .int 0, .int (nI mo), .ref (b 13), .ref (b 14), .ref (b 16)])), ((b 6), .inl (g.2.1 0, 2, .inl (fun _ => 4))), ((b 7), .inl (g.2.1 0, 8, .inl (fun _ => 0))), ((b 3), .inl (g.2.1 0, 16, .inl (fun _ => 0))), ((b 11), .inl (g.2.1 0, 16, .inl (fun _ => 0))), ((b 12), .inl (g.2.1 0, 16, .inl (fun _ => 0))), (q1, .inl (g.2.1 0, 16, .inl (fun _ => 0)))]) (wr := [((b 1), .inl (g.2.1 0, 16, .inl (fun _ => 0))), ((b 2), .inl (g.2.1 0, 16, .inl (fun _ => 10))), ((b 4), .inl (g.2.1 0, 16, .inl (fun _ => 0)))]) E hA [0, 5, 6, 3, 7, 8, 9] [1, 2, 4] rfl rfl rfl rfl (by decide)) E (fun u7 H locs hp E => ?_)
              have E : Ev g _ s.heap H locs [((b 1), .inl (g.2.1 0, 16, .inl (fun _ => 0))), ((b 2), .inl (g.2.1 0, 16, .inl (fun _ => 10))), ((b 4), .inl (g.2.1 0, 16, .inl (fun _ => 0))), ((b 0), .inr (10, [.ref (b 1), .ref (b 2), .ref (b 3), .ref (b 4), .ref (b 5), .ref (b 6), .ref (b 7), .ref (b 8), .ref (b 9), .ref (b 10), .ref (b 11), .ref (b 12), .int 0, .int 0, .int (nI mo), .ref (b 13), .ref (b 14), .ref (b 16)])), ((b 6), .inl (g.2.1 0, 2, .inl (fun _ => 4))), ((b 7), .inl (g.2.1 0, 8, .inl (fun _ => 0))), ((b 3), .inl (g.2.1 0, 16, .inl (fun _ => 0))), ((b 11), .inl (g.2.1 0, 16, .inl (fun _ => 0))), ((b 12), .inl (g.2.1 0, 16, .inl (fun _ => 0))), (q1, .inl (g.2.1 0, 16, .inl (fun _ => 0)))] := E
              refine lv_iinc (v := (nI (i3 + 1))) (lv' := [(2, .int (nI (i3 + 1))), (3, .int (nI (i3 % 8))), (1, .ref q1), (0, .ref (b 0))]) hx hb dX7_flowAll_95 hl (k := 1) rfl (nI_1 i3) (by decide) rfl (fun ls hl => ?_)
              refine lv_goto (tgt := 43) hx hb dX7_flowAll_98 (by decide) ?_
              have E : Ev g _ s.heap H locs [((b 0), .inr (10, [.ref (b 1), .ref (b 2), .ref (b 3), .ref (b 4), .ref (b 5), .ref (b 6), .ref (b 7), .ref (b 8), .ref (b 9), .ref (b 10), .ref (b 11), .ref (b 12), .int 0, .int 0, .int (nI mo), .ref (b 13), .ref (b 14), .ref (b 16)])), ((b 1), .inl (g.2.1 0, 16, .inl (fun _ => 0))), ((b 2), .inl (g.2.1 0, 16, .inl (fun _ => 10))), ((b 3), .inl (g.2.1 0, 16, .inl (fun _ => 0))), ((b 4), .inl (g.2.1 0, 16, .inl (fun _ => 0))), ((b 6), .inl (g.2.1 0, 2, .inl (fun _ => 4))), ((b 7), .inl (g.2.1 0, 8, .inl (fun _ => 0))), ((b 11), .inl (g.2.1 0, 16, .inl (fun _ => 0))), ((b 12), .inl (g.2.1 0, 16, .inl (fun _ => 0))), (q1, .inl (g.2.1 0, 16, .inl (fun _ => 0)))] := Ev.sub E [3, 0, 1, 6, 2, 4, 5, 7, 8, 9] rfl rfl
              exact ih3 (i3 + 1) (by omega) _ _ E ls (lv_sub hl [0, 2, 3] rfl)
            · have c6 : ¬ (7 ≤ (nI (i3 % 8))) := c6
              have c6n : ¬ (7 ≤ (i3 % 8)) := fun z => c6 ((nI_leI (a := 7) (b := (i3 % 8)) (by omega) (by omega)).mpr z)
              refine lv_aload_n hx hb dX7_flowAll_73 rfl (lv_at hl 3 rfl) ?_
              refine lv_aload_n hx hb dX7_flowAll_74 rfl (lv_at hl 2 rfl) ?_
              refine lv_iload_n hx hb dX7_flowAll_75 rfl (lv_at hl 1 rfl) ?_
              refine lv_iload_n hx hb dX7_flowAll_76 rfl (lv_at hl 1 rfl) ?_
              refine lv_iconst (v := 1) hx hb dX7_flowAll_77 (by decide) ?_
              refine k_iadd (v := (nI (i3 + 1))) hx hb (nI_1 i3) dX7_flowAll_78 ?_
              refine w_retv (runV_X (As := [.ref q1, .int (nI i3), .int (nI (i3 + 1))]) (rest := []) (q0 := 0) (n := 3) S hml hK (hZ.at E) (Cut.of (wc := [((b 0), .inr (10, [.ref (b 1), .ref (b 2), .ref (b 3), .ref (b 4), .ref (b 5), .ref (b 6), .ref (b 7), .ref (b 8), .ref (b 9), .ref (b 10), .ref (b 11), .ref (b 12), .int 0, .int 0, .int (nI mo), .ref (b 13), .ref (b 14), .ref (b 16)])), ((b 6), .inl (g.2.1 0, 2, .inl (fun _ => 4))), ((b 7), .inl (g.2.1 0, 8, .inl (fun _ => 0))), ((b 3), .inl (g.2.1 0, 16, .inl (fun _ => 0))), ((b 11), .inl (g.2.1 0, 16, .inl (fun _ => 0))), ((b 12), .inl (g.2.1 0, 16, .inl (fun _ => 0))), (q1, .inl (g.2.1 0, 16, .inl (fun _ => 0)))]) (wr := [((b 1), .inl (g.2.1 0, 16, .inl (fun _ => 0))), ((b 2), .inl (g.2.1 0, 16, .inl (fun _ => 10))), ((b 4), .inl (g.2.1 0, 16, .inl (fun _ => 0)))]) E hA [0, 5, 6, 3, 7, 8, 9] [1, 2, 4] rfl rfl rfl rfl (by decide)) (c_X7_goes l g b mo q1 i3 (i3 + 1) (by omega) (by omega) _ _) (gi_wsV ml_X7_151 im_X7_goes sl_X7_goes in_X7 co_X7_goes) ⟨rfl, by decide +kernel, by decide +kernel, by decide +kernel⟩ ⟨Nat.le_of_ble_eq_true rfl, Nat.le_of_ble_eq_true rfl⟩ rfl rfl rfl hl.1 rfl (Nat.le_of_ble_eq_true rfl) dX7_flowAll_79 ⟨Nat.le_of_ble_eq_true rfl, Nat.le_of_ble_eq_true rfl⟩) (Cut.of (wc := [((b 0), .inr (10, [.ref (b 1), .ref (b 2), .ref (b 3), .ref (b 4), .ref (b 5), .ref (b 6), .ref (b 7), .ref (b 8), .ref (b 9), .ref (b 10), .ref (b 11), .ref (b 12), .int 0, .int 0, .int (nI mo), .ref (b 13), .ref (b 14), .ref (b 16)])), ((b 6), .inl (g.2.1 0, 2, .inl (fun _ => 4))), ((b 7), .inl (g.2.1 0, 8, .inl (fun _ => 0))), ((b 3), .inl (g.2.1 0, 16, .inl (fun _ => 0))), ((b 11), .inl (g.2.1 0, 16, .inl (fun _ => 0))), ((b 12), .inl (g.2.1 0, 16, .inl (fun _ => 0))), (q1, .inl (g.2.1 0, 16, .inl (fun _ => 0)))]) (wr := [((b 1), .inl (g.2.1 0, 16, .inl (fun _ => 0))), ((b 2), .inl (g.2.1 0, 16, .inl (fun _ => 10))), ((b 4), .inl (g.2.1 0, 16, .inl (fun _ => 0)))]) E hA [0, 5, 6, 3, 7, 8, 9] [1, 2, 4] rfl rfl rfl rfl (by decide)) E (fun u8 H locs hp E => ?_)
              have E : Ev g _ s.heap H locs [((b 1), .inl (g.2.1 0, 16, .inl (fun _ => 0))), ((b 2), .inl (g.2.1 0, 16, .inl (fun _ => 10))), ((b 4), .inl (g.2.1 0, 16, .inl (fun _ => 0))), ((b 0), .inr (10, [.ref (b 1), .ref (b 2), .ref (b 3), .ref (b 4), .ref (b 5), .ref (b 6), .ref (b 7), .ref (b 8), .ref (b 9), .ref (b 10), .ref (b 11), .ref (b 12), .int 0, .int 0, .int (nI mo), .ref (b 13), .ref (b 14), .ref (b 16)])), ((b 6), .inl (g.2.1 0, 2, .inl (fun _ => 4))), ((b 7), .inl (g.2.1 0, 8, .inl (fun _ => 0))), ((b 3), .inl (g.2.1 0, 16, .inl (fun _ => 0))), ((b 11), .inl (g.2.1 0, 16, .inl (fun _ => 0))), ((b 12), .inl (g.2.1 0, 16, .inl (fun _ => 0))), (q1, .inl (g.2.1 0, 16, .inl (fun _ => 0)))] := E
              refine lv_aload_n hx hb dX7_flowAll_82 rfl (lv_at hl 3 rfl) ?_
              refine lv_aload_n hx hb dX7_flowAll_83 rfl (lv_at hl 2 rfl) ?_
              refine lv_iload_n hx hb dX7_flowAll_84 rfl (lv_at hl 1 rfl) ?_
              refine lv_iload_n hx hb dX7_flowAll_85 rfl (lv_at hl 1 rfl) ?_
              refine lv_bipush (v := 8) hx hb dX7_flowAll_86 (by decide) ?_
              refine k_iadd (v := (nI (i3 + 8))) hx hb (nI_add i3 8) dX7_flowAll_88 ?_
              refine lv_bipush (v := 16) hx hb dX7_flowAll_89 (by decide) ?_
              refine k_irem (v := (nI ((i3 + 8) % 16))) hx hb (by decide) (pk_rem (a := (i3 + 8)) (d := 16) (by omega) (by decide) (by decide)) dX7_flowAll_91 ?_
              refine w_retv (runV_X (As := [.ref q1, .int (nI i3), .int (nI ((i3 + 8) % 16))]) (rest := []) (q0 := 0) (n := 3) S hml hK (hZ.at E) (Cut.of (wc := [((b 0), .inr (10, [.ref (b 1), .ref (b 2), .ref (b 3), .ref (b 4), .ref (b 5), .ref (b 6), .ref (b 7), .ref (b 8), .ref (b 9), .ref (b 10), .ref (b 11), .ref (b 12), .int 0, .int 0, .int (nI mo), .ref (b 13), .ref (b 14), .ref (b 16)])), ((b 6), .inl (g.2.1 0, 2, .inl (fun _ => 4))), ((b 7), .inl (g.2.1 0, 8, .inl (fun _ => 0))), ((b 3), .inl (g.2.1 0, 16, .inl (fun _ => 0))), ((b 11), .inl (g.2.1 0, 16, .inl (fun _ => 0))), ((b 12), .inl (g.2.1 0, 16, .inl (fun _ => 0))), (q1, .inl (g.2.1 0, 16, .inl (fun _ => 0)))]) (wr := [((b 1), .inl (g.2.1 0, 16, .inl (fun _ => 0))), ((b 2), .inl (g.2.1 0, 16, .inl (fun _ => 10))), ((b 4), .inl (g.2.1 0, 16, .inl (fun _ => 0)))]) E hA [3, 4, 5, 6, 7, 8, 9] [0, 1, 2] rfl rfl rfl rfl (by decide)) (c_X7_goes l g b mo q1 i3 ((i3 + 8) % 16) (by omega) (by omega) _ _) (gi_wsV ml_X7_151 im_X7_goes sl_X7_goes in_X7 co_X7_goes) ⟨rfl, by decide +kernel, by decide +kernel, by decide +kernel⟩ ⟨Nat.le_of_ble_eq_true rfl, Nat.le_of_ble_eq_true rfl⟩ rfl rfl rfl hl.1 rfl (Nat.le_of_ble_eq_true rfl) dX7_flowAll_92 ⟨Nat.le_of_ble_eq_true rfl, Nat.le_of_ble_eq_true rfl⟩) (Cut.of (wc := [((b 0), .inr (10, [.ref (b 1), .ref (b 2), .ref (b 3), .ref (b 4), .ref (b 5), .ref (b 6), .ref (b 7), .ref (b 8), .ref (b 9), .ref (b 10), .ref (b 11), .ref (b 12), .int 0, .int 0, .int (nI mo), .ref (b 13), .ref (b 14), .ref (b 16)])), ((b 6), .inl (g.2.1 0, 2, .inl (fun _ => 4))), ((b 7), .inl (g.2.1 0, 8, .inl (fun _ => 0))), ((b 3), .inl (g.2.1 0, 16, .inl (fun _ => 0))), ((b 11), .inl (g.2.1 0, 16, .inl (fun _ => 0))), ((b 12), .inl (g.2.1 0, 16, .inl (fun _ => 0))), (q1, .inl (g.2.1 0, 16, .inl (fun _ => 0)))]) (wr := [((b 1), .inl (g.2.1 0, 16, .inl (fun _ => 0))), ((b 2), .inl (g.2.1 0, 16, .inl (fun _ => 10))), ((b 4), .inl (g.2.1 0, 16, .inl (fun _ => 0)))]) E hA [3, 4, 5, 6, 7, 8, 9] [0, 1, 2] rfl rfl rfl rfl (by decide)) E (fun u9 H locs hp E => ?_)
              have E : Ev g _ s.heap H locs [((b 1), .inl (g.2.1 0, 16, .inl (fun _ => 0))), ((b 2), .inl (g.2.1 0, 16, .inl (fun _ => 10))), ((b 4), .inl (g.2.1 0, 16, .inl (fun _ => 0))), ((b 0), .inr (10, [.ref (b 1), .ref (b 2), .ref (b 3), .ref (b 4), .ref (b 5), .ref (b 6), .ref (b 7), .ref (b 8), .ref (b 9), .ref (b 10), .ref (b 11), .ref (b 12), .int 0, .int 0, .int (nI mo), .ref (b 13), .ref (b 14), .ref (b 16)])), ((b 6), .inl (g.2.1 0, 2, .inl (fun _ => 4))), ((b 7), .inl (g.2.1 0, 8, .inl (fun _ => 0))), ((b 3), .inl (g.2.1 0, 16, .inl (fun _ => 0))), ((b 11), .inl (g.2.1 0, 16, .inl (fun _ => 0))), ((b 12), .inl (g.2.1 0, 16, .inl (fun _ => 0))), (q1, .inl (g.2.1 0, 16, .inl (fun _ => 0)))] := E
              refine lv_iinc (v := (nI (i3 + 1))) (lv' := [(2, .int (nI (i3 + 1))), (3, .int (nI (i3 % 8))), (1, .ref q1), (0, .ref (b 0))]) hx hb dX7_flowAll_95 hl (k := 1) rfl (nI_1 i3) (by decide) rfl (fun ls hl => ?_)
              refine lv_goto (tgt := 43) hx hb dX7_flowAll_98 (by decide) ?_
              have E : Ev g _ s.heap H locs [((b 0), .inr (10, [.ref (b 1), .ref (b 2), .ref (b 3), .ref (b 4), .ref (b 5), .ref (b 6), .ref (b 7), .ref (b 8), .ref (b 9), .ref (b 10), .ref (b 11), .ref (b 12), .int 0, .int 0, .int (nI mo), .ref (b 13), .ref (b 14), .ref (b 16)])), ((b 1), .inl (g.2.1 0, 16, .inl (fun _ => 0))), ((b 2), .inl (g.2.1 0, 16, .inl (fun _ => 10))), ((b 3), .inl (g.2.1 0, 16, .inl (fun _ => 0))), ((b 4), .inl (g.2.1 0, 16, .inl (fun _ => 0))), ((b 6), .inl (g.2.1 0, 2, .inl (fun _ => 4))), ((b 7), .inl (g.2.1 0, 8, .inl (fun _ => 0))), ((b 11), .inl (g.2.1 0, 16, .inl (fun _ => 0))), ((b 12), .inl (g.2.1 0, 16, .inl (fun _ => 0))), (q1, .inl (g.2.1 0, 16, .inl (fun _ => 0)))] := Ev.sub E [3, 0, 1, 6, 2, 4, 5, 7, 8, 9] rfl rfl
              exact ih3 (i3 + 1) (by omega) _ _ E ls (lv_sub hl [0, 2, 3] rfl)
          · have c5 : ¬ ((nI (i3 % 8)) ≤ 0) := c5
            have c5n : ¬ ((i3 % 8) ≤ 0) := fun z => c5 ((nI_leI (a := (i3 % 8)) (b := 0) (by omega) (by omega)).mpr z)
            refine lv_aload_n hx hb dX7_flowAll_58 rfl (lv_at hl 3 rfl) ?_
            refine lv_aload_n hx hb dX7_flowAll_59 rfl (lv_at hl 2 rfl) ?_
            refine lv_iload_n hx hb dX7_flowAll_60 rfl (lv_at hl 1 rfl) ?_
            refine lv_iload_n hx hb dX7_flowAll_61 rfl (lv_at hl 1 rfl) ?_
            refine lv_iconst (v := 1) hx hb dX7_flowAll_62 (by decide) ?_
            refine k_isub (v := (nI (i3 - 1))) hx hb (pk_sub (a := i3) (b := 1) (by omega)) dX7_flowAll_63 ?_
            refine w_retv (runV_X (As := [.ref q1, .int (nI i3), .int (nI (i3 - 1))]) (rest := []) (q0 := 0) (n := 3) S hml hK (hZ.at E) (Cut.of (wc := [((b 0), .inr (10, [.ref (b 1), .ref (b 2), .ref (b 3), .ref (b 4), .ref (b 5), .ref (b 6), .ref (b 7), .ref (b 8), .ref (b 9), .ref (b 10), .ref (b 11), .ref (b 12), .int 0, .int 0, .int (nI mo), .ref (b 13), .ref (b 14), .ref (b 16)])), ((b 6), .inl (g.2.1 0, 2, .inl (fun _ => 4))), ((b 7), .inl (g.2.1 0, 8, .inl (fun _ => 0))), ((b 3), .inl (g.2.1 0, 16, .inl (fun _ => 0))), ((b 11), .inl (g.2.1 0, 16, .inl (fun _ => 0))), ((b 12), .inl (g.2.1 0, 16, .inl (fun _ => 0))), (q1, .inl (g.2.1 0, 16, .inl (fun _ => 0)))]) (wr := [((b 1), .inl (g.2.1 0, 16, .inl (fun _ => 0))), ((b 2), .inl (g.2.1 0, 16, .inl (fun _ => 10))), ((b 4), .inl (g.2.1 0, 16, .inl (fun _ => 0)))]) E hA [0, 5, 6, 3, 7, 8, 9] [1, 2, 4] rfl rfl rfl rfl (by decide)) (c_X7_goes l g b mo q1 i3 (i3 - 1) (by omega) (by omega) _ _) (gi_wsV ml_X7_151 im_X7_goes sl_X7_goes in_X7 co_X7_goes) ⟨rfl, by decide +kernel, by decide +kernel, by decide +kernel⟩ ⟨Nat.le_of_ble_eq_true rfl, Nat.le_of_ble_eq_true rfl⟩ rfl rfl rfl hl.1 rfl (Nat.le_of_ble_eq_true rfl) dX7_flowAll_64 ⟨Nat.le_of_ble_eq_true rfl, Nat.le_of_ble_eq_true rfl⟩) (Cut.of (wc := [((b 0), .inr (10, [.ref (b 1), .ref (b 2), .ref (b 3), .ref (b 4), .ref (b 5), .ref (b 6), .ref (b 7), .ref (b 8), .ref (b 9), .ref (b 10), .ref (b 11), .ref (b 12), .int 0, .int 0, .int (nI mo), .ref (b 13), .ref (b 14), .ref (b 16)])), ((b 6), .inl (g.2.1 0, 2, .inl (fun _ => 4))), ((b 7), .inl (g.2.1 0, 8, .inl (fun _ => 0))), ((b 3), .inl (g.2.1 0, 16, .inl (fun _ => 0))), ((b 11), .inl (g.2.1 0, 16, .inl (fun _ => 0))), ((b 12), .inl (g.2.1 0, 16, .inl (fun _ => 0))), (q1, .inl (g.2.1 0, 16, .inl (fun _ => 0)))]) (wr := [((b 1), .inl (g.2.1 0, 16, .inl (fun _ => 0))), ((b 2), .inl (g.2.1 0, 16, .inl (fun _ => 10))), ((b 4), .inl (g.2.1 0, 16, .inl (fun _ => 0)))]) E hA [0, 5, 6, 3, 7, 8, 9] [1, 2, 4] rfl rfl rfl rfl (by decide)) E (fun u10 H locs hp E => ?_)
            have E : Ev g _ s.heap H locs [((b 1), .inl (g.2.1 0, 16, .inl (fun _ => 0))), ((b 2), .inl (g.2.1 0, 16, .inl (fun _ => 10))), ((b 4), .inl (g.2.1 0, 16, .inl (fun _ => 0))), ((b 0), .inr (10, [.ref (b 1), .ref (b 2), .ref (b 3), .ref (b 4), .ref (b 5), .ref (b 6), .ref (b 7), .ref (b 8), .ref (b 9), .ref (b 10), .ref (b 11), .ref (b 12), .int 0, .int 0, .int (nI mo), .ref (b 13), .ref (b 14), .ref (b 16)])), ((b 6), .inl (g.2.1 0, 2, .inl (fun _ => 4))), ((b 7), .inl (g.2.1 0, 8, .inl (fun _ => 0))), ((b 3), .inl (g.2.1 0, 16, .inl (fun _ => 0))), ((b 11), .inl (g.2.1 0, 16, .inl (fun _ => 0))), ((b 12), .inl (g.2.1 0, 16, .inl (fun _ => 0))), (q1, .inl (g.2.1 0, 16, .inl (fun _ => 0)))] := E
            refine lv_iload_n hx hb dX7_flowAll_67 rfl (lv_at hl 0 rfl) ?_
            refine lv_bipush (v := 7) hx hb dX7_flowAll_68 (by decide) ?_
            refine lv_icmp_ge (tgt := 82) hx hb dX7_flowAll_70 (by decide) (fun c11 => ?_) (fun c11 => ?_)
            · have c11 : 7 ≤ (nI (i3 % 8)) := c11
              have c11n : 7 ≤ (i3 % 8) := (nI_leI (a := 7) (b := (i3 % 8)) (by omega) (by omega)).mp c11
              refine lv_aload_n hx hb dX7_flowAll_82 rfl (lv_at hl 3 rfl) ?_
              refine lv_aload_n hx hb dX7_flowAll_83 rfl (lv_at hl 2 rfl) ?_
              refine lv_iload_n hx hb dX7_flowAll_84 rfl (lv_at hl 1 rfl) ?_
              refine lv_iload_n hx hb dX7_flowAll_85 rfl (lv_at hl 1 rfl) ?_
              refine lv_bipush (v := 8) hx hb dX7_flowAll_86 (by decide) ?_
              refine k_iadd (v := (nI (i3 + 8))) hx hb (nI_add i3 8) dX7_flowAll_88 ?_
              refine lv_bipush (v := 16) hx hb dX7_flowAll_89 (by decide) ?_
              refine k_irem (v := (nI ((i3 + 8) % 16))) hx hb (by decide) (pk_rem (a := (i3 + 8)) (d := 16) (by omega) (by decide) (by decide)) dX7_flowAll_91 ?_
              refine w_retv (runV_X (As := [.ref q1, .int (nI i3), .int (nI ((i3 + 8) % 16))]) (rest := []) (q0 := 0) (n := 3) S hml hK (hZ.at E) (Cut.of (wc := [((b 0), .inr (10, [.ref (b 1), .ref (b 2), .ref (b 3), .ref (b 4), .ref (b 5), .ref (b 6), .ref (b 7), .ref (b 8), .ref (b 9), .ref (b 10), .ref (b 11), .ref (b 12), .int 0, .int 0, .int (nI mo), .ref (b 13), .ref (b 14), .ref (b 16)])), ((b 6), .inl (g.2.1 0, 2, .inl (fun _ => 4))), ((b 7), .inl (g.2.1 0, 8, .inl (fun _ => 0))), ((b 3), .inl (g.2.1 0, 16, .inl (fun _ => 0))), ((b 11), .inl (g.2.1 0, 16, .inl (fun _ => 0))), ((b 12), .inl (g.2.1 0, 16, .inl (fun _ => 0))), (q1, .inl (g.2.1 0, 16, .inl (fun _ => 0)))]) (wr := [((b 1), .inl (g.2.1 0, 16, .inl (fun _ => 0))), ((b 2), .inl (g.2.1 0, 16, .inl (fun _ => 10))), ((b 4), .inl (g.2.1 0, 16, .inl (fun _ => 0)))]) E hA [3, 4, 5, 6, 7, 8, 9] [0, 1, 2] rfl rfl rfl rfl (by decide)) (c_X7_goes l g b mo q1 i3 ((i3 + 8) % 16) (by omega) (by omega) _ _) (gi_wsV ml_X7_151 im_X7_goes sl_X7_goes in_X7 co_X7_goes) ⟨rfl, by decide +kernel, by decide +kernel, by decide +kernel⟩ ⟨Nat.le_of_ble_eq_true rfl, Nat.le_of_ble_eq_true rfl⟩ rfl rfl rfl hl.1 rfl (Nat.le_of_ble_eq_true rfl) dX7_flowAll_92 ⟨Nat.le_of_ble_eq_true rfl, Nat.le_of_ble_eq_true rfl⟩) (Cut.of (wc := [((b 0), .inr (10, [.ref (b 1), .ref (b 2), .ref (b 3), .ref (b 4), .ref (b 5), .ref (b 6), .ref (b 7), .ref (b 8), .ref (b 9), .ref (b 10), .ref (b 11), .ref (b 12), .int 0, .int 0, .int (nI mo), .ref (b 13), .ref (b 14), .ref (b 16)])), ((b 6), .inl (g.2.1 0, 2, .inl (fun _ => 4))), ((b 7), .inl (g.2.1 0, 8, .inl (fun _ => 0))), ((b 3), .inl (g.2.1 0, 16, .inl (fun _ => 0))), ((b 11), .inl (g.2.1 0, 16, .inl (fun _ => 0))), ((b 12), .inl (g.2.1 0, 16, .inl (fun _ => 0))), (q1, .inl (g.2.1 0, 16, .inl (fun _ => 0)))]) (wr := [((b 1), .inl (g.2.1 0, 16, .inl (fun _ => 0))), ((b 2), .inl (g.2.1 0, 16, .inl (fun _ => 10))), ((b 4), .inl (g.2.1 0, 16, .inl (fun _ => 0)))]) E hA [3, 4, 5, 6, 7, 8, 9] [0, 1, 2] rfl rfl rfl rfl (by decide)) E (fun u12 H locs hp E => ?_)
              have E : Ev g _ s.heap H locs [((b 1), .inl (g.2.1 0, 16, .inl (fun _ => 0))), ((b 2), .inl (g.2.1 0, 16, .inl (fun _ => 10))), ((b 4), .inl (g.2.1 0, 16, .inl (fun _ => 0))), ((b 0), .inr (10, [.ref (b 1), .ref (b 2), .ref (b 3), .ref (b 4), .ref (b 5), .ref (b 6), .ref (b 7), .ref (b 8), .ref (b 9), .ref (b 10), .ref (b 11), .ref (b 12), .int 0, .int 0, .int (nI mo), .ref (b 13), .ref (b 14), .ref (b 16)])), ((b 6), .inl (g.2.1 0, 2, .inl (fun _ => 4))), ((b 7), .inl (g.2.1 0, 8, .inl (fun _ => 0))), ((b 3), .inl (g.2.1 0, 16, .inl (fun _ => 0))), ((b 11), .inl (g.2.1 0, 16, .inl (fun _ => 0))), ((b 12), .inl (g.2.1 0, 16, .inl (fun _ => 0))), (q1, .inl (g.2.1 0, 16, .inl (fun _ => 0)))] := E
              refine lv_iinc (v := (nI (i3 + 1))) (lv' := [(2, .int (nI (i3 + 1))), (3, .int (nI (i3 % 8))), (1, .ref q1), (0, .ref (b 0))]) hx hb dX7_flowAll_95 hl (k := 1) rfl (nI_1 i3) (by decide) rfl (fun ls hl => ?_)
              refine lv_goto (tgt := 43) hx hb dX7_flowAll_98 (by decide) ?_
              have E : Ev g _ s.heap H locs [((b 0), .inr (10, [.ref (b 1), .ref (b 2), .ref (b 3), .ref (b 4), .ref (b 5), .ref (b 6), .ref (b 7), .ref (b 8), .ref (b 9), .ref (b 10), .ref (b 11), .ref (b 12), .int 0, .int 0, .int (nI mo), .ref (b 13), .ref (b 14), .ref (b 16)])), ((b 1), .inl (g.2.1 0, 16, .inl (fun _ => 0))), ((b 2), .inl (g.2.1 0, 16, .inl (fun _ => 10))), ((b 3), .inl (g.2.1 0, 16, .inl (fun _ => 0))), ((b 4), .inl (g.2.1 0, 16, .inl (fun _ => 0))), ((b 6), .inl (g.2.1 0, 2, .inl (fun _ => 4))), ((b 7), .inl (g.2.1 0, 8, .inl (fun _ => 0))), ((b 11), .inl (g.2.1 0, 16, .inl (fun _ => 0))), ((b 12), .inl (g.2.1 0, 16, .inl (fun _ => 0))), (q1, .inl (g.2.1 0, 16, .inl (fun _ => 0)))] := Ev.sub E [3, 0, 1, 6, 2, 4, 5, 7, 8, 9] rfl rfl
              exact ih3 (i3 + 1) (by omega) _ _ E ls (lv_sub hl [0, 2, 3] rfl)
            · have c11 : ¬ (7 ≤ (nI (i3 % 8))) := c11
              have c11n : ¬ (7 ≤ (i3 % 8)) := fun z => c11 ((nI_leI (a := 7) (b := (i3 % 8)) (by omega) (by omega)).mpr z)
              refine lv_aload_n hx hb dX7_flowAll_73 rfl (lv_at hl 3 rfl) ?_
              refine lv_aload_n hx hb dX7_flowAll_74 rfl (lv_at hl 2 rfl) ?_
              refine lv_iload_n hx hb dX7_flowAll_75 rfl (lv_at hl 1 rfl) ?_
              refine lv_iload_n hx hb dX7_flowAll_76 rfl (lv_at hl 1 rfl) ?_
              refine lv_iconst (v := 1) hx hb dX7_flowAll_77 (by decide) ?_
              refine k_iadd (v := (nI (i3 + 1))) hx hb (nI_1 i3) dX7_flowAll_78 ?_
              refine w_retv (runV_X (As := [.ref q1, .int (nI i3), .int (nI (i3 + 1))]) (rest := []) (q0 := 0) (n := 3) S hml hK (hZ.at E) (Cut.of (wc := [((b 0), .inr (10, [.ref (b 1), .ref (b 2), .ref (b 3), .ref (b 4), .ref (b 5), .ref (b 6), .ref (b 7), .ref (b 8), .ref (b 9), .ref (b 10), .ref (b 11), .ref (b 12), .int 0, .int 0, .int (nI mo), .ref (b 13), .ref (b 14), .ref (b 16)])), ((b 6), .inl (g.2.1 0, 2, .inl (fun _ => 4))), ((b 7), .inl (g.2.1 0, 8, .inl (fun _ => 0))), ((b 3), .inl (g.2.1 0, 16, .inl (fun _ => 0))), ((b 11), .inl (g.2.1 0, 16, .inl (fun _ => 0))), ((b 12), .inl (g.2.1 0, 16, .inl (fun _ => 0))), (q1, .inl (g.2.1 0, 16, .inl (fun _ => 0)))]) (wr := [((b 1), .inl (g.2.1 0, 16, .inl (fun _ => 0))), ((b 2), .inl (g.2.1 0, 16, .inl (fun _ => 10))), ((b 4), .inl (g.2.1 0, 16, .inl (fun _ => 0)))]) E hA [3, 4, 5, 6, 7, 8, 9] [0, 1, 2] rfl rfl rfl rfl (by decide)) (c_X7_goes l g b mo q1 i3 (i3 + 1) (by omega) (by omega) _ _) (gi_wsV ml_X7_151 im_X7_goes sl_X7_goes in_X7 co_X7_goes) ⟨rfl, by decide +kernel, by decide +kernel, by decide +kernel⟩ ⟨Nat.le_of_ble_eq_true rfl, Nat.le_of_ble_eq_true rfl⟩ rfl rfl rfl hl.1 rfl (Nat.le_of_ble_eq_true rfl) dX7_flowAll_79 ⟨Nat.le_of_ble_eq_true rfl, Nat.le_of_ble_eq_true rfl⟩) (Cut.of (wc := [((b 0), .inr (10, [.ref (b 1), .ref (b 2), .ref (b 3), .ref (b 4), .ref (b 5), .ref (b 6), .ref (b 7), .ref (b 8), .ref (b 9), .ref (b 10), .ref (b 11), .ref (b 12), .int 0, .int 0, .int (nI mo), .ref (b 13), .ref (b 14), .ref (b 16)])), ((b 6), .inl (g.2.1 0, 2, .inl (fun _ => 4))), ((b 7), .inl (g.2.1 0, 8, .inl (fun _ => 0))), ((b 3), .inl (g.2.1 0, 16, .inl (fun _ => 0))), ((b 11), .inl (g.2.1 0, 16, .inl (fun _ => 0))), ((b 12), .inl (g.2.1 0, 16, .inl (fun _ => 0))), (q1, .inl (g.2.1 0, 16, .inl (fun _ => 0)))]) (wr := [((b 1), .inl (g.2.1 0, 16, .inl (fun _ => 0))), ((b 2), .inl (g.2.1 0, 16, .inl (fun _ => 10))), ((b 4), .inl (g.2.1 0, 16, .inl (fun _ => 0)))]) E hA [3, 4, 5, 6, 7, 8, 9] [0, 1, 2] rfl rfl rfl rfl (by decide)) E (fun u13 H locs hp E => ?_)
              have E : Ev g _ s.heap H locs [((b 1), .inl (g.2.1 0, 16, .inl (fun _ => 0))), ((b 2), .inl (g.2.1 0, 16, .inl (fun _ => 10))), ((b 4), .inl (g.2.1 0, 16, .inl (fun _ => 0))), ((b 0), .inr (10, [.ref (b 1), .ref (b 2), .ref (b 3), .ref (b 4), .ref (b 5), .ref (b 6), .ref (b 7), .ref (b 8), .ref (b 9), .ref (b 10), .ref (b 11), .ref (b 12), .int 0, .int 0, .int (nI mo), .ref (b 13), .ref (b 14), .ref (b 16)])), ((b 6), .inl (g.2.1 0, 2, .inl (fun _ => 4))), ((b 7), .inl (g.2.1 0, 8, .inl (fun _ => 0))), ((b 3), .inl (g.2.1 0, 16, .inl (fun _ => 0))), ((b 11), .inl (g.2.1 0, 16, .inl (fun _ => 0))), ((b 12), .inl (g.2.1 0, 16, .inl (fun _ => 0))), (q1, .inl (g.2.1 0, 16, .inl (fun _ => 0)))] := E
              refine lv_aload_n hx hb dX7_flowAll_82 rfl (lv_at hl 3 rfl) ?_
              refine lv_aload_n hx hb dX7_flowAll_83 rfl (lv_at hl 2 rfl) ?_
              refine lv_iload_n hx hb dX7_flowAll_84 rfl (lv_at hl 1 rfl) ?_
              refine lv_iload_n hx hb dX7_flowAll_85 rfl (lv_at hl 1 rfl) ?_
              refine lv_bipush (v := 8) hx hb dX7_flowAll_86 (by decide) ?_
              refine k_iadd (v := (nI (i3 + 8))) hx hb (nI_add i3 8) dX7_flowAll_88 ?_
              refine lv_bipush (v := 16) hx hb dX7_flowAll_89 (by decide) ?_
              refine k_irem (v := (nI ((i3 + 8) % 16))) hx hb (by decide) (pk_rem (a := (i3 + 8)) (d := 16) (by omega) (by decide) (by decide)) dX7_flowAll_91 ?_
              refine w_retv (runV_X (As := [.ref q1, .int (nI i3), .int (nI ((i3 + 8) % 16))]) (rest := []) (q0 := 0) (n := 3) S hml hK (hZ.at E) (Cut.of (wc := [((b 0), .inr (10, [.ref (b 1), .ref (b 2), .ref (b 3), .ref (b 4), .ref (b 5), .ref (b 6), .ref (b 7), .ref (b 8), .ref (b 9), .ref (b 10), .ref (b 11), .ref (b 12), .int 0, .int 0, .int (nI mo), .ref (b 13), .ref (b 14), .ref (b 16)])), ((b 6), .inl (g.2.1 0, 2, .inl (fun _ => 4))), ((b 7), .inl (g.2.1 0, 8, .inl (fun _ => 0))), ((b 3), .inl (g.2.1 0, 16, .inl (fun _ => 0))), ((b 11), .inl (g.2.1 0, 16, .inl (fun _ => 0))), ((b 12), .inl (g.2.1 0, 16, .inl (fun _ => 0))), (q1, .inl (g.2.1 0, 16, .inl (fun _ => 0)))]) (wr := [((b 1), .inl (g.2.1 0, 16, .inl (fun _ => 0))), ((b 2), .inl (g.2.1 0, 16, .inl (fun _ => 10))), ((b 4), .inl (g.2.1 0, 16, .inl (fun _ => 0)))]) E hA [3, 4, 5, 6, 7, 8, 9] [0, 1, 2] rfl rfl rfl rfl (by decide)) (c_X7_goes l g b mo q1 i3 ((i3 + 8) % 16) (by omega) (by omega) _ _) (gi_wsV ml_X7_151 im_X7_goes sl_X7_goes in_X7 co_X7_goes) ⟨rfl, by decide +kernel, by decide +kernel, by decide +kernel⟩ ⟨Nat.le_of_ble_eq_true rfl, Nat.le_of_ble_eq_true rfl⟩ rfl rfl rfl hl.1 rfl (Nat.le_of_ble_eq_true rfl) dX7_flowAll_92 ⟨Nat.le_of_ble_eq_true rfl, Nat.le_of_ble_eq_true rfl⟩) (Cut.of (wc := [((b 0), .inr (10, [.ref (b 1), .ref (b 2), .ref (b 3), .ref (b 4), .ref (b 5), .ref (b 6), .ref (b 7), .ref (b 8), .ref (b 9), .ref (b 10), .ref (b 11), .ref (b 12), .int 0, .int 0, .int (nI mo), .ref (b 13), .ref (b 14), .ref (b 16)])), ((b 6), .inl (g.2.1 0, 2, .inl (fun _ => 4))), ((b 7), .inl (g.2.1 0, 8, .inl (fun _ => 0))), ((b 3), .inl (g.2.1 0, 16, .inl (fun _ => 0))), ((b 11), .inl (g.2.1 0, 16, .inl (fun _ => 0))), ((b 12), .inl (g.2.1 0, 16, .inl (fun _ => 0))), (q1, .inl (g.2.1 0, 16, .inl (fun _ => 0)))]) (wr := [((b 1), .inl (g.2.1 0, 16, .inl (fun _ => 0))), ((b 2), .inl (g.2.1 0, 16, .inl (fun _ => 10))), ((b 4), .inl (g.2.1 0, 16, .inl (fun _ => 0)))]) E hA [3, 4, 5, 6, 7, 8, 9] [0, 1, 2] rfl rfl rfl rfl (by decide)) E (fun u14 H locs hp E => ?_)
              have E : Ev g _ s.heap H locs [((b 1), .inl (g.2.1 0, 16, .inl (fun _ => 0))), ((b 2), .inl (g.2.1 0, 16, .inl (fun _ => 10))), ((b 4), .inl (g.2.1 0, 16, .inl (fun _ => 0))), ((b 0), .inr (10, [.ref (b 1), .ref (b 2), .ref (b 3), .ref (b 4), .ref (b 5), .ref (b 6), .ref (b 7), .ref (b 8), .ref (b 9), .ref (b 10), .ref (b 11), .ref (b 12), .int 0, .int 0, .int (nI mo), .ref (b 13), .ref (b 14), .ref (b 16)])), ((b 6), .inl (g.2.1 0, 2, .inl (fun _ => 4))), ((b 7), .inl (g.2.1 0, 8, .inl (fun _ => 0))), ((b 3), .inl (g.2.1 0, 16, .inl (fun _ => 0))), ((b 11), .inl (g.2.1 0, 16, .inl (fun _ => 0))), ((b 12), .inl (g.2.1 0, 16, .inl (fun _ => 0))), (q1, .inl (g.2.1 0, 16, .inl (fun _ => 0)))] := E
              refine lv_iinc (v := (nI (i3 + 1))) (lv' := [(2, .int (nI (i3 + 1))), (3, .int (nI (i3 % 8))), (1, .ref q1), (0, .ref (b 0))]) hx hb dX7_flowAll_95 hl (k := 1) rfl (nI_1 i3) (by decide) rfl (fun ls hl => ?_)
              refine lv_goto (tgt := 43) hx hb dX7_flowAll_98 (by decide) ?_
              have E : Ev g _ s.heap H locs [((b 0), .inr (10, [.ref (b 1), .ref (b 2), .ref (b 3), .ref (b 4), .ref (b 5), .ref (b 6), .ref (b 7), .ref (b 8), .ref (b 9), .ref (b 10), .ref (b 11), .ref (b 12), .int 0, .int 0, .int (nI mo), .ref (b 13), .ref (b 14), .ref (b 16)])), ((b 1), .inl (g.2.1 0, 16, .inl (fun _ => 0))), ((b 2), .inl (g.2.1 0, 16, .inl (fun _ => 10))), ((b 3), .inl (g.2.1 0, 16, .inl (fun _ => 0))), ((b 4), .inl (g.2.1 0, 16, .inl (fun _ => 0))), ((b 6), .inl (g.2.1 0, 2, .inl (fun _ => 4))), ((b 7), .inl (g.2.1 0, 8, .inl (fun _ => 0))), ((b 11), .inl (g.2.1 0, 16, .inl (fun _ => 0))), ((b 12), .inl (g.2.1 0, 16, .inl (fun _ => 0))), (q1, .inl (g.2.1 0, 16, .inl (fun _ => 0)))] := Ev.sub E [3, 0, 1, 6, 2, 4, 5, 7, 8, 9] rfl rfl
              exact ih3 (i3 + 1) (by omega) _ _ E ls (lv_sub hl [0, 2, 3] rfl)
      exact L3 16 0 (by omega) _ _ E ls (lv_sub hl [0, 1, 2] rfl)
    | succ k2 ih2 =>
      intro i2 hi2 H locs E ls hl
      have hl : lv_has ls 4 [(2, .int (nI i2)), (1, .ref q1), (0, .ref (b 0))] := hl
      refine lv_iload_n hx hb dX7_flowAll_7 rfl (lv_at hl 0 rfl) ?_
      refine lv_bipush (v := 16) hx hb dX7_flowAll_8 (by decide) ?_
      refine lv_icmp_ge (tgt := 41) hx hb dX7_flowAll_10 (by decide) (fun c_ => absurd c_ (g_no (a := i2) (b := 16) rfl rfl (by omega) (by omega))) (fun _ => ?_)
      refine lv_aload_n hx hb dX7_flowAll_13 rfl (lv_at hl 1 rfl) ?_
      refine lv_iload_n hx hb dX7_flowAll_14 rfl (lv_at hl 0 rfl) ?_
      refine lv_aload_n hx hb dX7_flowAll_15 rfl (lv_at hl 2 rfl) ?_
      refine lv_iload_n hx hb dX7_flowAll_16 rfl (lv_at hl 0 rfl) ?_
      refine w_reti (runV_X (As := [.int (nI i2)]) (rest := [.int (nI i2), .ref q1]) (q0 := 0) (n := 1) S hml hK (hZ.at E) (Cut.of (wc := [((b 0), .inr (10, [.ref (b 1), .ref (b 2), .ref (b 3), .ref (b 4), .ref (b 5), .ref (b 6), .ref (b 7), .ref (b 8), .ref (b 9), .ref (b 10), .ref (b 11), .ref (b 12), .int 0, .int 0, .int (nI mo), .ref (b 13), .ref (b 14), .ref (b 16)])), ((b 1), .inl (g.2.1 0, 16, .inl (fun _ => 0))), ((b 2), .inl (g.2.1 0, 16, .inl (fun _ => 10))), ((b 3), .inl (g.2.1 0, 16, .inl (fun _ => 0)))]) (wr := [((b 4), .inl (g.2.1 0, 16, .inl (fun _ => 0))), ((b 6), .inl (g.2.1 0, 2, .inl (fun _ => 4))), ((b 7), .inl (g.2.1 0, 8, .inl (fun _ => 0))), ((b 11), .inl (g.2.1 0, 16, .inl (fun _ => 0))), ((b 12), .inl (g.2.1 0, 16, .inl (fun _ => 0))), (q1, .inl (g.2.1 0, 16, .inl (fun _ => 0)))]) E hA [0, 1, 2, 3] [4, 5, 6, 7, 8, 9] rfl rfl rfl rfl (by decide)) (c_X7_level l g b mo (nI i2) (vp_in_nI (n := i2) (by omega) (by decide)) _ _) (gi_wsV ml_X7_148 im_X7_level sl_X7_level in_X7 co_X7_level) ⟨rfl, by decide +kernel, by decide +kernel, by decide +kernel⟩ ⟨Nat.le_of_ble_eq_true rfl, Nat.le_of_ble_eq_true rfl⟩ rfl rfl rfl hl.1 rfl (Nat.le_of_ble_eq_true rfl) dX7_flowAll_17 ⟨Nat.le_of_ble_eq_true rfl, Nat.le_of_ble_eq_true rfl⟩) (Cut.of (wc := [((b 0), .inr (10, [.ref (b 1), .ref (b 2), .ref (b 3), .ref (b 4), .ref (b 5), .ref (b 6), .ref (b 7), .ref (b 8), .ref (b 9), .ref (b 10), .ref (b 11), .ref (b 12), .int 0, .int 0, .int (nI mo), .ref (b 13), .ref (b 14), .ref (b 16)])), ((b 1), .inl (g.2.1 0, 16, .inl (fun _ => 0))), ((b 2), .inl (g.2.1 0, 16, .inl (fun _ => 10))), ((b 3), .inl (g.2.1 0, 16, .inl (fun _ => 0)))]) (wr := [((b 4), .inl (g.2.1 0, 16, .inl (fun _ => 0))), ((b 6), .inl (g.2.1 0, 2, .inl (fun _ => 4))), ((b 7), .inl (g.2.1 0, 8, .inl (fun _ => 0))), ((b 11), .inl (g.2.1 0, 16, .inl (fun _ => 0))), ((b 12), .inl (g.2.1 0, 16, .inl (fun _ => 0))), (q1, .inl (g.2.1 0, 16, .inl (fun _ => 0)))]) E hA [0, 1, 2, 3] [4, 5, 6, 7, 8, 9] rfl rfl rfl rfl (by decide)) E (fun r15 u15 H locs hp E => ?_)
      have E : Ev g _ s.heap H locs [((b 4), .inl (g.2.1 0, 16, .inl (fun _ => 0))), ((b 6), .inl (g.2.1 0, 2, .inl (fun _ => 4))), ((b 7), .inl (g.2.1 0, 8, .inl (fun _ => 0))), ((b 11), .inl (g.2.1 0, 16, .inl (fun _ => 0))), ((b 12), .inl (g.2.1 0, 16, .inl (fun _ => 0))), (q1, .inl (g.2.1 0, 16, .inl (fun _ => 0))), ((b 0), .inr (10, [.ref (b 1), .ref (b 2), .ref (b 3), .ref (b 4), .ref (b 5), .ref (b 6), .ref (b 7), .ref (b 8), .ref (b 9), .ref (b 10), .ref (b 11), .ref (b 12), .int 0, .int 0, .int (nI mo), .ref (b 13), .ref (b 14), .ref (b 16)])), ((b 1), .inl (g.2.1 0, 16, .inl (fun _ => 0))), ((b 2), .inl (g.2.1 0, 16, .inl (fun _ => 10))), ((b 3), .inl (g.2.1 0, 16, .inl (fun _ => 0)))] := E
      subst hp
      refine w_ist (w' := [((b 4), .inl (g.2.1 0, 16, .inl (fun _ => 0))), ((b 6), .inl (g.2.1 0, 2, .inl (fun _ => 4))), ((b 7), .inl (g.2.1 0, 8, .inl (fun _ => 0))), ((b 11), .inl (g.2.1 0, 16, .inl (fun _ => 0))), ((b 12), .inl (g.2.1 0, 16, .inl (fun _ => 0))), (q1, .inl (g.2.1 0, 16, .inl (fun _ => 0))), ((b 0), .inr (10, [.ref (b 1), .ref (b 2), .ref (b 3), .ref (b 4), .ref (b 5), .ref (b 6), .ref (b 7), .ref (b 8), .ref (b 9), .ref (b 10), .ref (b 11), .ref (b 12), .int 0, .int 0, .int (nI mo), .ref (b 13), .ref (b 14), .ref (b 16)])), ((b 1), .inl (g.2.1 0, 16, .inl (fun _ => 0))), ((b 2), .inl (g.2.1 0, 16, .inl (fun _ => 10))), ((b 3), .inl (g.2.1 0, 16, .inl (fun _ => 0)))]) S hK E 5 0 rfl rfl (vp_in_nI (n := i2) (by omega) (by decide)) (by rw [upd_c]; rfl) dX7_flowAll_20 (fun H locs E => ?_)
      refine lv_aload_n hx hb dX7_flowAll_21 rfl (lv_at hl 2 rfl) ?_
      refine wg_X7_42 (v := .ref (b 11)) S hK E 6 rfl rfl dX7_flowAll_22 ?_
      refine lv_iload_n hx hb dX7_flowAll_25 rfl (lv_at hl 0 rfl) ?_
      refine lv_iconst (v := 0) hx hb dX7_flowAll_26 (by decide) ?_
      refine w_ist (w' := [((b 4), .inl (g.2.1 0, 16, .inl (fun _ => 0))), ((b 6), .inl (g.2.1 0, 2, .inl (fun _ => 4))), ((b 7), .inl (g.2.1 0, 8, .inl (fun _ => 0))), ((b 11), .inl (g.2.1 0, 16, .inl (fun _ => 0))), ((b 12), .inl (g.2.1 0, 16, .inl (fun _ => 0))), (q1, .inl (g.2.1 0, 16, .inl (fun _ => 0))), ((b 0), .inr (10, [.ref (b 1), .ref (b 2), .ref (b 3), .ref (b 4), .ref (b 5), .ref (b 6), .ref (b 7), .ref (b 8), .ref (b 9), .ref (b 10), .ref (b 11), .ref (b 12), .int 0, .int 0, .int (nI mo), .ref (b 13), .ref (b 14), .ref (b 16)])), ((b 1), .inl (g.2.1 0, 16, .inl (fun _ => 0))), ((b 2), .inl (g.2.1 0, 16, .inl (fun _ => 10))), ((b 3), .inl (g.2.1 0, 16, .inl (fun _ => 0)))]) S hK E 3 0 rfl rfl (vp_in_nI (n := i2) (by omega) (by decide)) (by rw [upd_c]; rfl) dX7_flowAll_27 (fun H locs E => ?_)
      refine lv_aload_n hx hb dX7_flowAll_28 rfl (lv_at hl 2 rfl) ?_
      refine wg_X7_45 (v := .ref (b 12)) S hK E 6 rfl rfl dX7_flowAll_29 ?_
      refine lv_iload_n hx hb dX7_flowAll_32 rfl (lv_at hl 0 rfl) ?_
      refine lv_iconst (v := 0) hx hb dX7_flowAll_33 (by decide) ?_
      refine w_ist (w' := [((b 4), .inl (g.2.1 0, 16, .inl (fun _ => 0))), ((b 6), .inl (g.2.1 0, 2, .inl (fun _ => 4))), ((b 7), .inl (g.2.1 0, 8, .inl (fun _ => 0))), ((b 11), .inl (g.2.1 0, 16, .inl (fun _ => 0))), ((b 12), .inl (g.2.1 0, 16, .inl (fun _ => 0))), (q1, .inl (g.2.1 0, 16, .inl (fun _ => 0))), ((b 0), .inr (10, [.ref (b 1), .ref (b 2), .ref (b 3), .ref (b 4), .ref (b 5), .ref (b 6), .ref (b 7), .ref (b 8), .ref (b 9), .ref (b 10), .ref (b 11), .ref (b 12), .int 0, .int 0, .int (nI mo), .ref (b 13), .ref (b 14), .ref (b 16)])), ((b 1), .inl (g.2.1 0, 16, .inl (fun _ => 0))), ((b 2), .inl (g.2.1 0, 16, .inl (fun _ => 10))), ((b 3), .inl (g.2.1 0, 16, .inl (fun _ => 0)))]) S hK E 4 0 rfl rfl (vp_in_nI (n := i2) (by omega) (by decide)) (by rw [upd_c]; rfl) dX7_flowAll_34 (fun H locs E => ?_)
      refine lv_iinc (v := (nI (i2 + 1))) (lv' := [(2, .int (nI (i2 + 1))), (1, .ref q1), (0, .ref (b 0))]) hx hb dX7_flowAll_35 hl (k := 0) rfl (nI_1 i2) (by decide) rfl (fun ls hl => ?_)
      refine lv_goto (tgt := 7) hx hb dX7_flowAll_38 (by decide) ?_
      have E : Ev g _ s.heap H locs [((b 0), .inr (10, [.ref (b 1), .ref (b 2), .ref (b 3), .ref (b 4), .ref (b 5), .ref (b 6), .ref (b 7), .ref (b 8), .ref (b 9), .ref (b 10), .ref (b 11), .ref (b 12), .int 0, .int 0, .int (nI mo), .ref (b 13), .ref (b 14), .ref (b 16)])), ((b 1), .inl (g.2.1 0, 16, .inl (fun _ => 0))), ((b 2), .inl (g.2.1 0, 16, .inl (fun _ => 10))), ((b 3), .inl (g.2.1 0, 16, .inl (fun _ => 0))), ((b 4), .inl (g.2.1 0, 16, .inl (fun _ => 0))), ((b 6), .inl (g.2.1 0, 2, .inl (fun _ => 4))), ((b 7), .inl (g.2.1 0, 8, .inl (fun _ => 0))), ((b 11), .inl (g.2.1 0, 16, .inl (fun _ => 0))), ((b 12), .inl (g.2.1 0, 16, .inl (fun _ => 0))), (q1, .inl (g.2.1 0, 16, .inl (fun _ => 0)))] := Ev.sub E [6, 7, 8, 9, 0, 1, 2, 3, 4, 5] rfl rfl
      exact ih2 (i2 + 1) (by omega) _ _ E ls (lv_sub hl [0, 1, 2] rfl)
  exact L2 16 0 (by omega) _ _ E ls (lv_sub hl [0, 1, 2] rfl)

set_option maxHeartbeats 4000000 in
set_option maxRecDepth 100000 in
/-- byAge, no wells -/
theorem c_X7_byAge (l : Launch) (g : Gm) (b : Nat → Nat) (mo : Nat) : MXr (S := Nat) l g yX7_byAge cX7_byAge 4 (.object "java/util/ArrayList") ({ frames := 4, cells := 1, slots := 3, locals := 72 } : Room) [.ref (b 0)] [((b 0), .inr (10, [.ref (b 1), .ref (b 2), .ref (b 3), .ref (b 4), .ref (b 5), .ref (b 6), .ref (b 7), .ref (b 8), .ref (b 9), .ref (b 10), .ref (b 11), .ref (b 12), .int 0, .int 0, .int (nI mo), .ref (b 13), .ref (b 14), .ref (b 16)])), ((b 13), .inr (8, [.int 0, .ref (g.2.2 0), .int 0]))] (fun _ => True) (fun u => u) (fun u => [((b 0), .inr (10, [.ref (b 1), .ref (b 2), .ref (b 3), .ref (b 4), .ref (b 5), .ref (b 6), .ref (b 7), .ref (b 8), .ref (b 9), .ref (b 10), .ref (b 11), .ref (b 12), .int 0, .int 0, .int (nI mo), .ref (b 13), .ref (b 14), .ref (b 16)])), ((b 13), .inr (8, [.int 0, .ref (g.2.2 0), .int 0])), (u, .inr (8, [.int 0, .ref (g.2.2 0), .int 0]))]) (fun _ => (1, 3)) := by
  intro sz tt
  refine ofX RX7 rfl (by decide +kernel) (Nat.le_of_ble_eq_true rfl) (fun p e s m args below meth c hargs S hml hr hlk hnm hsz htt hK hA hZ E ls hl => ?_)
  have hx := S.1
  have hb := S.2.1
  have hl : lv_has ls 4 [(0, .ref (b 0))] := hl
  refine w_new (ci := 8) (fs := [.int 0, .null, .int 0]) (C := RJx4a65c) (T := TJx4a65c) (N := 3) S hK E hA fw_Jx4a65c tyJx4a65c tyJx4a65c_ok cl_X7_48 ib_Jx4a65c in_Jx4a65c rfl (fun j hj => by rcases (show j = 0 ∨ j = 1 ∨ j = 2 by omega) with rfl | rfl | rfl <;> rfl) (Nat.le_of_ble_eq_true rfl) (Nat.le_of_ble_eq_true rfl) dX7_byAge_0 (fun q1 H E => ?_)
  have E : Ev g _ s.heap H _ [((b 0), .inr (10, [.ref (b 1), .ref (b 2), .ref (b 3), .ref (b 4), .ref (b 5), .ref (b 6), .ref (b 7), .ref (b 8), .ref (b 9), .ref (b 10), .ref (b 11), .ref (b 12), .int 0, .int 0, .int (nI mo), .ref (b 13), .ref (b 14), .ref (b 16)])), ((b 13), .inr (8, [.int 0, .ref (g.2.2 0), .int 0])), (q1, .inr (8, [.int 0, .null, .int 0]))] := E
  refine lv_dup hx hb dX7_byAge_3 rfl ?_
  refine w_retv (runI_X (As := []) (rest := [.ref q1]) (n := 0) S hml hK (hZ.at E) (Cut.of (wc := [(q1, .inr (8, [.int 0, .null, .int 0]))]) (wr := [((b 0), .inr (10, [.ref (b 1), .ref (b 2), .ref (b 3), .ref (b 4), .ref (b 5), .ref (b 6), .ref (b 7), .ref (b 8), .ref (b 9), .ref (b 10), .ref (b 11), .ref (b 12), .int 0, .int 0, .int (nI mo), .ref (b 13), .ref (b 14), .ref (b 16)])), ((b 13), .inr (8, [.int 0, .ref (g.2.2 0), .int 0]))]) E hA [2] [0, 1] rfl rfl rfl rfl (by decide)) (c_Jx4a65c_init_da8c8 l g q1 _ _) ml_X7_50 im_Jx4a65c_init_da8c8 in_Jx4a65c co_Jx4a65c_init_da8c8 rfl ⟨by decide +kernel, by decide +kernel, by decide +kernel⟩ ⟨Nat.le_of_ble_eq_true rfl, Nat.le_of_ble_eq_true rfl⟩ rfl hl.1 rfl (Nat.le_of_ble_eq_true rfl) dX7_byAge_4 ⟨Nat.le_of_ble_eq_true rfl, Nat.le_of_ble_eq_true rfl⟩) (Cut.of (wc := [(q1, .inr (8, [.int 0, .null, .int 0]))]) (wr := [((b 0), .inr (10, [.ref (b 1), .ref (b 2), .ref (b 3), .ref (b 4), .ref (b 5), .ref (b 6), .ref (b 7), .ref (b 8), .ref (b 9), .ref (b 10), .ref (b 11), .ref (b 12), .int 0, .int 0, .int (nI mo), .ref (b 13), .ref (b 14), .ref (b 16)])), ((b 13), .inr (8, [.int 0, .ref (g.2.2 0), .int 0]))]) E hA [2] [0, 1] rfl rfl rfl rfl (by decide)) E (fun u2 H locs hp E => ?_)
  have E : Ev g _ s.heap H locs [((b 0), .inr (10, [.ref (b 1), .ref (b 2), .ref (b 3), .ref (b 4), .ref (b 5), .ref (b 6), .ref (b 7), .ref (b 8), .ref (b 9), .ref (b 10), .ref (b 11), .ref (b 12), .int 0, .int 0, .int (nI mo), .ref (b 13), .ref (b 14), .ref (b 16)])), ((b 13), .inr (8, [.int 0, .ref (g.2.2 0), .int 0])), (q1, .inr (8, [.int 0, .ref (g.2.2 0), .int 0]))] := E
  refine lv_astore_n (lv' := [(1, .ref q1), (0, .ref (b 0))]) hx hb dX7_byAge_7 rfl hl (by decide) rfl (fun ls hl => ?_)
  refine lv_iconst (v := 0) hx hb dX7_byAge_8 (by decide) ?_
  refine lv_istore_n (lv' := [(2, .int 0), (1, .ref q1), (0, .ref (b 0))]) hx hb dX7_byAge_9 rfl hl (by decide) rfl (fun ls hl => ?_)
  refine lv_iload_n hx hb dX7_byAge_10 rfl (lv_at hl 0 rfl) ?_
  refine lv_aload_n hx hb dX7_byAge_11 rfl (lv_at hl 2 rfl) ?_
  refine wg_X7_51 (v := .ref (b 13)) S hK E 0 rfl rfl dX7_byAge_12 ?_
  refine w_reti (runV_X (As := []) (rest := [.int 0]) (q0 := 0) (n := 0) S hml hK (hZ.at E) (Cut.of (wc := [((b 13), .inr (8, [.int 0, .ref (g.2.2 0), .int 0]))]) (wr := [((b 0), .inr (10, [.ref (b 1), .ref (b 2), .ref (b 3), .ref (b 4), .ref (b 5), .ref (b 6), .ref (b 7), .ref (b 8), .ref (b 9), .ref (b 10), .ref (b 11), .ref (b 12), .int 0, .int 0, .int (nI mo), .ref (b 13), .ref (b 14), .ref (b 16)])), (q1, .inr (8, [.int 0, .ref (g.2.2 0), .int 0]))]) E hA [1] [0, 2] rfl rfl rfl rfl (by decide)) (c_Jx4a65c_size_8abf5 l g (b 13) 0 0 (g.2.2 0) _ _) (gi_wsV ml_X7_66 im_Jx4a65c_size_8abf5 sl_Jx4a65c_size_8abf5 in_Jx4a65c co_Jx4a65c_size_8abf5) ⟨rfl, by decide +kernel, by decide +kernel, by decide +kernel⟩ ⟨Nat.le_of_ble_eq_true rfl, Nat.le_of_ble_eq_true rfl⟩ rfl rfl rfl hl.1 rfl (Nat.le_of_ble_eq_true rfl) dX7_byAge_15 ⟨Nat.le_of_ble_eq_true rfl, Nat.le_of_ble_eq_true rfl⟩) (Cut.of (wc := [((b 13), .inr (8, [.int 0, .ref (g.2.2 0), .int 0]))]) (wr := [((b 0), .inr (10, [.ref (b 1), .ref (b 2), .ref (b 3), .ref (b 4), .ref (b 5), .ref (b 6), .ref (b 7), .ref (b 8), .ref (b 9), .ref (b 10), .ref (b 11), .ref (b 12), .int 0, .int 0, .int (nI mo), .ref (b 13), .ref (b 14), .ref (b 16)])), (q1, .inr (8, [.int 0, .ref (g.2.2 0), .int 0]))]) E hA [1] [0, 2] rfl rfl rfl rfl (by decide)) E (fun r3 u3 H locs hp E => ?_)
  have E : Ev g _ s.heap H locs [((b 0), .inr (10, [.ref (b 1), .ref (b 2), .ref (b 3), .ref (b 4), .ref (b 5), .ref (b 6), .ref (b 7), .ref (b 8), .ref (b 9), .ref (b 10), .ref (b 11), .ref (b 12), .int 0, .int 0, .int (nI mo), .ref (b 13), .ref (b 14), .ref (b 16)])), (q1, .inr (8, [.int 0, .ref (g.2.2 0), .int 0])), ((b 13), .inr (8, [.int 0, .ref (g.2.2 0), .int 0]))] := E
  subst hp
  refine lv_icmp_ge (tgt := 93) hx hb dX7_byAge_18 (by decide) (fun _ => ?_) (fun c_ => absurd (show (0 : Int32) ≤ (0 : Int32) by decide) c_)
  refine lv_aload_n hx hb dX7_byAge_93 rfl (lv_at hl 1 rfl) ?_
  have E : Ev g _ s.heap H locs [((b 0), .inr (10, [.ref (b 1), .ref (b 2), .ref (b 3), .ref (b 4), .ref (b 5), .ref (b 6), .ref (b 7), .ref (b 8), .ref (b 9), .ref (b 10), .ref (b 11), .ref (b 12), .int 0, .int 0, .int (nI mo), .ref (b 13), .ref (b 14), .ref (b 16)])), ((b 13), .inr (8, [.int 0, .ref (g.2.2 0), .int 0])), (q1, .inr (8, [.int 0, .ref (g.2.2 0), .int 0]))] := Ev.sub E [0, 2, 1] rfl rfl
  exact x_aret q1 S hr (by first | exact Or.inl ⟨_, rfl⟩ | exact Or.inr ⟨_, rfl⟩) hlk hsz htt hK E dX7_byAge_94 trivial rfl rfl ⟨Nat.le_of_ble_eq_true rfl, Nat.le_of_ble_eq_true rfl⟩ ⟨Nat.le_of_ble_eq_true rfl, Nat.le_of_ble_eq_true rfl⟩

set_option maxHeartbeats 4000000 in
set_option maxRecDepth 100000 in
/-- pump, no wells -/
theorem c_X7_pump (l : Launch) (g : Gm) (b : Nat → Nat) (mo : Nat) : MXv (S := Unit) l g yX7_pump cX7_pump 11 ({ frames := 5, cells := 1, slots := 3, locals := 95 } : Room) [.ref (b 0)] [((b 0), .inr (10, [.ref (b 1), .ref (b 2), .ref (b 3), .ref (b 4), .ref (b 5), .ref (b 6), .ref (b 7), .ref (b 8), .ref (b 9), .ref (b 10), .ref (b 11), .ref (b 12), .int 0, .int 0, .int (nI mo), .ref (b 13), .ref (b 14), .ref (b 16)])), ((b 13), .inr (8, [.int 0, .ref (g.2.2 0), .int 0]))] (fun _ => True) (fun _ => [((b 0), .inr (10, [.ref (b 1), .ref (b 2), .ref (b 3), .ref (b 4), .ref (b 5), .ref (b 6), .ref (b 7), .ref (b 8), .ref (b 9), .ref (b 10), .ref (b 11), .ref (b 12), .int 0, .int 0, .int (nI mo), .ref (b 13), .ref (b 14), .ref (b 16)])), ((b 13), .inr (8, [.int 0, .ref (g.2.2 0), .int 0]))]) (fun _ => (1, 3)) := by
  intro sz tt
  refine ofX RX7 rfl (by decide +kernel) (Nat.le_of_ble_eq_true rfl) (fun p e s m args below meth c hargs S hml hr hlk hnm hsz htt hK hA hZ E ls hl => ?_)
  have hx := S.1
  have hb := S.2.1
  have hl : lv_has ls 11 [(0, .ref (b 0))] := hl
  refine lv_aload_n hx hb dX7_pump_0 rfl (lv_at hl 0 rfl) ?_
  refine w_retr (runV_X (As := []) (rest := []) (q0 := 0) (n := 0) S hml hK (hZ.at E) (Cut.full E hA) (c_X7_byAge l g b mo _ _) (gi_wsV ml_X7_93 im_X7_byAge sl_X7_byAge in_X7 co_X7_byAge) ⟨rfl, by decide +kernel, by decide +kernel, by decide +kernel⟩ ⟨Nat.le_of_ble_eq_true rfl, Nat.le_of_ble_eq_true rfl⟩ rfl rfl rfl hl.1 rfl (Nat.le_of_ble_eq_true rfl) dX7_pump_1 ⟨Nat.le_of_ble_eq_true rfl, Nat.le_of_ble_eq_true rfl⟩) (Cut.full E hA) E (fun u1 H locs hp E => ?_)
  have E : Ev g _ s.heap H locs [((b 0), .inr (10, [.ref (b 1), .ref (b 2), .ref (b 3), .ref (b 4), .ref (b 5), .ref (b 6), .ref (b 7), .ref (b 8), .ref (b 9), .ref (b 10), .ref (b 11), .ref (b 12), .int 0, .int 0, .int (nI mo), .ref (b 13), .ref (b 14), .ref (b 16)])), ((b 13), .inr (8, [.int 0, .ref (g.2.2 0), .int 0])), (u1, .inr (8, [.int 0, .ref (g.2.2 0), .int 0]))] := E
  refine lv_astore_n (lv' := [(1, .ref u1), (0, .ref (b 0))]) hx hb dX7_pump_4 rfl hl (by decide) rfl (fun ls hl => ?_)
  refine lv_iconst (v := 0) hx hb dX7_pump_5 (by decide) ?_
  refine lv_istore_n (lv' := [(2, .int 0), (1, .ref u1), (0, .ref (b 0))]) hx hb dX7_pump_6 rfl hl (by decide) rfl (fun ls hl => ?_)
  refine lv_iload_n hx hb dX7_pump_7 rfl (lv_at hl 0 rfl) ?_
  refine lv_aload_n hx hb dX7_pump_8 rfl (lv_at hl 1 rfl) ?_
  refine w_reti (runV_X (As := []) (rest := [.int 0]) (q0 := 0) (n := 0) S hml hK (hZ.at E) (Cut.of (wc := [(u1, .inr (8, [.int 0, .ref (g.2.2 0), .int 0]))]) (wr := [((b 0), .inr (10, [.ref (b 1), .ref (b 2), .ref (b 3), .ref (b 4), .ref (b 5), .ref (b 6), .ref (b 7), .ref (b 8), .ref (b 9), .ref (b 10), .ref (b 11), .ref (b 12), .int 0, .int 0, .int (nI mo), .ref (b 13), .ref (b 14), .ref (b 16)])), ((b 13), .inr (8, [.int 0, .ref (g.2.2 0), .int 0]))]) E hA [2] [0, 1] rfl rfl rfl rfl (by decide)) (c_Jx4a65c_size_8abf5 l g u1 0 0 (g.2.2 0) _ _) (gi_wsV ml_X7_66 im_Jx4a65c_size_8abf5 sl_Jx4a65c_size_8abf5 in_Jx4a65c co_Jx4a65c_size_8abf5) ⟨rfl, by decide +kernel, by decide +kernel, by decide +kernel⟩ ⟨Nat.le_of_ble_eq_true rfl, Nat.le_of_ble_eq_true rfl⟩ rfl rfl rfl hl.1 rfl (Nat.le_of_ble_eq_true rfl) dX7_pump_9 ⟨Nat.le_of_ble_eq_true rfl, Nat.le_of_ble_eq_true rfl⟩) (Cut.of (wc := [(u1, .inr (8, [.int 0, .ref (g.2.2 0), .int 0]))]) (wr := [((b 0), .inr (10, [.ref (b 1), .ref (b 2), .ref (b 3), .ref (b 4), .ref (b 5), .ref (b 6), .ref (b 7), .ref (b 8), .ref (b 9), .ref (b 10), .ref (b 11), .ref (b 12), .int 0, .int 0, .int (nI mo), .ref (b 13), .ref (b 14), .ref (b 16)])), ((b 13), .inr (8, [.int 0, .ref (g.2.2 0), .int 0]))]) E hA [2] [0, 1] rfl rfl rfl rfl (by decide)) E (fun r2 u2 H locs hp E => ?_)
  have E : Ev g _ s.heap H locs [((b 0), .inr (10, [.ref (b 1), .ref (b 2), .ref (b 3), .ref (b 4), .ref (b 5), .ref (b 6), .ref (b 7), .ref (b 8), .ref (b 9), .ref (b 10), .ref (b 11), .ref (b 12), .int 0, .int 0, .int (nI mo), .ref (b 13), .ref (b 14), .ref (b 16)])), ((b 13), .inr (8, [.int 0, .ref (g.2.2 0), .int 0])), (u1, .inr (8, [.int 0, .ref (g.2.2 0), .int 0]))] := E
  subst hp
  refine lv_icmp_ge (tgt := 273) hx hb dX7_pump_12 (by decide) (fun _ => ?_) (fun c_ => absurd (show (0 : Int32) ≤ (0 : Int32) by decide) c_)
  have E : Ev g _ s.heap H locs [((b 0), .inr (10, [.ref (b 1), .ref (b 2), .ref (b 3), .ref (b 4), .ref (b 5), .ref (b 6), .ref (b 7), .ref (b 8), .ref (b 9), .ref (b 10), .ref (b 11), .ref (b 12), .int 0, .int 0, .int (nI mo), .ref (b 13), .ref (b 14), .ref (b 16)])), ((b 13), .inr (8, [.int 0, .ref (g.2.2 0), .int 0]))] := Ev.sub E [0, 1] rfl rfl
  exact x_vret () S hr hlk hsz htt hK E dX7_pump_273 trivial rfl ⟨Nat.le_of_ble_eq_true rfl, Nat.le_of_ble_eq_true rfl⟩ ⟨Nat.le_of_ble_eq_true rfl, Nat.le_of_ble_eq_true rfl⟩

set_option maxHeartbeats 4000000 in
set_option maxRecDepth 100000 in
/-- runRiver -/
theorem c_X7_runRiver (l : Launch) (g : Gm) (b : Nat → Nat) (mo : Nat) : MXv (S := Unit) l g yX7_runRiver cX7_runRiver 6 ({ frames := 1, cells := 0, slots := 0, locals := 22 } : Room) [.ref (b 0)] [((b 0), .inr (10, [.ref (b 1), .ref (b 2), .ref (b 3), .ref (b 4), .ref (b 5), .ref (b 6), .ref (b 7), .ref (b 8), .ref (b 9), .ref (b 10), .ref (b 11), .ref (b 12), .int 0, .int 0, .int (nI mo), .ref (b 13), .ref (b 14), .ref (b 16)])), ((b 1), .inl (g.2.1 0, 16, .inl (fun _ => 0))), ((b 2), .inl (g.2.1 0, 16, .inl (fun _ => 10))), ((b 3), .inl (g.2.1 0, 16, .inl (fun _ => 0))), ((b 9), .inl (g.2.1 0, 8, .inl (fun _ => 0))), ((b 10), .inl (g.2.1 0, 8, .inl (fun _ => 0))), ((b 16), .inl (g.2.1 1, 26, .inr (.inl (fun _ => 0))))] (fun _ => True) (fun _ => [((b 0), .inr (10, [.ref (b 1), .ref (b 2), .ref (b 3), .ref (b 4), .ref (b 5), .ref (b 6), .ref (b 7), .ref (b 8), .ref (b 9), .ref (b 10), .ref (b 11), .ref (b 12), .int 0, .int 0, .int (nI mo), .ref (b 13), .ref (b 14), .ref (b 16)])), ((b 1), .inl (g.2.1 0, 16, .inl (fun _ => 0))), ((b 2), .inl (g.2.1 0, 16, .inl (fun _ => 10))), ((b 3), .inl (g.2.1 0, 16, .inl (fun _ => 0))), ((b 9), .inl (g.2.1 0, 8, .inl (fun _ => 0))), ((b 10), .inl (g.2.1 0, 8, .inl (fun _ => 0))), ((b 16), .inl (g.2.1 1, 26, .inr (.inl (fun _ => 0))))]) (fun _ => (0, 0)) := by
  intro sz tt
  refine ofX RX7 rfl (by decide +kernel) (Nat.le_of_ble_eq_true rfl) (fun p e s m args below meth c hargs S hml hr hlk hnm hsz htt hK hA hZ E ls hl => ?_)
  have hx := S.1
  have hb := S.2.1
  have hl : lv_has ls 6 [(0, .ref (b 0))] := hl
  refine lv_aload_n hx hb dX7_runRiver_0 rfl (lv_at hl 0 rfl) ?_
  refine wg_X7_155 (v := .int 0) S hK E 0 rfl rfl dX7_runRiver_1 ?_
  refine lv_istore_n (lv' := [(1, .int 0), (0, .ref (b 0))]) hx hb dX7_runRiver_4 rfl hl (by decide) rfl (fun ls hl => ?_)
  refine lv_bipush (v := 7) hx hb dX7_runRiver_5 (by decide) ?_
  refine lv_istore_n (lv' := [(2, .int 7), (1, .int 0), (0, .ref (b 0))]) hx hb dX7_runRiver_7 rfl hl (by decide) rfl (fun ls hl => ?_)
  have L1 : ∀ (k1 i1 : Nat), i1 + k1 = 8 → ∀ (H : Heap) (locs : List Loc), Ev g (va_A [((b 0), .inr (10, [.ref (b 1), .ref (b 2), .ref (b 3), .ref (b 4), .ref (b 5), .ref (b 6), .ref (b 7), .ref (b 8), .ref (b 9), .ref (b 10), .ref (b 11), .ref (b 12), .int 0, .int 0, .int (nI mo), .ref (b 13), .ref (b 14), .ref (b 16)])), ((b 1), .inl (g.2.1 0, 16, .inl (fun _ => 0))), ((b 2), .inl (g.2.1 0, 16, .inl (fun _ => 10))), ((b 3), .inl (g.2.1 0, 16, .inl (fun _ => 0))), ((b 9), .inl (g.2.1 0, 8, .inl (fun _ => 0))), ((b 10), .inl (g.2.1 0, 8, .inl (fun _ => 0))), ((b 16), .inl (g.2.1 1, 26, .inr (.inl (fun _ => 0))))] sz) s.heap H locs [((b 0), .inr (10, [.ref (b 1), .ref (b 2), .ref (b 3), .ref (b 4), .ref (b 5), .ref (b 6), .ref (b 7), .ref (b 8), .ref (b 9), .ref (b 10), .ref (b 11), .ref (b 12), .int 0, .int 0, .int (nI mo), .ref (b 13), .ref (b 14), .ref (b 16)])), ((b 1), .inl (g.2.1 0, 16, .inl (fun _ => 0))), ((b 2), .inl (g.2.1 0, 16, .inl (fun _ => 10))), ((b 3), .inl (g.2.1 0, 16, .inl (fun _ => 0))), ((b 9), .inl (g.2.1 0, 8, .inl (fun _ => 0))), ((b 10), .inl (g.2.1 0, 8, .inl (fun _ => 0))), ((b 16), .inl (g.2.1 1, 26, .inr (.inl (fun _ => 0))))] → ∀ ls : Array Slot, lv_has ls 6 [(2, .int (nI k1 - 1)), (1, .int 0), (0, .ref (b 0))] → W p l e ({ frames := 1, cells := 0, slots := 0, locals := 22 } : Room) s m args below meth c H locs 0 0 (MQ below (va_Qv (S := Unit) (fun _ => True) (AtX g (va_A [((b 0), .inr (10, [.ref (b 1), .ref (b 2), .ref (b 3), .ref (b 4), .ref (b 5), .ref (b 6), .ref (b 7), .ref (b 8), .ref (b 9), .ref (b 10), .ref (b 11), .ref (b 12), .int 0, .int 0, .int (nI mo), .ref (b 13), .ref (b 14), .ref (b 16)])), ((b 1), .inl (g.2.1 0, 16, .inl (fun _ => 0))), ((b 2), .inl (g.2.1 0, 16, .inl (fun _ => 10))), ((b 3), .inl (g.2.1 0, 16, .inl (fun _ => 0))), ((b 9), .inl (g.2.1 0, 8, .inl (fun _ => 0))), ((b 10), .inl (g.2.1 0, 8, .inl (fun _ => 0))), ((b 16), .inl (g.2.1 1, 26, .inr (.inl (fun _ => 0))))] sz) (fun _ => [((b 0), .inr (10, [.ref (b 1), .ref (b 2), .ref (b 3), .ref (b 4), .ref (b 5), .ref (b 6), .ref (b 7), .ref (b 8), .ref (b 9), .ref (b 10), .ref (b 11), .ref (b 12), .int 0, .int 0, .int (nI mo), .ref (b 13), .ref (b 14), .ref (b 16)])), ((b 1), .inl (g.2.1 0, 16, .inl (fun _ => 0))), ((b 2), .inl (g.2.1 0, 16, .inl (fun _ => 10))), ((b 3), .inl (g.2.1 0, 16, .inl (fun _ => 0))), ((b 9), .inl (g.2.1 0, 8, .inl (fun _ => 0))), ((b 10), .inl (g.2.1 0, 8, .inl (fun _ => 0))), ((b 16), .inl (g.2.1 1, 26, .inr (.inl (fun _ => 0))))]) (fun _ => (0, 0)) sz tt) (va_A [((b 0), .inr (10, [.ref (b 1), .ref (b 2), .ref (b 3), .ref (b 4), .ref (b 5), .ref (b 6), .ref (b 7), .ref (b 8), .ref (b 9), .ref (b 10), .ref (b 11), .ref (b 12), .int 0, .int 0, .int (nI mo), .ref (b 13), .ref (b 14), .ref (b 16)])), ((b 1), .inl (g.2.1 0, 16, .inl (fun _ => 0))), ((b 2), .inl (g.2.1 0, 16, .inl (fun _ => 10))), ((b 3), .inl (g.2.1 0, 16, .inl (fun _ => 0))), ((b 9), .inl (g.2.1 0, 8, .inl (fun _ => 0))), ((b 10), .inl (g.2.1 0, 8, .inl (fun _ => 0))), ((b 16), .inl (g.2.1 1, 26, .inr (.inl (fun _ => 0))))] sz)) args s 0 0 (va_A [((b 0), .inr (10, [.ref (b 1), .ref (b 2), .ref (b 3), .ref (b 4), .ref (b 5), .ref (b 6), .ref (b 7), .ref (b 8), .ref (b 9), .ref (b 10), .ref (b 11), .ref (b 12), .int 0, .int 0, .int (nI mo), .ref (b 13), .ref (b 14), .ref (b 16)])), ((b 1), .inl (g.2.1 0, 16, .inl (fun _ => 0))), ((b 2), .inl (g.2.1 0, 16, .inl (fun _ => 10))), ((b 3), .inl (g.2.1 0, 16, .inl (fun _ => 0))), ((b 9), .inl (g.2.1 0, 8, .inl (fun _ => 0))), ((b 10), .inl (g.2.1 0, 8, .inl (fun _ => 0))), ((b 16), .inl (g.2.1 1, 26, .inr (.inl (fun _ => 0))))] sz)) (F0 m 8 ls []) := by
    intro k1
    induction k1 with
    | zero =>
      intro i1 hi1 H locs E ls hl
      have hl : lv_has ls 6 [(2, .int (nI 0 - 1)), (1, .int 0), (0, .ref (b 0))] := hl
      refine lv_iload_n hx hb dX7_runRiver_8 rfl (lv_at hl 0 rfl) ?_
      refine lv_if_lt (tgt := 132) hx hb dX7_runRiver_9 (by decide) (fun _ => ?_) (fun c_ => absurd (show (nI 0 - 1) < 0 by decide) c_)
      refine lv_aload_n hx hb dX7_runRiver_132 rfl (lv_at hl 2 rfl) ?_
      refine lv_bipush (v := 108) hx hb dX7_runRiver_133 (by decide) ?_
      refine lv_iload_n hx hb dX7_runRiver_135 rfl (lv_at hl 1 rfl) ?_
      refine w_retv (runV_X (As := [.int 108, .int 0]) (rest := []) (q0 := 0) (n := 2) S hml hK (hZ.at E) (Cut.of (wc := [((b 0), .inr (10, [.ref (b 1), .ref (b 2), .ref (b 3), .ref (b 4), .ref (b 5), .ref (b 6), .ref (b 7), .ref (b 8), .ref (b 9), .ref (b 10), .ref (b 11), .ref (b 12), .int 0, .int 0, .int (nI mo), .ref (b 13), .ref (b 14), .ref (b 16)])), ((b 16), .inl (g.2.1 1, 26, .inr (.inl (fun _ => 0))))]) (wr := [((b 1), .inl (g.2.1 0, 16, .inl (fun _ => 0))), ((b 2), .inl (g.2.1 0, 16, .inl (fun _ => 10))), ((b 3), .inl (g.2.1 0, 16, .inl (fun _ => 0))), ((b 9), .inl (g.2.1 0, 8, .inl (fun _ => 0))), ((b 10), .inl (g.2.1 0, 8, .inl (fun _ => 0)))]) E hA [0, 6] [1, 2, 3, 4, 5] rfl rfl rfl rfl (by decide)) (c_ct108 l g b mo _ _) (gi_wsV ml_X7_132 im_X7_count sl_X7_count in_X7 co_X7_count) ⟨rfl, by decide +kernel, by decide +kernel, by decide +kernel⟩ ⟨Nat.le_of_ble_eq_true rfl, Nat.le_of_ble_eq_true rfl⟩ rfl rfl rfl hl.1 rfl (Nat.le_of_ble_eq_true rfl) dX7_runRiver_136 ⟨Nat.le_of_ble_eq_true rfl, Nat.le_of_ble_eq_true rfl⟩) (Cut.of (wc := [((b 0), .inr (10, [.ref (b 1), .ref (b 2), .ref (b 3), .ref (b 4), .ref (b 5), .ref (b 6), .ref (b 7), .ref (b 8), .ref (b 9), .ref (b 10), .ref (b 11), .ref (b 12), .int 0, .int 0, .int (nI mo), .ref (b 13), .ref (b 14), .ref (b 16)])), ((b 16), .inl (g.2.1 1, 26, .inr (.inl (fun _ => 0))))]) (wr := [((b 1), .inl (g.2.1 0, 16, .inl (fun _ => 0))), ((b 2), .inl (g.2.1 0, 16, .inl (fun _ => 10))), ((b 3), .inl (g.2.1 0, 16, .inl (fun _ => 0))), ((b 9), .inl (g.2.1 0, 8, .inl (fun _ => 0))), ((b 10), .inl (g.2.1 0, 8, .inl (fun _ => 0)))]) E hA [0, 6] [1, 2, 3, 4, 5] rfl rfl rfl rfl (by decide)) E (fun u2 H locs hp E => ?_)
      have E : Ev g _ s.heap H locs [((b 1), .inl (g.2.1 0, 16, .inl (fun _ => 0))), ((b 2), .inl (g.2.1 0, 16, .inl (fun _ => 10))), ((b 3), .inl (g.2.1 0, 16, .inl (fun _ => 0))), ((b 9), .inl (g.2.1 0, 8, .inl (fun _ => 0))), ((b 10), .inl (g.2.1 0, 8, .inl (fun _ => 0))), ((b 0), .inr (10, [.ref (b 1), .ref (b 2), .ref (b 3), .ref (b 4), .ref (b 5), .ref (b 6), .ref (b 7), .ref (b 8), .ref (b 9), .ref (b 10), .ref (b 11), .ref (b 12), .int 0, .int 0, .int (nI mo), .ref (b 13), .ref (b 14), .ref (b 16)])), ((b 16), .inl (g.2.1 1, 26, .inr (.inl (fun _ => 0))))] := E
      have E : Ev g _ s.heap H locs [((b 0), .inr (10, [.ref (b 1), .ref (b 2), .ref (b 3), .ref (b 4), .ref (b 5), .ref (b 6), .ref (b 7), .ref (b 8), .ref (b 9), .ref (b 10), .ref (b 11), .ref (b 12), .int 0, .int 0, .int (nI mo), .ref (b 13), .ref (b 14), .ref (b 16)])), ((b 1), .inl (g.2.1 0, 16, .inl (fun _ => 0))), ((b 2), .inl (g.2.1 0, 16, .inl (fun _ => 10))), ((b 3), .inl (g.2.1 0, 16, .inl (fun _ => 0))), ((b 9), .inl (g.2.1 0, 8, .inl (fun _ => 0))), ((b 10), .inl (g.2.1 0, 8, .inl (fun _ => 0))), ((b 16), .inl (g.2.1 1, 26, .inr (.inl (fun _ => 0))))] := Ev.sub E [5, 0, 1, 2, 3, 4, 6] rfl rfl
      exact x_vret () S hr hlk hsz htt hK E dX7_runRiver_139 trivial rfl ⟨Nat.le_of_ble_eq_true rfl, Nat.le_of_ble_eq_true rfl⟩ ⟨Nat.le_of_ble_eq_true rfl, Nat.le_of_ble_eq_true rfl⟩
    | succ k1 ih1 =>
      intro i1 hi1 H locs E ls hl
      rw [nI_pred] at hl
      have hl : lv_has ls 6 [(2, .int (nI k1)), (1, .int 0), (0, .ref (b 0))] := hl
      refine lv_iload_n hx hb dX7_runRiver_8 rfl (lv_at hl 0 rfl) ?_
      refine lv_if_lt (tgt := 132) hx hb dX7_runRiver_9 (by decide) (fun c_ => absurd c_ (nI_pos (by omega))) (fun _ => ?_)
      refine lv_aload_n hx hb dX7_runRiver_12 rfl (lv_at hl 2 rfl) ?_
      refine wg_X7_36 (v := .ref (b 9)) S hK E 0 rfl rfl dX7_runRiver_13 ?_
      refine lv_iload_n hx hb dX7_runRiver_16 rfl (lv_at hl 0 rfl) ?_
      refine w_ild (v := 0) S hK E 4 0 rfl rfl (vp_in_nI (n := k1) (by omega) (by decide)) rfl dX7_runRiver_17 ?_
      refine lv_aload_n hx hb dX7_runRiver_18 rfl (lv_at hl 2 rfl) ?_
      refine lv_iload_n hx hb dX7_runRiver_19 rfl (lv_at hl 0 rfl) ?_
      refine w_reti (runV_X (As := [.int (nI k1)]) (rest := [.int 0]) (q0 := 0) (n := 1) S hml hK (hZ.at E) (Cut.of (wc := [((b 0), .inr (10, [.ref (b 1), .ref (b 2), .ref (b 3), .ref (b 4), .ref (b 5), .ref (b 6), .ref (b 7), .ref (b 8), .ref (b 9), .ref (b 10), .ref (b 11), .ref (b 12), .int 0, .int 0, .int (nI mo), .ref (b 13), .ref (b 14), .ref (b 16)])), ((b 1), .inl (g.2.1 0, 16, .inl (fun _ => 0))), ((b 2), .inl (g.2.1 0, 16, .inl (fun _ => 10))), ((b 3), .inl (g.2.1 0, 16, .inl (fun _ => 0)))]) (wr := [((b 9), .inl (g.2.1 0, 8, .inl (fun _ => 0))), ((b 10), .inl (g.2.1 0, 8, .inl (fun _ => 0))), ((b 16), .inl (g.2.1 1, 26, .inr (.inl (fun _ => 0))))]) E hA [0, 1, 2, 3] [4, 5, 6] rfl rfl rfl rfl (by decide)) (c_X7_level l g b mo (nI k1) (vp_in_nI (n := k1) (by omega) (by decide)) _ _) (gi_wsV ml_X7_148 im_X7_level sl_X7_level in_X7 co_X7_level) ⟨rfl, by decide +kernel, by decide +kernel, by decide +kernel⟩ ⟨Nat.le_of_ble_eq_true rfl, Nat.le_of_ble_eq_true rfl⟩ rfl rfl rfl hl.1 rfl (Nat.le_of_ble_eq_true rfl) dX7_runRiver_20 ⟨Nat.le_of_ble_eq_true rfl, Nat.le_of_ble_eq_true rfl⟩) (Cut.of (wc := [((b 0), .inr (10, [.ref (b 1), .ref (b 2), .ref (b 3), .ref (b 4), .ref (b 5), .ref (b 6), .ref (b 7), .ref (b 8), .ref (b 9), .ref (b 10), .ref (b 11), .ref (b 12), .int 0, .int 0, .int (nI mo), .ref (b 13), .ref (b 14), .ref (b 16)])), ((b 1), .inl (g.2.1 0, 16, .inl (fun _ => 0))), ((b 2), .inl (g.2.1 0, 16, .inl (fun _ => 10))), ((b 3), .inl (g.2.1 0, 16, .inl (fun _ => 0)))]) (wr := [((b 9), .inl (g.2.1 0, 8, .inl (fun _ => 0))), ((b 10), .inl (g.2.1 0, 8, .inl (fun _ => 0))), ((b 16), .inl (g.2.1 1, 26, .inr (.inl (fun _ => 0))))]) E hA [0, 1, 2, 3] [4, 5, 6] rfl rfl rfl rfl (by decide)) E (fun r3 u3 H locs hp E => ?_)
      have E : Ev g _ s.heap H locs [((b 9), .inl (g.2.1 0, 8, .inl (fun _ => 0))), ((b 10), .inl (g.2.1 0, 8, .inl (fun _ => 0))), ((b 16), .inl (g.2.1 1, 26, .inr (.inl (fun _ => 0)))), ((b 0), .inr (10, [.ref (b 1), .ref (b 2), .ref (b 3), .ref (b 4), .ref (b 5), .ref (b 6), .ref (b 7), .ref (b 8), .ref (b 9), .ref (b 10), .ref (b 11), .ref (b 12), .int 0, .int 0, .int (nI mo), .ref (b 13), .ref (b 14), .ref (b 16)])), ((b 1), .inl (g.2.1 0, 16, .inl (fun _ => 0))), ((b 2), .inl (g.2.1 0, 16, .inl (fun _ => 10))), ((b 3), .inl (g.2.1 0, 16, .inl (fun _ => 0)))] := E
      subst hp
      refine k_isub (v := 0) hx hb (by decide) dX7_runRiver_23 ?_
      refine lv_aload_n hx hb dX7_runRiver_24 rfl (lv_at hl 2 rfl) ?_
      refine wg_X7_39 (v := .ref (b 10)) S hK E 3 rfl rfl dX7_runRiver_25 ?_
      refine lv_iload_n hx hb dX7_runRiver_28 rfl (lv_at hl 0 rfl) ?_
      refine w_ild (v := 0) S hK E 1 0 rfl rfl (vp_in_nI (n := k1) (by omega) (by decide)) rfl dX7_runRiver_29 ?_
      refine k_imul (v := 0) hx hb (by decide) dX7_runRiver_30 ?_
      refine lv_iconst (v := 4) hx hb dX7_runRiver_31 (by decide) ?_
      refine k_idiv (v := 0) hx hb (by decide) (by decide) dX7_runRiver_32 ?_
      refine lv_istore_n (lv' := [(3, .int 0), (2, .int (nI k1)), (1, .int 0), (0, .ref (b 0))]) hx hb dX7_runRiver_33 rfl hl (by decide) rfl (fun ls hl => ?_)
      refine lv_iload_n hx hb dX7_runRiver_34 rfl (lv_at hl 0 rfl) ?_
      refine lv_if_le (tgt := 87) hx hb dX7_runRiver_35 (by decide) (fun _ => ?_) (fun c_ => absurd (show (0 : Int32) ≤ 0 by decide) c_)
      refine lv_iload_n hx hb dX7_runRiver_87 rfl (lv_at hl 0 rfl) ?_
      refine lv_if_ge (tgt := 126) hx hb dX7_runRiver_88 (by decide) (fun _ => ?_) (fun c_ => absurd (show 0 ≤ (0 : Int32) by decide) c_)
      refine lv_iinc (v := ((nI k1) - 1)) (lv' := [(2, .int ((nI k1) - 1)), (3, .int 0), (1, .int 0), (0, .ref (b 0))]) hx hb dX7_runRiver_126 hl (k := 1) rfl (i_sub1 k1) (by decide) rfl (fun ls hl => ?_)
      refine lv_goto (tgt := 8) hx hb dX7_runRiver_129 (by decide) ?_
      have E : Ev g _ s.heap H locs [((b 0), .inr (10, [.ref (b 1), .ref (b 2), .ref (b 3), .ref (b 4), .ref (b 5), .ref (b 6), .ref (b 7), .ref (b 8), .ref (b 9), .ref (b 10), .ref (b 11), .ref (b 12), .int 0, .int 0, .int (nI mo), .ref (b 13), .ref (b 14), .ref (b 16)])), ((b 1), .inl (g.2.1 0, 16, .inl (fun _ => 0))), ((b 2), .inl (g.2.1 0, 16, .inl (fun _ => 10))), ((b 3), .inl (g.2.1 0, 16, .inl (fun _ => 0))), ((b 9), .inl (g.2.1 0, 8, .inl (fun _ => 0))), ((b 10), .inl (g.2.1 0, 8, .inl (fun _ => 0))), ((b 16), .inl (g.2.1 1, 26, .inr (.inl (fun _ => 0))))] := Ev.sub E [3, 4, 5, 6, 0, 1, 2] rfl rfl
      exact ih1 (i1 + 1) (by omega) _ _ E ls (lv_sub hl [0, 2, 3] rfl)
  exact L1 8 0 (by omega) _ _ E ls (lv_sub hl [0, 1, 2] rfl)

set_option maxHeartbeats 4000000 in
set_option maxRecDepth 100000 in
/-- spring -/
theorem c_X7_spring (l : Launch) (g : Gm) (b : Nat → Nat) (mo : Nat) : MXv (S := Unit) l g yX7_spring cX7_spring 5 ({ frames := 1, cells := 0, slots := 0, locals := 21 } : Room) [.ref (b 0)] [((b 0), .inr (10, [.ref (b 1), .ref (b 2), .ref (b 3), .ref (b 4), .ref (b 5), .ref (b 6), .ref (b 7), .ref (b 8), .ref (b 9), .ref (b 10), .ref (b 11), .ref (b 12), .int 0, .int 0, .int (nI mo), .ref (b 13), .ref (b 14), .ref (b 16)])), ((b 1), .inl (g.2.1 0, 16, .inl (fun _ => 0))), ((b 2), .inl (g.2.1 0, 16, .inl (fun _ => 10))), ((b 3), .inl (g.2.1 0, 16, .inl (fun _ => 0))), ((b 5), .inl (g.2.1 0, 8, .inl (fun _ => 100)))] (fun _ => True) (fun _ => [((b 0), .inr (10, [.ref (b 1), .ref (b 2), .ref (b 3), .ref (b 4), .ref (b 5), .ref (b 6), .ref (b 7), .ref (b 8), .ref (b 9), .ref (b 10), .ref (b 11), .ref (b 12), .int 0, .int 0, .int (nI mo), .ref (b 13), .ref (b 14), .ref (b 16)])), ((b 1), .inl (g.2.1 0, 16, .inl (fun _ => 0))), ((b 2), .inl (g.2.1 0, 16, .inl (fun _ => 10))), ((b 3), .inl (g.2.1 0, 16, .inl (fun _ => 0))), ((b 5), .inl (g.2.1 0, 8, .inl (fun _ => 100)))]) (fun _ => (0, 0)) := by
  intro sz tt
  refine ofX RX7 rfl (by decide +kernel) (Nat.le_of_ble_eq_true rfl) (fun p e s m args below meth c hargs S hml hr hlk hnm hsz htt hK hA hZ E ls hl => ?_)
  have hx := S.1
  have hb := S.2.1
  have hl : lv_has ls 5 [(0, .ref (b 0))] := hl
  refine lv_iconst (v := 0) hx hb dX7_spring_0 (by decide) ?_
  refine lv_istore_n (lv' := [(1, .int 0), (0, .ref (b 0))]) hx hb dX7_spring_1 rfl hl (by decide) rfl (fun ls hl => ?_)
  have L1 : ∀ (k1 i1 : Nat), i1 + k1 = 8 → ∀ (H : Heap) (locs : List Loc), Ev g (va_A [((b 0), .inr (10, [.ref (b 1), .ref (b 2), .ref (b 3), .ref (b 4), .ref (b 5), .ref (b 6), .ref (b 7), .ref (b 8), .ref (b 9), .ref (b 10), .ref (b 11), .ref (b 12), .int 0, .int 0, .int (nI mo), .ref (b 13), .ref (b 14), .ref (b 16)])), ((b 1), .inl (g.2.1 0, 16, .inl (fun _ => 0))), ((b 2), .inl (g.2.1 0, 16, .inl (fun _ => 10))), ((b 3), .inl (g.2.1 0, 16, .inl (fun _ => 0))), ((b 5), .inl (g.2.1 0, 8, .inl (fun _ => 100)))] sz) s.heap H locs [((b 0), .inr (10, [.ref (b 1), .ref (b 2), .ref (b 3), .ref (b 4), .ref (b 5), .ref (b 6), .ref (b 7), .ref (b 8), .ref (b 9), .ref (b 10), .ref (b 11), .ref (b 12), .int 0, .int 0, .int (nI mo), .ref (b 13), .ref (b 14), .ref (b 16)])), ((b 1), .inl (g.2.1 0, 16, .inl (fun _ => 0))), ((b 2), .inl (g.2.1 0, 16, .inl (fun _ => 10))), ((b 3), .inl (g.2.1 0, 16, .inl (fun _ => 0))), ((b 5), .inl (g.2.1 0, 8, .inl (fun _ => 100)))] → ∀ ls : Array Slot, lv_has ls 5 [(1, .int (nI i1)), (0, .ref (b 0))] → W p l e ({ frames := 1, cells := 0, slots := 0, locals := 21 } : Room) s m args below meth c H locs 0 0 (MQ below (va_Qv (S := Unit) (fun _ => True) (AtX g (va_A [((b 0), .inr (10, [.ref (b 1), .ref (b 2), .ref (b 3), .ref (b 4), .ref (b 5), .ref (b 6), .ref (b 7), .ref (b 8), .ref (b 9), .ref (b 10), .ref (b 11), .ref (b 12), .int 0, .int 0, .int (nI mo), .ref (b 13), .ref (b 14), .ref (b 16)])), ((b 1), .inl (g.2.1 0, 16, .inl (fun _ => 0))), ((b 2), .inl (g.2.1 0, 16, .inl (fun _ => 10))), ((b 3), .inl (g.2.1 0, 16, .inl (fun _ => 0))), ((b 5), .inl (g.2.1 0, 8, .inl (fun _ => 100)))] sz) (fun _ => [((b 0), .inr (10, [.ref (b 1), .ref (b 2), .ref (b 3), .ref (b 4), .ref (b 5), .ref (b 6), .ref (b 7), .ref (b 8), .ref (b 9), .ref (b 10), .ref (b 11), .ref (b 12), .int 0, .int 0, .int (nI mo), .ref (b 13), .ref (b 14), .ref (b 16)])), ((b 1), .inl (g.2.1 0, 16, .inl (fun _ => 0))), ((b 2), .inl (g.2.1 0, 16, .inl (fun _ => 10))), ((b 3), .inl (g.2.1 0, 16, .inl (fun _ => 0))), ((b 5), .inl (g.2.1 0, 8, .inl (fun _ => 100)))]) (fun _ => (0, 0)) sz tt) (va_A [((b 0), .inr (10, [.ref (b 1), .ref (b 2), .ref (b 3), .ref (b 4), .ref (b 5), .ref (b 6), .ref (b 7), .ref (b 8), .ref (b 9), .ref (b 10), .ref (b 11), .ref (b 12), .int 0, .int 0, .int (nI mo), .ref (b 13), .ref (b 14), .ref (b 16)])), ((b 1), .inl (g.2.1 0, 16, .inl (fun _ => 0))), ((b 2), .inl (g.2.1 0, 16, .inl (fun _ => 10))), ((b 3), .inl (g.2.1 0, 16, .inl (fun _ => 0))), ((b 5), .inl (g.2.1 0, 8, .inl (fun _ => 100)))] sz)) args s 0 0 (va_A [((b 0), .inr (10, [.ref (b 1), .ref (b 2), .ref (b 3), .ref (b 4), .ref (b 5), .ref (b 6), .ref (b 7), .ref (b 8), .ref (b 9), .ref (b 10), .ref (b 11), .ref (b 12), .int 0, .int 0, .int (nI mo), .ref (b 13), .ref (b 14), .ref (b 16)])), ((b 1), .inl (g.2.1 0, 16, .inl (fun _ => 0))), ((b 2), .inl (g.2.1 0, 16, .inl (fun _ => 10))), ((b 3), .inl (g.2.1 0, 16, .inl (fun _ => 0))), ((b 5), .inl (g.2.1 0, 8, .inl (fun _ => 100)))] sz)) (F0 m 2 ls []) := by
    intro k1
    induction k1 with
    | zero =>
      intro i1 hi1 H locs E ls hl
      obtain rfl : i1 = 8 := by omega
      have hl : lv_has ls 5 [(1, .int (nI 8)), (0, .ref (b 0))] := hl
      refine lv_iload_n hx hb dX7_spring_2 rfl (lv_at hl 0 rfl) ?_
      refine lv_bipush (v := 8) hx hb dX7_spring_3 (by decide) ?_
      refine lv_icmp_ge (tgt := 81) hx hb dX7_spring_5 (by decide) (fun _ => ?_) (fun c_ => absurd (show 8 ≤ (nI 8) by decide) c_)
      exact x_vret () S hr hlk hsz htt hK E dX7_spring_81 trivial rfl ⟨Nat.le_of_ble_eq_true rfl, Nat.le_of_ble_eq_true rfl⟩ ⟨Nat.le_of_ble_eq_true rfl, Nat.le_of_ble_eq_true rfl⟩
    | succ k1 ih1 =>
      intro i1 hi1 H locs E ls hl
      have hl : lv_has ls 5 [(1, .int (nI i1)), (0, .ref (b 0))] := hl
      refine lv_iload_n hx hb dX7_spring_2 rfl (lv_at hl 0 rfl) ?_
      refine lv_bipush (v := 8) hx hb dX7_spring_3 (by decide) ?_
      refine lv_icmp_ge (tgt := 81) hx hb dX7_spring_5 (by decide) (fun c_ => absurd c_ (g_no (a := i1) (b := 8) rfl rfl (by omega) (by omega))) (fun _ => ?_)
      refine lv_aload_n hx hb dX7_spring_8 rfl (lv_at hl 1 rfl) ?_
      refine lv_iload_n hx hb dX7_spring_9 rfl (lv_at hl 0 rfl) ?_
      refine w_reti (runV_X (As := [.int (nI i1)]) (rest := []) (q0 := 0) (n := 1) S hml hK (hZ.at E) (Cut.of (wc := [((b 0), .inr (10, [.ref (b 1), .ref (b 2), .ref (b 3), .ref (b 4), .ref (b 5), .ref (b 6), .ref (b 7), .ref (b 8), .ref (b 9), .ref (b 10), .ref (b 11), .ref (b 12), .int 0, .int 0, .int (nI mo), .ref (b 13), .ref (b 14), .ref (b 16)])), ((b 1), .inl (g.2.1 0, 16, .inl (fun _ => 0))), ((b 2), .inl (g.2.1 0, 16, .inl (fun _ => 10))), ((b 3), .inl (g.2.1 0, 16, .inl (fun _ => 0)))]) (wr := [((b 5), .inl (g.2.1 0, 8, .inl (fun _ => 100)))]) E hA [0, 1, 2, 3] [4] rfl rfl rfl rfl (by decide)) (c_X7_level l g b mo (nI i1) (vp_in_nI (n := i1) (by omega) (by decide)) _ _) (gi_wsV ml_X7_148 im_X7_level sl_X7_level in_X7 co_X7_level) ⟨rfl, by decide +kernel, by decide +kernel, by decide +kernel⟩ ⟨Nat.le_of_ble_eq_true rfl, Nat.le_of_ble_eq_true rfl⟩ rfl rfl rfl hl.1 rfl (Nat.le_of_ble_eq_true rfl) dX7_spring_10 ⟨Nat.le_of_ble_eq_true rfl, Nat.le_of_ble_eq_true rfl⟩) (Cut.of (wc := [((b 0), .inr (10, [.ref (b 1), .ref (b 2), .ref (b 3), .ref (b 4), .ref (b 5), .ref (b 6), .ref (b 7), .ref (b 8), .ref (b 9), .ref (b 10), .ref (b 11), .ref (b 12), .int 0, .int 0, .int (nI mo), .ref (b 13), .ref (b 14), .ref (b 16)])), ((b 1), .inl (g.2.1 0, 16, .inl (fun _ => 0))), ((b 2), .inl (g.2.1 0, 16, .inl (fun _ => 10))), ((b 3), .inl (g.2.1 0, 16, .inl (fun _ => 0)))]) (wr := [((b 5), .inl (g.2.1 0, 8, .inl (fun _ => 100)))]) E hA [0, 1, 2, 3] [4] rfl rfl rfl rfl (by decide)) E (fun r2 u2 H locs hp E => ?_)
      have E : Ev g _ s.heap H locs [((b 5), .inl (g.2.1 0, 8, .inl (fun _ => 100))), ((b 0), .inr (10, [.ref (b 1), .ref (b 2), .ref (b 3), .ref (b 4), .ref (b 5), .ref (b 6), .ref (b 7), .ref (b 8), .ref (b 9), .ref (b 10), .ref (b 11), .ref (b 12), .int 0, .int 0, .int (nI mo), .ref (b 13), .ref (b 14), .ref (b 16)])), ((b 1), .inl (g.2.1 0, 16, .inl (fun _ => 0))), ((b 2), .inl (g.2.1 0, 16, .inl (fun _ => 10))), ((b 3), .inl (g.2.1 0, 16, .inl (fun _ => 0)))] := E
      subst hp
      refine lv_aload_n hx hb dX7_spring_13 rfl (lv_at hl 1 rfl) ?_
      refine wg_X7_24 (v := .ref (b 5)) S hK E 1 rfl rfl dX7_spring_14 ?_
      refine lv_iload_n hx hb dX7_spring_17 rfl (lv_at hl 0 rfl) ?_
      refine w_ild (v := 100) S hK E 0 0 rfl rfl (vp_in_nI (n := i1) (by omega) (by decide)) rfl dX7_spring_18 ?_
      refine lv_icmp_le (tgt := 75) hx hb dX7_spring_19 (by decide) (fun _ => ?_) (fun c_ => absurd (show (0 : Int32) ≤ (100 : Int32) by decide) c_)
      refine lv_iinc (v := (nI (i1 + 1))) (lv' := [(1, .int (nI (i1 + 1))), (0, .ref (b 0))]) hx hb dX7_spring_75 hl (k := 0) rfl (nI_1 i1) (by decide) rfl (fun ls hl => ?_)
      refine lv_goto (tgt := 2) hx hb dX7_spring_78 (by decide) ?_
      have E : Ev g _ s.heap H locs [((b 0), .inr (10, [.ref (b 1), .ref (b 2), .ref (b 3), .ref (b 4), .ref (b 5), .ref (b 6), .ref (b 7), .ref (b 8), .ref (b 9), .ref (b 10), .ref (b 11), .ref (b 12), .int 0, .int 0, .int (nI mo), .ref (b 13), .ref (b 14), .ref (b 16)])), ((b 1), .inl (g.2.1 0, 16, .inl (fun _ => 0))), ((b 2), .inl (g.2.1 0, 16, .inl (fun _ => 10))), ((b 3), .inl (g.2.1 0, 16, .inl (fun _ => 0))), ((b 5), .inl (g.2.1 0, 8, .inl (fun _ => 100)))] := Ev.sub E [1, 2, 3, 4, 0] rfl rfl
      exact ih1 (i1 + 1) (by omega) _ _ E ls (lv_sub hl [0, 1] rfl)
  exact L1 8 0 (by omega) _ _ E ls (lv_sub hl [0, 1] rfl)

set_option maxHeartbeats 4000000 in
set_option maxRecDepth 100000 in
/-- meetSea -/
theorem c_X7_meetSea (l : Launch) (g : Gm) (b : Nat → Nat) (mo : Nat) : MXv (S := Unit) l g yX7_meetSea cX7_meetSea 5 ({ frames := 1, cells := 0, slots := 0, locals := 23 } : Room) [.ref (b 0)] [((b 0), .inr (10, [.ref (b 1), .ref (b 2), .ref (b 3), .ref (b 4), .ref (b 5), .ref (b 6), .ref (b 7), .ref (b 8), .ref (b 9), .ref (b 10), .ref (b 11), .ref (b 12), .int 0, .int 0, .int (nI mo), .ref (b 13), .ref (b 14), .ref (b 16)])), ((b 1), .inl (g.2.1 0, 16, .inl (fun _ => 0))), ((b 2), .inl (g.2.1 0, 16, .inl (fun _ => 10))), ((b 3), .inl (g.2.1 0, 16, .inl (fun _ => 0))), ((b 16), .inl (g.2.1 1, 26, .inr (.inl (fun _ => 0))))] (fun _ => True) (fun _ => [((b 0), .inr (10, [.ref (b 1), .ref (b 2), .ref (b 3), .ref (b 4), .ref (b 5), .ref (b 6), .ref (b 7), .ref (b 8), .ref (b 9), .ref (b 10), .ref (b 11), .ref (b 12), .int 0, .int 0, .int (nI mo), .ref (b 13), .ref (b 14), .ref (b 16)])), ((b 1), .inl (g.2.1 0, 16, .inl (fun _ => 0))), ((b 2), .inl (g.2.1 0, 16, .inl (fun _ => 10))), ((b 3), .inl (g.2.1 0, 16, .inl (fun _ => 0))), ((b 16), .inl (g.2.1 1, 26, .inr (.inl (fun _ => 0))))]) (fun _ => (0, 0)) := by
  intro sz tt
  refine ofX RX7 rfl (by decide +kernel) (Nat.le_of_ble_eq_true rfl) (fun p e s m args below meth c hargs S hml hr hlk hnm hsz htt hK hA hZ E ls hl => ?_)
  have hx := S.1
  have hb := S.2.1
  have hl : lv_has ls 5 [(0, .ref (b 0))] := hl
  refine lv_iconst (v := 0) hx hb dX7_meetSea_0 (by decide) ?_
  refine lv_istore_n (lv' := [(1, .int 0), (0, .ref (b 0))]) hx hb dX7_meetSea_1 rfl hl (by decide) rfl (fun ls hl => ?_)
  refine lv_iload_n hx hb dX7_meetSea_2 rfl (lv_at hl 0 rfl) ?_
  refine lv_bipush (v := 16) hx hb dX7_meetSea_3 (by decide) ?_
  refine lv_icmp_ge (tgt := 92) hx hb dX7_meetSea_5 (by decide) (fun c_ => absurd c_ (show ¬ ((16 : Int32) ≤ (0 : Int32)) by decide)) (fun _ => ?_)
  refine lv_aload_n hx hb dX7_meetSea_8 rfl (lv_at hl 1 rfl) ?_
  refine lv_iload_n hx hb dX7_meetSea_9 rfl (lv_at hl 0 rfl) ?_
  refine w_reti (runV_X (As := [.int 0]) (rest := []) (q0 := 0) (n := 1) S hml hK (hZ.at E) (Cut.of (wc := [((b 0), .inr (10, [.ref (b 1), .ref (b 2), .ref (b 3), .ref (b 4), .ref (b 5), .ref (b 6), .ref (b 7), .ref (b 8), .ref (b 9), .ref (b 10), .ref (b 11), .ref (b 12), .int 0, .int 0, .int (nI mo), .ref (b 13), .ref (b 14), .ref (b 16)])), ((b 1), .inl (g.2.1 0, 16, .inl (fun _ => 0))), ((b 2), .inl (g.2.1 0, 16, .inl (fun _ => 10))), ((b 3), .inl (g.2.1 0, 16, .inl (fun _ => 0)))]) (wr := [((b 16), .inl (g.2.1 1, 26, .inr (.inl (fun _ => 0))))]) E hA [0, 1, 2, 3] [4] rfl rfl rfl rfl (by decide)) (c_X7_level l g b mo 0 (show vp_in 0 16 by unfold vp_in; decide) _ _) (gi_wsV ml_X7_148 im_X7_level sl_X7_level in_X7 co_X7_level) ⟨rfl, by decide +kernel, by decide +kernel, by decide +kernel⟩ ⟨Nat.le_of_ble_eq_true rfl, Nat.le_of_ble_eq_true rfl⟩ rfl rfl rfl hl.1 rfl (Nat.le_of_ble_eq_true rfl) dX7_meetSea_10 ⟨Nat.le_of_ble_eq_true rfl, Nat.le_of_ble_eq_true rfl⟩) (Cut.of (wc := [((b 0), .inr (10, [.ref (b 1), .ref (b 2), .ref (b 3), .ref (b 4), .ref (b 5), .ref (b 6), .ref (b 7), .ref (b 8), .ref (b 9), .ref (b 10), .ref (b 11), .ref (b 12), .int 0, .int 0, .int (nI mo), .ref (b 13), .ref (b 14), .ref (b 16)])), ((b 1), .inl (g.2.1 0, 16, .inl (fun _ => 0))), ((b 2), .inl (g.2.1 0, 16, .inl (fun _ => 10))), ((b 3), .inl (g.2.1 0, 16, .inl (fun _ => 0)))]) (wr := [((b 16), .inl (g.2.1 1, 26, .inr (.inl (fun _ => 0))))]) E hA [0, 1, 2, 3] [4] rfl rfl rfl rfl (by decide)) E (fun r1 u1 H locs hp E => ?_)
  have E : Ev g _ s.heap H locs [((b 16), .inl (g.2.1 1, 26, .inr (.inl (fun _ => 0)))), ((b 0), .inr (10, [.ref (b 1), .ref (b 2), .ref (b 3), .ref (b 4), .ref (b 5), .ref (b 6), .ref (b 7), .ref (b 8), .ref (b 9), .ref (b 10), .ref (b 11), .ref (b 12), .int 0, .int 0, .int (nI mo), .ref (b 13), .ref (b 14), .ref (b 16)])), ((b 1), .inl (g.2.1 0, 16, .inl (fun _ => 0))), ((b 2), .inl (g.2.1 0, 16, .inl (fun _ => 10))), ((b 3), .inl (g.2.1 0, 16, .inl (fun _ => 0)))] := E
  subst hp
  refine k_ineg (v := 0) hx hb (by decide) dX7_meetSea_13 ?_
  refine lv_aload_n hx hb dX7_meetSea_14 rfl (lv_at hl 1 rfl) ?_
  refine wg_X7_158 (v := .int 0) S hK E 1 rfl rfl dX7_meetSea_15 ?_
  refine k_imul (v := 0) hx hb (by decide) dX7_meetSea_18 ?_
  refine lv_iconst (v := 4) hx hb dX7_meetSea_19 (by decide) ?_
  refine k_idiv (v := 0) hx hb (by decide) (by decide) dX7_meetSea_20 ?_
  refine lv_istore_n (lv' := [(2, .int 0), (1, .int 0), (0, .ref (b 0))]) hx hb dX7_meetSea_21 rfl hl (by decide) rfl (fun ls hl => ?_)
  refine lv_iload_n hx hb dX7_meetSea_22 rfl (lv_at hl 0 rfl) ?_
  refine lv_if_le (tgt := 59) hx hb dX7_meetSea_23 (by decide) (fun _ => ?_) (fun c_ => absurd (show (0 : Int32) ≤ 0 by decide) c_)
  refine lv_iload_n hx hb dX7_meetSea_59 rfl (lv_at hl 0 rfl) ?_
  refine k_ineg (v := 0) hx hb (by decide) dX7_meetSea_60 ?_
  refine lv_aload_n hx hb dX7_meetSea_61 rfl (lv_at hl 2 rfl) ?_
  refine wg_X7_18 (v := .ref (b 3)) S hK E 1 rfl rfl dX7_meetSea_62 ?_
  refine lv_iload_n hx hb dX7_meetSea_65 rfl (lv_at hl 1 rfl) ?_
  refine w_ild (v := 0) S hK E 4 0 rfl rfl (show vp_in 0 16 by unfold vp_in; decide) rfl dX7_meetSea_66 ?_
  refine w_min (v := 0) S hml hl ml_X7_119 st_min in_J9 co_min (Nat.le_of_ble_eq_true rfl) (Nat.le_of_ble_eq_true rfl) ⟨Nat.le_of_ble_eq_true rfl, Nat.le_of_ble_eq_true rfl⟩ (by decide) dX7_meetSea_67 ?_
  refine lv_istore_n (lv' := [(3, .int 0), (2, .int 0), (1, .int 0), (0, .ref (b 0))]) hx hb dX7_meetSea_70 rfl hl (by decide) rfl (fun ls hl => ?_)
  refine lv_aload_n hx hb dX7_meetSea_71 rfl (lv_at hl 3 rfl) ?_
  refine lv_iload_n hx hb dX7_meetSea_72 rfl (lv_at hl 2 rfl) ?_
  refine lv_iload_n hx hb dX7_meetSea_73 rfl (lv_at hl 0 rfl) ?_
  refine w_reti (runV_X (As := [.int 0, .int 0]) (rest := []) (q0 := 0) (n := 2) S hml hK (hZ.at E) (Cut.of (wc := [((b 0), .inr (10, [.ref (b 1), .ref (b 2), .ref (b 3), .ref (b 4), .ref (b 5), .ref (b 6), .ref (b 7), .ref (b 8), .ref (b 9), .ref (b 10), .ref (b 11), .ref (b 12), .int 0, .int 0, .int (nI mo), .ref (b 13), .ref (b 14), .ref (b 16)]))]) (wr := [((b 16), .inl (g.2.1 1, 26, .inr (.inl (fun _ => 0)))), ((b 1), .inl (g.2.1 0, 16, .inl (fun _ => 0))), ((b 2), .inl (g.2.1 0, 16, .inl (fun _ => 10))), ((b 3), .inl (g.2.1 0, 16, .inl (fun _ => 0)))]) E hA [1] [0, 2, 3, 4] rfl rfl rfl rfl (by decide)) (c_X7_takes l g b mo 0 _ _) (gi_wsV ml_X7_125 im_X7_takes sl_X7_takes in_X7 co_X7_takes) ⟨rfl, by decide +kernel, by decide +kernel, by decide +kernel⟩ ⟨Nat.le_of_ble_eq_true rfl, Nat.le_of_ble_eq_true rfl⟩ rfl rfl rfl hl.1 rfl (Nat.le_of_ble_eq_true rfl) dX7_meetSea_74 ⟨Nat.le_of_ble_eq_true rfl, Nat.le_of_ble_eq_true rfl⟩) (Cut.of (wc := [((b 0), .inr (10, [.ref (b 1), .ref (b 2), .ref (b 3), .ref (b 4), .ref (b 5), .ref (b 6), .ref (b 7), .ref (b 8), .ref (b 9), .ref (b 10), .ref (b 11), .ref (b 12), .int 0, .int 0, .int (nI mo), .ref (b 13), .ref (b 14), .ref (b 16)]))]) (wr := [((b 16), .inl (g.2.1 1, 26, .inr (.inl (fun _ => 0)))), ((b 1), .inl (g.2.1 0, 16, .inl (fun _ => 0))), ((b 2), .inl (g.2.1 0, 16, .inl (fun _ => 10))), ((b 3), .inl (g.2.1 0, 16, .inl (fun _ => 0)))]) E hA [1] [0, 2, 3, 4] rfl rfl rfl rfl (by decide)) E (fun r2 u2 H locs hp E => ?_)
  have E : Ev g _ s.heap H locs [((b 16), .inl (g.2.1 1, 26, .inr (.inl (fun _ => 0)))), ((b 1), .inl (g.2.1 0, 16, .inl (fun _ => 0))), ((b 2), .inl (g.2.1 0, 16, .inl (fun _ => 10))), ((b 3), .inl (g.2.1 0, 16, .inl (fun _ => 0))), ((b 0), .inr (10, [.ref (b 1), .ref (b 2), .ref (b 3), .ref (b 4), .ref (b 5), .ref (b 6), .ref (b 7), .ref (b 8), .ref (b 9), .ref (b 10), .ref (b 11), .ref (b 12), .int 0, .int 0, .int (nI mo), .ref (b 13), .ref (b 14), .ref (b 16)]))] := E
  subst hp
  refine lv_istore (lv' := [(4, .int 0), (3, .int 0), (2, .int 0), (1, .int 0), (0, .ref (b 0))]) hx hb dX7_meetSea_77 hl (by decide) rfl (fun ls hl => ?_)
  refine lv_aload_n hx hb dX7_meetSea_79 rfl (lv_at hl 4 rfl) ?_
  refine lv_bipush (v := 109) hx hb dX7_meetSea_80 (by decide) ?_
  refine lv_iload_n hx hb dX7_meetSea_82 rfl (lv_at hl 1 rfl) ?_
  refine w_retv (runV_X (As := [.int 109, .int 0]) (rest := []) (q0 := 0) (n := 2) S hml hK (hZ.at E) (Cut.of (wc := [((b 0), .inr (10, [.ref (b 1), .ref (b 2), .ref (b 3), .ref (b 4), .ref (b 5), .ref (b 6), .ref (b 7), .ref (b 8), .ref (b 9), .ref (b 10), .ref (b 11), .ref (b 12), .int 0, .int 0, .int (nI mo), .ref (b 13), .ref (b 14), .ref (b 16)])), ((b 16), .inl (g.2.1 1, 26, .inr (.inl (fun _ => 0))))]) (wr := [((b 1), .inl (g.2.1 0, 16, .inl (fun _ => 0))), ((b 2), .inl (g.2.1 0, 16, .inl (fun _ => 10))), ((b 3), .inl (g.2.1 0, 16, .inl (fun _ => 0)))]) E hA [4, 0] [1, 2, 3] rfl rfl rfl rfl (by decide)) (c_ct109 l g b mo _ _) (gi_wsV ml_X7_132 im_X7_count sl_X7_count in_X7 co_X7_count) ⟨rfl, by decide +kernel, by decide +kernel, by decide +kernel⟩ ⟨Nat.le_of_ble_eq_true rfl, Nat.le_of_ble_eq_true rfl⟩ rfl rfl rfl hl.1 rfl (Nat.le_of_ble_eq_true rfl) dX7_meetSea_83 ⟨Nat.le_of_ble_eq_true rfl, Nat.le_of_ble_eq_true rfl⟩) (Cut.of (wc := [((b 0), .inr (10, [.ref (b 1), .ref (b 2), .ref (b 3), .ref (b 4), .ref (b 5), .ref (b 6), .ref (b 7), .ref (b 8), .ref (b 9), .ref (b 10), .ref (b 11), .ref (b 12), .int 0, .int 0, .int (nI mo), .ref (b 13), .ref (b 14), .ref (b 16)])), ((b 16), .inl (g.2.1 1, 26, .inr (.inl (fun _ => 0))))]) (wr := [((b 1), .inl (g.2.1 0, 16, .inl (fun _ => 0))), ((b 2), .inl (g.2.1 0, 16, .inl (fun _ => 10))), ((b 3), .inl (g.2.1 0, 16, .inl (fun _ => 0)))]) E hA [4, 0] [1, 2, 3] rfl rfl rfl rfl (by decide)) E (fun u3 H locs hp E => ?_)
  have E : Ev g _ s.heap H locs [((b 1), .inl (g.2.1 0, 16, .inl (fun _ => 0))), ((b 2), .inl (g.2.1 0, 16, .inl (fun _ => 10))), ((b 3), .inl (g.2.1 0, 16, .inl (fun _ => 0))), ((b 0), .inr (10, [.ref (b 1), .ref (b 2), .ref (b 3), .ref (b 4), .ref (b 5), .ref (b 6), .ref (b 7), .ref (b 8), .ref (b 9), .ref (b 10), .ref (b 11), .ref (b 12), .int 0, .int 0, .int (nI mo), .ref (b 13), .ref (b 14), .ref (b 16)])), ((b 16), .inl (g.2.1 1, 26, .inr (.inl (fun _ => 0))))] := E
  refine lv_iinc (v := 8) (lv' := [(1, .int 8), (4, .int 0), (3, .int 0), (2, .int 0), (0, .ref (b 0))]) hx hb dX7_meetSea_86 hl (k := 3) rfl (by decide) (by decide) rfl (fun ls hl => ?_)
  refine lv_goto (tgt := 2) hx hb dX7_meetSea_89 (by decide) ?_
  refine lv_iload_n hx hb dX7_meetSea_2 rfl (lv_at hl 0 rfl) ?_
  refine lv_bipush (v := 16) hx hb dX7_meetSea_3 (by decide) ?_
  refine lv_icmp_ge (tgt := 92) hx hb dX7_meetSea_5 (by decide) (fun c_ => absurd c_ (show ¬ ((16 : Int32) ≤ (8 : Int32)) by decide)) (fun _ => ?_)
  refine lv_aload_n hx hb dX7_meetSea_8 rfl (lv_at hl 4 rfl) ?_
  refine lv_iload_n hx hb dX7_meetSea_9 rfl (lv_at hl 0 rfl) ?_
  refine w_reti (runV_X (As := [.int 8]) (rest := []) (q0 := 0) (n := 1) S hml hK (hZ.at E) (Cut.of (wc := [((b 0), .inr (10, [.ref (b 1), .ref (b 2), .ref (b 3), .ref (b 4), .ref (b 5), .ref (b 6), .ref (b 7), .ref (b 8), .ref (b 9), .ref (b 10), .ref (b 11), .ref (b 12), .int 0, .int 0, .int (nI mo), .ref (b 13), .ref (b 14), .ref (b 16)])), ((b 1), .inl (g.2.1 0, 16, .inl (fun _ => 0))), ((b 2), .inl (g.2.1 0, 16, .inl (fun _ => 10))), ((b 3), .inl (g.2.1 0, 16, .inl (fun _ => 0)))]) (wr := [((b 16), .inl (g.2.1 1, 26, .inr (.inl (fun _ => 0))))]) E hA [3, 0, 1, 2] [4] rfl rfl rfl rfl (by decide)) (c_X7_level l g b mo 8 (show vp_in 8 16 by unfold vp_in; decide) _ _) (gi_wsV ml_X7_148 im_X7_level sl_X7_level in_X7 co_X7_level) ⟨rfl, by decide +kernel, by decide +kernel, by decide +kernel⟩ ⟨Nat.le_of_ble_eq_true rfl, Nat.le_of_ble_eq_true rfl⟩ rfl rfl rfl hl.1 rfl (Nat.le_of_ble_eq_true rfl) dX7_meetSea_10 ⟨Nat.le_of_ble_eq_true rfl, Nat.le_of_ble_eq_true rfl⟩) (Cut.of (wc := [((b 0), .inr (10, [.ref (b 1), .ref (b 2), .ref (b 3), .ref (b 4), .ref (b 5), .ref (b 6), .ref (b 7), .ref (b 8), .ref (b 9), .ref (b 10), .ref (b 11), .ref (b 12), .int 0, .int 0, .int (nI mo), .ref (b 13), .ref (b 14), .ref (b 16)])), ((b 1), .inl (g.2.1 0, 16, .inl (fun _ => 0))), ((b 2), .inl (g.2.1 0, 16, .inl (fun _ => 10))), ((b 3), .inl (g.2.1 0, 16, .inl (fun _ => 0)))]) (wr := [((b 16), .inl (g.2.1 1, 26, .inr (.inl (fun _ => 0))))]) E hA [3, 0, 1, 2] [4] rfl rfl rfl rfl (by decide)) E (fun r4 u4 H locs hp E => ?_)
  have E : Ev g _ s.heap H locs [((b 16), .inl (g.2.1 1, 26, .inr (.inl (fun _ => 0)))), ((b 0), .inr (10, [.ref (b 1), .ref (b 2), .ref (b 3), .ref (b 4), .ref (b 5), .ref (b 6), .ref (b 7), .ref (b 8), .ref (b 9), .ref (b 10), .ref (b 11), .ref (b 12), .int 0, .int 0, .int (nI mo), .ref (b 13), .ref (b 14), .ref (b 16)])), ((b 1), .inl (g.2.1 0, 16, .inl (fun _ => 0))), ((b 2), .inl (g.2.1 0, 16, .inl (fun _ => 10))), ((b 3), .inl (g.2.1 0, 16, .inl (fun _ => 0)))] := E
  subst hp
  refine k_ineg (v := 0) hx hb (by decide) dX7_meetSea_13 ?_
  refine lv_aload_n hx hb dX7_meetSea_14 rfl (lv_at hl 4 rfl) ?_
  refine wg_X7_158 (v := .int 0) S hK E 1 rfl rfl dX7_meetSea_15 ?_
  refine k_imul (v := 0) hx hb (by decide) dX7_meetSea_18 ?_
  refine lv_iconst (v := 4) hx hb dX7_meetSea_19 (by decide) ?_
  refine k_idiv (v := 0) hx hb (by decide) (by decide) dX7_meetSea_20 ?_
  refine lv_istore_n (lv' := [(2, .int 0), (1, .int 8), (4, .int 0), (3, .int 0), (0, .ref (b 0))]) hx hb dX7_meetSea_21 rfl hl (by decide) rfl (fun ls hl => ?_)
  refine lv_iload_n hx hb dX7_meetSea_22 rfl (lv_at hl 0 rfl) ?_
  refine lv_if_le (tgt := 59) hx hb dX7_meetSea_23 (by decide) (fun _ => ?_) (fun c_ => absurd (show (0 : Int32) ≤ 0 by decide) c_)
  refine lv_iload_n hx hb dX7_meetSea_59 rfl (lv_at hl 0 rfl) ?_
  refine k_ineg (v := 0) hx hb (by decide) dX7_meetSea_60 ?_
  refine lv_aload_n hx hb dX7_meetSea_61 rfl (lv_at hl 4 rfl) ?_
  refine wg_X7_18 (v := .ref (b 3)) S hK E 1 rfl rfl dX7_meetSea_62 ?_
  refine lv_iload_n hx hb dX7_meetSea_65 rfl (lv_at hl 1 rfl) ?_
  refine w_ild (v := 0) S hK E 4 0 rfl rfl (show vp_in 8 16 by unfold vp_in; decide) rfl dX7_meetSea_66 ?_
  refine w_min (v := 0) S hml hl ml_X7_119 st_min in_J9 co_min (Nat.le_of_ble_eq_true rfl) (Nat.le_of_ble_eq_true rfl) ⟨Nat.le_of_ble_eq_true rfl, Nat.le_of_ble_eq_true rfl⟩ (by decide) dX7_meetSea_67 ?_
  refine lv_istore_n (lv' := [(3, .int 0), (2, .int 0), (1, .int 8), (4, .int 0), (0, .ref (b 0))]) hx hb dX7_meetSea_70 rfl hl (by decide) rfl (fun ls hl => ?_)
  refine lv_aload_n hx hb dX7_meetSea_71 rfl (lv_at hl 4 rfl) ?_
  refine lv_iload_n hx hb dX7_meetSea_72 rfl (lv_at hl 2 rfl) ?_
  refine lv_iload_n hx hb dX7_meetSea_73 rfl (lv_at hl 0 rfl) ?_
  refine w_reti (runV_X (As := [.int 8, .int 0]) (rest := []) (q0 := 0) (n := 2) S hml hK (hZ.at E) (Cut.of (wc := [((b 0), .inr (10, [.ref (b 1), .ref (b 2), .ref (b 3), .ref (b 4), .ref (b 5), .ref (b 6), .ref (b 7), .ref (b 8), .ref (b 9), .ref (b 10), .ref (b 11), .ref (b 12), .int 0, .int 0, .int (nI mo), .ref (b 13), .ref (b 14), .ref (b 16)]))]) (wr := [((b 16), .inl (g.2.1 1, 26, .inr (.inl (fun _ => 0)))), ((b 1), .inl (g.2.1 0, 16, .inl (fun _ => 0))), ((b 2), .inl (g.2.1 0, 16, .inl (fun _ => 10))), ((b 3), .inl (g.2.1 0, 16, .inl (fun _ => 0)))]) E hA [1] [0, 2, 3, 4] rfl rfl rfl rfl (by decide)) (c_X7_takes l g b mo 8 _ _) (gi_wsV ml_X7_125 im_X7_takes sl_X7_takes in_X7 co_X7_takes) ⟨rfl, by decide +kernel, by decide +kernel, by decide +kernel⟩ ⟨Nat.le_of_ble_eq_true rfl, Nat.le_of_ble_eq_true rfl⟩ rfl rfl rfl hl.1 rfl (Nat.le_of_ble_eq_true rfl) dX7_meetSea_74 ⟨Nat.le_of_ble_eq_true rfl, Nat.le_of_ble_eq_true rfl⟩) (Cut.of (wc := [((b 0), .inr (10, [.ref (b 1), .ref (b 2), .ref (b 3), .ref (b 4), .ref (b 5), .ref (b 6), .ref (b 7), .ref (b 8), .ref (b 9), .ref (b 10), .ref (b 11), .ref (b 12), .int 0, .int 0, .int (nI mo), .ref (b 13), .ref (b 14), .ref (b 16)]))]) (wr := [((b 16), .inl (g.2.1 1, 26, .inr (.inl (fun _ => 0)))), ((b 1), .inl (g.2.1 0, 16, .inl (fun _ => 0))), ((b 2), .inl (g.2.1 0, 16, .inl (fun _ => 10))), ((b 3), .inl (g.2.1 0, 16, .inl (fun _ => 0)))]) E hA [1] [0, 2, 3, 4] rfl rfl rfl rfl (by decide)) E (fun r5 u5 H locs hp E => ?_)
  have E : Ev g _ s.heap H locs [((b 16), .inl (g.2.1 1, 26, .inr (.inl (fun _ => 0)))), ((b 1), .inl (g.2.1 0, 16, .inl (fun _ => 0))), ((b 2), .inl (g.2.1 0, 16, .inl (fun _ => 10))), ((b 3), .inl (g.2.1 0, 16, .inl (fun _ => 0))), ((b 0), .inr (10, [.ref (b 1), .ref (b 2), .ref (b 3), .ref (b 4), .ref (b 5), .ref (b 6), .ref (b 7), .ref (b 8), .ref (b 9), .ref (b 10), .ref (b 11), .ref (b 12), .int 0, .int 0, .int (nI mo), .ref (b 13), .ref (b 14), .ref (b 16)]))] := E
  subst hp
  refine lv_istore (lv' := [(4, .int 0), (3, .int 0), (2, .int 0), (1, .int 8), (0, .ref (b 0))]) hx hb dX7_meetSea_77 hl (by decide) rfl (fun ls hl => ?_)
  refine lv_aload_n hx hb dX7_meetSea_79 rfl (lv_at hl 4 rfl) ?_
  refine lv_bipush (v := 109) hx hb dX7_meetSea_80 (by decide) ?_
  refine lv_iload_n hx hb dX7_meetSea_82 rfl (lv_at hl 1 rfl) ?_
  refine w_retv (runV_X (As := [.int 109, .int 0]) (rest := []) (q0 := 0) (n := 2) S hml hK (hZ.at E) (Cut.of (wc := [((b 0), .inr (10, [.ref (b 1), .ref (b 2), .ref (b 3), .ref (b 4), .ref (b 5), .ref (b 6), .ref (b 7), .ref (b 8), .ref (b 9), .ref (b 10), .ref (b 11), .ref (b 12), .int 0, .int 0, .int (nI mo), .ref (b 13), .ref (b 14), .ref (b 16)])), ((b 16), .inl (g.2.1 1, 26, .inr (.inl (fun _ => 0))))]) (wr := [((b 1), .inl (g.2.1 0, 16, .inl (fun _ => 0))), ((b 2), .inl (g.2.1 0, 16, .inl (fun _ => 10))), ((b 3), .inl (g.2.1 0, 16, .inl (fun _ => 0)))]) E hA [4, 0] [1, 2, 3] rfl rfl rfl rfl (by decide)) (c_ct109 l g b mo _ _) (gi_wsV ml_X7_132 im_X7_count sl_X7_count in_X7 co_X7_count) ⟨rfl, by decide +kernel, by decide +kernel, by decide +kernel⟩ ⟨Nat.le_of_ble_eq_true rfl, Nat.le_of_ble_eq_true rfl⟩ rfl rfl rfl hl.1 rfl (Nat.le_of_ble_eq_true rfl) dX7_meetSea_83 ⟨Nat.le_of_ble_eq_true rfl, Nat.le_of_ble_eq_true rfl⟩) (Cut.of (wc := [((b 0), .inr (10, [.ref (b 1), .ref (b 2), .ref (b 3), .ref (b 4), .ref (b 5), .ref (b 6), .ref (b 7), .ref (b 8), .ref (b 9), .ref (b 10), .ref (b 11), .ref (b 12), .int 0, .int 0, .int (nI mo), .ref (b 13), .ref (b 14), .ref (b 16)])), ((b 16), .inl (g.2.1 1, 26, .inr (.inl (fun _ => 0))))]) (wr := [((b 1), .inl (g.2.1 0, 16, .inl (fun _ => 0))), ((b 2), .inl (g.2.1 0, 16, .inl (fun _ => 10))), ((b 3), .inl (g.2.1 0, 16, .inl (fun _ => 0)))]) E hA [4, 0] [1, 2, 3] rfl rfl rfl rfl (by decide)) E (fun u6 H locs hp E => ?_)
  have E : Ev g _ s.heap H locs [((b 1), .inl (g.2.1 0, 16, .inl (fun _ => 0))), ((b 2), .inl (g.2.1 0, 16, .inl (fun _ => 10))), ((b 3), .inl (g.2.1 0, 16, .inl (fun _ => 0))), ((b 0), .inr (10, [.ref (b 1), .ref (b 2), .ref (b 3), .ref (b 4), .ref (b 5), .ref (b 6), .ref (b 7), .ref (b 8), .ref (b 9), .ref (b 10), .ref (b 11), .ref (b 12), .int 0, .int 0, .int (nI mo), .ref (b 13), .ref (b 14), .ref (b 16)])), ((b 16), .inl (g.2.1 1, 26, .inr (.inl (fun _ => 0))))] := E
  refine lv_iinc (v := 16) (lv' := [(1, .int 16), (4, .int 0), (3, .int 0), (2, .int 0), (0, .ref (b 0))]) hx hb dX7_meetSea_86 hl (k := 3) rfl (by decide) (by decide) rfl (fun ls hl => ?_)
  refine lv_goto (tgt := 2) hx hb dX7_meetSea_89 (by decide) ?_
  refine lv_iload_n hx hb dX7_meetSea_2 rfl (lv_at hl 0 rfl) ?_
  refine lv_bipush (v := 16) hx hb dX7_meetSea_3 (by decide) ?_
  refine lv_icmp_ge (tgt := 92) hx hb dX7_meetSea_5 (by decide) (fun _ => ?_) (fun c_ => absurd (show (16 : Int32) ≤ (16 : Int32) by decide) c_)
  have E : Ev g _ s.heap H locs [((b 0), .inr (10, [.ref (b 1), .ref (b 2), .ref (b 3), .ref (b 4), .ref (b 5), .ref (b 6), .ref (b 7), .ref (b 8), .ref (b 9), .ref (b 10), .ref (b 11), .ref (b 12), .int 0, .int 0, .int (nI mo), .ref (b 13), .ref (b 14), .ref (b 16)])), ((b 1), .inl (g.2.1 0, 16, .inl (fun _ => 0))), ((b 2), .inl (g.2.1 0, 16, .inl (fun _ => 10))), ((b 3), .inl (g.2.1 0, 16, .inl (fun _ => 0))), ((b 16), .inl (g.2.1 1, 26, .inr (.inl (fun _ => 0))))] := Ev.sub E [3, 0, 1, 2, 4] rfl rfl
  exact x_vret () S hr hlk hsz htt hK E dX7_meetSea_92 trivial rfl ⟨Nat.le_of_ble_eq_true rfl, Nat.le_of_ble_eq_true rfl⟩ ⟨Nat.le_of_ble_eq_true rfl, Nat.le_of_ble_eq_true rfl⟩

set_option maxHeartbeats 4000000 in
set_option maxRecDepth 100000 in
/-- endYear, no wells -/
theorem c_X7_endYear (l : Launch) (g : Gm) (b : Nat → Nat) (mo : Nat) : MXv (S := Unit) l g yX7_endYear cX7_endYear 4 ({ frames := 3, cells := 1, slots := 4, locals := 53 } : Room) [.ref (b 0)] [((b 0), .inr (10, [.ref (b 1), .ref (b 2), .ref (b 3), .ref (b 4), .ref (b 5), .ref (b 6), .ref (b 7), .ref (b 8), .ref (b 9), .ref (b 10), .ref (b 11), .ref (b 12), .int 0, .int 0, .int (nI mo), .ref (b 13), .ref (b 14), .ref (b 16)])), ((b 13), .inr (8, [.int 0, .ref (g.2.2 0), .int 0]))] (fun _ => True) (fun _ => [((b 0), .inr (10, [.ref (b 1), .ref (b 2), .ref (b 3), .ref (b 4), .ref (b 5), .ref (b 6), .ref (b 7), .ref (b 8), .ref (b 9), .ref (b 10), .ref (b 11), .ref (b 12), .int 0, .int 0, .int (nI mo), .ref (b 13), .ref (b 14), .ref (b 16)])), ((b 13), .inr (8, [.int 0, .ref (g.2.2 0), .int 0]))]) (fun _ => (1, 4)) := by
  intro sz tt
  refine ofX RX7 rfl (by decide +kernel) (Nat.le_of_ble_eq_true rfl) (fun p e s m args below meth c hargs S hml hr hlk hnm hsz htt hK hA hZ E ls hl => ?_)
  have hx := S.1
  have hb := S.2.1
  have hl : lv_has ls 4 [(0, .ref (b 0))] := hl
  refine lv_aload_n hx hb dX7_endYear_0 rfl (lv_at hl 0 rfl) ?_
  refine wg_X7_51 (v := .ref (b 13)) S hK E 0 rfl rfl dX7_endYear_1 ?_
  refine w_retr (runV_X (As := []) (rest := []) (q0 := 0) (n := 0) S hml hK (hZ.at E) (Cut.of (wc := [((b 13), .inr (8, [.int 0, .ref (g.2.2 0), .int 0]))]) (wr := [((b 0), .inr (10, [.ref (b 1), .ref (b 2), .ref (b 3), .ref (b 4), .ref (b 5), .ref (b 6), .ref (b 7), .ref (b 8), .ref (b 9), .ref (b 10), .ref (b 11), .ref (b 12), .int 0, .int 0, .int (nI mo), .ref (b 13), .ref (b 14), .ref (b 16)]))]) E hA [1] [0] rfl rfl rfl rfl (by decide)) (c_Jx4a65c_iterator_32c93 l g (b 13) _ _) (gi_wsV ml_X7_161 im_Jx4a65c_iterator_32c93 sl_Jx4a65c_iterator_32c93 in_Jx4a65c co_Jx4a65c_iterator_32c93) ⟨rfl, by decide +kernel, by decide +kernel, by decide +kernel⟩ ⟨Nat.le_of_ble_eq_true rfl, Nat.le_of_ble_eq_true rfl⟩ rfl rfl rfl hl.1 rfl (Nat.le_of_ble_eq_true rfl) dX7_endYear_4 ⟨Nat.le_of_ble_eq_true rfl, Nat.le_of_ble_eq_true rfl⟩) (Cut.of (wc := [((b 13), .inr (8, [.int 0, .ref (g.2.2 0), .int 0]))]) (wr := [((b 0), .inr (10, [.ref (b 1), .ref (b 2), .ref (b 3), .ref (b 4), .ref (b 5), .ref (b 6), .ref (b 7), .ref (b 8), .ref (b 9), .ref (b 10), .ref (b 11), .ref (b 12), .int 0, .int 0, .int (nI mo), .ref (b 13), .ref (b 14), .ref (b 16)]))]) E hA [1] [0] rfl rfl rfl rfl (by decide)) E (fun u1 H locs hp E => ?_)
  have E : Ev g _ s.heap H locs [((b 0), .inr (10, [.ref (b 1), .ref (b 2), .ref (b 3), .ref (b 4), .ref (b 5), .ref (b 6), .ref (b 7), .ref (b 8), .ref (b 9), .ref (b 10), .ref (b 11), .ref (b 12), .int 0, .int 0, .int (nI mo), .ref (b 13), .ref (b 14), .ref (b 16)])), ((b 13), .inr (8, [.int 0, .ref (g.2.2 0), .int 0])), (u1, .inr (12, [.int 0, .int (-1), .int 0, .ref (b 13)]))] := E
  refine lv_astore_n (lv' := [(1, .ref u1), (0, .ref (b 0))]) hx hb dX7_endYear_7 rfl hl (by decide) rfl (fun ls hl => ?_)
  refine lv_aload_n hx hb dX7_endYear_8 rfl (lv_at hl 0 rfl) ?_
  refine w_ret5i (runF_X (C := RJx35411) (As := []) (rest := []) (q0 := 0) (n := 0) S hml hK (hZ.at E) (Cut.of (wc := [(u1, .inr (12, [.int 0, .int (-1), .int 0, .ref (b 13)])), ((b 13), .inr (8, [.int 0, .ref (g.2.2 0), .int 0]))]) (wr := [((b 0), .inr (10, [.ref (b 1), .ref (b 2), .ref (b 3), .ref (b 4), .ref (b 5), .ref (b 6), .ref (b 7), .ref (b 8), .ref (b 9), .ref (b 10), .ref (b 11), .ref (b 12), .int 0, .int 0, .int (nI mo), .ref (b 13), .ref (b 14), .ref (b 16)]))]) E hA [2, 1] [0] rfl rfl rfl rfl (by decide)) (c_hn0 l g u1 (b 13) _ _) ml_it sl_it im_Jx35411_hasNext_aae02 in_Jx35411 co_Jx35411_hasNext_aae02 hZ.2.2.2.2.2.2.2.2.2.1 ⟨by decide +kernel, by decide +kernel, by decide +kernel⟩ ⟨Nat.le_of_ble_eq_true rfl, Nat.le_of_ble_eq_true rfl⟩ rfl rfl rfl hl.1 rfl (Nat.le_of_ble_eq_true rfl) dX7_endYear_9 ⟨Nat.le_of_ble_eq_true rfl, Nat.le_of_ble_eq_true rfl⟩) (Cut.of (wc := [(u1, .inr (12, [.int 0, .int (-1), .int 0, .ref (b 13)])), ((b 13), .inr (8, [.int 0, .ref (g.2.2 0), .int 0]))]) (wr := [((b 0), .inr (10, [.ref (b 1), .ref (b 2), .ref (b 3), .ref (b 4), .ref (b 5), .ref (b 6), .ref (b 7), .ref (b 8), .ref (b 9), .ref (b 10), .ref (b 11), .ref (b 12), .int 0, .int 0, .int (nI mo), .ref (b 13), .ref (b 14), .ref (b 16)]))]) E hA [2, 1] [0] rfl rfl rfl rfl (by decide)) E (fun r u H locs hp E => ?_)
  have E : Ev g _ s.heap H locs [((b 0), .inr (10, [.ref (b 1), .ref (b 2), .ref (b 3), .ref (b 4), .ref (b 5), .ref (b 6), .ref (b 7), .ref (b 8), .ref (b 9), .ref (b 10), .ref (b 11), .ref (b 12), .int 0, .int 0, .int (nI mo), .ref (b 13), .ref (b 14), .ref (b 16)])), (u1, .inr (12, [.int 0, .int (-1), .int 0, .ref (b 13)])), ((b 13), .inr (8, [.int 0, .ref (g.2.2 0), .int 0]))] := E
  subst hp
  refine lv_if_eq (tgt := 110) hx hb dX7_endYear_14 (by decide) (fun _ => ?_) (fun c_ => absurd (show (0 : Int32) = 0 by decide) c_)
  have E : Ev g _ s.heap H locs [((b 0), .inr (10, [.ref (b 1), .ref (b 2), .ref (b 3), .ref (b 4), .ref (b 5), .ref (b 6), .ref (b 7), .ref (b 8), .ref (b 9), .ref (b 10), .ref (b 11), .ref (b 12), .int 0, .int 0, .int (nI mo), .ref (b 13), .ref (b 14), .ref (b 16)])), ((b 13), .inr (8, [.int 0, .ref (g.2.2 0), .int 0]))] := Ev.sub E [0, 2] rfl rfl
  exact x_vret () S hr hlk hsz htt hK E dX7_endYear_110 trivial rfl ⟨Nat.le_of_ble_eq_true rfl, Nat.le_of_ble_eq_true rfl⟩ ⟨Nat.le_of_ble_eq_true rfl, Nat.le_of_ble_eq_true rfl⟩

set_option maxHeartbeats 4000000 in
set_option maxRecDepth 100000 in
/-- a month, nothing set -/
theorem c_X7_pass (l : Launch) (g : Gm) (b : Nat → Nat) (mo : Nat) (hmo : mo < 24) : MXv (S := Unit) l g yX7_pass cX7_pass 2 ({ frames := 6, cells := 3, slots := 23, locals := 125 } : Room) [.ref (b 0)] [((b 0), .inr (10, [.ref (b 1), .ref (b 2), .ref (b 3), .ref (b 4), .ref (b 5), .ref (b 6), .ref (b 7), .ref (b 8), .ref (b 9), .ref (b 10), .ref (b 11), .ref (b 12), .int 0, .int 0, .int (nI mo), .ref (b 13), .ref (b 14), .ref (b 16)])), ((b 1), .inl (g.2.1 0, 16, .inl (fun _ => 0))), ((b 2), .inl (g.2.1 0, 16, .inl (fun _ => 10))), ((b 3), .inl (g.2.1 0, 16, .inl (fun _ => 0))), ((b 4), .inl (g.2.1 0, 16, .inl (fun _ => 0))), ((b 5), .inl (g.2.1 0, 8, .inl (fun _ => 100))), ((b 6), .inl (g.2.1 0, 2, .inl (fun _ => 4))), ((b 7), .inl (g.2.1 0, 8, .inl (fun _ => 0))), ((b 8), .inl (g.2.1 0, 8, .inl (fun _ => 0))), ((b 9), .inl (g.2.1 0, 8, .inl (fun _ => 0))), ((b 10), .inl (g.2.1 0, 8, .inl (fun _ => 0))), ((b 11), .inl (g.2.1 0, 16, .inl (fun _ => 0))), ((b 12), .inl (g.2.1 0, 16, .inl (fun _ => 0))), ((b 13), .inr (8, [.int 0, .ref (g.2.2 0), .int 0])), ((b 16), .inl (g.2.1 1, 26, .inr (.inl (fun _ => 0))))] (fun _ => True) (fun _ => [((b 0), .inr (10, [.ref (b 1), .ref (b 2), .ref (b 3), .ref (b 4), .ref (b 5), .ref (b 6), .ref (b 7), .ref (b 8), .ref (b 9), .ref (b 10), .ref (b 11), .ref (b 12), .int 0, .int 0, .int (nI (mo + 1)), .ref (b 13), .ref (b 14), .ref (b 16)])), ((b 1), .inl (g.2.1 0, 16, .inl (fun _ => 0))), ((b 2), .inl (g.2.1 0, 16, .inl (fun _ => 10))), ((b 3), .inl (g.2.1 0, 16, .inl (fun _ => 0))), ((b 4), .inl (g.2.1 0, 16, .inl (fun _ => 0))), ((b 5), .inl (g.2.1 0, 8, .inl (fun _ => 100))), ((b 6), .inl (g.2.1 0, 2, .inl (fun _ => 4))), ((b 7), .inl (g.2.1 0, 8, .inl (fun _ => 0))), ((b 8), .inl (g.2.1 0, 8, .inl (fun _ => 0))), ((b 9), .inl (g.2.1 0, 8, .inl (fun _ => 0))), ((b 10), .inl (g.2.1 0, 8, .inl (fun _ => 0))), ((b 11), .inl (g.2.1 0, 16, .inl (fun _ => 0))), ((b 12), .inl (g.2.1 0, 16, .inl (fun _ => 0))), ((b 13), .inr (8, [.int 0, .ref (g.2.2 0), .int 0])), ((b 16), .inl (g.2.1 1, 26, .inr (.inl (fun _ => 0))))]) (fun _ => (3, 23)) := by
  intro sz tt
  refine ofX RX7 rfl (by decide +kernel) (Nat.le_of_ble_eq_true rfl) (fun p e s m args below meth c hargs S hml hr hlk hnm hsz htt hK hA hZ E ls hl => ?_)
  have hx := S.1
  have hb := S.2.1
  have hl : lv_has ls 2 [(0, .ref (b 0))] := hl
  refine lv_iconst (v := 0) hx hb dX7_pass_0 (by decide) ?_
  refine lv_istore_n (lv' := [(1, .int 0), (0, .ref (b 0))]) hx hb dX7_pass_1 rfl hl (by decide) rfl (fun ls hl => ?_)
  have L1 : ∀ (k1 i1 : Nat), i1 + k1 = 8 → ∀ (H : Heap) (locs : List Loc), Ev g (va_A [((b 0), .inr (10, [.ref (b 1), .ref (b 2), .ref (b 3), .ref (b 4), .ref (b 5), .ref (b 6), .ref (b 7), .ref (b 8), .ref (b 9), .ref (b 10), .ref (b 11), .ref (b 12), .int 0, .int 0, .int (nI mo), .ref (b 13), .ref (b 14), .ref (b 16)])), ((b 1), .inl (g.2.1 0, 16, .inl (fun _ => 0))), ((b 2), .inl (g.2.1 0, 16, .inl (fun _ => 10))), ((b 3), .inl (g.2.1 0, 16, .inl (fun _ => 0))), ((b 4), .inl (g.2.1 0, 16, .inl (fun _ => 0))), ((b 5), .inl (g.2.1 0, 8, .inl (fun _ => 100))), ((b 6), .inl (g.2.1 0, 2, .inl (fun _ => 4))), ((b 7), .inl (g.2.1 0, 8, .inl (fun _ => 0))), ((b 8), .inl (g.2.1 0, 8, .inl (fun _ => 0))), ((b 9), .inl (g.2.1 0, 8, .inl (fun _ => 0))), ((b 10), .inl (g.2.1 0, 8, .inl (fun _ => 0))), ((b 11), .inl (g.2.1 0, 16, .inl (fun _ => 0))), ((b 12), .inl (g.2.1 0, 16, .inl (fun _ => 0))), ((b 13), .inr (8, [.int 0, .ref (g.2.2 0), .int 0])), ((b 16), .inl (g.2.1 1, 26, .inr (.inl (fun _ => 0))))] sz) s.heap H locs [((b 0), .inr (10, [.ref (b 1), .ref (b 2), .ref (b 3), .ref (b 4), .ref (b 5), .ref (b 6), .ref (b 7), .ref (b 8), .ref (b 9), .ref (b 10), .ref (b 11), .ref (b 12), .int 0, .int 0, .int (nI mo), .ref (b 13), .ref (b 14), .ref (b 16)])), ((b 1), .inl (g.2.1 0, 16, .inl (fun _ => 0))), ((b 2), .inl (g.2.1 0, 16, .inl (fun _ => 10))), ((b 3), .inl (g.2.1 0, 16, .inl (fun _ => 0))), ((b 4), .inl (g.2.1 0, 16, .inl (fun _ => 0))), ((b 5), .inl (g.2.1 0, 8, .inl (fun _ => 100))), ((b 6), .inl (g.2.1 0, 2, .inl (fun _ => 4))), ((b 7), .inl (g.2.1 0, 8, .inl (fun _ => 0))), ((b 8), .inl (g.2.1 0, 8, .inl (fun _ => 0))), ((b 9), .inl (g.2.1 0, 8, .inl (fun _ => 0))), ((b 10), .inl (g.2.1 0, 8, .inl (fun _ => 0))), ((b 11), .inl (g.2.1 0, 16, .inl (fun _ => 0))), ((b 12), .inl (g.2.1 0, 16, .inl (fun _ => 0))), ((b 13), .inr (8, [.int 0, .ref (g.2.2 0), .int 0])), ((b 16), .inl (g.2.1 1, 26, .inr (.inl (fun _ => 0))))] → ∀ ls : Array Slot, lv_has ls 2 [(1, .int (nI i1)), (0, .ref (b 0))] → W p l e ({ frames := 6, cells := 3, slots := 23, locals := 125 } : Room) s m args below meth c H locs 0 0 (MQ below (va_Qv (S := Unit) (fun _ => True) (AtX g (va_A [((b 0), .inr (10, [.ref (b 1), .ref (b 2), .ref (b 3), .ref (b 4), .ref (b 5), .ref (b 6), .ref (b 7), .ref (b 8), .ref (b 9), .ref (b 10), .ref (b 11), .ref (b 12), .int 0, .int 0, .int (nI mo), .ref (b 13), .ref (b 14), .ref (b 16)])), ((b 1), .inl (g.2.1 0, 16, .inl (fun _ => 0))), ((b 2), .inl (g.2.1 0, 16, .inl (fun _ => 10))), ((b 3), .inl (g.2.1 0, 16, .inl (fun _ => 0))), ((b 4), .inl (g.2.1 0, 16, .inl (fun _ => 0))), ((b 5), .inl (g.2.1 0, 8, .inl (fun _ => 100))), ((b 6), .inl (g.2.1 0, 2, .inl (fun _ => 4))), ((b 7), .inl (g.2.1 0, 8, .inl (fun _ => 0))), ((b 8), .inl (g.2.1 0, 8, .inl (fun _ => 0))), ((b 9), .inl (g.2.1 0, 8, .inl (fun _ => 0))), ((b 10), .inl (g.2.1 0, 8, .inl (fun _ => 0))), ((b 11), .inl (g.2.1 0, 16, .inl (fun _ => 0))), ((b 12), .inl (g.2.1 0, 16, .inl (fun _ => 0))), ((b 13), .inr (8, [.int 0, .ref (g.2.2 0), .int 0])), ((b 16), .inl (g.2.1 1, 26, .inr (.inl (fun _ => 0))))] sz) (fun _ => [((b 0), .inr (10, [.ref (b 1), .ref (b 2), .ref (b 3), .ref (b 4), .ref (b 5), .ref (b 6), .ref (b 7), .ref (b 8), .ref (b 9), .ref (b 10), .ref (b 11), .ref (b 12), .int 0, .int 0, .int (nI (mo + 1)), .ref (b 13), .ref (b 14), .ref (b 16)])), ((b 1), .inl (g.2.1 0, 16, .inl (fun _ => 0))), ((b 2), .inl (g.2.1 0, 16, .inl (fun _ => 10))), ((b 3), .inl (g.2.1 0, 16, .inl (fun _ => 0))), ((b 4), .inl (g.2.1 0, 16, .inl (fun _ => 0))), ((b 5), .inl (g.2.1 0, 8, .inl (fun _ => 100))), ((b 6), .inl (g.2.1 0, 2, .inl (fun _ => 4))), ((b 7), .inl (g.2.1 0, 8, .inl (fun _ => 0))), ((b 8), .inl (g.2.1 0, 8, .inl (fun _ => 0))), ((b 9), .inl (g.2.1 0, 8, .inl (fun _ => 0))), ((b 10), .inl (g.2.1 0, 8, .inl (fun _ => 0))), ((b 11), .inl (g.2.1 0, 16, .inl (fun _ => 0))), ((b 12), .inl (g.2.1 0, 16, .inl (fun _ => 0))), ((b 13), .inr (8, [.int 0, .ref (g.2.2 0), .int 0])), ((b 16), .inl (g.2.1 1, 26, .inr (.inl (fun _ => 0))))]) (fun _ => (3, 23)) sz tt) (va_A [((b 0), .inr (10, [.ref (b 1), .ref (b 2), .ref (b 3), .ref (b 4), .ref (b 5), .ref (b 6), .ref (b 7), .ref (b 8), .ref (b 9), .ref (b 10), .ref (b 11), .ref (b 12), .int 0, .int 0, .int (nI mo), .ref (b 13), .ref (b 14), .ref (b 16)])), ((b 1), .inl (g.2.1 0, 16, .inl (fun _ => 0))), ((b 2), .inl (g.2.1 0, 16, .inl (fun _ => 10))), ((b 3), .inl (g.2.1 0, 16, .inl (fun _ => 0))), ((b 4), .inl (g.2.1 0, 16, .inl (fun _ => 0))), ((b 5), .inl (g.2.1 0, 8, .inl (fun _ => 100))), ((b 6), .inl (g.2.1 0, 2, .inl (fun _ => 4))), ((b 7), .inl (g.2.1 0, 8, .inl (fun _ => 0))), ((b 8), .inl (g.2.1 0, 8, .inl (fun _ => 0))), ((b 9), .inl (g.2.1 0, 8, .inl (fun _ => 0))), ((b 10), .inl (g.2.1 0, 8, .inl (fun _ => 0))), ((b 11), .inl (g.2.1 0, 16, .inl (fun _ => 0))), ((b 12), .inl (g.2.1 0, 16, .inl (fun _ => 0))), ((b 13), .inr (8, [.int 0, .ref (g.2.2 0), .int 0])), ((b 16), .inl (g.2.1 1, 26, .inr (.inl (fun _ => 0))))] sz)) args s 3 23 (va_A [((b 0), .inr (10, [.ref (b 1), .ref (b 2), .ref (b 3), .ref (b 4), .ref (b 5), .ref (b 6), .ref (b 7), .ref (b 8), .ref (b 9), .ref (b 10), .ref (b 11), .ref (b 12), .int 0, .int 0, .int (nI mo), .ref (b 13), .ref (b 14), .ref (b 16)])), ((b 1), .inl (g.2.1 0, 16, .inl (fun _ => 0))), ((b 2), .inl (g.2.1 0, 16, .inl (fun _ => 10))), ((b 3), .inl (g.2.1 0, 16, .inl (fun _ => 0))), ((b 4), .inl (g.2.1 0, 16, .inl (fun _ => 0))), ((b 5), .inl (g.2.1 0, 8, .inl (fun _ => 100))), ((b 6), .inl (g.2.1 0, 2, .inl (fun _ => 4))), ((b 7), .inl (g.2.1 0, 8, .inl (fun _ => 0))), ((b 8), .inl (g.2.1 0, 8, .inl (fun _ => 0))), ((b 9), .inl (g.2.1 0, 8, .inl (fun _ => 0))), ((b 10), .inl (g.2.1 0, 8, .inl (fun _ => 0))), ((b 11), .inl (g.2.1 0, 16, .inl (fun _ => 0))), ((b 12), .inl (g.2.1 0, 16, .inl (fun _ => 0))), ((b 13), .inr (8, [.int 0, .ref (g.2.2 0), .int 0])), ((b 16), .inl (g.2.1 1, 26, .inr (.inl (fun _ => 0))))] sz)) (F0 m 2 ls []) := by
    intro k1
    induction k1 with
    | zero =>
      intro i1 hi1 H locs E ls hl
      obtain rfl : i1 = 8 := by omega
      have hl : lv_has ls 2 [(1, .int (nI 8)), (0, .ref (b 0))] := hl
      refine lv_iload_n hx hb dX7_pass_2 rfl (lv_at hl 0 rfl) ?_
      refine lv_bipush (v := 8) hx hb dX7_pass_3 (by decide) ?_
      refine lv_icmp_ge (tgt := 41) hx hb dX7_pass_5 (by decide) (fun _ => ?_) (fun c_ => absurd (show 8 ≤ (nI 8) by decide) c_)
      refine lv_aload_n hx hb dX7_pass_41 rfl (lv_at hl 1 rfl) ?_
      refine w_retv (runV_X (As := []) (rest := []) (q0 := 0) (n := 0) S hml hK (hZ.at E) (Cut.of (wc := [((b 0), .inr (10, [.ref (b 1), .ref (b 2), .ref (b 3), .ref (b 4), .ref (b 5), .ref (b 6), .ref (b 7), .ref (b 8), .ref (b 9), .ref (b 10), .ref (b 11), .ref (b 12), .int 0, .int 0, .int (nI mo), .ref (b 13), .ref (b 14), .ref (b 16)])), ((b 13), .inr (8, [.int 0, .ref (g.2.2 0), .int 0]))]) (wr := [((b 1), .inl (g.2.1 0, 16, .inl (fun _ => 0))), ((b 2), .inl (g.2.1 0, 16, .inl (fun _ => 10))), ((b 3), .inl (g.2.1 0, 16, .inl (fun _ => 0))), ((b 4), .inl (g.2.1 0, 16, .inl (fun _ => 0))), ((b 5), .inl (g.2.1 0, 8, .inl (fun _ => 100))), ((b 6), .inl (g.2.1 0, 2, .inl (fun _ => 4))), ((b 7), .inl (g.2.1 0, 8, .inl (fun _ => 0))), ((b 8), .inl (g.2.1 0, 8, .inl (fun _ => 0))), ((b 9), .inl (g.2.1 0, 8, .inl (fun _ => 0))), ((b 10), .inl (g.2.1 0, 8, .inl (fun _ => 0))), ((b 11), .inl (g.2.1 0, 16, .inl (fun _ => 0))), ((b 12), .inl (g.2.1 0, 16, .inl (fun _ => 0))), ((b 16), .inl (g.2.1 1, 26, .inr (.inl (fun _ => 0))))]) E hA [0, 13] [1, 2, 3, 4, 5, 6, 7, 8, 9, 10, 11, 12, 14] rfl rfl rfl rfl (by decide)) (c_X7_pump l g b mo _ _) (gi_wsV ml_X7_178 im_X7_pump sl_X7_pump in_X7 co_X7_pump) ⟨rfl, by decide +kernel, by decide +kernel, by decide +kernel⟩ ⟨Nat.le_of_ble_eq_true rfl, Nat.le_of_ble_eq_true rfl⟩ rfl rfl rfl hl.1 rfl (Nat.le_of_ble_eq_true rfl) dX7_pass_42 ⟨Nat.le_of_ble_eq_true rfl, Nat.le_of_ble_eq_true rfl⟩) (Cut.of (wc := [((b 0), .inr (10, [.ref (b 1), .ref (b 2), .ref (b 3), .ref (b 4), .ref (b 5), .ref (b 6), .ref (b 7), .ref (b 8), .ref (b 9), .ref (b 10), .ref (b 11), .ref (b 12), .int 0, .int 0, .int (nI mo), .ref (b 13), .ref (b 14), .ref (b 16)])), ((b 13), .inr (8, [.int 0, .ref (g.2.2 0), .int 0]))]) (wr := [((b 1), .inl (g.2.1 0, 16, .inl (fun _ => 0))), ((b 2), .inl (g.2.1 0, 16, .inl (fun _ => 10))), ((b 3), .inl (g.2.1 0, 16, .inl (fun _ => 0))), ((b 4), .inl (g.2.1 0, 16, .inl (fun _ => 0))), ((b 5), .inl (g.2.1 0, 8, .inl (fun _ => 100))), ((b 6), .inl (g.2.1 0, 2, .inl (fun _ => 4))), ((b 7), .inl (g.2.1 0, 8, .inl (fun _ => 0))), ((b 8), .inl (g.2.1 0, 8, .inl (fun _ => 0))), ((b 9), .inl (g.2.1 0, 8, .inl (fun _ => 0))), ((b 10), .inl (g.2.1 0, 8, .inl (fun _ => 0))), ((b 11), .inl (g.2.1 0, 16, .inl (fun _ => 0))), ((b 12), .inl (g.2.1 0, 16, .inl (fun _ => 0))), ((b 16), .inl (g.2.1 1, 26, .inr (.inl (fun _ => 0))))]) E hA [0, 13] [1, 2, 3, 4, 5, 6, 7, 8, 9, 10, 11, 12, 14] rfl rfl rfl rfl (by decide)) E (fun u2 H locs hp E => ?_)
      have E : Ev g _ s.heap H locs [((b 1), .inl (g.2.1 0, 16, .inl (fun _ => 0))), ((b 2), .inl (g.2.1 0, 16, .inl (fun _ => 10))), ((b 3), .inl (g.2.1 0, 16, .inl (fun _ => 0))), ((b 4), .inl (g.2.1 0, 16, .inl (fun _ => 0))), ((b 5), .inl (g.2.1 0, 8, .inl (fun _ => 100))), ((b 6), .inl (g.2.1 0, 2, .inl (fun _ => 4))), ((b 7), .inl (g.2.1 0, 8, .inl (fun _ => 0))), ((b 8), .inl (g.2.1 0, 8, .inl (fun _ => 0))), ((b 9), .inl (g.2.1 0, 8, .inl (fun _ => 0))), ((b 10), .inl (g.2.1 0, 8, .inl (fun _ => 0))), ((b 11), .inl (g.2.1 0, 16, .inl (fun _ => 0))), ((b 12), .inl (g.2.1 0, 16, .inl (fun _ => 0))), ((b 16), .inl (g.2.1 1, 26, .inr (.inl (fun _ => 0)))), ((b 0), .inr (10, [.ref (b 1), .ref (b 2), .ref (b 3), .ref (b 4), .ref (b 5), .ref (b 6), .ref (b 7), .ref (b 8), .ref (b 9), .ref (b 10), .ref (b 11), .ref (b 12), .int 0, .int 0, .int (nI mo), .ref (b 13), .ref (b 14), .ref (b 16)])), ((b 13), .inr (8, [.int 0, .ref (g.2.2 0), .int 0]))] := E
      refine lv_aload_n hx hb dX7_pass_45 rfl (lv_at hl 1 rfl) ?_
      refine w_retv (runV_X (As := []) (rest := []) (q0 := 0) (n := 0) S hml hK (hZ.at E) (Cut.of (wc := [((b 0), .inr (10, [.ref (b 1), .ref (b 2), .ref (b 3), .ref (b 4), .ref (b 5), .ref (b 6), .ref (b 7), .ref (b 8), .ref (b 9), .ref (b 10), .ref (b 11), .ref (b 12), .int 0, .int 0, .int (nI mo), .ref (b 13), .ref (b 14), .ref (b 16)])), ((b 1), .inl (g.2.1 0, 16, .inl (fun _ => 0))), ((b 2), .inl (g.2.1 0, 16, .inl (fun _ => 10))), ((b 3), .inl (g.2.1 0, 16, .inl (fun _ => 0))), ((b 4), .inl (g.2.1 0, 16, .inl (fun _ => 0))), ((b 6), .inl (g.2.1 0, 2, .inl (fun _ => 4))), ((b 7), .inl (g.2.1 0, 8, .inl (fun _ => 0))), ((b 11), .inl (g.2.1 0, 16, .inl (fun _ => 0))), ((b 12), .inl (g.2.1 0, 16, .inl (fun _ => 0)))]) (wr := [((b 5), .inl (g.2.1 0, 8, .inl (fun _ => 100))), ((b 8), .inl (g.2.1 0, 8, .inl (fun _ => 0))), ((b 9), .inl (g.2.1 0, 8, .inl (fun _ => 0))), ((b 10), .inl (g.2.1 0, 8, .inl (fun _ => 0))), ((b 16), .inl (g.2.1 1, 26, .inr (.inl (fun _ => 0)))), ((b 13), .inr (8, [.int 0, .ref (g.2.2 0), .int 0]))]) E hA [13, 0, 1, 2, 3, 5, 6, 10, 11] [4, 7, 8, 9, 12, 14] rfl rfl rfl rfl (by decide)) (c_X7_flowAll l g b mo _ _) (gi_wsV ml_X7_181 im_X7_flowAll sl_X7_flowAll in_X7 co_X7_flowAll) ⟨rfl, by decide +kernel, by decide +kernel, by decide +kernel⟩ ⟨Nat.le_of_ble_eq_true rfl, Nat.le_of_ble_eq_true rfl⟩ rfl rfl rfl hl.1 rfl (Nat.le_of_ble_eq_true rfl) dX7_pass_46 ⟨Nat.le_of_ble_eq_true rfl, Nat.le_of_ble_eq_true rfl⟩) (Cut.of (wc := [((b 0), .inr (10, [.ref (b 1), .ref (b 2), .ref (b 3), .ref (b 4), .ref (b 5), .ref (b 6), .ref (b 7), .ref (b 8), .ref (b 9), .ref (b 10), .ref (b 11), .ref (b 12), .int 0, .int 0, .int (nI mo), .ref (b 13), .ref (b 14), .ref (b 16)])), ((b 1), .inl (g.2.1 0, 16, .inl (fun _ => 0))), ((b 2), .inl (g.2.1 0, 16, .inl (fun _ => 10))), ((b 3), .inl (g.2.1 0, 16, .inl (fun _ => 0))), ((b 4), .inl (g.2.1 0, 16, .inl (fun _ => 0))), ((b 6), .inl (g.2.1 0, 2, .inl (fun _ => 4))), ((b 7), .inl (g.2.1 0, 8, .inl (fun _ => 0))), ((b 11), .inl (g.2.1 0, 16, .inl (fun _ => 0))), ((b 12), .inl (g.2.1 0, 16, .inl (fun _ => 0)))]) (wr := [((b 5), .inl (g.2.1 0, 8, .inl (fun _ => 100))), ((b 8), .inl (g.2.1 0, 8, .inl (fun _ => 0))), ((b 9), .inl (g.2.1 0, 8, .inl (fun _ => 0))), ((b 10), .inl (g.2.1 0, 8, .inl (fun _ => 0))), ((b 16), .inl (g.2.1 1, 26, .inr (.inl (fun _ => 0)))), ((b 13), .inr (8, [.int 0, .ref (g.2.2 0), .int 0]))]) E hA [13, 0, 1, 2, 3, 5, 6, 10, 11] [4, 7, 8, 9, 12, 14] rfl rfl rfl rfl (by decide)) E (fun u3 H locs hp E => ?_)
      have E : Ev g _ s.heap H locs [((b 5), .inl (g.2.1 0, 8, .inl (fun _ => 100))), ((b 8), .inl (g.2.1 0, 8, .inl (fun _ => 0))), ((b 9), .inl (g.2.1 0, 8, .inl (fun _ => 0))), ((b 10), .inl (g.2.1 0, 8, .inl (fun _ => 0))), ((b 16), .inl (g.2.1 1, 26, .inr (.inl (fun _ => 0)))), ((b 13), .inr (8, [.int 0, .ref (g.2.2 0), .int 0])), ((b 0), .inr (10, [.ref (b 1), .ref (b 2), .ref (b 3), .ref (b 4), .ref (b 5), .ref (b 6), .ref (b 7), .ref (b 8), .ref (b 9), .ref (b 10), .ref (b 11), .ref (b 12), .int 0, .int 0, .int (nI mo), .ref (b 13), .ref (b 14), .ref (b 16)])), ((b 1), .inl (g.2.1 0, 16, .inl (fun _ => 0))), ((b 2), .inl (g.2.1 0, 16, .inl (fun _ => 10))), ((b 3), .inl (g.2.1 0, 16, .inl (fun _ => 0))), ((b 4), .inl (g.2.1 0, 16, .inl (fun _ => 0))), ((b 6), .inl (g.2.1 0, 2, .inl (fun _ => 4))), ((b 7), .inl (g.2.1 0, 8, .inl (fun _ => 0))), ((b 11), .inl (g.2.1 0, 16, .inl (fun _ => 0))), ((b 12), .inl (g.2.1 0, 16, .inl (fun _ => 0)))] := E
      refine lv_aload_n hx hb dX7_pass_49 rfl (lv_at hl 1 rfl) ?_
      refine w_retv (runV_X (As := []) (rest := []) (q0 := 0) (n := 0) S hml hK (hZ.at E) (Cut.of (wc := [((b 0), .inr (10, [.ref (b 1), .ref (b 2), .ref (b 3), .ref (b 4), .ref (b 5), .ref (b 6), .ref (b 7), .ref (b 8), .ref (b 9), .ref (b 10), .ref (b 11), .ref (b 12), .int 0, .int 0, .int (nI mo), .ref (b 13), .ref (b 14), .ref (b 16)])), ((b 1), .inl (g.2.1 0, 16, .inl (fun _ => 0))), ((b 2), .inl (g.2.1 0, 16, .inl (fun _ => 10))), ((b 3), .inl (g.2.1 0, 16, .inl (fun _ => 0))), ((b 9), .inl (g.2.1 0, 8, .inl (fun _ => 0))), ((b 10), .inl (g.2.1 0, 8, .inl (fun _ => 0))), ((b 16), .inl (g.2.1 1, 26, .inr (.inl (fun _ => 0))))]) (wr := [((b 5), .inl (g.2.1 0, 8, .inl (fun _ => 100))), ((b 8), .inl (g.2.1 0, 8, .inl (fun _ => 0))), ((b 13), .inr (8, [.int 0, .ref (g.2.2 0), .int 0])), ((b 4), .inl (g.2.1 0, 16, .inl (fun _ => 0))), ((b 6), .inl (g.2.1 0, 2, .inl (fun _ => 4))), ((b 7), .inl (g.2.1 0, 8, .inl (fun _ => 0))), ((b 11), .inl (g.2.1 0, 16, .inl (fun _ => 0))), ((b 12), .inl (g.2.1 0, 16, .inl (fun _ => 0)))]) E hA [6, 7, 8, 9, 2, 3, 4] [0, 1, 5, 10, 11, 12, 13, 14] rfl rfl rfl rfl (by decide)) (c_X7_runRiver l g b mo _ _) (gi_wsV ml_X7_184 im_X7_runRiver sl_X7_runRiver in_X7 co_X7_runRiver) ⟨rfl, by decide +kernel, by decide +kernel, by decide +kernel⟩ ⟨Nat.le_of_ble_eq_true rfl, Nat.le_of_ble_eq_true rfl⟩ rfl rfl rfl hl.1 rfl (Nat.le_of_ble_eq_true rfl) dX7_pass_50 ⟨Nat.le_of_ble_eq_true rfl, Nat.le_of_ble_eq_true rfl⟩) (Cut.of (wc := [((b 0), .inr (10, [.ref (b 1), .ref (b 2), .ref (b 3), .ref (b 4), .ref (b 5), .ref (b 6), .ref (b 7), .ref (b 8), .ref (b 9), .ref (b 10), .ref (b 11), .ref (b 12), .int 0, .int 0, .int (nI mo), .ref (b 13), .ref (b 14), .ref (b 16)])), ((b 1), .inl (g.2.1 0, 16, .inl (fun _ => 0))), ((b 2), .inl (g.2.1 0, 16, .inl (fun _ => 10))), ((b 3), .inl (g.2.1 0, 16, .inl (fun _ => 0))), ((b 9), .inl (g.2.1 0, 8, .inl (fun _ => 0))), ((b 10), .inl (g.2.1 0, 8, .inl (fun _ => 0))), ((b 16), .inl (g.2.1 1, 26, .inr (.inl (fun _ => 0))))]) (wr := [((b 5), .inl (g.2.1 0, 8, .inl (fun _ => 100))), ((b 8), .inl (g.2.1 0, 8, .inl (fun _ => 0))), ((b 13), .inr (8, [.int 0, .ref (g.2.2 0), .int 0])), ((b 4), .inl (g.2.1 0, 16, .inl (fun _ => 0))), ((b 6), .inl (g.2.1 0, 2, .inl (fun _ => 4))), ((b 7), .inl (g.2.1 0, 8, .inl (fun _ => 0))), ((b 11), .inl (g.2.1 0, 16, .inl (fun _ => 0))), ((b 12), .inl (g.2.1 0, 16, .inl (fun _ => 0)))]) E hA [6, 7, 8, 9, 2, 3, 4] [0, 1, 5, 10, 11, 12, 13, 14] rfl rfl rfl rfl (by decide)) E (fun u4 H locs hp E => ?_)
      have E : Ev g _ s.heap H locs [((b 5), .inl (g.2.1 0, 8, .inl (fun _ => 100))), ((b 8), .inl (g.2.1 0, 8, .inl (fun _ => 0))), ((b 13), .inr (8, [.int 0, .ref (g.2.2 0), .int 0])), ((b 4), .inl (g.2.1 0, 16, .inl (fun _ => 0))), ((b 6), .inl (g.2.1 0, 2, .inl (fun _ => 4))), ((b 7), .inl (g.2.1 0, 8, .inl (fun _ => 0))), ((b 11), .inl (g.2.1 0, 16, .inl (fun _ => 0))), ((b 12), .inl (g.2.1 0, 16, .inl (fun _ => 0))), ((b 0), .inr (10, [.ref (b 1), .ref (b 2), .ref (b 3), .ref (b 4), .ref (b 5), .ref (b 6), .ref (b 7), .ref (b 8), .ref (b 9), .ref (b 10), .ref (b 11), .ref (b 12), .int 0, .int 0, .int (nI mo), .ref (b 13), .ref (b 14), .ref (b 16)])), ((b 1), .inl (g.2.1 0, 16, .inl (fun _ => 0))), ((b 2), .inl (g.2.1 0, 16, .inl (fun _ => 10))), ((b 3), .inl (g.2.1 0, 16, .inl (fun _ => 0))), ((b 9), .inl (g.2.1 0, 8, .inl (fun _ => 0))), ((b 10), .inl (g.2.1 0, 8, .inl (fun _ => 0))), ((b 16), .inl (g.2.1 1, 26, .inr (.inl (fun _ => 0))))] := E
      refine lv_aload_n hx hb dX7_pass_53 rfl (lv_at hl 1 rfl) ?_
      refine w_retv (runV_X (As := []) (rest := []) (q0 := 0) (n := 0) S hml hK (hZ.at E) (Cut.of (wc := [((b 0), .inr (10, [.ref (b 1), .ref (b 2), .ref (b 3), .ref (b 4), .ref (b 5), .ref (b 6), .ref (b 7), .ref (b 8), .ref (b 9), .ref (b 10), .ref (b 11), .ref (b 12), .int 0, .int 0, .int (nI mo), .ref (b 13), .ref (b 14), .ref (b 16)])), ((b 1), .inl (g.2.1 0, 16, .inl (fun _ => 0))), ((b 2), .inl (g.2.1 0, 16, .inl (fun _ => 10))), ((b 3), .inl (g.2.1 0, 16, .inl (fun _ => 0))), ((b 5), .inl (g.2.1 0, 8, .inl (fun _ => 100)))]) (wr := [((b 8), .inl (g.2.1 0, 8, .inl (fun _ => 0))), ((b 13), .inr (8, [.int 0, .ref (g.2.2 0), .int 0])), ((b 4), .inl (g.2.1 0, 16, .inl (fun _ => 0))), ((b 6), .inl (g.2.1 0, 2, .inl (fun _ => 4))), ((b 7), .inl (g.2.1 0, 8, .inl (fun _ => 0))), ((b 11), .inl (g.2.1 0, 16, .inl (fun _ => 0))), ((b 12), .inl (g.2.1 0, 16, .inl (fun _ => 0))), ((b 9), .inl (g.2.1 0, 8, .inl (fun _ => 0))), ((b 10), .inl (g.2.1 0, 8, .inl (fun _ => 0))), ((b 16), .inl (g.2.1 1, 26, .inr (.inl (fun _ => 0))))]) E hA [8, 9, 10, 11, 0] [1, 2, 3, 4, 5, 6, 7, 12, 13, 14] rfl rfl rfl rfl (by decide)) (c_X7_spring l g b mo _ _) (gi_wsV ml_X7_187 im_X7_spring sl_X7_spring in_X7 co_X7_spring) ⟨rfl, by decide +kernel, by decide +kernel, by decide +kernel⟩ ⟨Nat.le_of_ble_eq_true rfl, Nat.le_of_ble_eq_true rfl⟩ rfl rfl rfl hl.1 rfl (Nat.le_of_ble_eq_true rfl) dX7_pass_54 ⟨Nat.le_of_ble_eq_true rfl, Nat.le_of_ble_eq_true rfl⟩) (Cut.of (wc := [((b 0), .inr (10, [.ref (b 1), .ref (b 2), .ref (b 3), .ref (b 4), .ref (b 5), .ref (b 6), .ref (b 7), .ref (b 8), .ref (b 9), .ref (b 10), .ref (b 11), .ref (b 12), .int 0, .int 0, .int (nI mo), .ref (b 13), .ref (b 14), .ref (b 16)])), ((b 1), .inl (g.2.1 0, 16, .inl (fun _ => 0))), ((b 2), .inl (g.2.1 0, 16, .inl (fun _ => 10))), ((b 3), .inl (g.2.1 0, 16, .inl (fun _ => 0))), ((b 5), .inl (g.2.1 0, 8, .inl (fun _ => 100)))]) (wr := [((b 8), .inl (g.2.1 0, 8, .inl (fun _ => 0))), ((b 13), .inr (8, [.int 0, .ref (g.2.2 0), .int 0])), ((b 4), .inl (g.2.1 0, 16, .inl (fun _ => 0))), ((b 6), .inl (g.2.1 0, 2, .inl (fun _ => 4))), ((b 7), .inl (g.2.1 0, 8, .inl (fun _ => 0))), ((b 11), .inl (g.2.1 0, 16, .inl (fun _ => 0))), ((b 12), .inl (g.2.1 0, 16, .inl (fun _ => 0))), ((b 9), .inl (g.2.1 0, 8, .inl (fun _ => 0))), ((b 10), .inl (g.2.1 0, 8, .inl (fun _ => 0))), ((b 16), .inl (g.2.1 1, 26, .inr (.inl (fun _ => 0))))]) E hA [8, 9, 10, 11, 0] [1, 2, 3, 4, 5, 6, 7, 12, 13, 14] rfl rfl rfl rfl (by decide)) E (fun u5 H locs hp E => ?_)
      have E : Ev g _ s.heap H locs [((b 8), .inl (g.2.1 0, 8, .inl (fun _ => 0))), ((b 13), .inr (8, [.int 0, .ref (g.2.2 0), .int 0])), ((b 4), .inl (g.2.1 0, 16, .inl (fun _ => 0))), ((b 6), .inl (g.2.1 0, 2, .inl (fun _ => 4))), ((b 7), .inl (g.2.1 0, 8, .inl (fun _ => 0))), ((b 11), .inl (g.2.1 0, 16, .inl (fun _ => 0))), ((b 12), .inl (g.2.1 0, 16, .inl (fun _ => 0))), ((b 9), .inl (g.2.1 0, 8, .inl (fun _ => 0))), ((b 10), .inl (g.2.1 0, 8, .inl (fun _ => 0))), ((b 16), .inl (g.2.1 1, 26, .inr (.inl (fun _ => 0)))), ((b 0), .inr (10, [.ref (b 1), .ref (b 2), .ref (b 3), .ref (b 4), .ref (b 5), .ref (b 6), .ref (b 7), .ref (b 8), .ref (b 9), .ref (b 10), .ref (b 11), .ref (b 12), .int 0, .int 0, .int (nI mo), .ref (b 13), .ref (b 14), .ref (b 16)])), ((b 1), .inl (g.2.1 0, 16, .inl (fun _ => 0))), ((b 2), .inl (g.2.1 0, 16, .inl (fun _ => 10))), ((b 3), .inl (g.2.1 0, 16, .inl (fun _ => 0))), ((b 5), .inl (g.2.1 0, 8, .inl (fun _ => 100)))] := E
      refine lv_aload_n hx hb dX7_pass_57 rfl (lv_at hl 1 rfl) ?_
      refine w_retv (runV_X (As := []) (rest := []) (q0 := 0) (n := 0) S hml hK (hZ.at E) (Cut.of (wc := [((b 0), .inr (10, [.ref (b 1), .ref (b 2), .ref (b 3), .ref (b 4), .ref (b 5), .ref (b 6), .ref (b 7), .ref (b 8), .ref (b 9), .ref (b 10), .ref (b 11), .ref (b 12), .int 0, .int 0, .int (nI mo), .ref (b 13), .ref (b 14), .ref (b 16)])), ((b 1), .inl (g.2.1 0, 16, .inl (fun _ => 0))), ((b 2), .inl (g.2.1 0, 16, .inl (fun _ => 10))), ((b 3), .inl (g.2.1 0, 16, .inl (fun _ => 0))), ((b 16), .inl (g.2.1 1, 26, .inr (.inl (fun _ => 0))))]) (wr := [((b 8), .inl (g.2.1 0, 8, .inl (fun _ => 0))), ((b 13), .inr (8, [.int 0, .ref (g.2.2 0), .int 0])), ((b 4), .inl (g.2.1 0, 16, .inl (fun _ => 0))), ((b 6), .inl (g.2.1 0, 2, .inl (fun _ => 4))), ((b 7), .inl (g.2.1 0, 8, .inl (fun _ => 0))), ((b 11), .inl (g.2.1 0, 16, .inl (fun _ => 0))), ((b 12), .inl (g.2.1 0, 16, .inl (fun _ => 0))), ((b 9), .inl (g.2.1 0, 8, .inl (fun _ => 0))), ((b 10), .inl (g.2.1 0, 8, .inl (fun _ => 0))), ((b 5), .inl (g.2.1 0, 8, .inl (fun _ => 100)))]) E hA [10, 11, 12, 13, 9] [0, 1, 2, 3, 4, 5, 6, 7, 8, 14] rfl rfl rfl rfl (by decide)) (c_X7_meetSea l g b mo _ _) (gi_wsV ml_X7_190 im_X7_meetSea sl_X7_meetSea in_X7 co_X7_meetSea) ⟨rfl, by decide +kernel, by decide +kernel, by decide +kernel⟩ ⟨Nat.le_of_ble_eq_true rfl, Nat.le_of_ble_eq_true rfl⟩ rfl rfl rfl hl.1 rfl (Nat.le_of_ble_eq_true rfl) dX7_pass_58 ⟨Nat.le_of_ble_eq_true rfl, Nat.le_of_ble_eq_true rfl⟩) (Cut.of (wc := [((b 0), .inr (10, [.ref (b 1), .ref (b 2), .ref (b 3), .ref (b 4), .ref (b 5), .ref (b 6), .ref (b 7), .ref (b 8), .ref (b 9), .ref (b 10), .ref (b 11), .ref (b 12), .int 0, .int 0, .int (nI mo), .ref (b 13), .ref (b 14), .ref (b 16)])), ((b 1), .inl (g.2.1 0, 16, .inl (fun _ => 0))), ((b 2), .inl (g.2.1 0, 16, .inl (fun _ => 10))), ((b 3), .inl (g.2.1 0, 16, .inl (fun _ => 0))), ((b 16), .inl (g.2.1 1, 26, .inr (.inl (fun _ => 0))))]) (wr := [((b 8), .inl (g.2.1 0, 8, .inl (fun _ => 0))), ((b 13), .inr (8, [.int 0, .ref (g.2.2 0), .int 0])), ((b 4), .inl (g.2.1 0, 16, .inl (fun _ => 0))), ((b 6), .inl (g.2.1 0, 2, .inl (fun _ => 4))), ((b 7), .inl (g.2.1 0, 8, .inl (fun _ => 0))), ((b 11), .inl (g.2.1 0, 16, .inl (fun _ => 0))), ((b 12), .inl (g.2.1 0, 16, .inl (fun _ => 0))), ((b 9), .inl (g.2.1 0, 8, .inl (fun _ => 0))), ((b 10), .inl (g.2.1 0, 8, .inl (fun _ => 0))), ((b 5), .inl (g.2.1 0, 8, .inl (fun _ => 100)))]) E hA [10, 11, 12, 13, 9] [0, 1, 2, 3, 4, 5, 6, 7, 8, 14] rfl rfl rfl rfl (by decide)) E (fun u6 H locs hp E => ?_)
      have E : Ev g _ s.heap H locs [((b 8), .inl (g.2.1 0, 8, .inl (fun _ => 0))), ((b 13), .inr (8, [.int 0, .ref (g.2.2 0), .int 0])), ((b 4), .inl (g.2.1 0, 16, .inl (fun _ => 0))), ((b 6), .inl (g.2.1 0, 2, .inl (fun _ => 4))), ((b 7), .inl (g.2.1 0, 8, .inl (fun _ => 0))), ((b 11), .inl (g.2.1 0, 16, .inl (fun _ => 0))), ((b 12), .inl (g.2.1 0, 16, .inl (fun _ => 0))), ((b 9), .inl (g.2.1 0, 8, .inl (fun _ => 0))), ((b 10), .inl (g.2.1 0, 8, .inl (fun _ => 0))), ((b 5), .inl (g.2.1 0, 8, .inl (fun _ => 100))), ((b 0), .inr (10, [.ref (b 1), .ref (b 2), .ref (b 3), .ref (b 4), .ref (b 5), .ref (b 6), .ref (b 7), .ref (b 8), .ref (b 9), .ref (b 10), .ref (b 11), .ref (b 12), .int 0, .int 0, .int (nI mo), .ref (b 13), .ref (b 14), .ref (b 16)])), ((b 1), .inl (g.2.1 0, 16, .inl (fun _ => 0))), ((b 2), .inl (g.2.1 0, 16, .inl (fun _ => 10))), ((b 3), .inl (g.2.1 0, 16, .inl (fun _ => 0))), ((b 16), .inl (g.2.1 1, 26, .inr (.inl (fun _ => 0))))] := E
      refine lv_aload_n hx hb dX7_pass_61 rfl (lv_at hl 1 rfl) ?_
      refine lv_dup hx hb dX7_pass_62 rfl ?_
      refine wg_X7_193 (v := .int (nI mo)) S hK E 10 rfl rfl dX7_pass_63 ?_
      refine lv_iconst (v := 1) hx hb dX7_pass_66 (by decide) ?_
      refine k_iadd (v := (nI (mo + 1))) hx hb (nI_1 mo) dX7_pass_67 ?_
      refine wp_X7_193 (w' := [((b 8), .inl (g.2.1 0, 8, .inl (fun _ => 0))), ((b 13), .inr (8, [.int 0, .ref (g.2.2 0), .int 0])), ((b 4), .inl (g.2.1 0, 16, .inl (fun _ => 0))), ((b 6), .inl (g.2.1 0, 2, .inl (fun _ => 4))), ((b 7), .inl (g.2.1 0, 8, .inl (fun _ => 0))), ((b 11), .inl (g.2.1 0, 16, .inl (fun _ => 0))), ((b 12), .inl (g.2.1 0, 16, .inl (fun _ => 0))), ((b 9), .inl (g.2.1 0, 8, .inl (fun _ => 0))), ((b 10), .inl (g.2.1 0, 8, .inl (fun _ => 0))), ((b 5), .inl (g.2.1 0, 8, .inl (fun _ => 100))), ((b 0), .inr (10, [.ref (b 1), .ref (b 2), .ref (b 3), .ref (b 4), .ref (b 5), .ref (b 6), .ref (b 7), .ref (b 8), .ref (b 9), .ref (b 10), .ref (b 11), .ref (b 12), .int 0, .int 0, .int (nI (mo + 1)), .ref (b 13), .ref (b 14), .ref (b 16)])), ((b 1), .inl (g.2.1 0, 16, .inl (fun _ => 0))), ((b 2), .inl (g.2.1 0, 16, .inl (fun _ => 10))), ((b 3), .inl (g.2.1 0, 16, .inl (fun _ => 0))), ((b 16), .inl (g.2.1 1, 26, .inr (.inl (fun _ => 0))))]) S hK E 10 rfl rfl rfl (Nat.le_of_ble_eq_true rfl) rfl dX7_pass_68 (fun H locs E => ?_)
      refine lv_aload_n hx hb dX7_pass_71 rfl (lv_at hl 1 rfl) ?_
      refine wg_X7_193 (v := .int (nI (mo + 1))) S hK E 10 rfl rfl dX7_pass_72 ?_
      refine lv_bipush (v := 12) hx hb dX7_pass_75 (by decide) ?_
      refine k_irem (v := (nI ((mo + 1) % 12))) hx hb (by decide) (pk_rem (a := (mo + 1)) (d := 12) (by omega) (by decide) (by decide)) dX7_pass_77 ?_
      refine lv_if_ne (tgt := 85) hx hb dX7_pass_78 (by decide) (fun c7 => ?_) (fun c7 => ?_)
      · have c7 : ¬ ((nI ((mo + 1) % 12)) = 0) := c7
        have E : Ev g _ s.heap H locs [((b 0), .inr (10, [.ref (b 1), .ref (b 2), .ref (b 3), .ref (b 4), .ref (b 5), .ref (b 6), .ref (b 7), .ref (b 8), .ref (b 9), .ref (b 10), .ref (b 11), .ref (b 12), .int 0, .int 0, .int (nI (mo + 1)), .ref (b 13), .ref (b 14), .ref (b 16)])), ((b 1), .inl (g.2.1 0, 16, .inl (fun _ => 0))), ((b 2), .inl (g.2.1 0, 16, .inl (fun _ => 10))), ((b 3), .inl (g.2.1 0, 16, .inl (fun _ => 0))), ((b 4), .inl (g.2.1 0, 16, .inl (fun _ => 0))), ((b 5), .inl (g.2.1 0, 8, .inl (fun _ => 100))), ((b 6), .inl (g.2.1 0, 2, .inl (fun _ => 4))), ((b 7), .inl (g.2.1 0, 8, .inl (fun _ => 0))), ((b 8), .inl (g.2.1 0, 8, .inl (fun _ => 0))), ((b 9), .inl (g.2.1 0, 8, .inl (fun _ => 0))), ((b 10), .inl (g.2.1 0, 8, .inl (fun _ => 0))), ((b 11), .inl (g.2.1 0, 16, .inl (fun _ => 0))), ((b 12), .inl (g.2.1 0, 16, .inl (fun _ => 0))), ((b 13), .inr (8, [.int 0, .ref (g.2.2 0), .int 0])), ((b 16), .inl (g.2.1 1, 26, .inr (.inl (fun _ => 0))))] := Ev.sub E [10, 11, 12, 13, 2, 9, 3, 4, 0, 7, 8, 5, 6, 1, 14] rfl rfl
        exact x_vret () S hr hlk hsz htt hK E dX7_pass_85 trivial rfl ⟨Nat.le_of_ble_eq_true rfl, Nat.le_of_ble_eq_true rfl⟩ ⟨Nat.le_of_ble_eq_true rfl, Nat.le_of_ble_eq_true rfl⟩
      · have c7 : (nI ((mo + 1) % 12)) = 0 := c7
        refine lv_aload_n hx hb dX7_pass_81 rfl (lv_at hl 1 rfl) ?_
        refine w_retv (runV_X (As := []) (rest := []) (q0 := 0) (n := 0) S hml hK (hZ.at E) (Cut.of (wc := [((b 0), .inr (10, [.ref (b 1), .ref (b 2), .ref (b 3), .ref (b 4), .ref (b 5), .ref (b 6), .ref (b 7), .ref (b 8), .ref (b 9), .ref (b 10), .ref (b 11), .ref (b 12), .int 0, .int 0, .int (nI (mo + 1)), .ref (b 13), .ref (b 14), .ref (b 16)])), ((b 13), .inr (8, [.int 0, .ref (g.2.2 0), .int 0]))]) (wr := [((b 8), .inl (g.2.1 0, 8, .inl (fun _ => 0))), ((b 4), .inl (g.2.1 0, 16, .inl (fun _ => 0))), ((b 6), .inl (g.2.1 0, 2, .inl (fun _ => 4))), ((b 7), .inl (g.2.1 0, 8, .inl (fun _ => 0))), ((b 11), .inl (g.2.1 0, 16, .inl (fun _ => 0))), ((b 12), .inl (g.2.1 0, 16, .inl (fun _ => 0))), ((b 9), .inl (g.2.1 0, 8, .inl (fun _ => 0))), ((b 10), .inl (g.2.1 0, 8, .inl (fun _ => 0))), ((b 5), .inl (g.2.1 0, 8, .inl (fun _ => 100))), ((b 1), .inl (g.2.1 0, 16, .inl (fun _ => 0))), ((b 2), .inl (g.2.1 0, 16, .inl (fun _ => 10))), ((b 3), .inl (g.2.1 0, 16, .inl (fun _ => 0))), ((b 16), .inl (g.2.1 1, 26, .inr (.inl (fun _ => 0))))]) E hA [10, 1] [0, 2, 3, 4, 5, 6, 7, 8, 9, 11, 12, 13, 14] rfl rfl rfl rfl (by decide)) (c_X7_endYear l g b (mo + 1) _ _) (gi_wsV ml_X7_196 im_X7_endYear sl_X7_endYear in_X7 co_X7_endYear) ⟨rfl, by decide +kernel, by decide +kernel, by decide +kernel⟩ ⟨Nat.le_of_ble_eq_true rfl, Nat.le_of_ble_eq_true rfl⟩ rfl rfl rfl hl.1 rfl (Nat.le_of_ble_eq_true rfl) dX7_pass_82 ⟨Nat.le_of_ble_eq_true rfl, Nat.le_of_ble_eq_true rfl⟩) (Cut.of (wc := [((b 0), .inr (10, [.ref (b 1), .ref (b 2), .ref (b 3), .ref (b 4), .ref (b 5), .ref (b 6), .ref (b 7), .ref (b 8), .ref (b 9), .ref (b 10), .ref (b 11), .ref (b 12), .int 0, .int 0, .int (nI (mo + 1)), .ref (b 13), .ref (b 14), .ref (b 16)])), ((b 13), .inr (8, [.int 0, .ref (g.2.2 0), .int 0]))]) (wr := [((b 8), .inl (g.2.1 0, 8, .inl (fun _ => 0))), ((b 4), .inl (g.2.1 0, 16, .inl (fun _ => 0))), ((b 6), .inl (g.2.1 0, 2, .inl (fun _ => 4))), ((b 7), .inl (g.2.1 0, 8, .inl (fun _ => 0))), ((b 11), .inl (g.2.1 0, 16, .inl (fun _ => 0))), ((b 12), .inl (g.2.1 0, 16, .inl (fun _ => 0))), ((b 9), .inl (g.2.1 0, 8, .inl (fun _ => 0))), ((b 10), .inl (g.2.1 0, 8, .inl (fun _ => 0))), ((b 5), .inl (g.2.1 0, 8, .inl (fun _ => 100))), ((b 1), .inl (g.2.1 0, 16, .inl (fun _ => 0))), ((b 2), .inl (g.2.1 0, 16, .inl (fun _ => 10))), ((b 3), .inl (g.2.1 0, 16, .inl (fun _ => 0))), ((b 16), .inl (g.2.1 1, 26, .inr (.inl (fun _ => 0))))]) E hA [10, 1] [0, 2, 3, 4, 5, 6, 7, 8, 9, 11, 12, 13, 14] rfl rfl rfl rfl (by decide)) E (fun u8 H locs hp E => ?_)
        have E : Ev g _ s.heap H locs [((b 8), .inl (g.2.1 0, 8, .inl (fun _ => 0))), ((b 4), .inl (g.2.1 0, 16, .inl (fun _ => 0))), ((b 6), .inl (g.2.1 0, 2, .inl (fun _ => 4))), ((b 7), .inl (g.2.1 0, 8, .inl (fun _ => 0))), ((b 11), .inl (g.2.1 0, 16, .inl (fun _ => 0))), ((b 12), .inl (g.2.1 0, 16, .inl (fun _ => 0))), ((b 9), .inl (g.2.1 0, 8, .inl (fun _ => 0))), ((b 10), .inl (g.2.1 0, 8, .inl (fun _ => 0))), ((b 5), .inl (g.2.1 0, 8, .inl (fun _ => 100))), ((b 1), .inl (g.2.1 0, 16, .inl (fun _ => 0))), ((b 2), .inl (g.2.1 0, 16, .inl (fun _ => 10))), ((b 3), .inl (g.2.1 0, 16, .inl (fun _ => 0))), ((b 16), .inl (g.2.1 1, 26, .inr (.inl (fun _ => 0)))), ((b 0), .inr (10, [.ref (b 1), .ref (b 2), .ref (b 3), .ref (b 4), .ref (b 5), .ref (b 6), .ref (b 7), .ref (b 8), .ref (b 9), .ref (b 10), .ref (b 11), .ref (b 12), .int 0, .int 0, .int (nI (mo + 1)), .ref (b 13), .ref (b 14), .ref (b 16)])), ((b 13), .inr (8, [.int 0, .ref (g.2.2 0), .int 0]))] := E
        have E : Ev g _ s.heap H locs [((b 0), .inr (10, [.ref (b 1), .ref (b 2), .ref (b 3), .ref (b 4), .ref (b 5), .ref (b 6), .ref (b 7), .ref (b 8), .ref (b 9), .ref (b 10), .ref (b 11), .ref (b 12), .int 0, .int 0, .int (nI (mo + 1)), .ref (b 13), .ref (b 14), .ref (b 16)])), ((b 1), .inl (g.2.1 0, 16, .inl (fun _ => 0))), ((b 2), .inl (g.2.1 0, 16, .inl (fun _ => 10))), ((b 3), .inl (g.2.1 0, 16, .inl (fun _ => 0))), ((b 4), .inl (g.2.1 0, 16, .inl (fun _ => 0))), ((b 5), .inl (g.2.1 0, 8, .inl (fun _ => 100))), ((b 6), .inl (g.2.1 0, 2, .inl (fun _ => 4))), ((b 7), .inl (g.2.1 0, 8, .inl (fun _ => 0))), ((b 8), .inl (g.2.1 0, 8, .inl (fun _ => 0))), ((b 9), .inl (g.2.1 0, 8, .inl (fun _ => 0))), ((b 10), .inl (g.2.1 0, 8, .inl (fun _ => 0))), ((b 11), .inl (g.2.1 0, 16, .inl (fun _ => 0))), ((b 12), .inl (g.2.1 0, 16, .inl (fun _ => 0))), ((b 13), .inr (8, [.int 0, .ref (g.2.2 0), .int 0])), ((b 16), .inl (g.2.1 1, 26, .inr (.inl (fun _ => 0))))] := Ev.sub E [13, 9, 10, 11, 1, 8, 2, 3, 0, 6, 7, 4, 5, 14, 12] rfl rfl
        exact x_vret () S hr hlk hsz htt hK E dX7_pass_85 trivial rfl ⟨Nat.le_of_ble_eq_true rfl, Nat.le_of_ble_eq_true rfl⟩ ⟨Nat.le_of_ble_eq_true rfl, Nat.le_of_ble_eq_true rfl⟩
    | succ k1 ih1 =>
      intro i1 hi1 H locs E ls hl
      have hl : lv_has ls 2 [(1, .int (nI i1)), (0, .ref (b 0))] := hl
      refine lv_iload_n hx hb dX7_pass_2 rfl (lv_at hl 0 rfl) ?_
      refine lv_bipush (v := 8) hx hb dX7_pass_3 (by decide) ?_
      refine lv_icmp_ge (tgt := 41) hx hb dX7_pass_5 (by decide) (fun c_ => absurd c_ (g_no (a := i1) (b := 8) rfl rfl (by omega) (by omega))) (fun _ => ?_)
      refine lv_aload_n hx hb dX7_pass_8 rfl (lv_at hl 1 rfl) ?_
      refine wg_X7_18 (v := .ref (b 3)) S hK E 0 rfl rfl dX7_pass_9 ?_
      refine lv_iload_n hx hb dX7_pass_12 rfl (lv_at hl 0 rfl) ?_
      refine lv_dup2_11 hx hb dX7_pass_13 rfl rfl ?_
      refine w_ild (v := 0) S hK E 3 0 rfl rfl (vp_in_nI (n := i1) (by omega) (by decide)) rfl dX7_pass_14 ?_
      refine lv_aload_n hx hb dX7_pass_15 rfl (lv_at hl 1 rfl) ?_
      refine wg_X7_33 (v := .ref (b 8)) S hK E 0 rfl rfl dX7_pass_16 ?_
      refine lv_iload_n hx hb dX7_pass_19 rfl (lv_at hl 0 rfl) ?_
      refine w_ild (v := 0) S hK E 8 0 rfl rfl (vp_in_nI (n := i1) (by omega) (by decide)) rfl dX7_pass_20 ?_
      refine k_iadd (v := 0) hx hb (by decide) dX7_pass_21 ?_
      refine w_ist (w' := [((b 0), .inr (10, [.ref (b 1), .ref (b 2), .ref (b 3), .ref (b 4), .ref (b 5), .ref (b 6), .ref (b 7), .ref (b 8), .ref (b 9), .ref (b 10), .ref (b 11), .ref (b 12), .int 0, .int 0, .int (nI mo), .ref (b 13), .ref (b 14), .ref (b 16)])), ((b 1), .inl (g.2.1 0, 16, .inl (fun _ => 0))), ((b 2), .inl (g.2.1 0, 16, .inl (fun _ => 10))), ((b 3), .inl (g.2.1 0, 16, .inl (fun _ => 0))), ((b 4), .inl (g.2.1 0, 16, .inl (fun _ => 0))), ((b 5), .inl (g.2.1 0, 8, .inl (fun _ => 100))), ((b 6), .inl (g.2.1 0, 2, .inl (fun _ => 4))), ((b 7), .inl (g.2.1 0, 8, .inl (fun _ => 0))), ((b 8), .inl (g.2.1 0, 8, .inl (fun _ => 0))), ((b 9), .inl (g.2.1 0, 8, .inl (fun _ => 0))), ((b 10), .inl (g.2.1 0, 8, .inl (fun _ => 0))), ((b 11), .inl (g.2.1 0, 16, .inl (fun _ => 0))), ((b 12), .inl (g.2.1 0, 16, .inl (fun _ => 0))), ((b 13), .inr (8, [.int 0, .ref (g.2.2 0), .int 0])), ((b 16), .inl (g.2.1 1, 26, .inr (.inl (fun _ => 0))))]) S hK E 3 0 rfl rfl (vp_in_nI (n := i1) (by omega) (by decide)) (by rw [upd_c]; rfl) dX7_pass_22 (fun H locs E => ?_)
      refine lv_aload_n hx hb dX7_pass_23 rfl (lv_at hl 1 rfl) ?_
      refine lv_bipush (v := 114) hx hb dX7_pass_24 (by decide) ?_
      refine lv_aload_n hx hb dX7_pass_26 rfl (lv_at hl 1 rfl) ?_
      refine wg_X7_33 (v := .ref (b 8)) S hK E 0 rfl rfl dX7_pass_27 ?_
      refine lv_iload_n hx hb dX7_pass_30 rfl (lv_at hl 0 rfl) ?_
      refine w_ild (v := 0) S hK E 8 0 rfl rfl (vp_in_nI (n := i1) (by omega) (by decide)) rfl dX7_pass_31 ?_
      refine w_retv (runV_X (As := [.int 114, .int 0]) (rest := []) (q0 := 0) (n := 2) S hml hK (hZ.at E) (Cut.of (wc := [((b 0), .inr (10, [.ref (b 1), .ref (b 2), .ref (b 3), .ref (b 4), .ref (b 5), .ref (b 6), .ref (b 7), .ref (b 8), .ref (b 9), .ref (b 10), .ref (b 11), .ref (b 12), .int 0, .int 0, .int (nI mo), .ref (b 13), .ref (b 14), .ref (b 16)])), ((b 16), .inl (g.2.1 1, 26, .inr (.inl (fun _ => 0))))]) (wr := [((b 1), .inl (g.2.1 0, 16, .inl (fun _ => 0))), ((b 2), .inl (g.2.1 0, 16, .inl (fun _ => 10))), ((b 3), .inl (g.2.1 0, 16, .inl (fun _ => 0))), ((b 4), .inl (g.2.1 0, 16, .inl (fun _ => 0))), ((b 5), .inl (g.2.1 0, 8, .inl (fun _ => 100))), ((b 6), .inl (g.2.1 0, 2, .inl (fun _ => 4))), ((b 7), .inl (g.2.1 0, 8, .inl (fun _ => 0))), ((b 8), .inl (g.2.1 0, 8, .inl (fun _ => 0))), ((b 9), .inl (g.2.1 0, 8, .inl (fun _ => 0))), ((b 10), .inl (g.2.1 0, 8, .inl (fun _ => 0))), ((b 11), .inl (g.2.1 0, 16, .inl (fun _ => 0))), ((b 12), .inl (g.2.1 0, 16, .inl (fun _ => 0))), ((b 13), .inr (8, [.int 0, .ref (g.2.2 0), .int 0]))]) E hA [0, 14] [1, 2, 3, 4, 5, 6, 7, 8, 9, 10, 11, 12, 13] rfl rfl rfl rfl (by decide)) (c_ct114 l g b mo _ _) (gi_wsV ml_X7_132 im_X7_count sl_X7_count in_X7 co_X7_count) ⟨rfl, by decide +kernel, by decide +kernel, by decide +kernel⟩ ⟨Nat.le_of_ble_eq_true rfl, Nat.le_of_ble_eq_true rfl⟩ rfl rfl rfl hl.1 rfl (Nat.le_of_ble_eq_true rfl) dX7_pass_32 ⟨Nat.le_of_ble_eq_true rfl, Nat.le_of_ble_eq_true rfl⟩) (Cut.of (wc := [((b 0), .inr (10, [.ref (b 1), .ref (b 2), .ref (b 3), .ref (b 4), .ref (b 5), .ref (b 6), .ref (b 7), .ref (b 8), .ref (b 9), .ref (b 10), .ref (b 11), .ref (b 12), .int 0, .int 0, .int (nI mo), .ref (b 13), .ref (b 14), .ref (b 16)])), ((b 16), .inl (g.2.1 1, 26, .inr (.inl (fun _ => 0))))]) (wr := [((b 1), .inl (g.2.1 0, 16, .inl (fun _ => 0))), ((b 2), .inl (g.2.1 0, 16, .inl (fun _ => 10))), ((b 3), .inl (g.2.1 0, 16, .inl (fun _ => 0))), ((b 4), .inl (g.2.1 0, 16, .inl (fun _ => 0))), ((b 5), .inl (g.2.1 0, 8, .inl (fun _ => 100))), ((b 6), .inl (g.2.1 0, 2, .inl (fun _ => 4))), ((b 7), .inl (g.2.1 0, 8, .inl (fun _ => 0))), ((b 8), .inl (g.2.1 0, 8, .inl (fun _ => 0))), ((b 9), .inl (g.2.1 0, 8, .inl (fun _ => 0))), ((b 10), .inl (g.2.1 0, 8, .inl (fun _ => 0))), ((b 11), .inl (g.2.1 0, 16, .inl (fun _ => 0))), ((b 12), .inl (g.2.1 0, 16, .inl (fun _ => 0))), ((b 13), .inr (8, [.int 0, .ref (g.2.2 0), .int 0]))]) E hA [0, 14] [1, 2, 3, 4, 5, 6, 7, 8, 9, 10, 11, 12, 13] rfl rfl rfl rfl (by decide)) E (fun u9 H locs hp E => ?_)
      have E : Ev g _ s.heap H locs [((b 1), .inl (g.2.1 0, 16, .inl (fun _ => 0))), ((b 2), .inl (g.2.1 0, 16, .inl (fun _ => 10))), ((b 3), .inl (g.2.1 0, 16, .inl (fun _ => 0))), ((b 4), .inl (g.2.1 0, 16, .inl (fun _ => 0))), ((b 5), .inl (g.2.1 0, 8, .inl (fun _ => 100))), ((b 6), .inl (g.2.1 0, 2, .inl (fun _ => 4))), ((b 7), .inl (g.2.1 0, 8, .inl (fun _ => 0))), ((b 8), .inl (g.2.1 0, 8, .inl (fun _ => 0))), ((b 9), .inl (g.2.1 0, 8, .inl (fun _ => 0))), ((b 10), .inl (g.2.1 0, 8, .inl (fun _ => 0))), ((b 11), .inl (g.2.1 0, 16, .inl (fun _ => 0))), ((b 12), .inl (g.2.1 0, 16, .inl (fun _ => 0))), ((b 13), .inr (8, [.int 0, .ref (g.2.2 0), .int 0])), ((b 0), .inr (10, [.ref (b 1), .ref (b 2), .ref (b 3), .ref (b 4), .ref (b 5), .ref (b 6), .ref (b 7), .ref (b 8), .ref (b 9), .ref (b 10), .ref (b 11), .ref (b 12), .int 0, .int 0, .int (nI mo), .ref (b 13), .ref (b 14), .ref (b 16)])), ((b 16), .inl (g.2.1 1, 26, .inr (.inl (fun _ => 0))))] := E
      refine lv_iinc (v := (nI (i1 + 1))) (lv' := [(1, .int (nI (i1 + 1))), (0, .ref (b 0))]) hx hb dX7_pass_35 hl (k := 0) rfl (nI_1 i1) (by decide) rfl (fun ls hl => ?_)
      refine lv_goto (tgt := 2) hx hb dX7_pass_38 (by decide) ?_
      have E : Ev g _ s.heap H locs [((b 0), .inr (10, [.ref (b 1), .ref (b 2), .ref (b 3), .ref (b 4), .ref (b 5), .ref (b 6), .ref (b 7), .ref (b 8), .ref (b 9), .ref (b 10), .ref (b 11), .ref (b 12), .int 0, .int 0, .int (nI mo), .ref (b 13), .ref (b 14), .ref (b 16)])), ((b 1), .inl (g.2.1 0, 16, .inl (fun _ => 0))), ((b 2), .inl (g.2.1 0, 16, .inl (fun _ => 10))), ((b 3), .inl (g.2.1 0, 16, .inl (fun _ => 0))), ((b 4), .inl (g.2.1 0, 16, .inl (fun _ => 0))), ((b 5), .inl (g.2.1 0, 8, .inl (fun _ => 100))), ((b 6), .inl (g.2.1 0, 2, .inl (fun _ => 4))), ((b 7), .inl (g.2.1 0, 8, .inl (fun _ => 0))), ((b 8), .inl (g.2.1 0, 8, .inl (fun _ => 0))), ((b 9), .inl (g.2.1 0, 8, .inl (fun _ => 0))), ((b 10), .inl (g.2.1 0, 8, .inl (fun _ => 0))), ((b 11), .inl (g.2.1 0, 16, .inl (fun _ => 0))), ((b 12), .inl (g.2.1 0, 16, .inl (fun _ => 0))), ((b 13), .inr (8, [.int 0, .ref (g.2.2 0), .int 0])), ((b 16), .inl (g.2.1 1, 26, .inr (.inl (fun _ => 0))))] := Ev.sub E [13, 0, 1, 2, 3, 4, 5, 6, 7, 8, 9, 10, 11, 12, 14] rfl rfl
      exact ih1 (i1 + 1) (by omega) _ _ E ls (lv_sub hl [0, 1] rfl)
  exact L1 8 0 (by omega) _ _ E ls (lv_sub hl [0, 1] rfl)

def grd (i : Nat) : Nat → Int32 := filled (if i ≤ 8 then i else 8) 100 (fun _ => 0)
theorem grd_0 : grd 0 = fun _ => 0 := filled_0
theorem grd_1 {i : Nat} (hi : i < 2 ^ 31) : upd (grd i) (nI (i % 8)).toNatClampNeg 100 = grd (i + 1) := by
  rw [nI_clamp (by omega)]
  funext j
  show (if j = i % 8 then 100 else if j < (if i ≤ 8 then i else 8) then 100 else 0) = if j < (if i + 1 ≤ 8 then i + 1 else 8) then (100 : Int32) else 0
  by_cases h8 : i < 8
  · rw [Nat.mod_eq_of_lt h8, if_pos (show i ≤ 8 by omega), if_pos (show i + 1 ≤ 8 by omega)]
    by_cases h : j = i
    · rw [if_pos h, if_pos (by omega)]
    · rw [if_neg h]
      by_cases h2 : j < i
      · rw [if_pos h2, if_pos (by omega)]
      · rw [if_neg h2, if_neg (by omega)]
  · have hm : i % 8 < 8 := Nat.mod_lt _ (by decide)
    have e1 : (if i ≤ 8 then i else 8) = 8 := by split <;> omega
    rw [e1, if_neg (show ¬ i + 1 ≤ 8 by omega)]
    by_cases h : j = i % 8
    · rw [if_pos h, if_pos (by omega)]
    · rw [if_neg h]
set_option maxHeartbeats 4000000 in
set_option maxRecDepth 100000 in
/-- new Land -/
theorem c_X7_init (l : Launch) (g : Gm) (a : Nat) : MXv (S := Nat → Nat) l g yX7_init cX7_init 2 ({ frames := 4, cells := 16, slots := 187, locals := 72 } : Room) [.ref a] [(a, .inr (10, [.null, .null, .null, .null, .null, .null, .null, .null, .null, .null, .null, .null, .int 0, .int 0, .int 0, .null, .null, .null]))] (fun _ => True) (fun u => [(a, .inr (10, [.ref (u 1), .ref (u 2), .ref (u 3), .ref (u 4), .ref (u 5), .ref (u 6), .ref (u 7), .ref (u 8), .ref (u 9), .ref (u 10), .ref (u 11), .ref (u 12), .int 0, .int 0, .int 0, .ref (u 13), .ref (u 14), .ref (u 16)])), ((u 1), .inl (g.2.1 0, 16, .inl (fun _ => 0))), ((u 2), .inl (g.2.1 0, 16, .inl (fun _ => 10))), ((u 3), .inl (g.2.1 0, 16, .inl (fun _ => 0))), ((u 4), .inl (g.2.1 0, 16, .inl (fun _ => 0))), ((u 5), .inl (g.2.1 0, 8, .inl (fun _ => 100))), ((u 6), .inl (g.2.1 0, 2, .inl (fun _ => 4))), ((u 7), .inl (g.2.1 0, 8, .inl (fun _ => 0))), ((u 8), .inl (g.2.1 0, 8, .inl (fun _ => 0))), ((u 9), .inl (g.2.1 0, 8, .inl (fun _ => 0))), ((u 10), .inl (g.2.1 0, 8, .inl (fun _ => 0))), ((u 11), .inl (g.2.1 0, 16, .inl (fun _ => 0))), ((u 12), .inl (g.2.1 0, 16, .inl (fun _ => 0))), ((u 13), .inr (8, [.int 0, .ref (g.2.2 0), .int 0])), ((u 14), .inr (7, [.ref (u 15), .int 0, .int 0, .int 0])), ((u 15), .inl (g.2.1 3, 16, .inl (fun _ => 0))), ((u 16), .inl (g.2.1 1, 26, .inr (.inl (fun _ => 0))))]) (fun _ => (16, 187)) := by
  intro sz tt
  refine ofX RX7 rfl (by decide +kernel) (Nat.le_of_ble_eq_true rfl) (fun p e s m args below meth c hargs S hml hr hlk hnm hsz htt hK hA hZ E ls hl => ?_)
  have hx := S.1
  have hb := S.2.1
  have hl : lv_has ls 2 [(0, .ref a)] := hl
  refine lv_aload_n hx hb dX7_init_0 rfl (lv_at hl 0 rfl) ?_
  refine w_obj S hml hl ml_X7_3 (Nat.le_of_ble_eq_true rfl) (Nat.le_of_ble_eq_true rfl) dX7_init_1 ?_
  refine lv_aload_n hx hb dX7_init_4 rfl (lv_at hl 0 rfl) ?_
  refine lv_bipush (v := 16) hx hb dX7_init_5 (by decide) ?_
  refine w_newa (atype := .int) (ty := .int) (a0 := (16, .inl (fun _ => 0))) (N' := 16) 0 S hK E hA ac_int rfl rfl (fun C h => by cases h) (fun cA => by first | rfl | (rw [vp_cell_i]; rfl)) (by decide) (by decide) (by decide) (Nat.le_of_ble_eq_true rfl) (Nat.le_of_ble_eq_true rfl) dX7_init_7 (fun q1 H E => ?_)
  have E : Ev g _ s.heap H _ [(a, .inr (10, [.null, .null, .null, .null, .null, .null, .null, .null, .null, .null, .null, .null, .int 0, .int 0, .int 0, .null, .null, .null])), (q1, .inl (g.2.1 0, 16, .inl (fun _ => 0)))] := E
  refine wpF_X7_9 (w' := [(a, .inr (10, [.ref q1, .null, .null, .null, .null, .null, .null, .null, .null, .null, .null, .null, .int 0, .int 0, .int 0, .null, .null, .null])), (q1, .inl (g.2.1 0, 16, .inl (fun _ => 0)))]) S hK E 0 hnm rfl rfl rfl (Nat.le_of_ble_eq_true rfl) rfl dX7_init_9 (fun H locs E => ?_)
  refine lv_aload_n hx hb dX7_init_12 rfl (lv_at hl 0 rfl) ?_
  refine lv_bipush (v := 16) hx hb dX7_init_13 (by decide) ?_
  refine w_newa (atype := .int) (ty := .int) (a0 := (16, .inl (fun _ => 0))) (N' := 16) 0 S hK E hA ac_int rfl rfl (fun C h => by cases h) (fun cA => by first | rfl | (rw [vp_cell_i]; rfl)) (by decide) (by decide) (by decide) (Nat.le_of_ble_eq_true rfl) (Nat.le_of_ble_eq_true rfl) dX7_init_15 (fun q2 H E => ?_)
  have E : Ev g _ s.heap H _ [(a, .inr (10, [.ref q1, .null, .null, .null, .null, .null, .null, .null, .null, .null, .null, .null, .int 0, .int 0, .int 0, .null, .null, .null])), (q1, .inl (g.2.1 0, 16, .inl (fun _ => 0))), (q2, .inl (g.2.1 0, 16, .inl (fun _ => 0)))] := E
  refine wpF_X7_15 (w' := [(a, .inr (10, [.ref q1, .ref q2, .null, .null, .null, .null, .null, .null, .null, .null, .null, .null, .int 0, .int 0, .int 0, .null, .null, .null])), (q1, .inl (g.2.1 0, 16, .inl (fun _ => 0))), (q2, .inl (g.2.1 0, 16, .inl (fun _ => 0)))]) S hK E 0 hnm rfl rfl rfl (Nat.le_of_ble_eq_true rfl) rfl dX7_init_17 (fun H locs E => ?_)
  refine lv_aload_n hx hb dX7_init_20 rfl (lv_at hl 0 rfl) ?_
  refine lv_bipush (v := 16) hx hb dX7_init_21 (by decide) ?_
  refine w_newa (atype := .int) (ty := .int) (a0 := (16, .inl (fun _ => 0))) (N' := 16) 0 S hK E hA ac_int rfl rfl (fun C h => by cases h) (fun cA => by first | rfl | (rw [vp_cell_i]; rfl)) (by decide) (by decide) (by decide) (Nat.le_of_ble_eq_true rfl) (Nat.le_of_ble_eq_true rfl) dX7_init_23 (fun q3 H E => ?_)
  have E : Ev g _ s.heap H _ [(a, .inr (10, [.ref q1, .ref q2, .null, .null, .null, .null, .null, .null, .null, .null, .null, .null, .int 0, .int 0, .int 0, .null, .null, .null])), (q1, .inl (g.2.1 0, 16, .inl (fun _ => 0))), (q2, .inl (g.2.1 0, 16, .inl (fun _ => 0))), (q3, .inl (g.2.1 0, 16, .inl (fun _ => 0)))] := E
  refine wpF_X7_18 (w' := [(a, .inr (10, [.ref q1, .ref q2, .ref q3, .null, .null, .null, .null, .null, .null, .null, .null, .null, .int 0, .int 0, .int 0, .null, .null, .null])), (q1, .inl (g.2.1 0, 16, .inl (fun _ => 0))), (q2, .inl (g.2.1 0, 16, .inl (fun _ => 0))), (q3, .inl (g.2.1 0, 16, .inl (fun _ => 0)))]) S hK E 0 hnm rfl rfl rfl (Nat.le_of_ble_eq_true rfl) rfl dX7_init_25 (fun H locs E => ?_)
  refine lv_aload_n hx hb dX7_init_28 rfl (lv_at hl 0 rfl) ?_
  refine lv_bipush (v := 16) hx hb dX7_init_29 (by decide) ?_
  refine w_newa (atype := .int) (ty := .int) (a0 := (16, .inl (fun _ => 0))) (N' := 16) 0 S hK E hA ac_int rfl rfl (fun C h => by cases h) (fun cA => by first | rfl | (rw [vp_cell_i]; rfl)) (by decide) (by decide) (by decide) (Nat.le_of_ble_eq_true rfl) (Nat.le_of_ble_eq_true rfl) dX7_init_31 (fun q4 H E => ?_)
  have E : Ev g _ s.heap H _ [(a, .inr (10, [.ref q1, .ref q2, .ref q3, .null, .null, .null, .null, .null, .null, .null, .null, .null, .int 0, .int 0, .int 0, .null, .null, .null])), (q1, .inl (g.2.1 0, 16, .inl (fun _ => 0))), (q2, .inl (g.2.1 0, 16, .inl (fun _ => 0))), (q3, .inl (g.2.1 0, 16, .inl (fun _ => 0))), (q4, .inl (g.2.1 0, 16, .inl (fun _ => 0)))] := E
  refine wpF_X7_21 (w' := [(a, .inr (10, [.ref q1, .ref q2, .ref q3, .ref q4, .null, .null, .null, .null, .null, .null, .null, .null, .int 0, .int 0, .int 0, .null, .null, .null])), (q1, .inl (g.2.1 0, 16, .inl (fun _ => 0))), (q2, .inl (g.2.1 0, 16, .inl (fun _ => 0))), (q3, .inl (g.2.1 0, 16, .inl (fun _ => 0))), (q4, .inl (g.2.1 0, 16, .inl (fun _ => 0)))]) S hK E 0 hnm rfl rfl rfl (Nat.le_of_ble_eq_true rfl) rfl dX7_init_33 (fun H locs E => ?_)
  refine lv_aload_n hx hb dX7_init_36 rfl (lv_at hl 0 rfl) ?_
  refine lv_bipush (v := 8) hx hb dX7_init_37 (by decide) ?_
  refine w_newa (atype := .int) (ty := .int) (a0 := (8, .inl (fun _ => 0))) (N' := 8) 0 S hK E hA ac_int rfl rfl (fun C h => by cases h) (fun cA => by first | rfl | (rw [vp_cell_i]; rfl)) (by decide) (by decide) (by decide) (Nat.le_of_ble_eq_true rfl) (Nat.le_of_ble_eq_true rfl) dX7_init_39 (fun q5 H E => ?_)
  have E : Ev g _ s.heap H _ [(a, .inr (10, [.ref q1, .ref q2, .ref q3, .ref q4, .null, .null, .null, .null, .null, .null, .null, .null, .int 0, .int 0, .int 0, .null, .null, .null])), (q1, .inl (g.2.1 0, 16, .inl (fun _ => 0))), (q2, .inl (g.2.1 0, 16, .inl (fun _ => 0))), (q3, .inl (g.2.1 0, 16, .inl (fun _ => 0))), (q4, .inl (g.2.1 0, 16, .inl (fun _ => 0))), (q5, .inl (g.2.1 0, 8, .inl (fun _ => 0)))] := E
  refine wpF_X7_24 (w' := [(a, .inr (10, [.ref q1, .ref q2, .ref q3, .ref q4, .ref q5, .null, .null, .null, .null, .null, .null, .null, .int 0, .int 0, .int 0, .null, .null, .null])), (q1, .inl (g.2.1 0, 16, .inl (fun _ => 0))), (q2, .inl (g.2.1 0, 16, .inl (fun _ => 0))), (q3, .inl (g.2.1 0, 16, .inl (fun _ => 0))), (q4, .inl (g.2.1 0, 16, .inl (fun _ => 0))), (q5, .inl (g.2.1 0, 8, .inl (fun _ => 0)))]) S hK E 0 hnm rfl rfl rfl (Nat.le_of_ble_eq_true rfl) rfl dX7_init_41 (fun H locs E => ?_)
  refine lv_aload_n hx hb dX7_init_44 rfl (lv_at hl 0 rfl) ?_
  refine lv_iconst (v := 2) hx hb dX7_init_45 (by decide) ?_
  refine w_newa (atype := .int) (ty := .int) (a0 := (2, .inl (fun _ => 0))) (N' := 2) 0 S hK E hA ac_int rfl rfl (fun C h => by cases h) (fun cA => by first | rfl | (rw [vp_cell_i]; rfl)) (by decide) (by decide) (by decide) (Nat.le_of_ble_eq_true rfl) (Nat.le_of_ble_eq_true rfl) dX7_init_46 (fun q6 H E => ?_)
  have E : Ev g _ s.heap H _ [(a, .inr (10, [.ref q1, .ref q2, .ref q3, .ref q4, .ref q5, .null, .null, .null, .null, .null, .null, .null, .int 0, .int 0, .int 0, .null, .null, .null])), (q1, .inl (g.2.1 0, 16, .inl (fun _ => 0))), (q2, .inl (g.2.1 0, 16, .inl (fun _ => 0))), (q3, .inl (g.2.1 0, 16, .inl (fun _ => 0))), (q4, .inl (g.2.1 0, 16, .inl (fun _ => 0))), (q5, .inl (g.2.1 0, 8, .inl (fun _ => 0))), (q6, .inl (g.2.1 0, 2, .inl (fun _ => 0)))] := E
  refine lv_dup hx hb dX7_init_48 rfl ?_
  refine lv_iconst (v := 0) hx hb dX7_init_49 (by decide) ?_
  refine lv_iconst (v := 4) hx hb dX7_init_50 (by decide) ?_
  refine w_ist (w' := [(a, .inr (10, [.ref q1, .ref q2, .ref q3, .ref q4, .ref q5, .null, .null, .null, .null, .null, .null, .null, .int 0, .int 0, .int 0, .null, .null, .null])), (q1, .inl (g.2.1 0, 16, .inl (fun _ => 0))), (q2, .inl (g.2.1 0, 16, .inl (fun _ => 0))), (q3, .inl (g.2.1 0, 16, .inl (fun _ => 0))), (q4, .inl (g.2.1 0, 16, .inl (fun _ => 0))), (q5, .inl (g.2.1 0, 8, .inl (fun _ => 0))), (q6, .inl (g.2.1 0, 2, .inl (upd (fun _ => 0) (0 : Int32).toNatClampNeg 4)))]) S hK E 6 0 rfl rfl (show vp_in 0 2 by unfold vp_in; decide) rfl dX7_init_51 (fun H locs E => ?_)
  refine lv_dup hx hb dX7_init_52 rfl ?_
  refine lv_iconst (v := 1) hx hb dX7_init_53 (by decide) ?_
  refine lv_iconst (v := 4) hx hb dX7_init_54 (by decide) ?_
  refine w_ist (w' := [(a, .inr (10, [.ref q1, .ref q2, .ref q3, .ref q4, .ref q5, .null, .null, .null, .null, .null, .null, .null, .int 0, .int 0, .int 0, .null, .null, .null])), (q1, .inl (g.2.1 0, 16, .inl (fun _ => 0))), (q2, .inl (g.2.1 0, 16, .inl (fun _ => 0))), (q3, .inl (g.2.1 0, 16, .inl (fun _ => 0))), (q4, .inl (g.2.1 0, 16, .inl (fun _ => 0))), (q5, .inl (g.2.1 0, 8, .inl (fun _ => 0))), (q6, .inl (g.2.1 0, 2, .inl (upd (upd (fun _ => 0) (0 : Int32).toNatClampNeg 4) (1 : Int32).toNatClampNeg 4)))]) S hK E 6 0 rfl rfl (show vp_in 1 2 by unfold vp_in; decide) rfl dX7_init_55 (fun H locs E => ?_)
  refine wpF_X7_27 (w' := [(a, .inr (10, [.ref q1, .ref q2, .ref q3, .ref q4, .ref q5, .ref q6, .null, .null, .null, .null, .null, .null, .int 0, .int 0, .int 0, .null, .null, .null])), (q1, .inl (g.2.1 0, 16, .inl (fun _ => 0))), (q2, .inl (g.2.1 0, 16, .inl (fun _ => 0))), (q3, .inl (g.2.1 0, 16, .inl (fun _ => 0))), (q4, .inl (g.2.1 0, 16, .inl (fun _ => 0))), (q5, .inl (g.2.1 0, 8, .inl (fun _ => 0))), (q6, .inl (g.2.1 0, 2, .inl (upd (upd (fun _ => 0) (0 : Int32).toNatClampNeg 4) (1 : Int32).toNatClampNeg 4)))]) S hK E 0 hnm rfl rfl rfl (Nat.le_of_ble_eq_true rfl) rfl dX7_init_56 (fun H locs E => ?_)
  refine lv_aload_n hx hb dX7_init_59 rfl (lv_at hl 0 rfl) ?_
  refine lv_bipush (v := 8) hx hb dX7_init_60 (by decide) ?_
  refine w_newa (atype := .int) (ty := .int) (a0 := (8, .inl (fun _ => 0))) (N' := 8) 0 S hK E hA ac_int rfl rfl (fun C h => by cases h) (fun cA => by first | rfl | (rw [vp_cell_i]; rfl)) (by decide) (by decide) (by decide) (Nat.le_of_ble_eq_true rfl) (Nat.le_of_ble_eq_true rfl) dX7_init_62 (fun q7 H E => ?_)
  have E : Ev g _ s.heap H _ [(a, .inr (10, [.ref q1, .ref q2, .ref q3, .ref q4, .ref q5, .ref q6, .null, .null, .null, .null, .null, .null, .int 0, .int 0, .int 0, .null, .null, .null])), (q1, .inl (g.2.1 0, 16, .inl (fun _ => 0))), (q2, .inl (g.2.1 0, 16, .inl (fun _ => 0))), (q3, .inl (g.2.1 0, 16, .inl (fun _ => 0))), (q4, .inl (g.2.1 0, 16, .inl (fun _ => 0))), (q5, .inl (g.2.1 0, 8, .inl (fun _ => 0))), (q6, .inl (g.2.1 0, 2, .inl (upd (upd (fun _ => 0) (0 : Int32).toNatClampNeg 4) (1 : Int32).toNatClampNeg 4))), (q7, .inl (g.2.1 0, 8, .inl (fun _ => 0)))] := E
  refine wpF_X7_30 (w' := [(a, .inr (10, [.ref q1, .ref q2, .ref q3, .ref q4, .ref q5, .ref q6, .ref q7, .null, .null, .null, .null, .null, .int 0, .int 0, .int 0, .null, .null, .null])), (q1, .inl (g.2.1 0, 16, .inl (fun _ => 0))), (q2, .inl (g.2.1 0, 16, .inl (fun _ => 0))), (q3, .inl (g.2.1 0, 16, .inl (fun _ => 0))), (q4, .inl (g.2.1 0, 16, .inl (fun _ => 0))), (q5, .inl (g.2.1 0, 8, .inl (fun _ => 0))), (q6, .inl (g.2.1 0, 2, .inl (upd (upd (fun _ => 0) (0 : Int32).toNatClampNeg 4) (1 : Int32).toNatClampNeg 4))), (q7, .inl (g.2.1 0, 8, .inl (fun _ => 0)))]) S hK E 0 hnm rfl rfl rfl (Nat.le_of_ble_eq_true rfl) rfl dX7_init_64 (fun H locs E => ?_)
  refine lv_aload_n hx hb dX7_init_67 rfl (lv_at hl 0 rfl) ?_
  refine lv_bipush (v := 8) hx hb dX7_init_68 (by decide) ?_
  refine w_newa (atype := .int) (ty := .int) (a0 := (8, .inl (fun _ => 0))) (N' := 8) 0 S hK E hA ac_int rfl rfl (fun C h => by cases h) (fun cA => by first | rfl | (rw [vp_cell_i]; rfl)) (by decide) (by decide) (by decide) (Nat.le_of_ble_eq_true rfl) (Nat.le_of_ble_eq_true rfl) dX7_init_70 (fun q8 H E => ?_)
  have E : Ev g _ s.heap H _ [(a, .inr (10, [.ref q1, .ref q2, .ref q3, .ref q4, .ref q5, .ref q6, .ref q7, .null, .null, .null, .null, .null, .int 0, .int 0, .int 0, .null, .null, .null])), (q1, .inl (g.2.1 0, 16, .inl (fun _ => 0))), (q2, .inl (g.2.1 0, 16, .inl (fun _ => 0))), (q3, .inl (g.2.1 0, 16, .inl (fun _ => 0))), (q4, .inl (g.2.1 0, 16, .inl (fun _ => 0))), (q5, .inl (g.2.1 0, 8, .inl (fun _ => 0))), (q6, .inl (g.2.1 0, 2, .inl (upd (upd (fun _ => 0) (0 : Int32).toNatClampNeg 4) (1 : Int32).toNatClampNeg 4))), (q7, .inl (g.2.1 0, 8, .inl (fun _ => 0))), (q8, .inl (g.2.1 0, 8, .inl (fun _ => 0)))] := E
  refine wpF_X7_33 (w' := [(a, .inr (10, [.ref q1, .ref q2, .ref q3, .ref q4, .ref q5, .ref q6, .ref q7, .ref q8, .null, .null, .null, .null, .int 0, .int 0, .int 0, .null, .null, .null])), (q1, .inl (g.2.1 0, 16, .inl (fun _ => 0))), (q2, .inl (g.2.1 0, 16, .inl (fun _ => 0))), (q3, .inl (g.2.1 0, 16, .inl (fun _ => 0))), (q4, .inl (g.2.1 0, 16, .inl (fun _ => 0))), (q5, .inl (g.2.1 0, 8, .inl (fun _ => 0))), (q6, .inl (g.2.1 0, 2, .inl (upd (upd (fun _ => 0) (0 : Int32).toNatClampNeg 4) (1 : Int32).toNatClampNeg 4))), (q7, .inl (g.2.1 0, 8, .inl (fun _ => 0))), (q8, .inl (g.2.1 0, 8, .inl (fun _ => 0)))]) S hK E 0 hnm rfl rfl rfl (Nat.le_of_ble_eq_true rfl) rfl dX7_init_72 (fun H locs E => ?_)
  refine lv_aload_n hx hb dX7_init_75 rfl (lv_at hl 0 rfl) ?_
  refine lv_bipush (v := 8) hx hb dX7_init_76 (by decide) ?_
  refine w_newa (atype := .int) (ty := .int) (a0 := (8, .inl (fun _ => 0))) (N' := 8) 0 S hK E hA ac_int rfl rfl (fun C h => by cases h) (fun cA => by first | rfl | (rw [vp_cell_i]; rfl)) (by decide) (by decide) (by decide) (Nat.le_of_ble_eq_true rfl) (Nat.le_of_ble_eq_true rfl) dX7_init_78 (fun q9 H E => ?_)
  have E : Ev g _ s.heap H _ [(a, .inr (10, [.ref q1, .ref q2, .ref q3, .ref q4, .ref q5, .ref q6, .ref q7, .ref q8, .null, .null, .null, .null, .int 0, .int 0, .int 0, .null, .null, .null])), (q1, .inl (g.2.1 0, 16, .inl (fun _ => 0))), (q2, .inl (g.2.1 0, 16, .inl (fun _ => 0))), (q3, .inl (g.2.1 0, 16, .inl (fun _ => 0))), (q4, .inl (g.2.1 0, 16, .inl (fun _ => 0))), (q5, .inl (g.2.1 0, 8, .inl (fun _ => 0))), (q6, .inl (g.2.1 0, 2, .inl (upd (upd (fun _ => 0) (0 : Int32).toNatClampNeg 4) (1 : Int32).toNatClampNeg 4))), (q7, .inl (g.2.1 0, 8, .inl (fun _ => 0))), (q8, .inl (g.2.1 0, 8, .inl (fun _ => 0))), (q9, .inl (g.2.1 0, 8, .inl (fun _ => 0)))] := E
  refine wpF_X7_36 (w' := [(a, .inr (10, [.ref q1, .ref q2, .ref q3, .ref q4, .ref q5, .ref q6, .ref q7, .ref q8, .ref q9, .null, .null, .null, .int 0, .int 0, .int 0, .null, .null, .null])), (q1, .inl (g.2.1 0, 16, .inl (fun _ => 0))), (q2, .inl (g.2.1 0, 16, .inl (fun _ => 0))), (q3, .inl (g.2.1 0, 16, .inl (fun _ => 0))), (q4, .inl (g.2.1 0, 16, .inl (fun _ => 0))), (q5, .inl (g.2.1 0, 8, .inl (fun _ => 0))), (q6, .inl (g.2.1 0, 2, .inl (upd (upd (fun _ => 0) (0 : Int32).toNatClampNeg 4) (1 : Int32).toNatClampNeg 4))), (q7, .inl (g.2.1 0, 8, .inl (fun _ => 0))), (q8, .inl (g.2.1 0, 8, .inl (fun _ => 0))), (q9, .inl (g.2.1 0, 8, .inl (fun _ => 0)))]) S hK E 0 hnm rfl rfl rfl (Nat.le_of_ble_eq_true rfl) rfl dX7_init_80 (fun H locs E => ?_)
  refine lv_aload_n hx hb dX7_init_83 rfl (lv_at hl 0 rfl) ?_
  refine lv_bipush (v := 8) hx hb dX7_init_84 (by decide) ?_
  refine w_newa (atype := .int) (ty := .int) (a0 := (8, .inl (fun _ => 0))) (N' := 8) 0 S hK E hA ac_int rfl rfl (fun C h => by cases h) (fun cA => by first | rfl | (rw [vp_cell_i]; rfl)) (by decide) (by decide) (by decide) (Nat.le_of_ble_eq_true rfl) (Nat.le_of_ble_eq_true rfl) dX7_init_86 (fun q10 H E => ?_)
  have E : Ev g _ s.heap H _ [(a, .inr (10, [.ref q1, .ref q2, .ref q3, .ref q4, .ref q5, .ref q6, .ref q7, .ref q8, .ref q9, .null, .null, .null, .int 0, .int 0, .int 0, .null, .null, .null])), (q1, .inl (g.2.1 0, 16, .inl (fun _ => 0))), (q2, .inl (g.2.1 0, 16, .inl (fun _ => 0))), (q3, .inl (g.2.1 0, 16, .inl (fun _ => 0))), (q4, .inl (g.2.1 0, 16, .inl (fun _ => 0))), (q5, .inl (g.2.1 0, 8, .inl (fun _ => 0))), (q6, .inl (g.2.1 0, 2, .inl (upd (upd (fun _ => 0) (0 : Int32).toNatClampNeg 4) (1 : Int32).toNatClampNeg 4))), (q7, .inl (g.2.1 0, 8, .inl (fun _ => 0))), (q8, .inl (g.2.1 0, 8, .inl (fun _ => 0))), (q9, .inl (g.2.1 0, 8, .inl (fun _ => 0))), (q10, .inl (g.2.1 0, 8, .inl (fun _ => 0)))] := E
  refine wpF_X7_39 (w' := [(a, .inr (10, [.ref q1, .ref q2, .ref q3, .ref q4, .ref q5, .ref q6, .ref q7, .ref q8, .ref q9, .ref q10, .null, .null, .int 0, .int 0, .int 0, .null, .null, .null])), (q1, .inl (g.2.1 0, 16, .inl (fun _ => 0))), (q2, .inl (g.2.1 0, 16, .inl (fun _ => 0))), (q3, .inl (g.2.1 0, 16, .inl (fun _ => 0))), (q4, .inl (g.2.1 0, 16, .inl (fun _ => 0))), (q5, .inl (g.2.1 0, 8, .inl (fun _ => 0))), (q6, .inl (g.2.1 0, 2, .inl (upd (upd (fun _ => 0) (0 : Int32).toNatClampNeg 4) (1 : Int32).toNatClampNeg 4))), (q7, .inl (g.2.1 0, 8, .inl (fun _ => 0))), (q8, .inl (g.2.1 0, 8, .inl (fun _ => 0))), (q9, .inl (g.2.1 0, 8, .inl (fun _ => 0))), (q10, .inl (g.2.1 0, 8, .inl (fun _ => 0)))]) S hK E 0 hnm rfl rfl rfl (Nat.le_of_ble_eq_true rfl) rfl dX7_init_88 (fun H locs E => ?_)
  refine lv_aload_n hx hb dX7_init_91 rfl (lv_at hl 0 rfl) ?_
  refine lv_bipush (v := 16) hx hb dX7_init_92 (by decide) ?_
  refine w_newa (atype := .int) (ty := .int) (a0 := (16, .inl (fun _ => 0))) (N' := 16) 0 S hK E hA ac_int rfl rfl (fun C h => by cases h) (fun cA => by first | rfl | (rw [vp_cell_i]; rfl)) (by decide) (by decide) (by decide) (Nat.le_of_ble_eq_true rfl) (Nat.le_of_ble_eq_true rfl) dX7_init_94 (fun q11 H E => ?_)
  have E : Ev g _ s.heap H _ [(a, .inr (10, [.ref q1, .ref q2, .ref q3, .ref q4, .ref q5, .ref q6, .ref q7, .ref q8, .ref q9, .ref q10, .null, .null, .int 0, .int 0, .int 0, .null, .null, .null])), (q1, .inl (g.2.1 0, 16, .inl (fun _ => 0))), (q2, .inl (g.2.1 0, 16, .inl (fun _ => 0))), (q3, .inl (g.2.1 0, 16, .inl (fun _ => 0))), (q4, .inl (g.2.1 0, 16, .inl (fun _ => 0))), (q5, .inl (g.2.1 0, 8, .inl (fun _ => 0))), (q6, .inl (g.2.1 0, 2, .inl (upd (upd (fun _ => 0) (0 : Int32).toNatClampNeg 4) (1 : Int32).toNatClampNeg 4))), (q7, .inl (g.2.1 0, 8, .inl (fun _ => 0))), (q8, .inl (g.2.1 0, 8, .inl (fun _ => 0))), (q9, .inl (g.2.1 0, 8, .inl (fun _ => 0))), (q10, .inl (g.2.1 0, 8, .inl (fun _ => 0))), (q11, .inl (g.2.1 0, 16, .inl (fun _ => 0)))] := E
  refine wpF_X7_42 (w' := [(a, .inr (10, [.ref q1, .ref q2, .ref q3, .ref q4, .ref q5, .ref q6, .ref q7, .ref q8, .ref q9, .ref q10, .ref q11, .null, .int 0, .int 0, .int 0, .null, .null, .null])), (q1, .inl (g.2.1 0, 16, .inl (fun _ => 0))), (q2, .inl (g.2.1 0, 16, .inl (fun _ => 0))), (q3, .inl (g.2.1 0, 16, .inl (fun _ => 0))), (q4, .inl (g.2.1 0, 16, .inl (fun _ => 0))), (q5, .inl (g.2.1 0, 8, .inl (fun _ => 0))), (q6, .inl (g.2.1 0, 2, .inl (upd (upd (fun _ => 0) (0 : Int32).toNatClampNeg 4) (1 : Int32).toNatClampNeg 4))), (q7, .inl (g.2.1 0, 8, .inl (fun _ => 0))), (q8, .inl (g.2.1 0, 8, .inl (fun _ => 0))), (q9, .inl (g.2.1 0, 8, .inl (fun _ => 0))), (q10, .inl (g.2.1 0, 8, .inl (fun _ => 0))), (q11, .inl (g.2.1 0, 16, .inl (fun _ => 0)))]) S hK E 0 hnm rfl rfl rfl (Nat.le_of_ble_eq_true rfl) rfl dX7_init_96 (fun H locs E => ?_)
  refine lv_aload_n hx hb dX7_init_99 rfl (lv_at hl 0 rfl) ?_
  refine lv_bipush (v := 16) hx hb dX7_init_100 (by decide) ?_
  refine w_newa (atype := .int) (ty := .int) (a0 := (16, .inl (fun _ => 0))) (N' := 16) 0 S hK E hA ac_int rfl rfl (fun C h => by cases h) (fun cA => by first | rfl | (rw [vp_cell_i]; rfl)) (by decide) (by decide) (by decide) (Nat.le_of_ble_eq_true rfl) (Nat.le_of_ble_eq_true rfl) dX7_init_102 (fun q12 H E => ?_)
  have E : Ev g _ s.heap H _ [(a, .inr (10, [.ref q1, .ref q2, .ref q3, .ref q4, .ref q5, .ref q6, .ref q7, .ref q8, .ref q9, .ref q10, .ref q11, .null, .int 0, .int 0, .int 0, .null, .null, .null])), (q1, .inl (g.2.1 0, 16, .inl (fun _ => 0))), (q2, .inl (g.2.1 0, 16, .inl (fun _ => 0))), (q3, .inl (g.2.1 0, 16, .inl (fun _ => 0))), (q4, .inl (g.2.1 0, 16, .inl (fun _ => 0))), (q5, .inl (g.2.1 0, 8, .inl (fun _ => 0))), (q6, .inl (g.2.1 0, 2, .inl (upd (upd (fun _ => 0) (0 : Int32).toNatClampNeg 4) (1 : Int32).toNatClampNeg 4))), (q7, .inl (g.2.1 0, 8, .inl (fun _ => 0))), (q8, .inl (g.2.1 0, 8, .inl (fun _ => 0))), (q9, .inl (g.2.1 0, 8, .inl (fun _ => 0))), (q10, .inl (g.2.1 0, 8, .inl (fun _ => 0))), (q11, .inl (g.2.1 0, 16, .inl (fun _ => 0))), (q12, .inl (g.2.1 0, 16, .inl (fun _ => 0)))] := E
  refine wpF_X7_45 (w' := [(a, .inr (10, [.ref q1, .ref q2, .ref q3, .ref q4, .ref q5, .ref q6, .ref q7, .ref q8, .ref q9, .ref q10, .ref q11, .ref q12, .int 0, .int 0, .int 0, .null, .null, .null])), (q1, .inl (g.2.1 0, 16, .inl (fun _ => 0))), (q2, .inl (g.2.1 0, 16, .inl (fun _ => 0))), (q3, .inl (g.2.1 0, 16, .inl (fun _ => 0))), (q4, .inl (g.2.1 0, 16, .inl (fun _ => 0))), (q5, .inl (g.2.1 0, 8, .inl (fun _ => 0))), (q6, .inl (g.2.1 0, 2, .inl (upd (upd (fun _ => 0) (0 : Int32).toNatClampNeg 4) (1 : Int32).toNatClampNeg 4))), (q7, .inl (g.2.1 0, 8, .inl (fun _ => 0))), (q8, .inl (g.2.1 0, 8, .inl (fun _ => 0))), (q9, .inl (g.2.1 0, 8, .inl (fun _ => 0))), (q10, .inl (g.2.1 0, 8, .inl (fun _ => 0))), (q11, .inl (g.2.1 0, 16, .inl (fun _ => 0))), (q12, .inl (g.2.1 0, 16, .inl (fun _ => 0)))]) S hK E 0 hnm rfl rfl rfl (Nat.le_of_ble_eq_true rfl) rfl dX7_init_104 (fun H locs E => ?_)
  refine lv_aload_n hx hb dX7_init_107 rfl (lv_at hl 0 rfl) ?_
  refine w_new (ci := 8) (fs := [.int 0, .null, .int 0]) (C := RJx4a65c) (T := TJx4a65c) (N := 3) S hK E hA fw_Jx4a65c tyJx4a65c tyJx4a65c_ok cl_X7_48 ib_Jx4a65c in_Jx4a65c rfl (fun j hj => by rcases (show j = 0 ∨ j = 1 ∨ j = 2 by omega) with rfl | rfl | rfl <;> rfl) (Nat.le_of_ble_eq_true rfl) (Nat.le_of_ble_eq_true rfl) dX7_init_108 (fun q13 H E => ?_)
  have E : Ev g _ s.heap H _ [(a, .inr (10, [.ref q1, .ref q2, .ref q3, .ref q4, .ref q5, .ref q6, .ref q7, .ref q8, .ref q9, .ref q10, .ref q11, .ref q12, .int 0, .int 0, .int 0, .null, .null, .null])), (q1, .inl (g.2.1 0, 16, .inl (fun _ => 0))), (q2, .inl (g.2.1 0, 16, .inl (fun _ => 0))), (q3, .inl (g.2.1 0, 16, .inl (fun _ => 0))), (q4, .inl (g.2.1 0, 16, .inl (fun _ => 0))), (q5, .inl (g.2.1 0, 8, .inl (fun _ => 0))), (q6, .inl (g.2.1 0, 2, .inl (upd (upd (fun _ => 0) (0 : Int32).toNatClampNeg 4) (1 : Int32).toNatClampNeg 4))), (q7, .inl (g.2.1 0, 8, .inl (fun _ => 0))), (q8, .inl (g.2.1 0, 8, .inl (fun _ => 0))), (q9, .inl (g.2.1 0, 8, .inl (fun _ => 0))), (q10, .inl (g.2.1 0, 8, .inl (fun _ => 0))), (q11, .inl (g.2.1 0, 16, .inl (fun _ => 0))), (q12, .inl (g.2.1 0, 16, .inl (fun _ => 0))), (q13, .inr (8, [.int 0, .null, .int 0]))] := E
  refine lv_dup hx hb dX7_init_111 rfl ?_
  refine w_retv (runI_X (As := []) (rest := [.ref q13, .ref a]) (n := 0) S hml hK (hZ.at E) (Cut.of (wc := [(q13, .inr (8, [.int 0, .null, .int 0]))]) (wr := [(a, .inr (10, [.ref q1, .ref q2, .ref q3, .ref q4, .ref q5, .ref q6, .ref q7, .ref q8, .ref q9, .ref q10, .ref q11, .ref q12, .int 0, .int 0, .int 0, .null, .null, .null])), (q1, .inl (g.2.1 0, 16, .inl (fun _ => 0))), (q2, .inl (g.2.1 0, 16, .inl (fun _ => 0))), (q3, .inl (g.2.1 0, 16, .inl (fun _ => 0))), (q4, .inl (g.2.1 0, 16, .inl (fun _ => 0))), (q5, .inl (g.2.1 0, 8, .inl (fun _ => 0))), (q6, .inl (g.2.1 0, 2, .inl (upd (upd (fun _ => 0) (0 : Int32).toNatClampNeg 4) (1 : Int32).toNatClampNeg 4))), (q7, .inl (g.2.1 0, 8, .inl (fun _ => 0))), (q8, .inl (g.2.1 0, 8, .inl (fun _ => 0))), (q9, .inl (g.2.1 0, 8, .inl (fun _ => 0))), (q10, .inl (g.2.1 0, 8, .inl (fun _ => 0))), (q11, .inl (g.2.1 0, 16, .inl (fun _ => 0))), (q12, .inl (g.2.1 0, 16, .inl (fun _ => 0)))]) E hA [13] [0, 1, 2, 3, 4, 5, 6, 7, 8, 9, 10, 11, 12] rfl rfl rfl rfl (by decide)) (c_Jx4a65c_init_da8c8 l g q13 _ _) ml_X7_50 im_Jx4a65c_init_da8c8 in_Jx4a65c co_Jx4a65c_init_da8c8 rfl ⟨by decide +kernel, by decide +kernel, by decide +kernel⟩ ⟨Nat.le_of_ble_eq_true rfl, Nat.le_of_ble_eq_true rfl⟩ rfl hl.1 rfl (Nat.le_of_ble_eq_true rfl) dX7_init_112 ⟨Nat.le_of_ble_eq_true rfl, Nat.le_of_ble_eq_true rfl⟩) (Cut.of (wc := [(q13, .inr (8, [.int 0, .null, .int 0]))]) (wr := [(a, .inr (10, [.ref q1, .ref q2, .ref q3, .ref q4, .ref q5, .ref q6, .ref q7, .ref q8, .ref q9, .ref q10, .ref q11, .ref q12, .int 0, .int 0, .int 0, .null, .null, .null])), (q1, .inl (g.2.1 0, 16, .inl (fun _ => 0))), (q2, .inl (g.2.1 0, 16, .inl (fun _ => 0))), (q3, .inl (g.2.1 0, 16, .inl (fun _ => 0))), (q4, .inl (g.2.1 0, 16, .inl (fun _ => 0))), (q5, .inl (g.2.1 0, 8, .inl (fun _ => 0))), (q6, .inl (g.2.1 0, 2, .inl (upd (upd (fun _ => 0) (0 : Int32).toNatClampNeg 4) (1 : Int32).toNatClampNeg 4))), (q7, .inl (g.2.1 0, 8, .inl (fun _ => 0))), (q8, .inl (g.2.1 0, 8, .inl (fun _ => 0))), (q9, .inl (g.2.1 0, 8, .inl (fun _ => 0))), (q10, .inl (g.2.1 0, 8, .inl (fun _ => 0))), (q11, .inl (g.2.1 0, 16, .inl (fun _ => 0))), (q12, .inl (g.2.1 0, 16, .inl (fun _ => 0)))]) E hA [13] [0, 1, 2, 3, 4, 5, 6, 7, 8, 9, 10, 11, 12] rfl rfl rfl rfl (by decide)) E (fun u14 H locs hp E => ?_)
  have E : Ev g _ s.heap H locs [(a, .inr (10, [.ref q1, .ref q2, .ref q3, .ref q4, .ref q5, .ref q6, .ref q7, .ref q8, .ref q9, .ref q10, .ref q11, .ref q12, .int 0, .int 0, .int 0, .null, .null, .null])), (q1, .inl (g.2.1 0, 16, .inl (fun _ => 0))), (q2, .inl (g.2.1 0, 16, .inl (fun _ => 0))), (q3, .inl (g.2.1 0, 16, .inl (fun _ => 0))), (q4, .inl (g.2.1 0, 16, .inl (fun _ => 0))), (q5, .inl (g.2.1 0, 8, .inl (fun _ => 0))), (q6, .inl (g.2.1 0, 2, .inl (upd (upd (fun _ => 0) (0 : Int32).toNatClampNeg 4) (1 : Int32).toNatClampNeg 4))), (q7, .inl (g.2.1 0, 8, .inl (fun _ => 0))), (q8, .inl (g.2.1 0, 8, .inl (fun _ => 0))), (q9, .inl (g.2.1 0, 8, .inl (fun _ => 0))), (q10, .inl (g.2.1 0, 8, .inl (fun _ => 0))), (q11, .inl (g.2.1 0, 16, .inl (fun _ => 0))), (q12, .inl (g.2.1 0, 16, .inl (fun _ => 0))), (q13, .inr (8, [.int 0, .ref (g.2.2 0), .int 0]))] := E
  refine wpF_X7_51 (w' := [(a, .inr (10, [.ref q1, .ref q2, .ref q3, .ref q4, .ref q5, .ref q6, .ref q7, .ref q8, .ref q9, .ref q10, .ref q11, .ref q12, .int 0, .int 0, .int 0, .ref q13, .null, .null])), (q1, .inl (g.2.1 0, 16, .inl (fun _ => 0))), (q2, .inl (g.2.1 0, 16, .inl (fun _ => 0))), (q3, .inl (g.2.1 0, 16, .inl (fun _ => 0))), (q4, .inl (g.2.1 0, 16, .inl (fun _ => 0))), (q5, .inl (g.2.1 0, 8, .inl (fun _ => 0))), (q6, .inl (g.2.1 0, 2, .inl (upd (upd (fun _ => 0) (0 : Int32).toNatClampNeg 4) (1 : Int32).toNatClampNeg 4))), (q7, .inl (g.2.1 0, 8, .inl (fun _ => 0))), (q8, .inl (g.2.1 0, 8, .inl (fun _ => 0))), (q9, .inl (g.2.1 0, 8, .inl (fun _ => 0))), (q10, .inl (g.2.1 0, 8, .inl (fun _ => 0))), (q11, .inl (g.2.1 0, 16, .inl (fun _ => 0))), (q12, .inl (g.2.1 0, 16, .inl (fun _ => 0))), (q13, .inr (8, [.int 0, .ref (g.2.2 0), .int 0]))]) S hK E 0 hnm rfl rfl rfl (Nat.le_of_ble_eq_true rfl) rfl dX7_init_115 (fun H locs E => ?_)
  refine lv_aload_n hx hb dX7_init_118 rfl (lv_at hl 0 rfl) ?_
  refine w_new (ci := 7) (fs := [.null, .int 0, .int 0, .int 0]) (C := RJ4) (T := TJ4) (N := 4) S hK E hA fw_J4 tyJ4 tyJ4_ok cl_X7_55 ib_J4 in_J4 rfl (fun j hj => by rcases (show j = 0 ∨ j = 1 ∨ j = 2 ∨ j = 3 by omega) with rfl | rfl | rfl | rfl <;> rfl) (Nat.le_of_ble_eq_true rfl) (Nat.le_of_ble_eq_true rfl) dX7_init_119 (fun q15 H E => ?_)
  have E : Ev g _ s.heap H _ [(a, .inr (10, [.ref q1, .ref q2, .ref q3, .ref q4, .ref q5, .ref q6, .ref q7, .ref q8, .ref q9, .ref q10, .ref q11, .ref q12, .int 0, .int 0, .int 0, .ref q13, .null, .null])), (q1, .inl (g.2.1 0, 16, .inl (fun _ => 0))), (q2, .inl (g.2.1 0, 16, .inl (fun _ => 0))), (q3, .inl (g.2.1 0, 16, .inl (fun _ => 0))), (q4, .inl (g.2.1 0, 16, .inl (fun _ => 0))), (q5, .inl (g.2.1 0, 8, .inl (fun _ => 0))), (q6, .inl (g.2.1 0, 2, .inl (upd (upd (fun _ => 0) (0 : Int32).toNatClampNeg 4) (1 : Int32).toNatClampNeg 4))), (q7, .inl (g.2.1 0, 8, .inl (fun _ => 0))), (q8, .inl (g.2.1 0, 8, .inl (fun _ => 0))), (q9, .inl (g.2.1 0, 8, .inl (fun _ => 0))), (q10, .inl (g.2.1 0, 8, .inl (fun _ => 0))), (q11, .inl (g.2.1 0, 16, .inl (fun _ => 0))), (q12, .inl (g.2.1 0, 16, .inl (fun _ => 0))), (q13, .inr (8, [.int 0, .ref (g.2.2 0), .int 0])), (q15, .inr (7, [.null, .int 0, .int 0, .int 0]))] := E
  refine lv_dup hx hb dX7_init_122 rfl ?_
  refine w_retv (runI_X (As := []) (rest := [.ref q15, .ref a]) (n := 0) S hml hK (hZ.at E) (Cut.of (wc := [(q15, .inr (7, [.null, .int 0, .int 0, .int 0]))]) (wr := [(a, .inr (10, [.ref q1, .ref q2, .ref q3, .ref q4, .ref q5, .ref q6, .ref q7, .ref q8, .ref q9, .ref q10, .ref q11, .ref q12, .int 0, .int 0, .int 0, .ref q13, .null, .null])), (q1, .inl (g.2.1 0, 16, .inl (fun _ => 0))), (q2, .inl (g.2.1 0, 16, .inl (fun _ => 0))), (q3, .inl (g.2.1 0, 16, .inl (fun _ => 0))), (q4, .inl (g.2.1 0, 16, .inl (fun _ => 0))), (q5, .inl (g.2.1 0, 8, .inl (fun _ => 0))), (q6, .inl (g.2.1 0, 2, .inl (upd (upd (fun _ => 0) (0 : Int32).toNatClampNeg 4) (1 : Int32).toNatClampNeg 4))), (q7, .inl (g.2.1 0, 8, .inl (fun _ => 0))), (q8, .inl (g.2.1 0, 8, .inl (fun _ => 0))), (q9, .inl (g.2.1 0, 8, .inl (fun _ => 0))), (q10, .inl (g.2.1 0, 8, .inl (fun _ => 0))), (q11, .inl (g.2.1 0, 16, .inl (fun _ => 0))), (q12, .inl (g.2.1 0, 16, .inl (fun _ => 0))), (q13, .inr (8, [.int 0, .ref (g.2.2 0), .int 0]))]) E hA [14] [0, 1, 2, 3, 4, 5, 6, 7, 8, 9, 10, 11, 12, 13] rfl rfl rfl rfl (by decide)) (c_J4_init_da8c8 l g q15 _ _) ml_X7_57 im_J4_init_da8c8 in_J4 co_J4_init_da8c8 rfl ⟨by decide +kernel, by decide +kernel, by decide +kernel⟩ ⟨Nat.le_of_ble_eq_true rfl, Nat.le_of_ble_eq_true rfl⟩ rfl hl.1 rfl (Nat.le_of_ble_eq_true rfl) dX7_init_123 ⟨Nat.le_of_ble_eq_true rfl, Nat.le_of_ble_eq_true rfl⟩) (Cut.of (wc := [(q15, .inr (7, [.null, .int 0, .int 0, .int 0]))]) (wr := [(a, .inr (10, [.ref q1, .ref q2, .ref q3, .ref q4, .ref q5, .ref q6, .ref q7, .ref q8, .ref q9, .ref q10, .ref q11, .ref q12, .int 0, .int 0, .int 0, .ref q13, .null, .null])), (q1, .inl (g.2.1 0, 16, .inl (fun _ => 0))), (q2, .inl (g.2.1 0, 16, .inl (fun _ => 0))), (q3, .inl (g.2.1 0, 16, .inl (fun _ => 0))), (q4, .inl (g.2.1 0, 16, .inl (fun _ => 0))), (q5, .inl (g.2.1 0, 8, .inl (fun _ => 0))), (q6, .inl (g.2.1 0, 2, .inl (upd (upd (fun _ => 0) (0 : Int32).toNatClampNeg 4) (1 : Int32).toNatClampNeg 4))), (q7, .inl (g.2.1 0, 8, .inl (fun _ => 0))), (q8, .inl (g.2.1 0, 8, .inl (fun _ => 0))), (q9, .inl (g.2.1 0, 8, .inl (fun _ => 0))), (q10, .inl (g.2.1 0, 8, .inl (fun _ => 0))), (q11, .inl (g.2.1 0, 16, .inl (fun _ => 0))), (q12, .inl (g.2.1 0, 16, .inl (fun _ => 0))), (q13, .inr (8, [.int 0, .ref (g.2.2 0), .int 0]))]) E hA [14] [0, 1, 2, 3, 4, 5, 6, 7, 8, 9, 10, 11, 12, 13] rfl rfl rfl rfl (by decide)) E (fun u16 H locs hp E => ?_)
  have E : Ev g _ s.heap H locs [(a, .inr (10, [.ref q1, .ref q2, .ref q3, .ref q4, .ref q5, .ref q6, .ref q7, .ref q8, .ref q9, .ref q10, .ref q11, .ref q12, .int 0, .int 0, .int 0, .ref q13, .null, .null])), (q1, .inl (g.2.1 0, 16, .inl (fun _ => 0))), (q2, .inl (g.2.1 0, 16, .inl (fun _ => 0))), (q3, .inl (g.2.1 0, 16, .inl (fun _ => 0))), (q4, .inl (g.2.1 0, 16, .inl (fun _ => 0))), (q5, .inl (g.2.1 0, 8, .inl (fun _ => 0))), (q6, .inl (g.2.1 0, 2, .inl (upd (upd (fun _ => 0) (0 : Int32).toNatClampNeg 4) (1 : Int32).toNatClampNeg 4))), (q7, .inl (g.2.1 0, 8, .inl (fun _ => 0))), (q8, .inl (g.2.1 0, 8, .inl (fun _ => 0))), (q9, .inl (g.2.1 0, 8, .inl (fun _ => 0))), (q10, .inl (g.2.1 0, 8, .inl (fun _ => 0))), (q11, .inl (g.2.1 0, 16, .inl (fun _ => 0))), (q12, .inl (g.2.1 0, 16, .inl (fun _ => 0))), (q13, .inr (8, [.int 0, .ref (g.2.2 0), .int 0])), (q15, .inr (7, [.ref u16, .int 0, .int 0, .int 0])), (u16, .inl (g.2.1 3, 16, .inl (fun _ => 0)))] := E
  refine wpF_X7_58 (w' := [(a, .inr (10, [.ref q1, .ref q2, .ref q3, .ref q4, .ref q5, .ref q6, .ref q7, .ref q8, .ref q9, .ref q10, .ref q11, .ref q12, .int 0, .int 0, .int 0, .ref q13, .ref q15, .null])), (q1, .inl (g.2.1 0, 16, .inl (fun _ => 0))), (q2, .inl (g.2.1 0, 16, .inl (fun _ => 0))), (q3, .inl (g.2.1 0, 16, .inl (fun _ => 0))), (q4, .inl (g.2.1 0, 16, .inl (fun _ => 0))), (q5, .inl (g.2.1 0, 8, .inl (fun _ => 0))), (q6, .inl (g.2.1 0, 2, .inl (upd (upd (fun _ => 0) (0 : Int32).toNatClampNeg 4) (1 : Int32).toNatClampNeg 4))), (q7, .inl (g.2.1 0, 8, .inl (fun _ => 0))), (q8, .inl (g.2.1 0, 8, .inl (fun _ => 0))), (q9, .inl (g.2.1 0, 8, .inl (fun _ => 0))), (q10, .inl (g.2.1 0, 8, .inl (fun _ => 0))), (q11, .inl (g.2.1 0, 16, .inl (fun _ => 0))), (q12, .inl (g.2.1 0, 16, .inl (fun _ => 0))), (q13, .inr (8, [.int 0, .ref (g.2.2 0), .int 0])), (q15, .inr (7, [.ref u16, .int 0, .int 0, .int 0])), (u16, .inl (g.2.1 3, 16, .inl (fun _ => 0)))]) S hK E 0 hnm rfl rfl rfl (Nat.le_of_ble_eq_true rfl) rfl dX7_init_126 (fun H locs E => ?_)
  refine lv_aload_n hx hb dX7_init_129 rfl (lv_at hl 0 rfl) ?_
  refine lv_bipush (v := 26) hx hb dX7_init_130 (by decide) ?_
  refine w_newa (atype := .long) (ty := .long) (a0 := (26, .inr (.inl (fun _ => 0)))) (N' := 26) 1 S hK E hA ac_long rfl rfl (fun C h => by cases h) (fun cA => by first | rfl | (rw [vp_cell_l]; rfl)) (by decide) (by decide) (by decide) (Nat.le_of_ble_eq_true rfl) (Nat.le_of_ble_eq_true rfl) dX7_init_132 (fun q17 H E => ?_)
  have E : Ev g _ s.heap H _ [(a, .inr (10, [.ref q1, .ref q2, .ref q3, .ref q4, .ref q5, .ref q6, .ref q7, .ref q8, .ref q9, .ref q10, .ref q11, .ref q12, .int 0, .int 0, .int 0, .ref q13, .ref q15, .null])), (q1, .inl (g.2.1 0, 16, .inl (fun _ => 0))), (q2, .inl (g.2.1 0, 16, .inl (fun _ => 0))), (q3, .inl (g.2.1 0, 16, .inl (fun _ => 0))), (q4, .inl (g.2.1 0, 16, .inl (fun _ => 0))), (q5, .inl (g.2.1 0, 8, .inl (fun _ => 0))), (q6, .inl (g.2.1 0, 2, .inl (upd (upd (fun _ => 0) (0 : Int32).toNatClampNeg 4) (1 : Int32).toNatClampNeg 4))), (q7, .inl (g.2.1 0, 8, .inl (fun _ => 0))), (q8, .inl (g.2.1 0, 8, .inl (fun _ => 0))), (q9, .inl (g.2.1 0, 8, .inl (fun _ => 0))), (q10, .inl (g.2.1 0, 8, .inl (fun _ => 0))), (q11, .inl (g.2.1 0, 16, .inl (fun _ => 0))), (q12, .inl (g.2.1 0, 16, .inl (fun _ => 0))), (q13, .inr (8, [.int 0, .ref (g.2.2 0), .int 0])), (q15, .inr (7, [.ref u16, .int 0, .int 0, .int 0])), (u16, .inl (g.2.1 3, 16, .inl (fun _ => 0))), (q17, .inl (g.2.1 1, 26, .inr (.inl (fun _ => 0))))] := E
  refine wpF_X7_62 (w' := [(a, .inr (10, [.ref q1, .ref q2, .ref q3, .ref q4, .ref q5, .ref q6, .ref q7, .ref q8, .ref q9, .ref q10, .ref q11, .ref q12, .int 0, .int 0, .int 0, .ref q13, .ref q15, .ref q17])), (q1, .inl (g.2.1 0, 16, .inl (fun _ => 0))), (q2, .inl (g.2.1 0, 16, .inl (fun _ => 0))), (q3, .inl (g.2.1 0, 16, .inl (fun _ => 0))), (q4, .inl (g.2.1 0, 16, .inl (fun _ => 0))), (q5, .inl (g.2.1 0, 8, .inl (fun _ => 0))), (q6, .inl (g.2.1 0, 2, .inl (upd (upd (fun _ => 0) (0 : Int32).toNatClampNeg 4) (1 : Int32).toNatClampNeg 4))), (q7, .inl (g.2.1 0, 8, .inl (fun _ => 0))), (q8, .inl (g.2.1 0, 8, .inl (fun _ => 0))), (q9, .inl (g.2.1 0, 8, .inl (fun _ => 0))), (q10, .inl (g.2.1 0, 8, .inl (fun _ => 0))), (q11, .inl (g.2.1 0, 16, .inl (fun _ => 0))), (q12, .inl (g.2.1 0, 16, .inl (fun _ => 0))), (q13, .inr (8, [.int 0, .ref (g.2.2 0), .int 0])), (q15, .inr (7, [.ref u16, .int 0, .int 0, .int 0])), (u16, .inl (g.2.1 3, 16, .inl (fun _ => 0))), (q17, .inl (g.2.1 1, 26, .inr (.inl (fun _ => 0))))]) S hK E 0 hnm rfl rfl rfl (Nat.le_of_ble_eq_true rfl) rfl dX7_init_134 (fun H locs E => ?_)
  refine lv_iconst (v := 0) hx hb dX7_init_137 (by decide) ?_
  refine lv_istore_n (lv' := [(1, .int 0), (0, .ref a)]) hx hb dX7_init_138 rfl hl (by decide) rfl (fun ls hl => ?_)
  have L18 : ∀ (k18 i18 : Nat), i18 + k18 = 16 → ∀ (H : Heap) (locs : List Loc), Ev g (va_A [(a, .inr (10, [.null, .null, .null, .null, .null, .null, .null, .null, .null, .null, .null, .null, .int 0, .int 0, .int 0, .null, .null, .null]))] sz) s.heap H locs [(a, .inr (10, [.ref q1, .ref q2, .ref q3, .ref q4, .ref q5, .ref q6, .ref q7, .ref q8, .ref q9, .ref q10, .ref q11, .ref q12, .int 0, .int 0, .int 0, .ref q13, .ref q15, .ref q17])), (q1, .inl (g.2.1 0, 16, .inl (fun _ => 0))), (q2, .inl (g.2.1 0, 16, .inl (filled i18 10 (fun _ => 0)))), (q3, .inl (g.2.1 0, 16, .inl (fun _ => 0))), (q4, .inl (g.2.1 0, 16, .inl (fun _ => 0))), (q5, .inl (g.2.1 0, 8, .inl (grd i18))), (q6, .inl (g.2.1 0, 2, .inl (upd (upd (fun _ => 0) (0 : Int32).toNatClampNeg 4) (1 : Int32).toNatClampNeg 4))), (q7, .inl (g.2.1 0, 8, .inl (fun _ => 0))), (q8, .inl (g.2.1 0, 8, .inl (fun _ => 0))), (q9, .inl (g.2.1 0, 8, .inl (fun _ => 0))), (q10, .inl (g.2.1 0, 8, .inl (fun _ => 0))), (q11, .inl (g.2.1 0, 16, .inl (fun _ => 0))), (q12, .inl (g.2.1 0, 16, .inl (fun _ => 0))), (q13, .inr (8, [.int 0, .ref (g.2.2 0), .int 0])), (q15, .inr (7, [.ref u16, .int 0, .int 0, .int 0])), (u16, .inl (g.2.1 3, 16, .inl (fun _ => 0))), (q17, .inl (g.2.1 1, 26, .inr (.inl (fun _ => 0))))] → ∀ ls : Array Slot, lv_has ls 2 [(1, .int (nI i18)), (0, .ref a)] → W p l e ({ frames := 4, cells := 16, slots := 187, locals := 72 } : Room) s m args below meth c H locs 16 187 (MQ below (va_Qv (S := Nat → Nat) (fun _ => True) (AtX g (va_A [(a, .inr (10, [.null, .null, .null, .null, .null, .null, .null, .null, .null, .null, .null, .null, .int 0, .int 0, .int 0, .null, .null, .null]))] sz) (fun u => [(a, .inr (10, [.ref (u 1), .ref (u 2), .ref (u 3), .ref (u 4), .ref (u 5), .ref (u 6), .ref (u 7), .ref (u 8), .ref (u 9), .ref (u 10), .ref (u 11), .ref (u 12), .int 0, .int 0, .int 0, .ref (u 13), .ref (u 14), .ref (u 16)])), ((u 1), .inl (g.2.1 0, 16, .inl (fun _ => 0))), ((u 2), .inl (g.2.1 0, 16, .inl (fun _ => 10))), ((u 3), .inl (g.2.1 0, 16, .inl (fun _ => 0))), ((u 4), .inl (g.2.1 0, 16, .inl (fun _ => 0))), ((u 5), .inl (g.2.1 0, 8, .inl (fun _ => 100))), ((u 6), .inl (g.2.1 0, 2, .inl (fun _ => 4))), ((u 7), .inl (g.2.1 0, 8, .inl (fun _ => 0))), ((u 8), .inl (g.2.1 0, 8, .inl (fun _ => 0))), ((u 9), .inl (g.2.1 0, 8, .inl (fun _ => 0))), ((u 10), .inl (g.2.1 0, 8, .inl (fun _ => 0))), ((u 11), .inl (g.2.1 0, 16, .inl (fun _ => 0))), ((u 12), .inl (g.2.1 0, 16, .inl (fun _ => 0))), ((u 13), .inr (8, [.int 0, .ref (g.2.2 0), .int 0])), ((u 14), .inr (7, [.ref (u 15), .int 0, .int 0, .int 0])), ((u 15), .inl (g.2.1 3, 16, .inl (fun _ => 0))), ((u 16), .inl (g.2.1 1, 26, .inr (.inl (fun _ => 0))))]) (fun _ => (16, 187)) sz tt) (va_A [(a, .inr (10, [.null, .null, .null, .null, .null, .null, .null, .null, .null, .null, .null, .null, .int 0, .int 0, .int 0, .null, .null, .null]))] sz)) args s 16 187 (va_A [(a, .inr (10, [.null, .null, .null, .null, .null, .null, .null, .null, .null, .null, .null, .null, .int 0, .int 0, .int 0, .null, .null, .null]))] sz)) (F0 m 139 ls []) := by
    intro k18
    induction k18 with
    | zero =>
      intro i18 hi18 H locs E ls hl
      obtain rfl : i18 = 16 := by omega
      have hl : lv_has ls 2 [(1, .int (nI 16)), (0, .ref a)] := hl
      refine lv_iload_n hx hb dX7_init_139 rfl (lv_at hl 0 rfl) ?_
      refine lv_bipush (v := 16) hx hb dX7_init_140 (by decide) ?_
      refine lv_icmp_ge (tgt := 170) hx hb dX7_init_142 (by decide) (fun _ => ?_) (fun c_ => absurd (show 16 ≤ (nI 16) by decide) c_)
      have E := Ev.arr E 2 (f' := (fun _ => 10)) rfl (fun j hj => if_pos hj)
      have E : Ev g _ s.heap H _ [(a, .inr (10, [.ref q1, .ref q2, .ref q3, .ref q4, .ref q5, .ref q6, .ref q7, .ref q8, .ref q9, .ref q10, .ref q11, .ref q12, .int 0, .int 0, .int 0, .ref q13, .ref q15, .ref q17])), (q1, .inl (g.2.1 0, 16, .inl (fun _ => 0))), (q2, .inl (g.2.1 0, 16, .inl (fun _ => 10))), (q3, .inl (g.2.1 0, 16, .inl (fun _ => 0))), (q4, .inl (g.2.1 0, 16, .inl (fun _ => 0))), (q5, .inl (g.2.1 0, 8, .inl (grd 16))), (q6, .inl (g.2.1 0, 2, .inl (upd (upd (fun _ => 0) (0 : Int32).toNatClampNeg 4) (1 : Int32).toNatClampNeg 4))), (q7, .inl (g.2.1 0, 8, .inl (fun _ => 0))), (q8, .inl (g.2.1 0, 8, .inl (fun _ => 0))), (q9, .inl (g.2.1 0, 8, .inl (fun _ => 0))), (q10, .inl (g.2.1 0, 8, .inl (fun _ => 0))), (q11, .inl (g.2.1 0, 16, .inl (fun _ => 0))), (q12, .inl (g.2.1 0, 16, .inl (fun _ => 0))), (q13, .inr (8, [.int 0, .ref (g.2.2 0), .int 0])), (q15, .inr (7, [.ref u16, .int 0, .int 0, .int 0])), (u16, .inl (g.2.1 3, 16, .inl (fun _ => 0))), (q17, .inl (g.2.1 1, 26, .inr (.inl (fun _ => 0))))] := E
      have E := Ev.arr E 5 (f' := (fun _ => 100)) rfl (fun j hj => if_pos hj)
      have E : Ev g _ s.heap H _ [(a, .inr (10, [.ref q1, .ref q2, .ref q3, .ref q4, .ref q5, .ref q6, .ref q7, .ref q8, .ref q9, .ref q10, .ref q11, .ref q12, .int 0, .int 0, .int 0, .ref q13, .ref q15, .ref q17])), (q1, .inl (g.2.1 0, 16, .inl (fun _ => 0))), (q2, .inl (g.2.1 0, 16, .inl (fun _ => 10))), (q3, .inl (g.2.1 0, 16, .inl (fun _ => 0))), (q4, .inl (g.2.1 0, 16, .inl (fun _ => 0))), (q5, .inl (g.2.1 0, 8, .inl (fun _ => 100))), (q6, .inl (g.2.1 0, 2, .inl (upd (upd (fun _ => 0) (0 : Int32).toNatClampNeg 4) (1 : Int32).toNatClampNeg 4))), (q7, .inl (g.2.1 0, 8, .inl (fun _ => 0))), (q8, .inl (g.2.1 0, 8, .inl (fun _ => 0))), (q9, .inl (g.2.1 0, 8, .inl (fun _ => 0))), (q10, .inl (g.2.1 0, 8, .inl (fun _ => 0))), (q11, .inl (g.2.1 0, 16, .inl (fun _ => 0))), (q12, .inl (g.2.1 0, 16, .inl (fun _ => 0))), (q13, .inr (8, [.int 0, .ref (g.2.2 0), .int 0])), (q15, .inr (7, [.ref u16, .int 0, .int 0, .int 0])), (u16, .inl (g.2.1 3, 16, .inl (fun _ => 0))), (q17, .inl (g.2.1 1, 26, .inr (.inl (fun _ => 0))))] := E
      have E := Ev.arr E 6 (f' := (fun _ => 4)) rfl (by decide +kernel)
      have E : Ev g _ s.heap H _ [(a, .inr (10, [.ref q1, .ref q2, .ref q3, .ref q4, .ref q5, .ref q6, .ref q7, .ref q8, .ref q9, .ref q10, .ref q11, .ref q12, .int 0, .int 0, .int 0, .ref q13, .ref q15, .ref q17])), (q1, .inl (g.2.1 0, 16, .inl (fun _ => 0))), (q2, .inl (g.2.1 0, 16, .inl (fun _ => 10))), (q3, .inl (g.2.1 0, 16, .inl (fun _ => 0))), (q4, .inl (g.2.1 0, 16, .inl (fun _ => 0))), (q5, .inl (g.2.1 0, 8, .inl (fun _ => 100))), (q6, .inl (g.2.1 0, 2, .inl (fun _ => 4))), (q7, .inl (g.2.1 0, 8, .inl (fun _ => 0))), (q8, .inl (g.2.1 0, 8, .inl (fun _ => 0))), (q9, .inl (g.2.1 0, 8, .inl (fun _ => 0))), (q10, .inl (g.2.1 0, 8, .inl (fun _ => 0))), (q11, .inl (g.2.1 0, 16, .inl (fun _ => 0))), (q12, .inl (g.2.1 0, 16, .inl (fun _ => 0))), (q13, .inr (8, [.int 0, .ref (g.2.2 0), .int 0])), (q15, .inr (7, [.ref u16, .int 0, .int 0, .int 0])), (u16, .inl (g.2.1 3, 16, .inl (fun _ => 0))), (q17, .inl (g.2.1 1, 26, .inr (.inl (fun _ => 0))))] := E
      exact x_vret (fun k => match k with | 1 => q1 | 2 => q2 | 3 => q3 | 4 => q4 | 5 => q5 | 6 => q6 | 7 => q7 | 8 => q8 | 9 => q9 | 10 => q10 | 11 => q11 | 12 => q12 | 13 => q13 | 14 => q15 | 15 => u16 | _ => q17) S hr hlk hsz htt hK E dX7_init_170 trivial rfl ⟨Nat.le_of_ble_eq_true rfl, Nat.le_of_ble_eq_true rfl⟩ ⟨Nat.le_of_ble_eq_true rfl, Nat.le_of_ble_eq_true rfl⟩
    | succ k18 ih18 =>
      intro i18 hi18 H locs E ls hl
      have hl : lv_has ls 2 [(1, .int (nI i18)), (0, .ref a)] := hl
      refine lv_iload_n hx hb dX7_init_139 rfl (lv_at hl 0 rfl) ?_
      refine lv_bipush (v := 16) hx hb dX7_init_140 (by decide) ?_
      refine lv_icmp_ge (tgt := 170) hx hb dX7_init_142 (by decide) (fun c_ => absurd c_ (g_no (a := i18) (b := 16) rfl rfl (by omega) (by omega))) (fun _ => ?_)
      refine lv_aload_n hx hb dX7_init_145 rfl (lv_at hl 1 rfl) ?_
      refine wg_X7_15 (v := .ref q2) S hK E 0 rfl rfl dX7_init_146 ?_
      refine lv_iload_n hx hb dX7_init_149 rfl (lv_at hl 0 rfl) ?_
      refine lv_bipush (v := 10) hx hb dX7_init_150 (by decide) ?_
      refine w_ist (w' := [(a, .inr (10, [.ref q1, .ref q2, .ref q3, .ref q4, .ref q5, .ref q6, .ref q7, .ref q8, .ref q9, .ref q10, .ref q11, .ref q12, .int 0, .int 0, .int 0, .ref q13, .ref q15, .ref q17])), (q1, .inl (g.2.1 0, 16, .inl (fun _ => 0))), (q2, .inl (g.2.1 0, 16, .inl (filled (i18 + 1) 10 (fun _ => 0)))), (q3, .inl (g.2.1 0, 16, .inl (fun _ => 0))), (q4, .inl (g.2.1 0, 16, .inl (fun _ => 0))), (q5, .inl (g.2.1 0, 8, .inl (grd i18))), (q6, .inl (g.2.1 0, 2, .inl (upd (upd (fun _ => 0) (0 : Int32).toNatClampNeg 4) (1 : Int32).toNatClampNeg 4))), (q7, .inl (g.2.1 0, 8, .inl (fun _ => 0))), (q8, .inl (g.2.1 0, 8, .inl (fun _ => 0))), (q9, .inl (g.2.1 0, 8, .inl (fun _ => 0))), (q10, .inl (g.2.1 0, 8, .inl (fun _ => 0))), (q11, .inl (g.2.1 0, 16, .inl (fun _ => 0))), (q12, .inl (g.2.1 0, 16, .inl (fun _ => 0))), (q13, .inr (8, [.int 0, .ref (g.2.2 0), .int 0])), (q15, .inr (7, [.ref u16, .int 0, .int 0, .int 0])), (u16, .inl (g.2.1 3, 16, .inl (fun _ => 0))), (q17, .inl (g.2.1 1, 26, .inr (.inl (fun _ => 0))))]) S hK E 2 0 rfl rfl (vp_in_nI (n := i18) (by omega) (by decide)) (by rw [filled_1 (by omega)]; rfl) dX7_init_152 (fun H locs E => ?_)
      refine lv_aload_n hx hb dX7_init_153 rfl (lv_at hl 1 rfl) ?_
      refine wg_X7_24 (v := .ref q5) S hK E 0 rfl rfl dX7_init_154 ?_
      refine lv_iload_n hx hb dX7_init_157 rfl (lv_at hl 0 rfl) ?_
      refine lv_bipush (v := 8) hx hb dX7_init_158 (by decide) ?_
      refine k_irem (v := (nI (i18 % 8))) hx hb (by decide) (pk_rem (a := i18) (d := 8) (by omega) (by decide) (by decide)) dX7_init_160 ?_
      refine lv_bipush (v := 100) hx hb dX7_init_161 (by decide) ?_
      refine w_ist (w' := [(a, .inr (10, [.ref q1, .ref q2, .ref q3, .ref q4, .ref q5, .ref q6, .ref q7, .ref q8, .ref q9, .ref q10, .ref q11, .ref q12, .int 0, .int 0, .int 0, .ref q13, .ref q15, .ref q17])), (q1, .inl (g.2.1 0, 16, .inl (fun _ => 0))), (q2, .inl (g.2.1 0, 16, .inl (filled (i18 + 1) 10 (fun _ => 0)))), (q3, .inl (g.2.1 0, 16, .inl (fun _ => 0))), (q4, .inl (g.2.1 0, 16, .inl (fun _ => 0))), (q5, .inl (g.2.1 0, 8, .inl (grd (i18 + 1)))), (q6, .inl (g.2.1 0, 2, .inl (upd (upd (fun _ => 0) (0 : Int32).toNatClampNeg 4) (1 : Int32).toNatClampNeg 4))), (q7, .inl (g.2.1 0, 8, .inl (fun _ => 0))), (q8, .inl (g.2.1 0, 8, .inl (fun _ => 0))), (q9, .inl (g.2.1 0, 8, .inl (fun _ => 0))), (q10, .inl (g.2.1 0, 8, .inl (fun _ => 0))), (q11, .inl (g.2.1 0, 16, .inl (fun _ => 0))), (q12, .inl (g.2.1 0, 16, .inl (fun _ => 0))), (q13, .inr (8, [.int 0, .ref (g.2.2 0), .int 0])), (q15, .inr (7, [.ref u16, .int 0, .int 0, .int 0])), (u16, .inl (g.2.1 3, 16, .inl (fun _ => 0))), (q17, .inl (g.2.1 1, 26, .inr (.inl (fun _ => 0))))]) S hK E 5 0 rfl rfl (vp_in_nI (n := (i18 % 8)) (by omega) (by decide)) (by rw [grd_1 (by omega)]; rfl) dX7_init_163 (fun H locs E => ?_)
      refine lv_iinc (v := (nI (i18 + 1))) (lv' := [(1, .int (nI (i18 + 1))), (0, .ref a)]) hx hb dX7_init_164 hl (k := 0) rfl (nI_1 i18) (by decide) rfl (fun ls hl => ?_)
      refine lv_goto (tgt := 139) hx hb dX7_init_167 (by decide) ?_
      exact ih18 (i18 + 1) (by omega) _ _ E ls (lv_sub hl [0, 1] rfl)
  have E : Ev g _ s.heap H _ [(a, .inr (10, [.ref q1, .ref q2, .ref q3, .ref q4, .ref q5, .ref q6, .ref q7, .ref q8, .ref q9, .ref q10, .ref q11, .ref q12, .int 0, .int 0, .int 0, .ref q13, .ref q15, .ref q17])), (q1, .inl (g.2.1 0, 16, .inl (fun _ => 0))), (q2, .inl (g.2.1 0, 16, .inl (filled 0 10 (fun _ => 0)))), (q3, .inl (g.2.1 0, 16, .inl (fun _ => 0))), (q4, .inl (g.2.1 0, 16, .inl (fun _ => 0))), (q5, .inl (g.2.1 0, 8, .inl (grd 0))), (q6, .inl (g.2.1 0, 2, .inl (upd (upd (fun _ => 0) (0 : Int32).toNatClampNeg 4) (1 : Int32).toNatClampNeg 4))), (q7, .inl (g.2.1 0, 8, .inl (fun _ => 0))), (q8, .inl (g.2.1 0, 8, .inl (fun _ => 0))), (q9, .inl (g.2.1 0, 8, .inl (fun _ => 0))), (q10, .inl (g.2.1 0, 8, .inl (fun _ => 0))), (q11, .inl (g.2.1 0, 16, .inl (fun _ => 0))), (q12, .inl (g.2.1 0, 16, .inl (fun _ => 0))), (q13, .inr (8, [.int 0, .ref (g.2.2 0), .int 0])), (q15, .inr (7, [.ref u16, .int 0, .int 0, .int 0])), (u16, .inl (g.2.1 3, 16, .inl (fun _ => 0))), (q17, .inl (g.2.1 1, 26, .inr (.inl (fun _ => 0))))] := (by rw [filled_0, grd_0]; exact E)
  exact L18 16 0 (by omega) _ _ E ls (lv_sub hl [0, 1] rfl)

