/-! WORLDS WITH A TAIL: cells, and behind them a list of cells of any length -/
theorem Ev.pre {g : Gm} {A : Nat → Prop} {H0 H : Heap} {locs : List Loc} {a t : va_W} (E : Ev g A H0 H locs (a ++ t)) : Ev g A H0 H locs a := by
  obtain ⟨hP, hD, hS⟩ := E
  rw [va_P_iff] at hP
  rw [va_D_iff, List.map_append] at hD
  exact ⟨va_P_iff.mpr fun q hq => hP q (List.mem_append_left _ hq), va_D_iff.mpr ⟨(List.nodup_append.mp hD.1).1, fun q hq => hD.2 q (List.mem_append_left _ hq)⟩, hS⟩
theorem Ev.nilr {g : Gm} {A : Nat → Prop} {H0 H : Heap} {locs : List Loc} {w : va_W} (E : Ev g A H0 H locs (w ++ ([] : va_W))) : Ev g A H0 H locs w := by rwa [List.append_nil] at E
theorem Ev.tl {g : Gm} {A : Nat → Prop} {H0 H : Heap} {locs : List Loc} {a t c : va_W} (E : Ev g A H0 H locs (a ++ t ++ c)) : Ev g A H0 H locs (a ++ c ++ t) :=
  E.perm (by
    rw [List.append_assoc, List.append_assoc a t c]
    exact List.Perm.append_left a List.perm_append_comm)
theorem Ev.asc {g : Gm} {A : Nat → Prop} {H0 H : Heap} {locs : List Loc} {a t c : va_W} (E : Ev g A H0 H locs (a ++ (t ++ c))) : Ev g A H0 H locs (a ++ t ++ c) := by rw [List.append_assoc]; exact E
theorem Ev.asc' {g : Gm} {A : Nat → Prop} {H0 H : Heap} {locs : List Loc} {a t c : va_W} (E : Ev g A H0 H locs (a ++ t ++ c)) : Ev g A H0 H locs (a ++ (t ++ c)) := by rw [← List.append_assoc]; exact E
theorem Ev.subT {g : Gm} {A : Nat → Prop} {H0 H : Heap} {locs : List Loc} {a a' t : va_W} (E : Ev g A H0 H locs (a ++ t)) (is : List Nat) (hs : is.map (fun i => a[i]?) = a'.map some) (hn : va_nd is = true) : Ev g A H0 H locs (a' ++ t) := by
  have E1 := Ev.sub E.pre is hs hn
  obtain ⟨hP, hD, hS⟩ := E
  rw [va_P_iff] at hP
  rw [va_D_iff, List.map_append] at hD
  have hm : ∀ q ∈ a', q ∈ a := by
    intro q hq
    have h1 : some q ∈ is.map (fun i => a[i]?) := by rw [hs]; exact List.mem_map.mpr ⟨q, hq, rfl⟩
    obtain ⟨i, -, hi⟩ := List.mem_map.mp h1
    exact List.mem_of_getElem? hi
  have hn0 := List.nodup_append.mp hD.1
  refine ⟨va_P_iff.mpr fun q hq => ?_, va_D_iff.mpr ⟨?_, fun q hq => ?_⟩, hS⟩
  · rcases List.mem_append.mp hq with h | h
    · exact hP q (List.mem_append_left _ (hm q h))
    · exact hP q (List.mem_append_right _ h)
  · rw [List.map_append, List.nodup_append]
    refine ⟨(va_D_iff.mp E1.2.1).1, hn0.2.1, fun x hx y hy => ?_⟩
    obtain ⟨q, hq, rfl⟩ := List.mem_map.mp hx
    exact hn0.2.2 _ (List.mem_map.mpr ⟨q, hm q hq, rfl⟩) y hy
  · rcases List.mem_append.mp hq with h | h
    · exact hD.2 q (List.mem_append_left _ (hm q h))
    · exact hD.2 q (List.mem_append_right _ h)
theorem map_pick {a wr wc : va_W} {isC isR : List Nat} (hC : isC.map (fun i => a[i]?) = wc.map some) (hR : isR.map (fun i => a[i]?) = wr.map some) : (isR ++ isC).map (fun i => a[i]?) = (wr ++ wc).map some := by
  rw [List.map_append, List.map_append, hC, hR]
/-- the callee's cells are among those ahead of the tail -/
theorem Cut.ofT {g : Gm} {A : Nat → Prop} {H0 H : Heap} {locs : List Loc} {a wc wr t : va_W} (E : Ev g A H0 H locs (a ++ t)) (hA : ∀ q, H0.size ≤ q → A q) (isC isR : List Nat) (hC : isC.map (fun i => a[i]?) = wc.map some) (hR : isR.map (fun i => a[i]?) = wr.map some) (hn : va_nd (isR ++ isC) = true) : Cut g A H wc (wr ++ t) :=
  Cut.app (Ev.tl (Ev.subT E (isR ++ isC) (map_pick hC hR) hn)) hA
/-- the tail is the callee's too -/
theorem Cut.ofTT {g : Gm} {A : Nat → Prop} {H0 H : Heap} {locs : List Loc} {a wc wr t : va_W} (E : Ev g A H0 H locs (a ++ t)) (hA : ∀ q, H0.size ≤ q → A q) (isC isR : List Nat) (hC : isC.map (fun i => a[i]?) = wc.map some) (hR : isR.map (fun i => a[i]?) = wr.map some) (hn : va_nd (isR ++ isC) = true) : Cut g A H (wc ++ t) wr :=
  Cut.app (Ev.asc' (Ev.subT E (isR ++ isC) (map_pick hC hR) hn)) hA
/-- two tails: the callee takes the first, or the second -/
theorem Cut.of1 {g : Gm} {A : Nat → Prop} {H0 H : Heap} {locs : List Loc} {a wc wr t o : va_W} (E : Ev g A H0 H locs (a ++ (t ++ o))) (hA : ∀ q, H0.size ≤ q → A q) (isC isR : List Nat) (hC : isC.map (fun i => a[i]?) = wc.map some) (hR : isR.map (fun i => a[i]?) = wr.map some) (hn : va_nd (isR ++ isC) = true) : Cut g A H (wc ++ t) (wr ++ o) :=
  Cut.app ((Ev.subT E (isR ++ isC) (map_pick hC hR) hn).perm (by
    rw [List.append_assoc, List.append_assoc wr wc, ← List.append_assoc wc t o]
    exact List.Perm.append_left wr List.perm_append_comm)) hA
theorem Cut.of2 {g : Gm} {A : Nat → Prop} {H0 H : Heap} {locs : List Loc} {a wc wr t o : va_W} (E : Ev g A H0 H locs (a ++ (o ++ t))) (hA : ∀ q, H0.size ≤ q → A q) (isC isR : List Nat) (hC : isC.map (fun i => a[i]?) = wc.map some) (hR : isR.map (fun i => a[i]?) = wr.map some) (hn : va_nd (isR ++ isC) = true) : Cut g A H (wc ++ t) (wr ++ o) :=
  Cut.app ((Ev.subT E (isR ++ isC) (map_pick hC hR) hn).perm (by
    rw [List.append_assoc, List.append_assoc wr wc, ← List.append_assoc o wc t, ← List.append_assoc wc o t]
    exact List.Perm.append_left wr (List.Perm.append_right t List.perm_append_comm))) hA
theorem Ev.j1 {g : Gm} {A : Nat → Prop} {H0 H : Heap} {locs : List Loc} {r n t o : va_W} (E : Ev g A H0 H locs ((r ++ o) ++ (n ++ t))) : Ev g A H0 H locs ((r ++ n) ++ (t ++ o)) :=
  E.perm (by
    rw [List.append_assoc, List.append_assoc r o, ← List.append_assoc n t o]
    exact List.Perm.append_left r List.perm_append_comm)
theorem Ev.j2 {g : Gm} {A : Nat → Prop} {H0 H : Heap} {locs : List Loc} {r n t o : va_W} (E : Ev g A H0 H locs ((r ++ o) ++ (n ++ t))) : Ev g A H0 H locs ((r ++ n) ++ (o ++ t)) :=
  E.perm (by
    rw [List.append_assoc, List.append_assoc r o, ← List.append_assoc n o t, ← List.append_assoc o n t]
    exact List.Perm.append_left r (List.Perm.append_right t List.perm_append_comm))
/-! THE DIARY: calls of eight ints' worth; what an array of them holds -/
/-- all of the tail are calls -/
def AllC (dcs : va_W) : Prop := ∀ q ∈ dcs, ∃ vs : List Value, q.2 = .inr (1, vs)
/-- the references of an array that holds the tail's cells in their order -/
def rfs (dcs : va_W) : Nat → Option Nat := fun j => (dcs[j]?).map Prod.fst
theorem rfs_nil : rfs [] = fun _ => none := by funext j; unfold rfs; rw [List.getElem?_nil]; rfl
theorem rfs_add {dcs : va_W} {q : Nat × va_E} {n : Nat} (hn : n = dcs.length) (hb : n < 2 ^ 31) : va_up (rfs dcs) (nI n).toNatClampNeg (some q.1) = rfs (dcs ++ [q]) := by
  rw [nI_clamp hb]
  funext j
  unfold va_up rfs
  by_cases h : j = n
  · rw [if_pos h, h, hn, List.getElem?_concat_length]; rfl
  · rw [if_neg h]
    rcases Nat.lt_or_ge j dcs.length with h2 | h2
    · rw [List.getElem?_append_left h2]
    · rw [List.getElem?_eq_none h2, List.getElem?_eq_none (by rw [List.length_append]; show dcs.length + 1 ≤ j; omega)]
theorem rfs_cpy {dcs : va_W} {cap : Nat} (h : dcs.length ≤ cap) (hb : cap < 2 ^ 31) : va_cpy (rfs dcs) (fun _ => none) (0 : Int32).toNatClampNeg (0 : Int32).toNatClampNeg (nI cap).toNatClampNeg = rfs dcs := by
  funext j
  have e0 : (0 : Int32).toNatClampNeg = 0 := by decide
  rw [e0, nI_clamp hb]
  unfold va_cpy
  by_cases hj : j < cap
  · rw [if_pos ⟨Nat.zero_le _, by omega⟩]; exact congrArg (rfs dcs) (by omega)
  · rw [if_neg (fun z => hj (by omega))]
    unfold rfs
    rw [List.getElem?_eq_none (by omega)]; rfl
theorem AllC.add {dcs : va_W} {q : Nat × va_E} {vs : List Value} (h : AllC dcs) (hq : q.2 = .inr (1, vs)) : AllC (dcs ++ [q]) := by
  intro z hz
  rcases List.mem_append.mp hz with h1 | h1
  · exact h z h1
  · rw [List.mem_singleton.mp h1]; exact ⟨vs, hq⟩
theorem rfs_some {dcs : va_W} {i y : Nat} (h : rfs dcs i = some y) : ∃ e : va_E, (y, e) ∈ dcs := by
  unfold rfs at h
  cases hd : dcs[i]? with
  | none => rw [hd] at h; cases h
  | some q => rw [hd] at h; cases h; exact ⟨q.2, List.mem_of_getElem? hd⟩
theorem dJ7_copyOf_6403c_0 : decode cJ7_copyOf_6403c 0 = .ok (.aload_n 2, 1) := by decide +kernel
theorem dJ7_copyOf_6403c_1 : decode cJ7_copyOf_6403c 1 = .ok (.ldc 110, 2) := by decide +kernel
theorem dJ7_copyOf_6403c_3 : decode cJ7_copyOf_6403c 3 = .ok (.if_acmp .ne 10, 3) := by decide +kernel
theorem dJ7_copyOf_6403c_6 : decode cJ7_copyOf_6403c 6 = .ok (.iload_n 1, 1) := by decide +kernel
theorem dJ7_copyOf_6403c_7 : decode cJ7_copyOf_6403c 7 = .ok (.anewarray 2, 3) := by decide +kernel
theorem dJ7_copyOf_6403c_10 : decode cJ7_copyOf_6403c 10 = .ok (.goto 14, 3) := by decide +kernel
theorem dJ7_copyOf_6403c_13 : decode cJ7_copyOf_6403c 13 = .ok (.aload_n 2, 1) := by decide +kernel
theorem dJ7_copyOf_6403c_14 : decode cJ7_copyOf_6403c 14 = .ok (.invokevirtual 90, 3) := by decide +kernel
theorem dJ7_copyOf_6403c_17 : decode cJ7_copyOf_6403c 17 = .ok (.iload_n 1, 1) := by decide +kernel
theorem dJ7_copyOf_6403c_18 : decode cJ7_copyOf_6403c 18 = .ok (.invokestatic 95, 3) := by decide +kernel
theorem dJ7_copyOf_6403c_21 : decode cJ7_copyOf_6403c 21 = .ok (.checkcast 110, 3) := by decide +kernel
theorem dJ7_copyOf_6403c_24 : decode cJ7_copyOf_6403c 24 = .ok (.astore_n 3, 1) := by decide +kernel
theorem dJ7_copyOf_6403c_25 : decode cJ7_copyOf_6403c 25 = .ok (.aload_n 0, 1) := by decide +kernel
theorem dJ7_copyOf_6403c_26 : decode cJ7_copyOf_6403c 26 = .ok (.iconst 0, 1) := by decide +kernel
theorem dJ7_copyOf_6403c_27 : decode cJ7_copyOf_6403c 27 = .ok (.aload_n 3, 1) := by decide +kernel
theorem dJ7_copyOf_6403c_28 : decode cJ7_copyOf_6403c 28 = .ok (.iconst 0, 1) := by decide +kernel
theorem dJ7_copyOf_6403c_29 : decode cJ7_copyOf_6403c 29 = .ok (.aload_n 0, 1) := by decide +kernel
theorem dJ7_copyOf_6403c_30 : decode cJ7_copyOf_6403c 30 = .ok (.arraylength, 1) := by decide +kernel
theorem dJ7_copyOf_6403c_31 : decode cJ7_copyOf_6403c 31 = .ok (.iload_n 1, 1) := by decide +kernel
theorem dJ7_copyOf_6403c_32 : decode cJ7_copyOf_6403c 32 = .ok (.invokestatic 304, 3) := by decide +kernel
theorem dJ7_copyOf_6403c_35 : decode cJ7_copyOf_6403c 35 = .ok (.invokestatic 150, 3) := by decide +kernel
theorem dJ7_copyOf_6403c_38 : decode cJ7_copyOf_6403c 38 = .ok (.aload_n 3, 1) := by decide +kernel
theorem dJ7_copyOf_6403c_39 : decode cJ7_copyOf_6403c 39 = .ok (.areturn, 1) := by decide +kernel
theorem dJ7_copyOf_1904c_0 : decode cJ7_copyOf_1904c 0 = .ok (.aload_n 0, 1) := by decide +kernel
theorem dJ7_copyOf_1904c_1 : decode cJ7_copyOf_1904c 1 = .ok (.iload_n 1, 1) := by decide +kernel
theorem dJ7_copyOf_1904c_2 : decode cJ7_copyOf_1904c 2 = .ok (.aload_n 0, 1) := by decide +kernel
theorem dJ7_copyOf_1904c_3 : decode cJ7_copyOf_1904c 3 = .ok (.invokevirtual 86, 3) := by decide +kernel
theorem dJ7_copyOf_1904c_6 : decode cJ7_copyOf_1904c 6 = .ok (.invokestatic 300, 3) := by decide +kernel
theorem dJ7_copyOf_1904c_9 : decode cJ7_copyOf_1904c 9 = .ok (.areturn, 1) := by decide +kernel
theorem ml_getC : Cond.methodLink RJ7 86 ⟨"java/lang/Object", "getClass", "()Ljava/lang/Class;"⟩ ∈ lw_g := lw_gi 770 (by decide +kernel) (by decide +kernel)
theorem im_getC : Cond.instanceMethod ⟨"java/lang/Object", "getClass", "()Ljava/lang/Class;"⟩ ∈ lw_g := lw_gi 771 (by decide +kernel) (by decide +kernel)
theorem nt_getC : Cond.native ⟨"java/lang/Object", "getClass", "()Ljava/lang/Class;"⟩ ∈ lw_g := lw_gi 789 (by decide +kernel) (by decide +kernel)
theorem sl_getC : Cond.selects "[Ljava/lang/Object;" ⟨"java/lang/Object", "getClass", "()Ljava/lang/Class;"⟩ ⟨"java/lang/Object", "getClass", "()Ljava/lang/Class;"⟩ ∈ lw_g := lw_gi 1152 (by decide +kernel) (by decide +kernel)
theorem dc_getC : Cond.declares ⟨"java/lang/Object", "getClass", "()Ljava/lang/Class;"⟩ ∈ lw_tbl := List.mem_of_getElem? (i := 1153) (by decide +kernel)
set_option maxHeartbeats 4000000 in
set_option maxRecDepth 100000 in
/-- Arrays.copyOf(array, length, class), to a longer array -/
theorem c_cp3 (l : Launch) (g : Gm) (el cap N : Nat) (dcs : va_W) (hd : AllC dcs) (hn : dcs.length ≤ cap) (hc : cap < N) (hN : N ≤ 800) : MXr (S := Nat) l g yJ7_copyOf_6403c cJ7_copyOf_6403c 4 (.array (.object "java/lang/Object")) ({ frames := 1, cells := 1, slots := 800, locals := 600 } : Room) [.ref el, .int (nI N), .ref (g.2.2 3)] ([(el, .inl (g.2.1 4, cap, .inr (.inr (.inr (.inr (rfs dcs))))))] ++ dcs) (fun _ => True) (fun u => u) (fun u => [(el, .inl (g.2.1 4, cap, .inr (.inr (.inr (.inr (rfs dcs)))))), (u, .inl (g.2.1 4, N, .inr (.inr (.inr (.inr (rfs dcs))))))] ++ dcs) (fun _ => (1, 800)) := by
  intro sz tt
  refine ofX RJ7 rfl (by decide +kernel) (Nat.le_of_ble_eq_true rfl) (fun p e s m args below meth c hargs S hml hr hlk hnm hsz htt hK hA hZ E ls hl => ?_)
  have hx := S.1
  have hb := S.2.1
  have hl : lv_has ls 4 [(0, .ref el), (1, .int (nI N)), (2, .ref (g.2.2 3))] := hl
  refine lv_aload_n hx hb dJ7_copyOf_6403c_0 rfl (lv_at hl 2 rfl) ?_
  refine va_ldcM hx hb S.2.2.2 (S.2.2.1 _ cl_J7_110) hZ.2.2.2.2.2.2.2.2.2.1 dJ7_copyOf_6403c_1 ?_
  refine lv_acmp_ne (rx := some (g.2.2 3)) (ry := some (g.2.2 3)) (tgt := 13) hx hb dJ7_copyOf_6403c_3 (by decide) (fun c_ => absurd rfl c_) (fun _ => ?_)
  refine lv_iload_n hx hb dJ7_copyOf_6403c_6 rfl (lv_at hl 1 rfl) ?_
  refine w_newq (N' := N) 4 S hK E hA rfl cl_J7_2 hZ.2.2.2.1.1 (nI_pos (by omega)) (nI_clamp (by omega)) (by omega) (Nat.le_of_ble_eq_true rfl) (by show 0 + N ≤ 800; omega) dJ7_copyOf_6403c_7 (fun q1 H E => ?_)
  have E : Ev g _ s.heap H _ ([(el, .inl (g.2.1 4, cap, .inr (.inr (.inr (.inr (rfs dcs)))))), (q1, .inl (g.2.1 4, N, .inr (.inr (.inr (.inr (fun _ => none))))))] ++ dcs) := Ev.tl (a := [(el, .inl (g.2.1 4, cap, .inr (.inr (.inr (.inr (rfs dcs))))))]) (t := dcs) (c := [(q1, .inl (g.2.1 4, N, .inr (.inr (.inr (.inr (fun _ => none))))))]) E
  refine lv_goto (tgt := 24) hx hb dJ7_copyOf_6403c_10 (by decide) ?_
  refine lv_astore_n (lv' := [(3, .ref q1), (0, .ref el), (1, .int (nI N)), (2, .ref (g.2.2 3))]) hx hb dJ7_copyOf_6403c_24 rfl hl (by decide) rfl (fun ls hl => ?_)
  refine lv_aload_n hx hb dJ7_copyOf_6403c_25 rfl (lv_at hl 1 rfl) ?_
  refine lv_iconst (v := 0) hx hb dJ7_copyOf_6403c_26 (by decide) ?_
  refine lv_aload_n hx hb dJ7_copyOf_6403c_27 rfl (lv_at hl 0 rfl) ?_
  refine lv_iconst (v := 0) hx hb dJ7_copyOf_6403c_28 (by decide) ?_
  refine lv_aload_n hx hb dJ7_copyOf_6403c_29 rfl (lv_at hl 1 rfl) ?_
  refine w_alen (v := nI cap) S hK E 0 4 rfl rfl rfl dJ7_copyOf_6403c_30 ?_
  refine lv_iload_n hx hb dJ7_copyOf_6403c_31 rfl (lv_at hl 2 rfl) ?_
  refine w_min (v := (mn (nI cap) (nI N))) S hml hl ml_J7_304 st_min in_J9 co_min (Nat.le_of_ble_eq_true rfl) (Nat.le_of_ble_eq_true rfl) ⟨Nat.le_of_ble_eq_true rfl, (by show 0 + N ≤ 800; omega)⟩ rfl dJ7_copyOf_6403c_32 ?_
  rw [show ((mn (nI cap) (nI N)) : Int32) = (nI cap) from mn_l (by omega) (by omega)]
  have hE := E
  refine va_copyq (C := RX1) (q0 := 0) (q1 := 1) (t0 := 4) (t1 := 4) hx hb (hml.trans hl.1.symm) S.2.2.2 (S.2.2.1 _ ml_J7_150) (S.2.2.1 _ nt_arraycopy) (S.2.2.1 _ st_arraycopy) (S.2.2.1 _ in_J10) hK E.1 E.2.1 E.2.2 (ha0 := rfl) (ha1 := rfl) (ht0 := rfl) (ht1 := rfl) (by decide) (by decide) (nI_pos (by omega)) (by rw [nI_clamp (by omega)]; show 0 + cap ≤ cap; omega) (by rw [nI_clamp (by omega)]; show 0 + cap ≤ N; omega) (fun i _ y hy => ?_) (fun comp c0 h1 h2 => vb_asgC (hZ.2.2.2.2.2.2.1 _ nw_X1 rfl) comp c0 h1 h2) (Nat.le_of_ble_eq_true rfl) (Nat.le_of_ble_eq_true rfl) dJ7_copyOf_6403c_35 (fun H locs hP hD hS => ?_)
  · obtain ⟨e0, he0⟩ := rfs_some hy
    obtain ⟨vs, rfl⟩ := hd _ he0
    obtain ⟨i0, hi0⟩ := List.getElem?_of_mem (List.mem_append_right [(el, .inl (g.2.1 4, cap, .inr (.inr (.inr (.inr (rfs dcs)))))), (q1, .inl (g.2.1 4, N, .inr (.inr (.inr (.inr (fun _ => none))))))] he0)
    obtain ⟨cell, h1, h2, h3⟩ := va_recv hK hE.1 (ci := 1) rfl hi0
    exact ⟨cell, h1, h2, h3⟩
  have E : Ev g _ s.heap H locs ([(el, .inl (g.2.1 4, cap, .inr (.inr (.inr (.inr (rfs dcs)))))), (q1, .inl (g.2.1 4, N, .inr (.inr (.inr (.inr (va_cpy (rfs dcs) (fun _ => none) (0 : Int32).toNatClampNeg (0 : Int32).toNatClampNeg (nI cap).toNatClampNeg))))))] ++ dcs) := ⟨hP, hD, hS⟩
  rw [rfs_cpy hn (by omega)] at E
  refine lv_aload_n hx hb dJ7_copyOf_6403c_38 rfl (lv_at hl 0 rfl) ?_
  exact x_aret q1 S hr (by first | exact Or.inl ⟨_, rfl⟩ | exact Or.inr ⟨_, rfl⟩) hlk hsz htt hK E dJ7_copyOf_6403c_39 trivial rfl rfl ⟨Nat.le_of_ble_eq_true rfl, (by show 0 + N ≤ 800; omega)⟩ ⟨Nat.le_of_ble_eq_true rfl, (by show 0 + N ≤ 800; omega)⟩
set_option maxHeartbeats 4000000 in
set_option maxRecDepth 100000 in
/-- Arrays.copyOf(array, length), to a longer array -/
theorem c_cp2 (l : Launch) (g : Gm) (el cap N : Nat) (dcs : va_W) (hd : AllC dcs) (hn : dcs.length ≤ cap) (hc : cap < N) (hN : N ≤ 800) : MXr (S := Nat) l g yJ7_copyOf_1904c cJ7_copyOf_1904c 2 (.array (.object "java/lang/Object")) ({ frames := 2, cells := 1, slots := 800, locals := 700 } : Room) [.ref el, .int (nI N)] ([(el, .inl (g.2.1 4, cap, .inr (.inr (.inr (.inr (rfs dcs))))))] ++ dcs) (fun _ => True) (fun u => u) (fun u => [(el, .inl (g.2.1 4, cap, .inr (.inr (.inr (.inr (rfs dcs)))))), (u, .inl (g.2.1 4, N, .inr (.inr (.inr (.inr (rfs dcs))))))] ++ dcs) (fun _ => (1, 800)) := by
  intro sz tt
  refine ofX RJ7 rfl (by decide +kernel) (Nat.le_of_ble_eq_true rfl) (fun p e s m args below meth c hargs S hml hr hlk hnm hsz htt hK hA hZ E ls hl => ?_)
  have hx := S.1
  have hb := S.2.1
  have hl : lv_has ls 2 [(0, .ref el), (1, .int (nI N))] := hl
  refine lv_aload_n hx hb dJ7_copyOf_1904c_0 rfl (lv_at hl 0 rfl) ?_
  refine lv_iload_n hx hb dJ7_copyOf_1904c_1 rfl (lv_at hl 1 rfl) ?_
  refine lv_aload_n hx hb dJ7_copyOf_1904c_2 rfl (lv_at hl 0 rfl) ?_
  refine va_getC (C := "[Ljava/lang/Object;") (mi := g.2.2 3) hx hb (hml.trans hl.1.symm) S.2.2.2 (S.2.2.1 _ ml_getC) (va_Nw.use rfl (hZ.2.2.2.2.2.2.1 _ dc_getC rfl)) (S.2.2.1 _ sl_getC) (S.2.2.1 _ im_getC) (S.2.2.1 _ nt_getC) hZ.2.2.2.2.2.2.2.2.2.1 ⟨_, E.1 0 _ rfl, rfl, va_nmO (hK.2 4 _ rfl).2 (by decide +kernel)⟩ (Nat.le_of_ble_eq_true rfl) (Nat.le_of_ble_eq_true rfl) dJ7_copyOf_1904c_3 ?_
  refine w_retr (runS_X (As := [.ref el, .int (nI N), .ref (g.2.2 3)]) (rest := []) (n := 3) S hml hK (hZ.at E) (Cut.full E hA) (c_cp3 l g el cap N dcs hd hn hc hN _ _) ml_J7_300 st_J7_copyOf_6403c in_J7 co_J7_copyOf_6403c ⟨by decide +kernel, by decide +kernel, by decide +kernel⟩ ⟨Nat.le_of_ble_eq_true rfl, Nat.le_of_ble_eq_true rfl⟩ rfl hl.1 rfl (Nat.le_of_ble_eq_true rfl) dJ7_copyOf_1904c_6 ⟨Nat.le_of_ble_eq_true rfl, Nat.le_of_ble_eq_true rfl⟩) (Cut.full E hA) E (fun u1 H locs hp E => ?_)
  exact x_aret u1 S hr (by first | exact Or.inl ⟨_, rfl⟩ | exact Or.inr ⟨_, rfl⟩) hlk hsz htt hK E dJ7_copyOf_1904c_9 trivial rfl rfl ⟨Nat.le_of_ble_eq_true rfl, Nat.le_of_ble_eq_true rfl⟩ ⟨Nat.le_of_ble_eq_true rfl, Nat.le_of_ble_eq_true rfl⟩
theorem i_shr1 {n : Nat} (h : n < 2 ^ 31) : (nI n) >>> ((1 : Int32) &&& 31) = nI (n / 2) := pk_shrN h ((1 : Int32) &&& 31) 1 (by decide)
theorem gr_len {n : Nat} (h : n < 2 ^ 30) : nI (n + 1) - nI n = nI 1 := by
  rw [pk_sub (by omega)]
  congr 1
  omega
set_option maxHeartbeats 4000000 in
set_option maxRecDepth 100000 in
/-- ArrayList.grow(n + 1), of a full list -/
theorem c_grG (l : Launch) (g : Gm) (a : Nat) (mc : Int32) (el : Nat) (n : Nat) (dcs : va_W) (hd : AllC dcs) (hn : n = dcs.length) (h2 : 2 ≤ n) (hb512 : n ≤ 512) : MXr (S := Nat) l g yJx4a65c_grow_92f84 cJx4a65c_grow_92f84 4 (.array (.object "java/lang/Object")) ({ frames := 3, cells := 1, slots := 800, locals := 721 } : Room) [.ref a, .int (nI (n + 1))] ([(a, .inr (8, [.int mc, .ref el, .int (nI n)])), (el, .inl (g.2.1 4, n, .inr (.inr (.inr (.inr (rfs dcs))))))] ++ dcs) (fun _ => True) (fun u => u) (fun u => ([(a, .inr (8, [.int mc, .ref u, .int (nI n)])), (u, .inl (g.2.1 4, (n + n / 2), .inr (.inr (.inr (.inr (rfs dcs))))))] ++ dcs)) (fun _ => (1, 800)) := by
  intro sz tt
  refine ofX RJx4a65c rfl (by decide +kernel) (Nat.le_of_ble_eq_true rfl) (fun p e s m args below meth c hargs S hml hr hlk hnm hsz htt hK hA hZ E ls hl => ?_)
  have hx := S.1
  have hb := S.2.1
  have hl : lv_has ls 4 [(0, .ref a), (1, .int (nI (n + 1)))] := hl
  refine lv_aload_n hx hb dJx4a65c_grow_92f84_0 rfl (lv_at hl 0 rfl) ?_
  refine wg_Jx4a65c_9 (v := .ref el) S hK E 0 rfl rfl dJx4a65c_grow_92f84_1 ?_
  refine w_alen (v := (nI n)) S hK E 1 4 rfl rfl rfl dJx4a65c_grow_92f84_4 ?_
  refine lv_istore_n (lv' := [(2, .int (nI n)), (0, .ref a), (1, .int (nI (n + 1)))]) hx hb dJx4a65c_grow_92f84_5 rfl hl (by decide) rfl (fun ls hl => ?_)
  refine lv_iload_n hx hb dJx4a65c_grow_92f84_6 rfl (lv_at hl 0 rfl) ?_
  refine lv_if_gt (tgt := 20) hx hb dJx4a65c_grow_92f84_7 (by decide) (fun _ => ?_) (fun c_ => absurd ((nI_ltI (a := 0) (b := n) (by omega) (by omega)).mpr (by omega)) c_)
  refine lv_iload_n hx hb dJx4a65c_grow_92f84_20 rfl (lv_at hl 0 rfl) ?_
  refine lv_iload_n hx hb dJx4a65c_grow_92f84_21 rfl (lv_at hl 2 rfl) ?_
  refine lv_iload_n hx hb dJx4a65c_grow_92f84_22 rfl (lv_at hl 0 rfl) ?_
  refine k_isub (v := (nI 1)) hx hb (gr_len (by omega)) dJx4a65c_grow_92f84_23 ?_
  refine lv_iload_n hx hb dJx4a65c_grow_92f84_24 rfl (lv_at hl 0 rfl) ?_
  refine lv_iconst (v := 1) hx hb dJx4a65c_grow_92f84_25 (by decide) ?_
  refine k_ishr (v := (nI (n / 2))) hx hb (i_shr1 (by omega)) dJx4a65c_grow_92f84_26 ?_
  refine w_reti (runS_X (As := [.int (nI n), .int (nI 1), .int (nI (n / 2))]) (rest := []) (n := 3) S hml hK (hZ.at E) (Cut.ofT (a := [(a, .inr (8, [.int mc, .ref el, .int (nI n)])), (el, .inl (g.2.1 4, n, .inr (.inr (.inr (.inr (rfs dcs))))))]) (wc := ([] : va_W)) (wr := [(a, .inr (8, [.int mc, .ref el, .int (nI n)])), (el, .inl (g.2.1 4, n, .inr (.inr (.inr (.inr (rfs dcs))))))]) E hA [] [0, 1] rfl rfl rfl) (c_J8_newLength_cabcc l g n 1 (n / 2) (by omega) (by omega) (by omega) _ _) ml_Jx4a65c_73 st_J8_newLength_cabcc in_J8 co_J8_newLength_cabcc ⟨by decide +kernel, by decide +kernel, by decide +kernel⟩ ⟨Nat.le_of_ble_eq_true rfl, Nat.le_of_ble_eq_true rfl⟩ rfl hl.1 rfl (Nat.le_of_ble_eq_true rfl) dJx4a65c_grow_92f84_27 ⟨Nat.le_of_ble_eq_true rfl, Nat.le_of_ble_eq_true rfl⟩) (Cut.ofT (a := [(a, .inr (8, [.int mc, .ref el, .int (nI n)])), (el, .inl (g.2.1 4, n, .inr (.inr (.inr (.inr (rfs dcs))))))]) (wc := ([] : va_W)) (wr := [(a, .inr (8, [.int mc, .ref el, .int (nI n)])), (el, .inl (g.2.1 4, n, .inr (.inr (.inr (.inr (rfs dcs))))))]) E hA [] [0, 1] rfl rfl rfl) E (fun r1 u1 H locs hp E => ?_)
  have E : Ev g _ s.heap H locs ([(a, .inr (8, [.int mc, .ref el, .int (nI n)])), (el, .inl (g.2.1 4, n, .inr (.inr (.inr (.inr (rfs dcs))))))] ++ dcs) := Ev.nilr E
  have hq := hp.symm
  subst hq
  refine lv_istore_n (lv' := [(3, .int (nI (n + (n / 2)))), (2, .int (nI n)), (0, .ref a), (1, .int (nI (n + 1)))]) hx hb dJx4a65c_grow_92f84_30 rfl hl (by decide) rfl (fun ls hl => ?_)
  refine lv_aload_n hx hb dJx4a65c_grow_92f84_31 rfl (lv_at hl 2 rfl) ?_
  refine lv_aload_n hx hb dJx4a65c_grow_92f84_32 rfl (lv_at hl 2 rfl) ?_
  refine wg_Jx4a65c_9 (v := .ref el) S hK E 0 rfl rfl dJx4a65c_grow_92f84_33 ?_
  refine lv_iload_n hx hb dJx4a65c_grow_92f84_36 rfl (lv_at hl 0 rfl) ?_
  refine w_retr (runS_X (As := [.ref el, .int (nI (n + (n / 2)))]) (rest := [.ref a]) (n := 2) S hml hK (hZ.at E) (Cut.ofTT (a := [(a, .inr (8, [.int mc, .ref el, .int (nI n)])), (el, .inl (g.2.1 4, n, .inr (.inr (.inr (.inr (rfs dcs))))))]) (wc := [(el, .inl (g.2.1 4, n, .inr (.inr (.inr (.inr (rfs dcs))))))]) (wr := [(a, .inr (8, [.int mc, .ref el, .int (nI n)]))]) E hA [1] [0] rfl rfl rfl) (c_cp2 l g el n (n + (n / 2)) dcs hd (by omega) (by omega) (by omega) _ _) ml_Jx4a65c_66 st_J7_copyOf_1904c in_J7 co_J7_copyOf_1904c ⟨by decide +kernel, by decide +kernel, by decide +kernel⟩ ⟨Nat.le_of_ble_eq_true rfl, Nat.le_of_ble_eq_true rfl⟩ rfl hl.1 rfl (Nat.le_of_ble_eq_true rfl) dJx4a65c_grow_92f84_37 ⟨Nat.le_of_ble_eq_true rfl, Nat.le_of_ble_eq_true rfl⟩) (Cut.ofTT (a := [(a, .inr (8, [.int mc, .ref el, .int (nI n)])), (el, .inl (g.2.1 4, n, .inr (.inr (.inr (.inr (rfs dcs))))))]) (wc := [(el, .inl (g.2.1 4, n, .inr (.inr (.inr (.inr (rfs dcs))))))]) (wr := [(a, .inr (8, [.int mc, .ref el, .int (nI n)]))]) E hA [1] [0] rfl rfl rfl) E (fun u2 H locs hp E => ?_)
  have E : Ev g _ s.heap H locs ([(a, .inr (8, [.int mc, .ref el, .int (nI n)])), (el, .inl (g.2.1 4, n, .inr (.inr (.inr (.inr (rfs dcs)))))), (u2, .inl (g.2.1 4, (n + (n / 2)), .inr (.inr (.inr (.inr (rfs dcs))))))] ++ dcs) := Ev.asc (a := [(a, .inr (8, [.int mc, .ref el, .int (nI n)]))]) (t := [(el, .inl (g.2.1 4, n, .inr (.inr (.inr (.inr (rfs dcs)))))), (u2, .inl (g.2.1 4, (n + (n / 2)), .inr (.inr (.inr (.inr (rfs dcs))))))]) (c := dcs) E
  refine lv_dup_x1 hx hb dJx4a65c_grow_92f84_40 rfl rfl ?_
  refine wp_Jx4a65c_9 (w' := ([(a, .inr (8, [.int mc, .ref u2, .int (nI n)])), (el, .inl (g.2.1 4, n, .inr (.inr (.inr (.inr (rfs dcs)))))), (u2, .inl (g.2.1 4, (n + (n / 2)), .inr (.inr (.inr (.inr (rfs dcs))))))] ++ dcs)) S hK E 0 rfl rfl rfl (Nat.le_of_ble_eq_true rfl) rfl dJx4a65c_grow_92f84_41 (fun H locs E => ?_)
  have E : Ev g _ s.heap H locs ([(a, .inr (8, [.int mc, .ref u2, .int (nI n)])), (u2, .inl (g.2.1 4, (n + (n / 2)), .inr (.inr (.inr (.inr (rfs dcs))))))] ++ dcs) := Ev.subT (a := [(a, .inr (8, [.int mc, .ref u2, .int (nI n)])), (el, .inl (g.2.1 4, n, .inr (.inr (.inr (.inr (rfs dcs)))))), (u2, .inl (g.2.1 4, (n + (n / 2)), .inr (.inr (.inr (.inr (rfs dcs))))))]) E [0, 2] rfl rfl
  exact x_aret u2 S hr (by first | exact Or.inl ⟨_, rfl⟩ | exact Or.inr ⟨_, rfl⟩) hlk hsz htt hK E dJx4a65c_grow_92f84_44 trivial rfl rfl ⟨Nat.le_of_ble_eq_true rfl, Nat.le_of_ble_eq_true rfl⟩ ⟨Nat.le_of_ble_eq_true rfl, Nat.le_of_ble_eq_true rfl⟩

set_option maxHeartbeats 4000000 in
set_option maxRecDepth 100000 in
/-- ArrayList.grow(), of a full list -/
theorem c_gr2 (l : Launch) (g : Gm) (a : Nat) (mc : Int32) (el : Nat) (n : Nat) (dcs : va_W) (hd : AllC dcs) (hn : n = dcs.length) (h2 : 2 ≤ n) (hb512 : n ≤ 512) : MXr (S := Nat) l g yJx4a65c_grow_d5877 cJx4a65c_grow_d5877 1 (.array (.object "java/lang/Object")) ({ frames := 4, cells := 1, slots := 800, locals := 744 } : Room) [.ref a] ([(a, .inr (8, [.int mc, .ref el, .int (nI n)])), (el, .inl (g.2.1 4, n, .inr (.inr (.inr (.inr (rfs dcs))))))] ++ dcs) (fun _ => True) (fun u => u) (fun u => ([(a, .inr (8, [.int mc, .ref u, .int (nI n)])), (u, .inl (g.2.1 4, (n + n / 2), .inr (.inr (.inr (.inr (rfs dcs))))))] ++ dcs)) (fun _ => (1, 800)) := by
  intro sz tt
  refine ofX RJx4a65c rfl (by decide +kernel) (Nat.le_of_ble_eq_true rfl) (fun p e s m args below meth c hargs S hml hr hlk hnm hsz htt hK hA hZ E ls hl => ?_)
  have hx := S.1
  have hb := S.2.1
  have hl : lv_has ls 1 [(0, .ref a)] := hl
  refine lv_aload_n hx hb dJx4a65c_grow_d5877_0 rfl (lv_at hl 0 rfl) ?_
  refine lv_aload_n hx hb dJx4a65c_grow_d5877_1 rfl (lv_at hl 0 rfl) ?_
  refine wg_Jx4a65c_48 (v := .int (nI n)) S hK E 0 rfl rfl dJx4a65c_grow_d5877_2 ?_
  refine lv_iconst (v := 1) hx hb dJx4a65c_grow_d5877_5 (by decide) ?_
  refine k_iadd (v := (nI (n + 1))) hx hb (nI_1 n) dJx4a65c_grow_d5877_6 ?_
  refine w_retr (runV_X (As := [.int (nI (n + 1))]) (rest := []) (q0 := 0) (n := 1) S hml hK (hZ.at E) (Cut.full E hA) (c_grG l g a mc el n dcs hd (by omega) (by omega) (by omega) _ _) (gi_wsV ml_Jx4a65c_69 im_Jx4a65c_grow_92f84 sl_Jx4a65c_grow_92f84 in_Jx4a65c co_Jx4a65c_grow_92f84) ⟨rfl, by decide +kernel, by decide +kernel, by decide +kernel⟩ ⟨Nat.le_of_ble_eq_true rfl, Nat.le_of_ble_eq_true rfl⟩ rfl rfl rfl hl.1 rfl (Nat.le_of_ble_eq_true rfl) dJx4a65c_grow_d5877_7 ⟨Nat.le_of_ble_eq_true rfl, Nat.le_of_ble_eq_true rfl⟩) (Cut.full E hA) E (fun u1 H locs hp E => ?_)
  have E : Ev g _ s.heap H locs ([(a, .inr (8, [.int mc, .ref u1, .int (nI n)])), (u1, .inl (g.2.1 4, (n + n / 2), .inr (.inr (.inr (.inr (rfs dcs))))))] ++ dcs) := E
  exact x_aret u1 S hr (by first | exact Or.inl ⟨_, rfl⟩ | exact Or.inr ⟨_, rfl⟩) hlk hsz htt hK E dJx4a65c_grow_d5877_10 trivial rfl rfl ⟨Nat.le_of_ble_eq_true rfl, Nat.le_of_ble_eq_true rfl⟩ ⟨Nat.le_of_ble_eq_true rfl, Nat.le_of_ble_eq_true rfl⟩

set_option maxHeartbeats 4000000 in
set_option maxRecDepth 100000 in
/-- ArrayList.add(e, elementData, size) -/
theorem c_ad3G (l : Launch) (g : Gm) (a : Nat) (mc : Int32) (el : Nat) (cap : Nat) (n : Nat) (dcs : va_W) (eo : Nat) (ec : va_E) (hd : AllC dcs) (hn : n = dcs.length) (hnc : n ≤ cap) (hc1 : 10 ≤ cap) (hc2 : cap ≤ 800) (hb512 : n ≤ 511) (hAny : ∀ (s : State) (H : Heap), va_K g.1 vwC (tysG g) s → NWs s → va_at g.1 vwC (eo, ec) H → va_Any "java/lang/Object" s H eo) : MXv (S := Nat × Nat) l g yJx4a65c_add_72be8 cJx4a65c_add_72be8 4 ({ frames := 5, cells := 1, slots := 800, locals := 764 } : Room) [.ref a, .ref eo, .ref el, .int (nI n)] ([(a, .inr (8, [.int mc, .ref el, .int (nI n)])), (el, .inl (g.2.1 4, cap, .inr (.inr (.inr (.inr (rfs dcs)))))), (eo, ec)] ++ dcs) (fun u => n + 1 ≤ u.2 ∧ 10 ≤ u.2 ∧ u.2 ≤ 800) (fun u => ([(a, .inr (8, [.int mc, .ref u.1, .int (nI (n + 1))])), (u.1, .inl (g.2.1 4, u.2, .inr (.inr (.inr (.inr (rfs (dcs ++ [(eo, ec)])))))))] ++ (dcs ++ [(eo, ec)]))) (fun _ => (1, 800)) := by
  intro sz tt
  refine ofX RJx4a65c rfl (by decide +kernel) (Nat.le_of_ble_eq_true rfl) (fun p e s m args below meth c hargs S hml hr hlk hnm hsz htt hK hA hZ E ls hl => ?_)
  have hx := S.1
  have hb := S.2.1
  have hl : lv_has ls 4 [(0, .ref a), (1, .ref eo), (2, .ref el), (3, .int (nI n))] := hl
  refine lv_iload_n hx hb dJx4a65c_add_72be8_0 rfl (lv_at hl 3 rfl) ?_
  refine lv_aload_n hx hb dJx4a65c_add_72be8_1 rfl (lv_at hl 2 rfl) ?_
  refine w_alen (v := (nI cap)) S hK E 1 4 rfl rfl rfl dJx4a65c_add_72be8_2 ?_
  refine lv_icmp_ne (tgt := 11) hx hb dJx4a65c_add_72be8_3 (by decide) (fun c1 => ?_) (fun c1 => ?_)
  · have c1 : ¬ ((nI n) = (nI cap)) := c1
    have c1n : ¬ (n = cap) := fun z => c1 ((nI_eq (by omega) (by omega)).mpr z)
    refine lv_aload_n hx hb dJx4a65c_add_72be8_11 rfl (lv_at hl 2 rfl) ?_
    refine lv_iload_n hx hb dJx4a65c_add_72be8_12 rfl (lv_at hl 3 rfl) ?_
    refine lv_aload_n hx hb dJx4a65c_add_72be8_13 rfl (lv_at hl 1 rfl) ?_
    refine w_astM (w' := ([(a, .inr (8, [.int mc, .ref el, .int (nI n)])), (el, .inl (g.2.1 4, cap, .inr (.inr (.inr (.inr (va_up (rfs dcs) (nI n).toNatClampNeg (some eo))))))), (eo, ec)] ++ dcs)) S hK E 1 4 rfl rfl (hAny s _ hK hZ.2.2.2.2.2.2.1 (E.1 2 _ rfl)) (vp_in_nI (n := n) (by omega) (by omega)) rfl dJx4a65c_add_72be8_14 (fun H locs E => ?_)
    refine lv_aload_n hx hb dJx4a65c_add_72be8_15 rfl (lv_at hl 0 rfl) ?_
    refine lv_iload_n hx hb dJx4a65c_add_72be8_16 rfl (lv_at hl 3 rfl) ?_
    refine lv_iconst (v := 1) hx hb dJx4a65c_add_72be8_17 (by decide) ?_
    refine k_iadd (v := (nI (n + 1))) hx hb (nI_1 n) dJx4a65c_add_72be8_18 ?_
    refine wp_Jx4a65c_48 (w' := ([(a, .inr (8, [.int mc, .ref el, .int (nI (n + 1))])), (el, .inl (g.2.1 4, cap, .inr (.inr (.inr (.inr (va_up (rfs dcs) (nI n).toNatClampNeg (some eo))))))), (eo, ec)] ++ dcs)) S hK E 0 rfl rfl rfl (Nat.le_of_ble_eq_true rfl) rfl dJx4a65c_add_72be8_19 (fun H locs E => ?_)
    rw [rfs_add (q := (eo, ec)) hn (by omega)] at E
    have E : Ev g _ s.heap H locs ([(a, .inr (8, [.int mc, .ref el, .int (nI (n + 1))])), (el, .inl (g.2.1 4, cap, .inr (.inr (.inr (.inr (rfs (dcs ++ [(eo, ec)])))))))] ++ (dcs ++ [(eo, ec)])) := Ev.asc' (a := [(a, .inr (8, [.int mc, .ref el, .int (nI (n + 1))])), (el, .inl (g.2.1 4, cap, .inr (.inr (.inr (.inr (rfs (dcs ++ [(eo, ec)])))))))]) (t := dcs) (c := [(eo, ec)]) (Ev.tl (a := [(a, .inr (8, [.int mc, .ref el, .int (nI (n + 1))])), (el, .inl (g.2.1 4, cap, .inr (.inr (.inr (.inr (rfs (dcs ++ [(eo, ec)])))))))]) (t := [(eo, ec)]) (c := dcs) (Ev.subT (a := [(a, .inr (8, [.int mc, .ref el, .int (nI (n + 1))])), (el, .inl (g.2.1 4, cap, .inr (.inr (.inr (.inr (rfs (dcs ++ [(eo, ec)]))))))), (eo, ec)]) (a' := [(a, .inr (8, [.int mc, .ref el, .int (nI (n + 1))])), (el, .inl (g.2.1 4, cap, .inr (.inr (.inr (.inr (rfs (dcs ++ [(eo, ec)]))))))), (eo, ec)]) E [0, 1, 2] rfl rfl))
    exact x_vret (el, cap) S hr hlk hsz htt hK E dJx4a65c_add_72be8_22 ⟨by show n + 1 ≤ cap; omega, by show 10 ≤ cap; omega, by show cap ≤ 800; omega⟩ rfl ⟨Nat.le_of_ble_eq_true rfl, Nat.le_of_ble_eq_true rfl⟩ ⟨Nat.le_of_ble_eq_true rfl, Nat.le_of_ble_eq_true rfl⟩
  · have c1 : (nI n) = (nI cap) := c1
    have c1n : n = cap := (nI_eq (by omega) (by omega)).mp c1
    subst c1n
    refine lv_aload_n hx hb dJx4a65c_add_72be8_6 rfl (lv_at hl 0 rfl) ?_
    refine w_retr (runV_X (As := []) (rest := []) (q0 := 0) (n := 0) S hml hK (hZ.at E) (Cut.ofTT (a := [(a, .inr (8, [.int mc, .ref el, .int (nI n)])), (el, .inl (g.2.1 4, n, .inr (.inr (.inr (.inr (rfs dcs)))))), (eo, ec)]) (wc := [(a, .inr (8, [.int mc, .ref el, .int (nI n)])), (el, .inl (g.2.1 4, n, .inr (.inr (.inr (.inr (rfs dcs))))))]) (wr := [(eo, ec)]) E hA [0, 1] [2] rfl rfl rfl) (c_gr2 l g a mc el n dcs hd hn (by omega) (by omega) _ _) (gi_wsV ml_Jx4a65c_129 im_Jx4a65c_grow_d5877 sl_Jx4a65c_grow_d5877 in_Jx4a65c co_Jx4a65c_grow_d5877) ⟨rfl, by decide +kernel, by decide +kernel, by decide +kernel⟩ ⟨Nat.le_of_ble_eq_true rfl, Nat.le_of_ble_eq_true rfl⟩ rfl rfl rfl hl.1 rfl (Nat.le_of_ble_eq_true rfl) dJx4a65c_add_72be8_7 ⟨Nat.le_of_ble_eq_true rfl, Nat.le_of_ble_eq_true rfl⟩) (Cut.ofTT (a := [(a, .inr (8, [.int mc, .ref el, .int (nI n)])), (el, .inl (g.2.1 4, n, .inr (.inr (.inr (.inr (rfs dcs)))))), (eo, ec)]) (wc := [(a, .inr (8, [.int mc, .ref el, .int (nI n)])), (el, .inl (g.2.1 4, n, .inr (.inr (.inr (.inr (rfs dcs))))))]) (wr := [(eo, ec)]) E hA [0, 1] [2] rfl rfl rfl) E (fun u2 H locs hp E => ?_)
    have E : Ev g _ s.heap H locs ([(eo, ec), (a, .inr (8, [.int mc, .ref u2, .int (nI n)])), (u2, .inl (g.2.1 4, (n + n / 2), .inr (.inr (.inr (.inr (rfs dcs))))))] ++ dcs) := Ev.asc (a := [(eo, ec)]) (t := [(a, .inr (8, [.int mc, .ref u2, .int (nI n)])), (u2, .inl (g.2.1 4, (n + n / 2), .inr (.inr (.inr (.inr (rfs dcs))))))]) (c := dcs) E
    refine lv_astore_n (lv' := [(2, .ref u2), (0, .ref a), (1, .ref eo), (3, .int (nI n))]) hx hb dJx4a65c_add_72be8_10 rfl hl (by decide) rfl (fun ls hl => ?_)
    refine lv_aload_n hx hb dJx4a65c_add_72be8_11 rfl (lv_at hl 0 rfl) ?_
    refine lv_iload_n hx hb dJx4a65c_add_72be8_12 rfl (lv_at hl 3 rfl) ?_
    refine lv_aload_n hx hb dJx4a65c_add_72be8_13 rfl (lv_at hl 2 rfl) ?_
    refine w_astM (w' := ([(eo, ec), (a, .inr (8, [.int mc, .ref u2, .int (nI n)])), (u2, .inl (g.2.1 4, (n + n / 2), .inr (.inr (.inr (.inr (va_up (rfs dcs) (nI n).toNatClampNeg (some eo)))))))] ++ dcs)) S hK E 2 4 rfl rfl (hAny s _ hK hZ.2.2.2.2.2.2.1 (E.1 0 _ rfl)) (vp_in_nI (n := n) (by omega) (by omega)) rfl dJx4a65c_add_72be8_14 (fun H locs E => ?_)
    refine lv_aload_n hx hb dJx4a65c_add_72be8_15 rfl (lv_at hl 1 rfl) ?_
    refine lv_iload_n hx hb dJx4a65c_add_72be8_16 rfl (lv_at hl 3 rfl) ?_
    refine lv_iconst (v := 1) hx hb dJx4a65c_add_72be8_17 (by decide) ?_
    refine k_iadd (v := (nI (n + 1))) hx hb (nI_1 n) dJx4a65c_add_72be8_18 ?_
    refine wp_Jx4a65c_48 (w' := ([(eo, ec), (a, .inr (8, [.int mc, .ref u2, .int (nI (n + 1))])), (u2, .inl (g.2.1 4, (n + n / 2), .inr (.inr (.inr (.inr (va_up (rfs dcs) (nI n).toNatClampNeg (some eo)))))))] ++ dcs)) S hK E 1 rfl rfl rfl (Nat.le_of_ble_eq_true rfl) rfl dJx4a65c_add_72be8_19 (fun H locs E => ?_)
    rw [rfs_add (q := (eo, ec)) hn (by omega)] at E
    have E : Ev g _ s.heap H locs ([(a, .inr (8, [.int mc, .ref u2, .int (nI (n + 1))])), (u2, .inl (g.2.1 4, (n + n / 2), .inr (.inr (.inr (.inr (rfs (dcs ++ [(eo, ec)])))))))] ++ (dcs ++ [(eo, ec)])) := Ev.asc' (a := [(a, .inr (8, [.int mc, .ref u2, .int (nI (n + 1))])), (u2, .inl (g.2.1 4, (n + n / 2), .inr (.inr (.inr (.inr (rfs (dcs ++ [(eo, ec)])))))))]) (t := dcs) (c := [(eo, ec)]) (Ev.tl (a := [(a, .inr (8, [.int mc, .ref u2, .int (nI (n + 1))])), (u2, .inl (g.2.1 4, (n + n / 2), .inr (.inr (.inr (.inr (rfs (dcs ++ [(eo, ec)])))))))]) (t := [(eo, ec)]) (c := dcs) (Ev.subT (a := [(eo, ec), (a, .inr (8, [.int mc, .ref u2, .int (nI (n + 1))])), (u2, .inl (g.2.1 4, (n + n / 2), .inr (.inr (.inr (.inr (rfs (dcs ++ [(eo, ec)])))))))]) (a' := [(a, .inr (8, [.int mc, .ref u2, .int (nI (n + 1))])), (u2, .inl (g.2.1 4, (n + n / 2), .inr (.inr (.inr (.inr (rfs (dcs ++ [(eo, ec)]))))))), (eo, ec)]) E [1, 2, 0] rfl rfl))
    exact x_vret (u2, (n + n / 2)) S hr hlk hsz htt hK E dJx4a65c_add_72be8_22 ⟨by show n + 1 ≤ (n + n / 2); omega, by show 10 ≤ (n + n / 2); omega, by show (n + n / 2) ≤ 800; omega⟩ rfl ⟨Nat.le_of_ble_eq_true rfl, Nat.le_of_ble_eq_true rfl⟩ ⟨Nat.le_of_ble_eq_true rfl, Nat.le_of_ble_eq_true rfl⟩

set_option maxHeartbeats 4000000 in
set_option maxRecDepth 100000 in
/-- ArrayList.add(e) -/
theorem c_adG (l : Launch) (g : Gm) (a : Nat) (mc : Int32) (el : Nat) (cap : Nat) (n : Nat) (dcs : va_W) (eo : Nat) (ec : va_E) (hd : AllC dcs) (hn : n = dcs.length) (hnc : n ≤ cap) (hc1 : 10 ≤ cap) (hc2 : cap ≤ 800) (hb512 : n ≤ 511) (hAny : ∀ (s : State) (H : Heap), va_K g.1 vwC (tysG g) s → NWs s → va_at g.1 vwC (eo, ec) H → va_Any "java/lang/Object" s H eo) : MXi (S := Nat × Nat) l g yJx4a65c_add_9ea2d cJx4a65c_add_9ea2d 2 .boolean ({ frames := 6, cells := 1, slots := 800, locals := 787 } : Room) [.ref a, .ref eo] ([(a, .inr (8, [.int mc, .ref el, .int (nI n)])), (el, .inl (g.2.1 4, cap, .inr (.inr (.inr (.inr (rfs dcs)))))), (eo, ec)] ++ dcs) (fun r u => r = 1 ∧ n + 1 ≤ u.2 ∧ 10 ≤ u.2 ∧ u.2 ≤ 800) (fun u => ([(a, .inr (8, [.int (mc + 1), .ref u.1, .int (nI (n + 1))])), (u.1, .inl (g.2.1 4, u.2, .inr (.inr (.inr (.inr (rfs (dcs ++ [(eo, ec)])))))))] ++ (dcs ++ [(eo, ec)]))) (fun _ => (1, 800)) := by
  intro sz tt
  refine ofX RJx4a65c rfl (by decide +kernel) (Nat.le_of_ble_eq_true rfl) (fun p e s m args below meth c hargs S hml hr hlk hnm hsz htt hK hA hZ E ls hl => ?_)
  have hx := S.1
  have hb := S.2.1
  have hl : lv_has ls 2 [(0, .ref a), (1, .ref eo)] := hl
  refine lv_aload_n hx hb dJx4a65c_add_9ea2d_0 rfl (lv_at hl 0 rfl) ?_
  refine lv_dup hx hb dJx4a65c_add_9ea2d_1 rfl ?_
  refine wg_Jx4a65c_63 (v := .int mc) S hK E 0 rfl rfl dJx4a65c_add_9ea2d_2 ?_
  refine lv_iconst (v := 1) hx hb dJx4a65c_add_9ea2d_5 (by decide) ?_
  refine k_iadd (v := (mc + 1)) hx hb rfl dJx4a65c_add_9ea2d_6 ?_
  refine wp_Jx4a65c_63 (w' := ([(a, .inr (8, [.int (mc + 1), .ref el, .int (nI n)])), (el, .inl (g.2.1 4, cap, .inr (.inr (.inr (.inr (rfs dcs)))))), (eo, ec)] ++ dcs)) S hK E 0 rfl rfl rfl (Nat.le_of_ble_eq_true rfl) rfl dJx4a65c_add_9ea2d_7 (fun H locs E => ?_)
  refine lv_aload_n hx hb dJx4a65c_add_9ea2d_10 rfl (lv_at hl 0 rfl) ?_
  refine lv_aload_n hx hb dJx4a65c_add_9ea2d_11 rfl (lv_at hl 1 rfl) ?_
  refine lv_aload_n hx hb dJx4a65c_add_9ea2d_12 rfl (lv_at hl 0 rfl) ?_
  refine wg_Jx4a65c_9 (v := .ref el) S hK E 0 rfl rfl dJx4a65c_add_9ea2d_13 ?_
  refine lv_aload_n hx hb dJx4a65c_add_9ea2d_16 rfl (lv_at hl 0 rfl) ?_
  refine wg_Jx4a65c_48 (v := .int (nI n)) S hK E 0 rfl rfl dJx4a65c_add_9ea2d_17 ?_
  refine w_retv (runV_X (As := [.ref eo, .ref el, .int (nI n)]) (rest := []) (q0 := 0) (n := 3) S hml hK (hZ.at E) (Cut.full E hA) (c_ad3G l g a (mc + 1) el cap n dcs eo (ec) hd hn (by omega) (by omega) (by omega) (by omega) hAny _ _) (gi_wsV ml_Jx4a65c_131 im_Jx4a65c_add_72be8 sl_Jx4a65c_add_72be8 in_Jx4a65c co_Jx4a65c_add_72be8) ⟨rfl, by decide +kernel, by decide +kernel, by decide +kernel⟩ ⟨Nat.le_of_ble_eq_true rfl, Nat.le_of_ble_eq_true rfl⟩ rfl rfl rfl hl.1 rfl (Nat.le_of_ble_eq_true rfl) dJx4a65c_add_9ea2d_20 ⟨Nat.le_of_ble_eq_true rfl, Nat.le_of_ble_eq_true rfl⟩) (Cut.full E hA) E (fun u1 H locs hp E => ?_)
  have E : Ev g _ s.heap H locs ([(a, .inr (8, [.int (mc + 1), .ref u1.1, .int (nI (n + 1))])), (u1.1, .inl (g.2.1 4, u1.2, .inr (.inr (.inr (.inr (rfs (dcs ++ [(eo, (ec))])))))))] ++ (dcs ++ [(eo, (ec))])) := E
  refine lv_iconst (v := 1) hx hb dJx4a65c_add_9ea2d_23 (by decide) ?_
  exact x_zret u1 S hr hlk hsz htt hK E dJx4a65c_add_9ea2d_24 rfl ⟨rfl, hp⟩ rfl ⟨Nat.le_of_ble_eq_true rfl, Nat.le_of_ble_eq_true rfl⟩ ⟨Nat.le_of_ble_eq_true rfl, Nat.le_of_ble_eq_true rfl⟩

