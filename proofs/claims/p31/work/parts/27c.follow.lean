/-! ROOM: a contract holds in a larger room -/
theorem room_le {s : State} {pl : Platform} {r r' : Room} (hf : r.frames ≤ r'.frames) (hl : r.locals ≤ r'.locals) (hc : r.cells ≤ r'.cells) (hs : r.slots ≤ r'.slots) (h : s.hasRoom pl r' = true) : s.hasRoom pl r = true := by
  unfold State.hasRoom at h ⊢
  simp only [Bool.and_eq_true, decide_eq_true_eq] at h ⊢
  obtain ⟨⟨⟨⟨h1, h2, h3, h4, h5, h6⟩, h7⟩, h8⟩, h9⟩ := h
  exact ⟨⟨⟨⟨by omega, by omega, by omega, by omega, by omega, h6⟩, by omega⟩, by omega⟩, h9⟩
theorem Met.room {l : Launch} {y : MethodName} {ws : List Cond} {rm rm' : Room} {Pc : Array Value → State → Prop} {Qc : Array Value → State → Outcome → State → Prop} {mc ms mc' ms' : Nat} {free : Addr → Prop} (h : Met l y ws rm Pc Qc mc ms free) (hf : rm.frames ≤ rm'.frames) (hl : rm.locals ≤ rm'.locals) (hc : rm.cells ≤ rm'.cells) (hs : rm.slots ≤ rm'.slots) (h1 : mc ≤ mc') (h2 : ms ≤ ms') : Met l y ws rm' Pc Qc mc' ms' free := by
  intro p e ha hcs hk s m args below hfr happ hP hK
  obtain ⟨a1, a2, a3, a4, a5, a6, a7, a8⟩ := (Spec.appliesLoose_iff hfr).mp happ
  obtain ⟨n, o, g1, g2, g3, g4, L, ⟨f1, f2, f3⟩, f4⟩ := h p e ha hcs hk s m args below hfr ((Spec.appliesLoose_iff hfr).mpr ⟨a1, a2, a3, a4, a5, a6, room_le hf hl hc hs a7, a8⟩) hP hK
  exact ⟨n, o, g1, g2, g3, g4, L, ⟨f1, f2, f3.mono h1 h2⟩, f4⟩
theorem MXv.room {S : Type} {l : Launch} {g : Gm} {y : MethodName} {cc : ByteArray} {maxL : Nat} {rm rm' : Room} {As : List Value} {ws : va_W} {post : S → Prop} {wf : S → va_W} {kx : S → Nat × Nat} (h : MXv l g y cc maxL rm As ws post wf kx) (hf : rm.frames ≤ rm'.frames) (hl : rm.locals ≤ rm'.locals) (hc : rm.cells ≤ rm'.cells) (hs : rm.slots ≤ rm'.slots) : MXv l g y cc maxL rm' As ws post wf kx := fun sz tt => (h sz tt).room hf hl hc hs hc hs
set_option maxHeartbeats 2000000 in
/-- World.follow, whatever the call -/
theorem c_follow (l : Launch) (g : Gm) (cl : Nat) (ad : Nat → Nat) (lo ke fo : Int32) (ea : Nat) (σ : Sg) (v : CV) {C M : Nat} (h : Inv C M σ) (hke : ke = 0 ∨ ke = 1) (hv : okN v (cnt σ) M) : MXv (S := Sg × Nat) l g yX5_follow cX5_follow 2 ({ frames := 10, cells := 49, slots := 500002, locals := 1089 } : Room) [.ref (ad 0), .ref cl] (wsF g ad lo ke fo (cl, cE v) ea σ) (fun u : Sg × Nat => u.1 = fo1 lo v σ) (fun u => wsF g ad lo ke fo (cl, cE v) u.2 u.1) (kxN σ) := by
  obtain ⟨k, a, b, c, d⟩ := v
  have hb := h.en
  match k, hv with
  | 0, hv => exact MXv.room (c_X5_follow_0 l g cl ad lo ke fo ea σ a b c d (rg_in 15 (by decide) (by decide) (by decide) hv.1) h.wf hke h.ev (by omega)) (Nat.le_of_ble_eq_true rfl) (Nat.le_of_ble_eq_true rfl) (Nat.le_of_ble_eq_true rfl) (Nat.le_of_ble_eq_true rfl)
  | 1, hv => exact MXv.room (c_X5_follow_1 l g cl ad lo ke fo ea σ a b c d (rg_in 7 (by decide) (by decide) (by decide) hv) h.wf hke h.ev (by omega)) (Nat.le_of_ble_eq_true rfl) (Nat.le_of_ble_eq_true rfl) (Nat.le_of_ble_eq_true rfl) (Nat.le_of_ble_eq_true rfl)
  | 2, hv => exact MXv.room (c_X5_follow_2 l g cl ad lo ke fo ea σ a b c d (rg_in 1 (by decide) (by decide) (by decide) hv) h.wf hke h.ev (by omega)) (Nat.le_of_ble_eq_true rfl) (Nat.le_of_ble_eq_true rfl) (Nat.le_of_ble_eq_true rfl) (Nat.le_of_ble_eq_true rfl)
  | 3, hv => exact MXv.room (c_X5_follow_3 l g cl ad lo ke fo ea σ a b c d (rg_in 7 (by decide) (by decide) (by decide) hv) h.wf hke h.ev (by omega)) (Nat.le_of_ble_eq_true rfl) (Nat.le_of_ble_eq_true rfl) (Nat.le_of_ble_eq_true rfl) (Nat.le_of_ble_eq_true rfl)
  | 4, hv => exact MXv.room (c_X5_follow_4 l g cl ad lo ke fo ea σ a b c d (rg_in 7 (by decide) (by decide) (by decide) hv.1) h.wf hke h.ev (by omega)) (Nat.le_of_ble_eq_true rfl) (Nat.le_of_ble_eq_true rfl) (Nat.le_of_ble_eq_true rfl) (Nat.le_of_ble_eq_true rfl)
  | 5, hv => exact MXv.room (c_X5_follow_5 l g cl ad lo ke fo ea σ a b c d (rg_in 7 (by decide) (by decide) (by decide) hv.1) h.wf hke h.ev (by omega)) (Nat.le_of_ble_eq_true rfl) (Nat.le_of_ble_eq_true rfl) (Nat.le_of_ble_eq_true rfl) (Nat.le_of_ble_eq_true rfl)
  | 6, hv => exact MXv.room (c_X5_follow_6 l g cl ad lo ke fo ea σ a b c d h.wf hke h.ev (by omega)) (Nat.le_of_ble_eq_true rfl) (Nat.le_of_ble_eq_true rfl) (Nat.le_of_ble_eq_true rfl) (Nat.le_of_ble_eq_true rfl)
  | 7, hv => exact MXv.room (c_X5_follow_7 l g cl ad lo ke fo ea σ a b c d h.wf hke h.ev (by omega)) (Nat.le_of_ble_eq_true rfl) (Nat.le_of_ble_eq_true rfl) (Nat.le_of_ble_eq_true rfl) (Nat.le_of_ble_eq_true rfl)
  | 8, hv => exact MXv.room (c_X5_follow_8 l g cl ad lo ke fo ea σ a b c d (rg_in 15 (by decide) (by decide) (by decide) hv.1) h.wf hke h.ev (by omega)) (Nat.le_of_ble_eq_true rfl) (Nat.le_of_ble_eq_true rfl) (Nat.le_of_ble_eq_true rfl) (Nat.le_of_ble_eq_true rfl)
  | 9, hv => exact MXv.room (c_X5_follow_9 l g cl ad lo ke fo ea σ a b c d (ix_n h.wf.le hv.1).1 h.wf hke h.ev (by omega)) (Nat.le_of_ble_eq_true rfl) (Nat.le_of_ble_eq_true rfl) (Nat.le_of_ble_eq_true rfl) (Nat.le_of_ble_eq_true rfl)
  | 10, hv => exact MXv.room (c_X5_follow_10 l g cl ad lo ke fo ea σ a b c d (ix_n h.wf.le hv.1).1 (ix_n h.wf.le hv.2.1).1 h.wf hke h.ev (by omega)) (Nat.le_of_ble_eq_true rfl) (Nat.le_of_ble_eq_true rfl) (Nat.le_of_ble_eq_true rfl) (Nat.le_of_ble_eq_true rfl)
  | 11, hv =>
    obtain ⟨mm, e, h1, h2, h3⟩ := hv
    have e : a = nI mm := e
    subst e
    have ec : (nI mm).toNatClampNeg = mm := nI_clamp (by omega)
    have e1 : fo1 lo (11, nI mm, b, c, d) σ = f_X5_follow_11 σ lo mm b c d := by
      show f_X5_follow_11 σ lo (nI mm).toNatClampNeg b c d = _
      rw [ec]
    rw [e1]
    have he := h.2.2.1
    exact MXv.room (c_X5_follow_11 l g cl ad lo ke fo ea σ mm b c d h.wf hke h.ev (by omega)) (Nat.le_of_ble_eq_true rfl) (Nat.le_of_ble_eq_true rfl) (Nat.le_of_ble_eq_true rfl) (Nat.le_of_ble_eq_true rfl)
  | k + 12, hv => exact hv.elim
/-! THE DIARY IS FOLLOWED -/
theorem pullC {X D pre post dcs : va_W} {q : Nat × va_E} (h : dcs = pre ++ q :: post) : ((D ++ (pre ++ post)) ++ (X ++ [q])).Perm ((X ++ D) ++ dcs) := by
  subst h
  have h1 : ((X ++ D) ++ (pre ++ q :: post)).Perm ((X ++ D) ++ (q :: (pre ++ post))) := List.Perm.append_left _ List.perm_middle
  have h2 : ((X ++ D) ++ (q :: (pre ++ post))) = X ++ (D ++ ([q] ++ (pre ++ post))) := by rw [List.append_assoc]; rfl
  have h3 : (X ++ (D ++ ([q] ++ (pre ++ post)))).Perm ((D ++ ((pre ++ post) ++ [q])) ++ X) := List.perm_append_comm.trans (List.Perm.append_right X (List.Perm.append_left D List.perm_append_comm))
  have h4 : ((D ++ ((pre ++ post) ++ [q])) ++ X) = (D ++ (pre ++ post)) ++ ([q] ++ X) := by rw [← List.append_assoc D, List.append_assoc (D ++ (pre ++ post))]
  have h5 : ((D ++ (pre ++ post)) ++ ([q] ++ X)).Perm ((D ++ (pre ++ post)) ++ (X ++ [q])) := List.Perm.append_left _ List.perm_append_comm
  exact (h1.trans ((List.Perm.of_eq h2).trans (h3.trans ((List.Perm.of_eq h4).trans h5)))).symm
theorem dc_len {dcs : va_W} {cvs : List CV} (h : dcs.map Prod.snd = cvs.map cE) : dcs.length = cvs.length := by
  have := congrArg List.length h
  rwa [List.length_map, List.length_map] at this
theorem dc_split {dcs : va_W} {cvs t : List CV} {i : Nat} {v : CV} (hdc : dcs.map Prod.snd = cvs.map cE) (hi : cvs.drop i = v :: t) : ∃ q : Nat, rfs dcs i = some q ∧ ∃ pre post : va_W, dcs = pre ++ (q, cE v) :: post := by
  have hv : cvs[i]? = some v := by
    have h1 : (cvs.drop i)[0]? = some v := by rw [hi]; rfl
    rwa [List.getElem?_drop, Nat.add_zero] at h1
  have h2 : (dcs.map Prod.snd)[i]? = some (cE v) := by rw [hdc, List.getElem?_map, hv]; rfl
  rw [List.getElem?_map] at h2
  cases hd : dcs[i]? with
  | none => rw [hd] at h2; cases h2
  | some z =>
    rw [hd] at h2
    have e : z.2 = cE v := Option.some.inj h2
    have hz : (z.1, cE v) = z := by rw [← e]
    obtain ⟨hi', hgi⟩ := List.getElem?_eq_some_iff.mp hd
    refine ⟨z.1, by unfold rfs; rw [hd]; rfl, dcs.take i, dcs.drop (i + 1), ?_⟩
    rw [hz, ← hgi, List.getElem_cons_drop, List.take_append_drop]
theorem drop_tl {cvs t : List CV} {i : Nat} {v : CV} (hi : cvs.drop i = v :: t) : cvs.drop (i + 1) = t := by
  rw [← List.drop_drop, hi]; rfl
set_option maxHeartbeats 4000000 in
set_option maxRecDepth 100000 in
/-- World.followDiary: from the call of number f on -/
theorem c_followDiary (l : Launch) (g : Gm) (ad : Nat → Nat) (lo ke : Int32) (ea : Nat) (σ : Sg) (dy : Nat) (mc : Int32) (el cap : Nat) (dcs : va_W) (cvs : List CV) (f : Nat) {C M : Nat} (h : Inv C M σ) (hke : ke = 0 ∨ ke = 1) (hdc : dcs.map Prod.snd = cvs.map cE) (hf : f ≤ dcs.length) (hcap : dcs.length ≤ cap) (hc8 : cap ≤ 800) (hC : C + dcs.length ≤ 1000) (hlg : leg (cvs.drop f) (cnt σ) M) : MXv (S := Nat) l g yX5_followDiary cX5_followDiary 3 ({ frames := 11, cells := 61, slots := 600000, locals := 1110 } : Room) [.ref (ad 0), .ref dy] ((wsW g ad lo ke (nI f) ea σ ++ [(dy, .inr (8, [.int mc, .ref el, .int (nI dcs.length)])), (el, .inl (g.2.1 4, cap, .inr (.inr (.inr (.inr (rfs dcs))))))]) ++ dcs) (fun _ => True) (fun u : Nat => ((wsW g ad lo ke (nI dcs.length) u (folS lo (cvs.drop f) σ) ++ [(dy, .inr (8, [.int mc, .ref el, .int (nI dcs.length)])), (el, .inl (g.2.1 4, cap, .inr (.inr (.inr (.inr (rfs dcs))))))]) ++ dcs)) (fun _ : Nat => (eg (folS lo (cvs.drop f) σ) - eg σ, 2 * ec (folS lo (cvs.drop f) σ) - 2 * ec σ)) := by
  intro sz tt
  refine ofX RX5 rfl (by decide +kernel) (Nat.le_of_ble_eq_true rfl) (fun p e s m args below meth c hargs S hml hr hlk hnm hsz htt hK hA hZ E ls hl => ?_)
  have hx := S.1
  have hb := S.2.1
  have hln := dc_len hdc
  have hl : lv_has ls 3 [(0, .ref (ad 0)), (1, .ref dy)] := hl
  refine W.widen (k := eg σ - eg σ) (n := 2 * ec σ - 2 * ec σ) (Nat.zero_le _) (Nat.zero_le _) ?_
  refine lv_aload_n hx hb dX5_followDiary_0 rfl (lv_at hl 0 rfl) ?_
  refine wg_X5_64 (v := .int (nI f)) S hK E 0 rfl rfl dX5_followDiary_1 ?_
  refine lv_istore_n (lv' := [(2, .int (nI f)), (0, .ref (ad 0)), (1, .ref dy)]) hx hb dX5_followDiary_4 rfl hl (by decide) rfl (fun ls hl => ?_)
  have L : ∀ (k i : Nat), i + k = dcs.length → ∀ (τ : Sg) (C' M' ea1 : Nat), Inv C' M' τ → C' + k ≤ 1000 → leg (cvs.drop i) (cnt τ) M' → folS lo (cvs.drop i) τ = (folS lo (cvs.drop f) σ) → EvM τ σ → ∀ (H : Heap) (locs : List Loc), Ev g (va_A ((wsW g ad lo ke (nI f) ea σ ++ [(dy, .inr (8, [.int mc, .ref el, .int (nI dcs.length)])), (el, .inl (g.2.1 4, cap, .inr (.inr (.inr (.inr (rfs dcs))))))]) ++ dcs) sz) s.heap H locs ((wsW g ad lo ke (nI f) ea1 τ ++ [(dy, .inr (8, [.int mc, .ref el, .int (nI dcs.length)])), (el, .inl (g.2.1 4, cap, .inr (.inr (.inr (.inr (rfs dcs))))))]) ++ dcs) → ∀ ls : Array Slot, lv_has ls 3 [(2, .int (nI i)), (0, .ref (ad 0)), (1, .ref dy)] → W p l e ({ frames := 11, cells := 61, slots := 600000, locals := 1110 } : Room) s m args below meth c H locs (eg τ - eg σ) (2 * ec τ - 2 * ec σ) (MQ below (va_Qv (S := Nat) (fun _ => True) (AtX g (va_A ((wsW g ad lo ke (nI f) ea σ ++ [(dy, .inr (8, [.int mc, .ref el, .int (nI dcs.length)])), (el, .inl (g.2.1 4, cap, .inr (.inr (.inr (.inr (rfs dcs))))))]) ++ dcs) sz) (fun u : Nat => ((wsW g ad lo ke (nI dcs.length) u (folS lo (cvs.drop f) σ) ++ [(dy, .inr (8, [.int mc, .ref el, .int (nI dcs.length)])), (el, .inl (g.2.1 4, cap, .inr (.inr (.inr (.inr (rfs dcs))))))]) ++ dcs)) (fun _ : Nat => (eg (folS lo (cvs.drop f) σ) - eg σ, 2 * ec (folS lo (cvs.drop f) σ) - 2 * ec σ)) sz tt) (va_A ((wsW g ad lo ke (nI f) ea σ ++ [(dy, .inr (8, [.int mc, .ref el, .int (nI dcs.length)])), (el, .inl (g.2.1 4, cap, .inr (.inr (.inr (.inr (rfs dcs))))))]) ++ dcs) sz)) args s 61 600000 (va_A ((wsW g ad lo ke (nI f) ea σ ++ [(dy, .inr (8, [.int mc, .ref el, .int (nI dcs.length)])), (el, .inl (g.2.1 4, cap, .inr (.inr (.inr (.inr (rfs dcs))))))]) ++ dcs) sz)) (F0 m 5 ls []) := by
    intro k
    induction k with
    | zero =>
      intro i hi τ C' M' ea1 hI hC' hlg hF hM H locs E ls hl
      obtain rfl : i = dcs.length := by omega
      obtain ⟨he1, he2⟩ := nt_c hI.ev (by have := hI.en; omega)
      obtain ⟨hm1, hm2, hm3⟩ := hM
      have hF : τ = (folS lo (cvs.drop f) σ) := by rw [← hF, hln, List.drop_length]; rfl
      refine lv_iload_n hx hb dX5_followDiary_5 rfl (lv_at hl 0 rfl) ?_
      refine lv_aload_n hx hb dX5_followDiary_6 rfl (lv_at hl 2 rfl) ?_
      refine w_reti (runV_X (As := []) (rest := [.int (nI dcs.length)]) (q0 := 0) (n := 0) S hml hK (hZ.at E) (Cut.ofT (a := (wsW g ad lo ke (nI f) ea1 τ ++ [(dy, .inr (8, [.int mc, .ref el, .int (nI dcs.length)])), (el, .inl (g.2.1 4, cap, .inr (.inr (.inr (.inr (rfs dcs))))))])) (wc := [(dy, .inr (8, [.int mc, .ref el, .int (nI dcs.length)]))]) (wr := (wsW g ad lo ke (nI f) ea1 τ ++ [(el, .inl (g.2.1 4, cap, .inr (.inr (.inr (.inr (rfs dcs))))))])) (t := dcs) E hA [31] [0, 1, 2, 3, 4, 5, 6, 7, 8, 9, 10, 11, 12, 13, 14, 15, 16, 17, 18, 19, 20, 21, 22, 23, 24, 25, 26, 27, 28, 29, 30, 32] rfl rfl rfl) (c_Jx4a65c_size_8abf5 l g dy mc (nI dcs.length) el _ _) (gi_wsV ml_X5_67 im_Jx4a65c_size_8abf5 sl_Jx4a65c_size_8abf5 in_Jx4a65c co_Jx4a65c_size_8abf5) ⟨rfl, by decide +kernel, by decide +kernel, by decide +kernel⟩ ⟨Nat.le_of_ble_eq_true rfl, Nat.le_of_ble_eq_true rfl⟩ rfl rfl rfl hl.1 rfl (Nat.le_of_ble_eq_true rfl) dX5_followDiary_7 ⟨by show _ + 0 ≤ 61; omega, by show _ + 0 ≤ 600000; omega⟩) (Cut.ofT (a := (wsW g ad lo ke (nI f) ea1 τ ++ [(dy, .inr (8, [.int mc, .ref el, .int (nI dcs.length)])), (el, .inl (g.2.1 4, cap, .inr (.inr (.inr (.inr (rfs dcs))))))])) (wc := [(dy, .inr (8, [.int mc, .ref el, .int (nI dcs.length)]))]) (wr := (wsW g ad lo ke (nI f) ea1 τ ++ [(el, .inl (g.2.1 4, cap, .inr (.inr (.inr (.inr (rfs dcs))))))])) (t := dcs) E hA [31] [0, 1, 2, 3, 4, 5, 6, 7, 8, 9, 10, 11, 12, 13, 14, 15, 16, 17, 18, 19, 20, 21, 22, 23, 24, 25, 26, 27, 28, 29, 30, 32] rfl rfl rfl) E (fun r u H locs hp E => ?_)
      subst hp
      have E : Ev g _ s.heap H locs ((wsW g ad lo ke (nI f) ea1 τ ++ [(el, .inl (g.2.1 4, cap, .inr (.inr (.inr (.inr (rfs dcs))))))]) ++ [(dy, .inr (8, [.int mc, .ref el, .int (nI dcs.length)]))] ++ dcs) := Ev.tl (a := (wsW g ad lo ke (nI f) ea1 τ ++ [(el, .inl (g.2.1 4, cap, .inr (.inr (.inr (.inr (rfs dcs))))))])) (t := dcs) (c := [(dy, .inr (8, [.int mc, .ref el, .int (nI dcs.length)]))]) E
      have E : Ev g _ s.heap H locs ((wsW g ad lo ke (nI f) ea1 τ ++ [(dy, .inr (8, [.int mc, .ref el, .int (nI dcs.length)])), (el, .inl (g.2.1 4, cap, .inr (.inr (.inr (.inr (rfs dcs))))))]) ++ dcs) := Ev.subT (a := (wsW g ad lo ke (nI f) ea1 τ ++ [(el, .inl (g.2.1 4, cap, .inr (.inr (.inr (.inr (rfs dcs))))))]) ++ [(dy, .inr (8, [.int mc, .ref el, .int (nI dcs.length)]))]) (a' := (wsW g ad lo ke (nI f) ea1 τ ++ [(dy, .inr (8, [.int mc, .ref el, .int (nI dcs.length)])), (el, .inl (g.2.1 4, cap, .inr (.inr (.inr (.inr (rfs dcs))))))])) E [0, 1, 2, 3, 4, 5, 6, 7, 8, 9, 10, 11, 12, 13, 14, 15, 16, 17, 18, 19, 20, 21, 22, 23, 24, 25, 26, 27, 28, 29, 30, 32, 31] rfl rfl
      refine lv_icmp_ge (tgt := 31) hx hb dX5_followDiary_10 (by decide) (fun _ => ?_) (fun c_ => absurd (nI_le (Nat.le_refl _) (by omega)) c_)
      refine lv_aload_n hx hb dX5_followDiary_31 rfl (lv_at hl 1 rfl) ?_
      refine lv_aload_n hx hb dX5_followDiary_32 rfl (lv_at hl 2 rfl) ?_
      refine w_reti (runV_X (As := []) (rest := [.ref (ad 0)]) (q0 := 0) (n := 0) S hml hK (hZ.at E) (Cut.ofT (a := (wsW g ad lo ke (nI f) ea1 τ ++ [(dy, .inr (8, [.int mc, .ref el, .int (nI dcs.length)])), (el, .inl (g.2.1 4, cap, .inr (.inr (.inr (.inr (rfs dcs))))))])) (wc := [(dy, .inr (8, [.int mc, .ref el, .int (nI dcs.length)]))]) (wr := (wsW g ad lo ke (nI f) ea1 τ ++ [(el, .inl (g.2.1 4, cap, .inr (.inr (.inr (.inr (rfs dcs))))))])) (t := dcs) E hA [31] [0, 1, 2, 3, 4, 5, 6, 7, 8, 9, 10, 11, 12, 13, 14, 15, 16, 17, 18, 19, 20, 21, 22, 23, 24, 25, 26, 27, 28, 29, 30, 32] rfl rfl rfl) (c_Jx4a65c_size_8abf5 l g dy mc (nI dcs.length) el _ _) (gi_wsV ml_X5_67 im_Jx4a65c_size_8abf5 sl_Jx4a65c_size_8abf5 in_Jx4a65c co_Jx4a65c_size_8abf5) ⟨rfl, by decide +kernel, by decide +kernel, by decide +kernel⟩ ⟨Nat.le_of_ble_eq_true rfl, Nat.le_of_ble_eq_true rfl⟩ rfl rfl rfl hl.1 rfl (Nat.le_of_ble_eq_true rfl) dX5_followDiary_33 ⟨by show _ + 0 ≤ 61; omega, by show _ + 0 ≤ 600000; omega⟩) (Cut.ofT (a := (wsW g ad lo ke (nI f) ea1 τ ++ [(dy, .inr (8, [.int mc, .ref el, .int (nI dcs.length)])), (el, .inl (g.2.1 4, cap, .inr (.inr (.inr (.inr (rfs dcs))))))])) (wc := [(dy, .inr (8, [.int mc, .ref el, .int (nI dcs.length)]))]) (wr := (wsW g ad lo ke (nI f) ea1 τ ++ [(el, .inl (g.2.1 4, cap, .inr (.inr (.inr (.inr (rfs dcs))))))])) (t := dcs) E hA [31] [0, 1, 2, 3, 4, 5, 6, 7, 8, 9, 10, 11, 12, 13, 14, 15, 16, 17, 18, 19, 20, 21, 22, 23, 24, 25, 26, 27, 28, 29, 30, 32] rfl rfl rfl) E (fun r u H locs hp E => ?_)
      subst hp
      have E : Ev g _ s.heap H locs ((wsW g ad lo ke (nI f) ea1 τ ++ [(el, .inl (g.2.1 4, cap, .inr (.inr (.inr (.inr (rfs dcs))))))]) ++ [(dy, .inr (8, [.int mc, .ref el, .int (nI dcs.length)]))] ++ dcs) := Ev.tl (a := (wsW g ad lo ke (nI f) ea1 τ ++ [(el, .inl (g.2.1 4, cap, .inr (.inr (.inr (.inr (rfs dcs))))))])) (t := dcs) (c := [(dy, .inr (8, [.int mc, .ref el, .int (nI dcs.length)]))]) E
      have E : Ev g _ s.heap H locs ((wsW g ad lo ke (nI f) ea1 τ ++ [(dy, .inr (8, [.int mc, .ref el, .int (nI dcs.length)])), (el, .inl (g.2.1 4, cap, .inr (.inr (.inr (.inr (rfs dcs))))))]) ++ dcs) := Ev.subT (a := (wsW g ad lo ke (nI f) ea1 τ ++ [(el, .inl (g.2.1 4, cap, .inr (.inr (.inr (.inr (rfs dcs))))))]) ++ [(dy, .inr (8, [.int mc, .ref el, .int (nI dcs.length)]))]) (a' := (wsW g ad lo ke (nI f) ea1 τ ++ [(dy, .inr (8, [.int mc, .ref el, .int (nI dcs.length)])), (el, .inl (g.2.1 4, cap, .inr (.inr (.inr (.inr (rfs dcs))))))])) E [0, 1, 2, 3, 4, 5, 6, 7, 8, 9, 10, 11, 12, 13, 14, 15, 16, 17, 18, 19, 20, 21, 22, 23, 24, 25, 26, 27, 28, 29, 30, 32, 31] rfl rfl
      refine wp_X5_64 (w' := ((wsW g ad lo ke (nI dcs.length) ea1 τ ++ [(dy, .inr (8, [.int mc, .ref el, .int (nI dcs.length)])), (el, .inl (g.2.1 4, cap, .inr (.inr (.inr (.inr (rfs dcs))))))]) ++ dcs)) S hK E 0 rfl rfl rfl (Nat.le_of_ble_eq_true rfl) rfl dX5_followDiary_36 (fun H locs E => ?_)
      subst hF
      exact x_vret ea1 S hr hlk hsz htt hK E dX5_followDiary_39 trivial rfl ⟨by show _ + 0 + 0 ≤ _; exact Nat.le_refl _, by show _ + 0 + 0 ≤ _; exact Nat.le_refl _⟩ ⟨by show _ + 0 + 0 ≤ 61; omega, by show _ + 0 + 0 ≤ 600000; omega⟩
    | succ k ih =>
      intro i hi τ C' M' ea1 hI hC' hlg hF hM H locs E ls hl
      obtain ⟨he1, he2⟩ := nt_c hI.ev (by have := hI.en; omega)
      obtain ⟨hm1, hm2, hm3⟩ := id hM
      refine lv_iload_n hx hb dX5_followDiary_5 rfl (lv_at hl 0 rfl) ?_
      refine lv_aload_n hx hb dX5_followDiary_6 rfl (lv_at hl 2 rfl) ?_
      refine w_reti (runV_X (As := []) (rest := [.int (nI i)]) (q0 := 0) (n := 0) S hml hK (hZ.at E) (Cut.ofT (a := (wsW g ad lo ke (nI f) ea1 τ ++ [(dy, .inr (8, [.int mc, .ref el, .int (nI dcs.length)])), (el, .inl (g.2.1 4, cap, .inr (.inr (.inr (.inr (rfs dcs))))))])) (wc := [(dy, .inr (8, [.int mc, .ref el, .int (nI dcs.length)]))]) (wr := (wsW g ad lo ke (nI f) ea1 τ ++ [(el, .inl (g.2.1 4, cap, .inr (.inr (.inr (.inr (rfs dcs))))))])) (t := dcs) E hA [31] [0, 1, 2, 3, 4, 5, 6, 7, 8, 9, 10, 11, 12, 13, 14, 15, 16, 17, 18, 19, 20, 21, 22, 23, 24, 25, 26, 27, 28, 29, 30, 32] rfl rfl rfl) (c_Jx4a65c_size_8abf5 l g dy mc (nI dcs.length) el _ _) (gi_wsV ml_X5_67 im_Jx4a65c_size_8abf5 sl_Jx4a65c_size_8abf5 in_Jx4a65c co_Jx4a65c_size_8abf5) ⟨rfl, by decide +kernel, by decide +kernel, by decide +kernel⟩ ⟨Nat.le_of_ble_eq_true rfl, Nat.le_of_ble_eq_true rfl⟩ rfl rfl rfl hl.1 rfl (Nat.le_of_ble_eq_true rfl) dX5_followDiary_7 ⟨by show _ + 0 ≤ 61; omega, by show _ + 0 ≤ 600000; omega⟩) (Cut.ofT (a := (wsW g ad lo ke (nI f) ea1 τ ++ [(dy, .inr (8, [.int mc, .ref el, .int (nI dcs.length)])), (el, .inl (g.2.1 4, cap, .inr (.inr (.inr (.inr (rfs dcs))))))])) (wc := [(dy, .inr (8, [.int mc, .ref el, .int (nI dcs.length)]))]) (wr := (wsW g ad lo ke (nI f) ea1 τ ++ [(el, .inl (g.2.1 4, cap, .inr (.inr (.inr (.inr (rfs dcs))))))])) (t := dcs) E hA [31] [0, 1, 2, 3, 4, 5, 6, 7, 8, 9, 10, 11, 12, 13, 14, 15, 16, 17, 18, 19, 20, 21, 22, 23, 24, 25, 26, 27, 28, 29, 30, 32] rfl rfl rfl) E (fun r u H locs hp E => ?_)
      subst hp
      have E : Ev g _ s.heap H locs ((wsW g ad lo ke (nI f) ea1 τ ++ [(el, .inl (g.2.1 4, cap, .inr (.inr (.inr (.inr (rfs dcs))))))]) ++ [(dy, .inr (8, [.int mc, .ref el, .int (nI dcs.length)]))] ++ dcs) := Ev.tl (a := (wsW g ad lo ke (nI f) ea1 τ ++ [(el, .inl (g.2.1 4, cap, .inr (.inr (.inr (.inr (rfs dcs))))))])) (t := dcs) (c := [(dy, .inr (8, [.int mc, .ref el, .int (nI dcs.length)]))]) E
      have E : Ev g _ s.heap H locs ((wsW g ad lo ke (nI f) ea1 τ ++ [(dy, .inr (8, [.int mc, .ref el, .int (nI dcs.length)])), (el, .inl (g.2.1 4, cap, .inr (.inr (.inr (.inr (rfs dcs))))))]) ++ dcs) := Ev.subT (a := (wsW g ad lo ke (nI f) ea1 τ ++ [(el, .inl (g.2.1 4, cap, .inr (.inr (.inr (.inr (rfs dcs))))))]) ++ [(dy, .inr (8, [.int mc, .ref el, .int (nI dcs.length)]))]) (a' := (wsW g ad lo ke (nI f) ea1 τ ++ [(dy, .inr (8, [.int mc, .ref el, .int (nI dcs.length)])), (el, .inl (g.2.1 4, cap, .inr (.inr (.inr (.inr (rfs dcs))))))])) E [0, 1, 2, 3, 4, 5, 6, 7, 8, 9, 10, 11, 12, 13, 14, 15, 16, 17, 18, 19, 20, 21, 22, 23, 24, 25, 26, 27, 28, 29, 30, 32, 31] rfl rfl
      refine lv_icmp_ge (tgt := 31) hx hb dX5_followDiary_10 (by decide) (fun c_ => absurd c_ (g_no (a := i) (b := dcs.length) rfl rfl (by omega) (by omega))) (fun _ => ?_)
      refine lv_aload_n hx hb dX5_followDiary_13 rfl (lv_at hl 1 rfl) ?_
      refine lv_aload_n hx hb dX5_followDiary_14 rfl (lv_at hl 2 rfl) ?_
      refine lv_iload_n hx hb dX5_followDiary_15 rfl (lv_at hl 0 rfl) ?_
      obtain ⟨v, t, hdr⟩ : ∃ (v : CV) (t : List CV), cvs.drop i = v :: t := by
        cases hdr : cvs.drop i with
        | nil => have h9 := congrArg List.length hdr; rw [List.length_drop] at h9; exact absurd h9 (by show ¬ cvs.length - i = 0; omega)
        | cons v t => exact ⟨v, t, rfl⟩
      obtain ⟨q, hq, pre, post, hsp⟩ := dc_split hdc hdr
      refine w_retr (runV_X (As := [.int (nI i)]) (rest := [.ref (ad 0)]) (q0 := 0) (n := 1) S hml hK (hZ.at E) (Cut.ofT (a := (wsW g ad lo ke (nI f) ea1 τ ++ [(dy, .inr (8, [.int mc, .ref el, .int (nI dcs.length)])), (el, .inl (g.2.1 4, cap, .inr (.inr (.inr (.inr (rfs dcs))))))])) (wc := [(dy, .inr (8, [.int mc, .ref el, .int (nI dcs.length)])), (el, .inl (g.2.1 4, cap, .inr (.inr (.inr (.inr (rfs dcs))))))]) (wr := wsW g ad lo ke (nI f) ea1 τ) (t := dcs) E hA [31, 32] [0, 1, 2, 3, 4, 5, 6, 7, 8, 9, 10, 11, 12, 13, 14, 15, 16, 17, 18, 19, 20, 21, 22, 23, 24, 25, 26, 27, 28, 29, 30] rfl rfl rfl) (c_Jx4a65c_get_915e3 l g dy el cap dcs.length mc (rfs dcs) i q (by omega) hcap (by omega) hq _ _) (gi_wsV ml_X5_73 im_Jx4a65c_get_915e3 sl_Jx4a65c_get_915e3 in_Jx4a65c co_Jx4a65c_get_915e3) ⟨rfl, by decide +kernel, by decide +kernel, by decide +kernel⟩ ⟨Nat.le_of_ble_eq_true rfl, Nat.le_of_ble_eq_true rfl⟩ rfl rfl rfl hl.1 rfl (Nat.le_of_ble_eq_true rfl) dX5_followDiary_16 ⟨by show _ + 0 + 0 ≤ 61; omega, by show _ + 0 + 0 ≤ 600000; omega⟩) (Cut.ofT (a := (wsW g ad lo ke (nI f) ea1 τ ++ [(dy, .inr (8, [.int mc, .ref el, .int (nI dcs.length)])), (el, .inl (g.2.1 4, cap, .inr (.inr (.inr (.inr (rfs dcs))))))])) (wc := [(dy, .inr (8, [.int mc, .ref el, .int (nI dcs.length)])), (el, .inl (g.2.1 4, cap, .inr (.inr (.inr (.inr (rfs dcs))))))]) (wr := wsW g ad lo ke (nI f) ea1 τ) (t := dcs) E hA [31, 32] [0, 1, 2, 3, 4, 5, 6, 7, 8, 9, 10, 11, 12, 13, 14, 15, 16, 17, 18, 19, 20, 21, 22, 23, 24, 25, 26, 27, 28, 29, 30] rfl rfl rfl) E (fun u H locs hp E => ?_)
      have E : Ev g _ s.heap H locs ((wsW g ad lo ke (nI f) ea1 τ ++ [(dy, .inr (8, [.int mc, .ref el, .int (nI dcs.length)])), (el, .inl (g.2.1 4, cap, .inr (.inr (.inr (.inr (rfs dcs))))))]) ++ dcs) := Ev.tl (a := wsW g ad lo ke (nI f) ea1 τ) (t := dcs) (c := [(dy, .inr (8, [.int mc, .ref el, .int (nI dcs.length)])), (el, .inl (g.2.1 4, cap, .inr (.inr (.inr (.inr (rfs dcs))))))]) E
      have E : Ev g _ s.heap H locs (([(dy, .inr (8, [.int mc, .ref el, .int (nI dcs.length)])), (el, .inl (g.2.1 4, cap, .inr (.inr (.inr (.inr (rfs dcs))))))] ++ (pre ++ post)) ++ wsF g ad lo ke (nI f) (q, cE v) ea1 τ) := E.perm (pullC hsp)
      refine va_castS hx hb S.2.2.2 (S.2.2.1 _ cl_X5_77) (hK.1 1 _ rfl).2 (va_recv (ci := 1) (q0 := 31) hK (Cut.app E hA).1 rfl rfl) dX5_followDiary_19 ?_
      rw [hdr] at hlg
      refine w_retv (runV_X (As := [.ref q]) (rest := []) (q0 := 0) (n := 1) S hml hK (hZ.at E) (Cut.app E hA) (c_follow l g q ad lo ke (nI f) ea1 τ v hI hke hlg.1 _ _) (gi_wsV ml_X5_79 im_X5_follow sl_X5_follow in_X5 co_X5_follow) ⟨rfl, by decide +kernel, by decide +kernel, by decide +kernel⟩ ⟨Nat.le_of_ble_eq_true rfl, Nat.le_of_ble_eq_true rfl⟩ rfl rfl rfl hl.1 rfl (Nat.le_of_ble_eq_true rfl) dX5_followDiary_22 ⟨by show _ + 0 + 0 + 49 ≤ 61; omega, by show _ + 0 + 0 + 500002 ≤ 600000; omega⟩) (Cut.app E hA) E (fun u H locs hp E => ?_)
      obtain ⟨τ1, ea2⟩ := u
      have hp : τ1 = fo1 lo v τ := hp
      subst hp
      have E : Ev g _ s.heap H locs ((wsW g ad lo ke (nI f) ea2 (fo1 lo v τ) ++ [(dy, .inr (8, [.int mc, .ref el, .int (nI dcs.length)])), (el, .inl (g.2.1 4, cap, .inr (.inr (.inr (.inr (rfs dcs))))))]) ++ dcs) := E.perm (pullC hsp).symm
      refine lv_iinc (v := nI (i + 1)) (lv' := [(2, .int (nI (i + 1))), (0, .ref (ad 0)), (1, .ref dy)]) hx hb dX5_followDiary_25 hl (k := 0) rfl (nI_1 i) (by decide) rfl (fun ls hl => ?_)
      refine lv_goto (tgt := 5) hx hb dX5_followDiary_28 (by decide) ?_
      obtain ⟨i1, i2, i3⟩ := inv_fo1 (lo := lo) hI (by omega) hlg.1
      obtain ⟨hn1, hn2, hn3⟩ := id i3
      refine W.widen (k := eg (fo1 lo v τ) - eg σ) (n := 2 * ec (fo1 lo v τ) - 2 * ec σ) (by show _ + 0 + 0 + (eg (fo1 lo v τ) - eg τ) ≤ _; omega) (by show _ + 0 + 0 + (2 * ec (fo1 lo v τ) - 2 * ec τ) ≤ _; omega) ?_
      refine ih (i + 1) (by omega) (fo1 lo v τ) (C' + 1) (M' + isM v) ea2 i1 (by omega) ?_ ?_ (i3.tr hM) H locs E ls hl
      · rw [drop_tl hdr, i2]; exact hlg.2
      · rw [drop_tl hdr, ← hF, hdr]; rfl
  exact L (dcs.length - f) f (by omega) σ C M ea h (by omega) hlg rfl EvM.rf _ _ E ls hl
