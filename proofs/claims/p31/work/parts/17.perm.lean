/-! WORLDS AS BAGS: the order of the cells is free; a callee's cells stand last -/
theorem va_P_iff {D : va_G} {cl : List vw_C} {ws : va_W} {H : Heap} : va_P D cl ws H ↔ ∀ q ∈ ws, va_at D cl q H :=
  ⟨fun h q hq => by obtain ⟨k, hk⟩ := List.getElem?_of_mem hq; exact h k q hk, fun h k q hk => h q (List.mem_of_getElem? hk)⟩
theorem va_D_iff {A : Nat → Prop} {ws : va_W} : va_D A ws ↔ (ws.map (·.1)).Nodup ∧ ∀ q ∈ ws, A q.1 := by
  constructor
  · intro h
    refine ⟨?_, fun q hq => by obtain ⟨k, hk⟩ := List.getElem?_of_mem hq; exact h.2 k q hk⟩
    rw [List.nodup_iff_pairwise_ne, List.pairwise_iff_getElem]
    intro i j hi hj hij e
    rw [List.length_map] at hi hj
    rw [List.getElem_map, List.getElem_map] at e
    have := h.1 i j _ _ (List.getElem?_eq_getElem hi) (List.getElem?_eq_getElem hj) e
    omega
  · intro h
    refine ⟨fun i j p q hi hj hpq => ?_, fun k q hk => h.2 q (List.mem_of_getElem? hk)⟩
    have hi' := (List.getElem?_eq_some_iff.mp hi).1
    exact (List.getElem?_inj (by rw [List.length_map]; exact hi') h.1).mp (by rw [List.getElem?_map, List.getElem?_map, hi, hj]; exact congrArg some hpq)
theorem Ev.perm {g : Gm} {A : Nat → Prop} {H0 H : Heap} {locs : List Loc} {ws ws' : va_W} (E : Ev g A H0 H locs ws) (h : List.Perm ws' ws) : Ev g A H0 H locs ws' := by
  obtain ⟨hP, hD, hS⟩ := E
  rw [va_P_iff] at hP
  rw [va_D_iff] at hD
  exact ⟨va_P_iff.mpr fun q hq => hP q (h.mem_iff.mp hq), va_D_iff.mpr ⟨(h.map _).nodup_iff.mpr hD.1, fun q hq => hD.2 q (h.mem_iff.mp hq)⟩, hS⟩
/-- the last of the cells are the callee's -/
theorem Cut.app {g : Gm} {A : Nat → Prop} {H0 H : Heap} {locs : List Loc} {wr wc : va_W} (E : Ev g A H0 H locs (wr ++ wc)) (hA : ∀ q, H0.size ≤ q → A q) : Cut g A H wc wr := by
  obtain ⟨hP, hD, hS⟩ := E
  have hP' := va_P_iff.mp hP
  have hD' := va_D_iff.mp hD
  have hn : (wr.map (·.1) ++ wc.map (·.1)).Nodup := by rw [← List.map_append]; exact hD'.1
  have hn' := List.nodup_append.mp hn
  have hF : ∀ q, va_A wc H.size q → A q := by
    intro q h
    rcases h with ⟨k, e, h⟩ | h
    · exact hD'.2 (q, e) (List.mem_append_right _ (List.mem_of_getElem? h))
    · exact hA q (Nat.le_trans hS.1 h)
  refine ⟨va_P_iff.mpr fun q hq => hP' q (List.mem_append_right _ hq), va_D_iff.mpr ⟨hn'.2.1, fun _ _ => trivial⟩, hF, fun w1 H1 hk hP1 hD1 => ?_⟩
  have hD1' := va_D_iff.mp hD1
  have lt : ∀ q ∈ wr, q.1 < H.size := fun q hq => (hP' q (List.mem_append_left _ hq)).lt
  have out : ∀ q ∈ wr, ¬ va_A wc H.size q.1 := by
    intro q hq h
    rcases h with ⟨k, e, h⟩ | h
    · exact (hn'.2.2 q.1 (List.mem_map.mpr ⟨q, hq, rfl⟩) q.1 (List.mem_map.mpr ⟨(q.1, e), List.mem_of_getElem? h, rfl⟩)) rfl
    · have := lt q hq; omega
  refine ⟨va_P_iff.mpr fun q hq => ?_, va_D_iff.mpr ⟨?_, fun q hq => ?_⟩⟩
  · rcases List.mem_append.mp hq with h | h
    · exact (hP' q (List.mem_append_left _ h)).kept (hk q.1 (lt q h) (out q h))
    · exact va_P_iff.mp hP1 q h
  · rw [List.map_append, List.nodup_append]
    refine ⟨hn'.1, hD1'.1, fun a ha b hb e => ?_⟩
    obtain ⟨q, hq, rfl⟩ := List.mem_map.mp ha
    obtain ⟨q2, hq2, rfl⟩ := List.mem_map.mp hb
    exact out q hq (by rw [e]; exact hD1'.2 q2 hq2)
  · rcases List.mem_append.mp hq with h | h
    · exact hD'.2 q (List.mem_append_left _ h)
    · exact hF q.1 (hD1'.2 q h)
