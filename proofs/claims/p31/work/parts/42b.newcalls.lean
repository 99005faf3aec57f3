/-! THE NEW OBJECT'S CALLS -/
abbrev n1 (lo w : Int32) : Sg := fo1 lo (0, 5, 0, 50, w) σ0
abbrev n2 (lo w : Int32) : Sg := fo1 lo (2, 0, 0, 0, 0) (n1 lo w)
abbrev n3 (lo w : Int32) : Sg := fo1 lo (8, 5, 10, 500, 0) (n2 lo w)
abbrev n4 (lo w : Int32) : Sg := fo1 lo (8, 5, 20, 500, 0) (n3 lo w)
abbrev n5 (lo w a : Int32) : Sg := fo1 lo (9, 0, a, 0, 0) (n4 lo w)
abbrev n6 (lo w a b : Int32) : Sg := fo1 lo (9, 1, b, 0, 0) (n5 lo w a)
abbrev nv (w a b : Int32) : List CV := [(0, 5, 0, 50, w), (2, 0, 0, 0, 0), (8, 5, 10, 500, 0), (8, 5, 20, 500, 0), (9, 0, a, 0, 0), (9, 1, b, 0, 0), (11, nI 1, 0, 0, 0)]
theorem add_0 {σ : Sg} {x y z : Int32} (h : gs σ 4 = 0) : f_X4_add σ x y z = ss (si (si (si (si σ 18 0 x) 19 0 y) 20 0 z) 27 0 0) 4 1 := by
  have c : cnt σ = 0 := by unfold cnt; rw [h]; decide
  unfold f_X4_add
  rw [c, if_pos (by decide), f_X4_add_L46]
  have e : gs (si (si (si σ 18 (nI 0) x) 19 (nI 0) y) 20 (nI 0) z) 4 = 0 := by
    unfold gs
    rw [si_ne (by decide), si_ne (by decide), si_ne (by decide)]
    exact h
  rw [e]
  rfl
theorem add_1 {σ : Sg} {x y z : Int32} (h : gs σ 4 = 1) (h27 : gi σ 27 0 = 0) (h19 : gi σ 19 0 ≤ y) : f_X4_add σ x y z = ss (si (si (si (si σ 18 1 x) 19 1 y) 20 1 z) 27 1 1) 4 2 := by
  have c : cnt σ = 1 := by unfold cnt; rw [h]; decide
  unfold f_X4_add
  rw [c, if_pos (by decide), f_X4_add_L46]
  have e : gs (si (si (si σ 18 (nI 1) x) 19 (nI 1) y) 20 (nI 1) z) 4 = 1 := by
    unfold gs
    rw [si_ne (by decide), si_ne (by decide), si_ne (by decide)]
    exact h
  have e7 : gi (si (si (si σ 18 (nI 1) x) 19 (nI 1) y) 20 (nI 1) z) 27 (nI 0) = 0 := by
    unfold gi
    rw [si_ne (by decide), si_ne (by decide), si_ne (by decide)]
    exact h27
  have e9 : gi (si (si (si σ 18 (nI 1) x) 19 (nI 1) y) 20 (nI 1) z) 19 0 = gi σ 19 0 := by
    unfold gi
    rw [si_ne (by decide), r_si]
    refine (if_neg (by decide)).trans ?_
    rw [si_ne (by decide)]
  rw [e7, e9, if_pos h19, e]
  rfl
abbrev m2 (w : Int32) : Sg := si (f_X5_fillCell σ0 5 0 50 w) 13 0 0
abbrev m3 (w : Int32) : Sg := ss (si (si (si (si (m2 w) 18 0 5) 19 0 10) 20 0 500) 27 0 0) 4 1
abbrev m4 (w : Int32) : Sg := ss (si (si (si (si (m3 w) 18 1 5) 19 1 20) 20 1 500) 27 1 1) 4 2
theorem n2_e {lo w : Int32} : n2 lo w = m2 w := rfl
theorem na_1 : gi σ0 10 5 = 0 := by unfold gi; rfl
theorem na_2 {w : Int32} : gi (n1 (-1) w) 13 0 = 4 := by
  show gi (f_X5_fillCell σ0 5 0 50 w) 13 0 = 4
  unfold gi
  rw [fill_r (by decide) (by decide) (by decide) (by decide)]
  rfl
theorem na_3 {lo w : Int32} : gs (n2 lo w) 4 = 0 := by
  rw [n2_e]
  unfold gs
  rw [si_ne (by decide), fill_r (by decide) (by decide) (by decide) (by decide)]
  rfl
theorem n3_e {lo w : Int32} : n3 lo w = m3 w := by
  show f_X4_add (n2 lo w) 5 10 500 = _
  rw [add_0 na_3, n2_e]
theorem na_4 {lo w : Int32} : gs (n3 lo w) 4 = 1 := by
  rw [n3_e]
  rfl
theorem n4_e {lo w : Int32} : n4 lo w = m4 w := by
  show f_X4_add (n3 lo w) 5 20 500 = _
  rw [add_1 na_4 (by rw [n3_e]; rfl) (by rw [n3_e]; exact (by decide : (10 : Int32) ≤ 20)), n3_e]
theorem na_4b {lo w : Int32} : gs (n4 lo w) 4 = 2 := by
  rw [n4_e]
  rfl
theorem na_5 {lo w : Int32} : gi (n4 lo w) 21 0 = 0 := by
  rw [n4_e]
  rfl
theorem n6_n {w a b : Int32} : n6 (-1) w a b = si (si (m4 w) 21 0 a) 21 1 b := by
  show f_X5_follow_9 (f_X5_follow_9 (n4 (-1) w) (-1) 0 a 0 0) (-1) 1 b 0 0 = _
  unfold f_X5_follow_9
  rw [if_neg (by decide), if_neg (by decide), n4_e]
theorem n5_n {w a : Int32} : n5 (-1) w a = si (m4 w) 21 0 a := by
  show f_X5_follow_9 (n4 (-1) w) (-1) 0 a 0 0 = _
  unfold f_X5_follow_9
  rw [if_neg (by decide), n4_e]
theorem n6_0 {w a b : Int32} : n6 (nI 0) w a b = si (m4 w) 21 1 b := by
  show f_X5_follow_9 (f_X5_follow_9 (n4 (nI 0) w) (nI 0) 0 a 0 0) (nI 0) 1 b 0 0 = _
  unfold f_X5_follow_9
  rw [if_pos (by decide : (0 : Int32) = nI 0), if_neg (by decide : ¬ (1 : Int32) = nI 0), n4_e]
theorem n6_1 {w a b : Int32} : n6 (nI 1) w a b = si (m4 w) 21 0 a := by
  show f_X5_follow_9 (f_X5_follow_9 (n4 (nI 1) w) (nI 1) 0 a 0 0) (nI 1) 1 b 0 0 = _
  unfold f_X5_follow_9
  rw [if_neg (by decide : ¬ (0 : Int32) = nI 1), if_pos (by decide : (1 : Int32) = nI 1), n4_e]
theorem na_6 {w a : Int32} : gi (n5 (-1) w a) 21 1 = 0 := by
  rw [n5_n]
  rfl
theorem nf_n {w a b : Int32} : NF (n6 (-1) w a b) w a b := by
  rw [n6_n]
  exact ⟨rfl, rfl, rfl, rfl, rfl, rfl, rfl, rfl, rfl, rfl, rfl, rfl, rfl, rfl, rfl, rfl⟩
theorem nf_0 {w a b : Int32} : NF (n6 (nI 0) w a b) w 0 b := by
  rw [n6_0]
  exact ⟨rfl, rfl, rfl, rfl, rfl, rfl, rfl, rfl, rfl, rfl, rfl, rfl, rfl, rfl, rfl, rfl⟩
theorem nf_1 {w a b : Int32} : NF (n6 (nI 1) w a b) w a 0 := by
  rw [n6_1]
  exact ⟨rfl, rfl, rfl, rfl, rfl, rfl, rfl, rfl, rfl, rfl, rfl, rfl, rfl, rfl, rfl, rfl⟩
theorem n15 {lo w a b : Int32} (h : lo = -1 ∨ lo = nI 0 ∨ lo = nI 1) : (n6 lo w a b).1 15 = (fun _ => 0) := by
  rcases h with rfl | rfl | rfl
  · rw [n6_n]; rfl
  · rw [n6_0]; rfl
  · rw [n6_1]; rfl
theorem nv_f {lo w a b : Int32} : folS lo (nv w a b) σ0 = f_month (n6 lo w a b) := by
  show fo1 lo (11, nI 1, 0, 0, 0) (n6 lo w a b) = _
  exact fo1_m (by decide)
/-- what the new object's wells have pumped -/
theorem nq_n {w a b : Int32} (hw : 0 ≤ w.toInt) (ha : 0 ≤ a.toInt ∧ a.toInt ≤ 99) (hb : 0 ≤ b.toInt ∧ b.toInt ≤ 99) : gl (folS (-1) (nv w a b) σ0) 23 (nI 0) = (mn a w).toInt64 ∧ gl (folS (-1) (nv w a b) σ0) 23 (nI 1) = if w < a then 0 else (mn b (w - a)).toInt64 := by
  rw [nv_f]
  exact nf_month nf_n (n15 (Or.inl rfl)) hw ha hb
/-- and without the first, without the second -/
theorem nq_0 {w a b : Int32} (hw : 0 ≤ w.toInt) (hb : 0 ≤ b.toInt ∧ b.toInt ≤ 99) : gl (folS (nI 0) (nv w a b) σ0) 23 (nI 1) = (mn b w).toInt64 := by
  rw [nv_f]
  have h := (nf_month nf_0 (n15 (a := a) (b := b) (w := w) (Or.inr (Or.inl rfl))) hw (by decide) hb).2
  refine h.trans ?_
  rw [if_neg (fun z => by rw [i_lt, i_0] at z; omega), Int32.sub_zero]
theorem nq_1 {w a b : Int32} (hw : 0 ≤ w.toInt) (ha : 0 ≤ a.toInt ∧ a.toInt ≤ 99) : gl (folS (nI 1) (nv w a b) σ0) 23 (nI 0) = (mn a w).toInt64 := by
  rw [nv_f]
  exact (nf_month nf_1 (n15 (a := a) (b := b) (w := w) (Or.inr (Or.inr rfl))) hw ha (by decide)).1
