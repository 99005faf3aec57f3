/-! WORLDS IN BLOCKS: their order is free -/
def cat : List va_W → va_W
  | [] => []
  | a :: t => a ++ cat t
theorem cat_perm {a b : List va_W} (h : a.Perm b) : (cat a).Perm (cat b) := by
  induction h with
  | nil => exact List.Perm.refl _
  | cons x _ ih => exact List.Perm.append_left x ih
  | swap x y l =>
    show (y ++ (x ++ cat l)).Perm (x ++ (y ++ cat l))
    rw [← List.append_assoc, ← List.append_assoc]
    exact List.Perm.append_right _ List.perm_append_comm
  | trans _ _ i j => exact i.trans j
theorem perm_ix (bs : List va_W) {is js : List Nat} (h : is.Perm js) : (cat (is.map (fun i => bs.getD i []))).Perm (cat (js.map (fun i => bs.getD i []))) := cat_perm (h.map _)
section PERMS
variable {X W T : va_W} {x d e c : Nat × va_E}
theorem pm_size : ((X ++ ([e] ++ (T ++ [c]))) ++ [d]).Perm (((X ++ [d, e]) ++ T) ++ [c]) := by
  have h := perm_ix [X, [d], [e], T, [c]] (is := [0, 2, 3, 4, 1]) (js := [0, 1, 2, 3, 4]) (by decide)
  simpa [cat] using h
theorem pm_add : (X ++ ([d, e, c] ++ T)).Perm (((X ++ [d, e]) ++ T) ++ [c]) := by
  have h := perm_ix [X, [d], [e], T, [c]] (is := [0, 1, 2, 4, 3]) (js := [0, 1, 2, 3, 4]) (by decide)
  simpa [cat] using h
theorem pm_fol : (([x] ++ ([d, e] ++ T)) ++ (W ++ [c])).Perm (((([x] ++ W) ++ [d, e]) ++ T) ++ [c]) := by
  have h := perm_ix [[x], W, [d], [e], T, [c]] (is := [0, 2, 3, 4, 1, 5]) (js := [0, 1, 2, 3, 4, 5]) (by decide)
  simpa [cat] using h
theorem pm_fol2 : (([x] ++ ([d, e] ++ T)) ++ (W ++ [c])).Perm (([x] ++ W) ++ ([d, e] ++ (T ++ [c]))) := by
  have h := perm_ix [[x], W, [d], [e], T, [c]] (is := [0, 2, 3, 4, 1, 5]) (js := [0, 1, 2, 3, 4, 5]) (by decide)
  simpa [cat] using h
theorem pm_fol3 : (([x] ++ ([d, e] ++ T)) ++ (W ++ [c])).Perm ((([x] ++ W) ++ [d, e]) ++ (T ++ [c])) := by
  have h := perm_ix [[x], W, [d], [e], T, [c]] (is := [0, 2, 3, 4, 1, 5]) (js := [0, 1, 2, 3, 4, 5]) (by decide)
  simpa [cat] using h
end PERMS
/-- nothing of the world is the callee's -/
theorem Cut.none {g : Gm} {A : Nat → Prop} {H0 H : Heap} {locs : List Loc} {ws : va_W} (E : Ev g A H0 H locs ws) (hA : ∀ q, H0.size ≤ q → A q) : Cut g A H [] ws := Cut.app (by rw [List.append_nil]; exact E) hA
