/-! THE LAW'S WORLD: the years, and the two objects -/
abbrev LW (g : Gm) (yr : Nat) (yf : Nat → Int32) (qo qp : Fx) (uo up : SOB) (so sp : Sg) : va_W := [(yr, .inl (g.2.1 0, 6, .inl yf))] ++ (OB g qp up sp ++ OB g qo uo so)
section PERML
variable {Y P O : va_W}
theorem pm_lo : ((Y ++ P) ++ O).Perm (Y ++ (P ++ O)) := by
  have h := perm_ix [Y, P, O] (is := [0, 1, 2]) (js := [0, 1, 2]) (by decide)
  simpa [cat] using h
theorem pm_lp : ((Y ++ O) ++ P).Perm (Y ++ (P ++ O)) := by
  have h := perm_ix [Y, P, O] (is := [0, 2, 1]) (js := [0, 1, 2]) (by decide)
  simpa [cat] using h
end PERML
/-- the law goes on at pc, behind its turn t -/
def KT (p : Program) (l : Launch) (e : Env) (s : State) (m : MethodId) (below : List Frame) (meth : Method) (c : Code) (sb : Nat) (g : Gm) (yr : Nat) (qo qp : Fx) (t pc dk dn : Nat) : Prop := ∀ (C M A : Nat) (yf : Nat → Int32) (uo up : SOB) (σ : Sg) (cvs : List CV) (H : Heap) (locs : List Loc) (ls : Array Slot) (k n : Nat), TI (t + 1) C M A yf uo up σ cvs → k ≤ 100 * t + dk + 2 * eg σ + 400 → n ≤ 20000 * t + dn + 4 * ec σ + 5000 → Ev g (fun q => s.heap.size ≤ q) s.heap H locs (LW g yr yf qo qp uo up σ σ) → lv_has ls 20 [(7, .int (nI t)), (6, .ref yr), (5, .int (nI A)), (4, .int (nI M)), (3, .int (nI (cnt σ))), (2, .ref qp.1), (1, .ref qo.1), (0, .ref sb)] → W p l e room_1 s m #[.ref sb] below meth c H locs k n (lw_Z below #[.ref sb] s) (F0 m pc ls [])
/-- the law's end: true -/
theorem law_out {p : Program} {l : Launch} {e : Env} {s : State} {m : MethodId} {below : List Frame} {meth : Method} {c : Code} {sb L : Nat} {xs : Nat → Int32} {H : Heap} {locs : List Loc} {ls : Array Slot} {k n : Nat} (C0 : lw_At p s m meth c sb L xs) (hS : va_S (fun q => s.heap.size ≤ q) s.heap H locs) (h1 : k ≤ 600312) (h2 : n ≤ 7292162) : W p l e room_1 s m #[.ref sb] below meth c H locs k n (lw_Z below #[.ref sb] s) (F0 m 1498 ls [.int 1]) := by
  refine va_forget (fun q hq => hS.2.2 q hq) ?_
  refine W.widen (k := 600312) (n := 7292162) h1 h2 ?_
  exact lw_ret C0.1 C0.2.1 C0.2.2.1 C0.2.2.2.2.2.2.2.2.1 dL_law_1498
