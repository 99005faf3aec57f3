/-! THE WORLD: what its cells are, by one number-valued state. Row k of the state is the array at place k; row 0 holds the single numbers (0 month, 2 river, 3 sea, 4 count of wells, 5 events, 6 room of the text, 7 how often it grew), row 30 the text. -/
abbrev Sg : Type := (Nat → Nat → Int32) × (Nat → Nat → Int64)
def gi (σ : Sg) (k : Nat) (x : Int32) : Int32 := σ.1 k x.toNatClampNeg
def gl (σ : Sg) (k : Nat) (x : Int32) : Int64 := σ.2 k x.toNatClampNeg
def gs (σ : Sg) (j : Nat) : Int32 := σ.1 0 j
def si (σ : Sg) (k : Nat) (x v : Int32) : Sg := (fun a => if a = k then upd (σ.1 a) x.toNatClampNeg v else σ.1 a, σ.2)
def sl (σ : Sg) (k : Nat) (x : Int32) (v : Int64) : Sg := (σ.1, fun a => if a = k then vp_updL (σ.2 a) x.toNatClampNeg v else σ.2 a)
def ss (σ : Sg) (j : Nat) (v : Int32) : Sg := (fun a => if a = 0 then upd (σ.1 a) j v else σ.1 a, σ.2)
def mn (x y : Int32) : Int32 := if y < x then y else x
def mx (x y : Int32) : Int32 := if x < y then y else x
def ab (x : Int32) : Int32 := if 0 ≤ x then x else 0 - x
def it {α : Type} (f : Nat → α → α) : Nat → α → α
  | 0, a => a
  | n + 1, a => f n (it f n a)
def evn (ke : Int32) (σ : Sg) : Int32 := if ke = 1 then gs σ 5 else 0
def evc (ke : Int32) (σ : Sg) : Nat := if ke = 1 then (gs σ 6).toNatClampNeg else 16
def evt (ke : Int32) (σ : Sg) : Nat → Int32 := if ke = 1 then σ.1 30 else fun _ => 0
def wsW (g : Gm) (ad : Nat → Nat) (lo ke fo : Int32) (ea : Nat) (σ : Sg) : va_W := [(ad 0, .inr (5, [.ref (ad 1), .ref (ad 2), .ref (ad 3), .ref (ad 4), .ref (ad 29), .ref (ad 5), .ref (ad 6), .ref (ad 7), .int lo, .int ke, .int (σ.1 0 0), .int fo])),
  (ad 1, .inr (2, [.ref (ad 8), .ref (ad 9), .ref (ad 10), .ref (ad 11)])),
  (ad 2, .inr (3, [.ref (ad 12), .ref (ad 13), .ref (ad 14), .ref (ad 15), .ref (ad 16), .ref (ad 17), .int (σ.1 0 2), .int (σ.1 0 3)])),
  (ad 3, .inr (4, [.ref (ad 18), .ref (ad 19), .ref (ad 20), .ref (ad 21), .ref (ad 22), .ref (ad 23), .ref (ad 24), .ref (ad 25), .ref (ad 26), .ref (ad 27), .int (σ.1 0 4)])),
  (ad 4, .inr (0, [.ref (ad 28)])),
  (ad 5, .inl (g.2.1 0, 16, .inl (σ.1 5))),
  (ad 6, .inl (g.2.1 0, 16, .inl (σ.1 6))),
  (ad 7, .inl (g.2.1 0, 16, .inl (σ.1 7))),
  (ad 8, .inl (g.2.1 0, 16, .inl (σ.1 8))),
  (ad 9, .inl (g.2.1 0, 16, .inl (σ.1 9))),
  (ad 10, .inl (g.2.1 0, 16, .inl (σ.1 10))),
  (ad 11, .inl (g.2.1 0, 16, .inl (σ.1 11))),
  (ad 12, .inl (g.2.1 0, 8, .inl (σ.1 12))),
  (ad 13, .inl (g.2.1 0, 2, .inl (σ.1 13))),
  (ad 14, .inl (g.2.1 0, 8, .inl (σ.1 14))),
  (ad 15, .inl (g.2.1 0, 8, .inl (σ.1 15))),
  (ad 16, .inl (g.2.1 0, 8, .inl (σ.1 16))),
  (ad 17, .inl (g.2.1 0, 8, .inl (σ.1 17))),
  (ad 18, .inl (g.2.1 0, 6, .inl (σ.1 18))),
  (ad 19, .inl (g.2.1 0, 6, .inl (σ.1 19))),
  (ad 20, .inl (g.2.1 0, 6, .inl (σ.1 20))),
  (ad 21, .inl (g.2.1 0, 6, .inl (σ.1 21))),
  (ad 22, .inl (g.2.1 0, 6, .inl (σ.1 22))),
  (ad 23, .inl (g.2.1 1, 6, .inr (.inl (σ.2 23)))),
  (ad 24, .inl (g.2.1 2, 6, .inl (σ.1 24))),
  (ad 25, .inl (g.2.1 0, 6, .inl (σ.1 25))),
  (ad 26, .inl (g.2.1 0, 6, .inl (σ.1 26))),
  (ad 27, .inl (g.2.1 0, 6, .inl (σ.1 27))),
  (ad 28, .inl (g.2.1 1, 9, .inr (.inl (σ.2 28)))),
  (ad 29, .inr (7, [.ref ea, .int 0, .int 0, .int (evn ke σ)])),
  (ea, .inl (g.2.1 3, evc ke σ, .inl (evt ke σ)))]
theorem wset_5 {g : Gm} {ad : Nat → Nat} {lo ke fo : Int32} {ea : Nat} {σ : Sg} {i x : Int32} : (wsW g ad lo ke fo ea σ).set 5 (ad 5, .inl (g.2.1 0, 16, .inl (upd (σ.1 5) i.toNatClampNeg x))) = wsW g ad lo ke fo ea (si σ 5 i x) := rfl
theorem wset_6 {g : Gm} {ad : Nat → Nat} {lo ke fo : Int32} {ea : Nat} {σ : Sg} {i x : Int32} : (wsW g ad lo ke fo ea σ).set 6 (ad 6, .inl (g.2.1 0, 16, .inl (upd (σ.1 6) i.toNatClampNeg x))) = wsW g ad lo ke fo ea (si σ 6 i x) := rfl
theorem wset_7 {g : Gm} {ad : Nat → Nat} {lo ke fo : Int32} {ea : Nat} {σ : Sg} {i x : Int32} : (wsW g ad lo ke fo ea σ).set 7 (ad 7, .inl (g.2.1 0, 16, .inl (upd (σ.1 7) i.toNatClampNeg x))) = wsW g ad lo ke fo ea (si σ 7 i x) := rfl
theorem wset_8 {g : Gm} {ad : Nat → Nat} {lo ke fo : Int32} {ea : Nat} {σ : Sg} {i x : Int32} : (wsW g ad lo ke fo ea σ).set 8 (ad 8, .inl (g.2.1 0, 16, .inl (upd (σ.1 8) i.toNatClampNeg x))) = wsW g ad lo ke fo ea (si σ 8 i x) := rfl
theorem wset_9 {g : Gm} {ad : Nat → Nat} {lo ke fo : Int32} {ea : Nat} {σ : Sg} {i x : Int32} : (wsW g ad lo ke fo ea σ).set 9 (ad 9, .inl (g.2.1 0, 16, .inl (upd (σ.1 9) i.toNatClampNeg x))) = wsW g ad lo ke fo ea (si σ 9 i x) := rfl
theorem wset_10 {g : Gm} {ad : Nat → Nat} {lo ke fo : Int32} {ea : Nat} {σ : Sg} {i x : Int32} : (wsW g ad lo ke fo ea σ).set 10 (ad 10, .inl (g.2.1 0, 16, .inl (upd (σ.1 10) i.toNatClampNeg x))) = wsW g ad lo ke fo ea (si σ 10 i x) := rfl
theorem wset_11 {g : Gm} {ad : Nat → Nat} {lo ke fo : Int32} {ea : Nat} {σ : Sg} {i x : Int32} : (wsW g ad lo ke fo ea σ).set 11 (ad 11, .inl (g.2.1 0, 16, .inl (upd (σ.1 11) i.toNatClampNeg x))) = wsW g ad lo ke fo ea (si σ 11 i x) := rfl
theorem wset_12 {g : Gm} {ad : Nat → Nat} {lo ke fo : Int32} {ea : Nat} {σ : Sg} {i x : Int32} : (wsW g ad lo ke fo ea σ).set 12 (ad 12, .inl (g.2.1 0, 8, .inl (upd (σ.1 12) i.toNatClampNeg x))) = wsW g ad lo ke fo ea (si σ 12 i x) := rfl
theorem wset_13 {g : Gm} {ad : Nat → Nat} {lo ke fo : Int32} {ea : Nat} {σ : Sg} {i x : Int32} : (wsW g ad lo ke fo ea σ).set 13 (ad 13, .inl (g.2.1 0, 2, .inl (upd (σ.1 13) i.toNatClampNeg x))) = wsW g ad lo ke fo ea (si σ 13 i x) := rfl
theorem wset_14 {g : Gm} {ad : Nat → Nat} {lo ke fo : Int32} {ea : Nat} {σ : Sg} {i x : Int32} : (wsW g ad lo ke fo ea σ).set 14 (ad 14, .inl (g.2.1 0, 8, .inl (upd (σ.1 14) i.toNatClampNeg x))) = wsW g ad lo ke fo ea (si σ 14 i x) := rfl
theorem wset_15 {g : Gm} {ad : Nat → Nat} {lo ke fo : Int32} {ea : Nat} {σ : Sg} {i x : Int32} : (wsW g ad lo ke fo ea σ).set 15 (ad 15, .inl (g.2.1 0, 8, .inl (upd (σ.1 15) i.toNatClampNeg x))) = wsW g ad lo ke fo ea (si σ 15 i x) := rfl
theorem wset_16 {g : Gm} {ad : Nat → Nat} {lo ke fo : Int32} {ea : Nat} {σ : Sg} {i x : Int32} : (wsW g ad lo ke fo ea σ).set 16 (ad 16, .inl (g.2.1 0, 8, .inl (upd (σ.1 16) i.toNatClampNeg x))) = wsW g ad lo ke fo ea (si σ 16 i x) := rfl
theorem wset_17 {g : Gm} {ad : Nat → Nat} {lo ke fo : Int32} {ea : Nat} {σ : Sg} {i x : Int32} : (wsW g ad lo ke fo ea σ).set 17 (ad 17, .inl (g.2.1 0, 8, .inl (upd (σ.1 17) i.toNatClampNeg x))) = wsW g ad lo ke fo ea (si σ 17 i x) := rfl
theorem wset_18 {g : Gm} {ad : Nat → Nat} {lo ke fo : Int32} {ea : Nat} {σ : Sg} {i x : Int32} : (wsW g ad lo ke fo ea σ).set 18 (ad 18, .inl (g.2.1 0, 6, .inl (upd (σ.1 18) i.toNatClampNeg x))) = wsW g ad lo ke fo ea (si σ 18 i x) := rfl
theorem wset_19 {g : Gm} {ad : Nat → Nat} {lo ke fo : Int32} {ea : Nat} {σ : Sg} {i x : Int32} : (wsW g ad lo ke fo ea σ).set 19 (ad 19, .inl (g.2.1 0, 6, .inl (upd (σ.1 19) i.toNatClampNeg x))) = wsW g ad lo ke fo ea (si σ 19 i x) := rfl
theorem wset_20 {g : Gm} {ad : Nat → Nat} {lo ke fo : Int32} {ea : Nat} {σ : Sg} {i x : Int32} : (wsW g ad lo ke fo ea σ).set 20 (ad 20, .inl (g.2.1 0, 6, .inl (upd (σ.1 20) i.toNatClampNeg x))) = wsW g ad lo ke fo ea (si σ 20 i x) := rfl
theorem wset_21 {g : Gm} {ad : Nat → Nat} {lo ke fo : Int32} {ea : Nat} {σ : Sg} {i x : Int32} : (wsW g ad lo ke fo ea σ).set 21 (ad 21, .inl (g.2.1 0, 6, .inl (upd (σ.1 21) i.toNatClampNeg x))) = wsW g ad lo ke fo ea (si σ 21 i x) := rfl
theorem wset_22 {g : Gm} {ad : Nat → Nat} {lo ke fo : Int32} {ea : Nat} {σ : Sg} {i x : Int32} : (wsW g ad lo ke fo ea σ).set 22 (ad 22, .inl (g.2.1 0, 6, .inl (upd (σ.1 22) i.toNatClampNeg x))) = wsW g ad lo ke fo ea (si σ 22 i x) := rfl
theorem wset_23 {g : Gm} {ad : Nat → Nat} {lo ke fo : Int32} {ea : Nat} {σ : Sg} {i : Int32} {x : Int64} : (wsW g ad lo ke fo ea σ).set 23 (ad 23, .inl (g.2.1 1, 6, .inr (.inl (vp_updL (σ.2 23) i.toNatClampNeg x)))) = wsW g ad lo ke fo ea (sl σ 23 i x) := rfl
theorem wset_24 {g : Gm} {ad : Nat → Nat} {lo ke fo : Int32} {ea : Nat} {σ : Sg} {i x y : Int32} (h : vp_nar .boolean x = y) : (wsW g ad lo ke fo ea σ).set 24 (ad 24, .inl (g.2.1 2, 6, .inl (upd (σ.1 24) i.toNatClampNeg (vp_nar .boolean x)))) = wsW g ad lo ke fo ea (si σ 24 i y) := by subst h; rfl
theorem wset_25 {g : Gm} {ad : Nat → Nat} {lo ke fo : Int32} {ea : Nat} {σ : Sg} {i x : Int32} : (wsW g ad lo ke fo ea σ).set 25 (ad 25, .inl (g.2.1 0, 6, .inl (upd (σ.1 25) i.toNatClampNeg x))) = wsW g ad lo ke fo ea (si σ 25 i x) := rfl
theorem wset_26 {g : Gm} {ad : Nat → Nat} {lo ke fo : Int32} {ea : Nat} {σ : Sg} {i x : Int32} : (wsW g ad lo ke fo ea σ).set 26 (ad 26, .inl (g.2.1 0, 6, .inl (upd (σ.1 26) i.toNatClampNeg x))) = wsW g ad lo ke fo ea (si σ 26 i x) := rfl
theorem wset_27 {g : Gm} {ad : Nat → Nat} {lo ke fo : Int32} {ea : Nat} {σ : Sg} {i x : Int32} : (wsW g ad lo ke fo ea σ).set 27 (ad 27, .inl (g.2.1 0, 6, .inl (upd (σ.1 27) i.toNatClampNeg x))) = wsW g ad lo ke fo ea (si σ 27 i x) := rfl
theorem wset_28 {g : Gm} {ad : Nat → Nat} {lo ke fo : Int32} {ea : Nat} {σ : Sg} {i : Int32} {x : Int64} : (wsW g ad lo ke fo ea σ).set 28 (ad 28, .inl (g.2.1 1, 9, .inr (.inl (vp_updL (σ.2 28) i.toNatClampNeg x)))) = wsW g ad lo ke fo ea (sl σ 28 i x) := rfl
theorem wset_month {g : Gm} {ad : Nat → Nat} {lo ke fo : Int32} {ea : Nat} {σ : Sg} {v : Int32} : (wsW g ad lo ke fo ea σ).set 0 (ad 0, .inr (5, [.ref (ad 1), .ref (ad 2), .ref (ad 3), .ref (ad 4), .ref (ad 29), .ref (ad 5), .ref (ad 6), .ref (ad 7), .int lo, .int ke, .int v, .int fo])) = wsW g ad lo ke fo ea (ss σ 0 v) := rfl
theorem wset_followed {g : Gm} {ad : Nat → Nat} {lo ke fo : Int32} {ea : Nat} {σ : Sg} {v : Int32} : (wsW g ad lo ke fo ea σ).set 0 (ad 0, .inr (5, [.ref (ad 1), .ref (ad 2), .ref (ad 3), .ref (ad 4), .ref (ad 29), .ref (ad 5), .ref (ad 6), .ref (ad 7), .int lo, .int ke, .int (σ.1 0 0), .int v])) = wsW g ad lo ke v ea σ := rfl
theorem wset_river {g : Gm} {ad : Nat → Nat} {lo ke fo : Int32} {ea : Nat} {σ : Sg} {v : Int32} : (wsW g ad lo ke fo ea σ).set 2 (ad 2, .inr (3, [.ref (ad 12), .ref (ad 13), .ref (ad 14), .ref (ad 15), .ref (ad 16), .ref (ad 17), .int v, .int (σ.1 0 3)])) = wsW g ad lo ke fo ea (ss σ 2 v) := rfl
theorem wset_sea {g : Gm} {ad : Nat → Nat} {lo ke fo : Int32} {ea : Nat} {σ : Sg} {v : Int32} : (wsW g ad lo ke fo ea σ).set 2 (ad 2, .inr (3, [.ref (ad 12), .ref (ad 13), .ref (ad 14), .ref (ad 15), .ref (ad 16), .ref (ad 17), .int (σ.1 0 2), .int v])) = wsW g ad lo ke fo ea (ss σ 3 v) := rfl
theorem wset_count {g : Gm} {ad : Nat → Nat} {lo ke fo : Int32} {ea : Nat} {σ : Sg} {v : Int32} : (wsW g ad lo ke fo ea σ).set 3 (ad 3, .inr (4, [.ref (ad 18), .ref (ad 19), .ref (ad 20), .ref (ad 21), .ref (ad 22), .ref (ad 23), .ref (ad 24), .ref (ad 25), .ref (ad 26), .ref (ad 27), .int v])) = wsW g ad lo ke fo ea (ss σ 4 v) := rfl
section WROWS
variable {p : Program} {l : Launch} {e : Env} {R : Room} {s : State} {m : MethodId} {args : Array Value} {below : List Frame} {meth : Method} {c : Code} {H : Heap} {locs : List Loc} {cells slots : Nat} {Q : State → Prop}
variable {cc : ByteArray} {pc : Nat} {ls : Array Slot} {rest : List Value} {g : Gm} {A : Nat → Prop} {H0 : Heap} {ws : va_W} {own : String}
theorem w_ild {a n : Nat} {cA : ClassId} {f : Nat → Int32} {i v : Int32} (S : Sta p c cc s args own m) (hK : va_K g.1 vwC (tysG g) s) (E : Ev g A H0 H locs ws) (q0 t0 : Nat) (ha : ws[q0]? = some (a, .inl (cA, n, .inl f))) (ht : (tysG g)[t0]? = some (cA, .int)) (hin : vp_in i n) (hv : f i.toNatClampNeg = v) (hdg : decode cc pc = .ok (.iaload, 1))
    (kk : W p l e R s m args below meth c H locs cells slots Q (F0 m (pc + 1) ls (.int v :: rest))) : W p l e R s m args below meth c H locs cells slots Q (F0 m pc ls (.int i :: .ref a :: rest)) := by
  subst hv
  exact va_iald S.1 S.2.1 hK E.1 q0 t0 ha ht hin hdg kk
theorem w_zld {a n : Nat} {cA : ClassId} {f : Nat → Int32} {i v : Int32} (S : Sta p c cc s args own m) (hK : va_K g.1 vwC (tysG g) s) (E : Ev g A H0 H locs ws) (q0 t0 : Nat) (ha : ws[q0]? = some (a, .inl (cA, n, .inl f))) (ht : (tysG g)[t0]? = some (cA, .boolean)) (hin : vp_in i n) (hv : f i.toNatClampNeg = v) (hdg : decode cc pc = .ok (.baload, 1))
    (kk : W p l e R s m args below meth c H locs cells slots Q (F0 m (pc + 1) ls (.int v :: rest))) : W p l e R s m args below meth c H locs cells slots Q (F0 m pc ls (.int i :: .ref a :: rest)) := by
  subst hv
  exact va_zald S.1 S.2.1 hK E.1 q0 t0 ha ht hin hdg kk
theorem w_lld {a n : Nat} {cA : ClassId} {f : Nat → Int64} {i : Int32} {v : Int64} (S : Sta p c cc s args own m) (hK : va_K g.1 vwC (tysG g) s) (E : Ev g A H0 H locs ws) (q0 t0 : Nat) (ha : ws[q0]? = some (a, .inl (cA, n, .inr (.inl f)))) (ht : (tysG g)[t0]? = some (cA, .long)) (hin : vp_in i n) (hv : f i.toNatClampNeg = v) (hdg : decode cc pc = .ok (.laload, 1))
    (kk : W p l e R s m args below meth c H locs cells slots Q (F0 m (pc + 1) ls (.long v :: rest))) : W p l e R s m args below meth c H locs cells slots Q (F0 m pc ls (.int i :: .ref a :: rest)) := by
  subst hv
  exact va_lald S.1 S.2.1 hK E.1 q0 t0 ha ht hin hdg kk
theorem w_ist {a n : Nat} {cA : ClassId} {f : Nat → Int32} {i x : Int32} {w' : va_W} (S : Sta p c cc s args own m) (hK : va_K g.1 vwC (tysG g) s) (E : Ev g A H0 H locs ws) (q0 t0 : Nat) (ha : ws[q0]? = some (a, .inl (cA, n, .inl f))) (ht : (tysG g)[t0]? = some (cA, .int)) (hin : vp_in i n) (hw : ws.set q0 (a, .inl (cA, n, .inl (upd f i.toNatClampNeg x))) = w') (hdg : decode cc pc = .ok (.iastore, 1))
    (kk : ∀ (H1 : Heap) (locs1 : List Loc), Ev g A H0 H1 locs1 w' → W p l e R s m args below meth c H1 locs1 cells slots Q (F0 m (pc + 1) ls rest)) : W p l e R s m args below meth c H locs cells slots Q (F0 m pc ls (.int x :: .int i :: .ref a :: rest)) := by
  subst hw
  exact va_iast S.1 S.2.1 hK E.1 E.2.1 E.2.2 q0 t0 ha ht hin hdg (fun H1 l1 hP hD hS => kk H1 l1 ⟨hP, hD, hS⟩)
theorem w_zst {a n : Nat} {cA : ClassId} {f : Nat → Int32} {i x : Int32} {w' : va_W} (S : Sta p c cc s args own m) (hK : va_K g.1 vwC (tysG g) s) (E : Ev g A H0 H locs ws) (q0 t0 : Nat) (ha : ws[q0]? = some (a, .inl (cA, n, .inl f))) (ht : (tysG g)[t0]? = some (cA, .boolean)) (hin : vp_in i n) (hw : ws.set q0 (a, .inl (cA, n, .inl (upd f i.toNatClampNeg (vp_nar .boolean x)))) = w') (hdg : decode cc pc = .ok (.bastore, 1))
    (kk : ∀ (H1 : Heap) (locs1 : List Loc), Ev g A H0 H1 locs1 w' → W p l e R s m args below meth c H1 locs1 cells slots Q (F0 m (pc + 1) ls rest)) : W p l e R s m args below meth c H locs cells slots Q (F0 m pc ls (.int x :: .int i :: .ref a :: rest)) := by
  subst hw
  exact va_zast S.1 S.2.1 hK E.1 E.2.1 E.2.2 q0 t0 ha ht hin hdg (fun H1 l1 hP hD hS => kk H1 l1 ⟨hP, hD, hS⟩)
theorem w_lst {a n : Nat} {cA : ClassId} {f : Nat → Int64} {i : Int32} {x : Int64} {w' : va_W} (S : Sta p c cc s args own m) (hK : va_K g.1 vwC (tysG g) s) (E : Ev g A H0 H locs ws) (q0 t0 : Nat) (ha : ws[q0]? = some (a, .inl (cA, n, .inr (.inl f)))) (ht : (tysG g)[t0]? = some (cA, .long)) (hin : vp_in i n) (hw : ws.set q0 (a, .inl (cA, n, .inr (.inl (vp_updL f i.toNatClampNeg x)))) = w') (hdg : decode cc pc = .ok (.lastore, 1))
    (kk : ∀ (H1 : Heap) (locs1 : List Loc), Ev g A H0 H1 locs1 w' → W p l e R s m args below meth c H1 locs1 cells slots Q (F0 m (pc + 1) ls rest)) : W p l e R s m args below meth c H locs cells slots Q (F0 m pc ls (.long x :: .int i :: .ref a :: rest)) := by
  subst hw
  exact va_last S.1 S.2.1 hK E.1 E.2.1 E.2.2 q0 t0 ha ht hin hdg (fun H1 l1 hP hD hS => kk H1 l1 ⟨hP, hD, hS⟩)
theorem w_min {index nL : Nat} {x y v : Int32} {lv : List (Nat × Value)} (S : Sta p c cc s args own m) (hml : c.maxLocals = nL) (hl : lv_has ls nL lv) (hlink : Cond.methodLink own index Lib.Math.min.name ∈ lw_g) (h1 : Cond.static Lib.Math.min.name ∈ lw_g) (h2 : Cond.initialized "java/lang/Math" ∈ lw_g) (h3 : Cond.code Lib.Math.min.name Lib.Math.min.code 2 (some .int) ∈ lw_g) (hfr : 1 ≤ R.frames) (hlo : (rest.map fun v => v.category).sum + 13 ≤ R.locals) (hc : cells ≤ R.cells ∧ slots ≤ R.slots) (hv : mn x y = v) (hdg : decode cc pc = .ok (.invokestatic index, 3))
    (kk : W p l e R s m args below meth c H locs cells slots Q (F0 m (pc + 3) ls (.int v :: rest))) : W p l e R s m args below meth c H locs cells slots Q (F0 m pc ls (.int y :: .int x :: rest)) := by
  subst hv
  exact va_mmin S.1 S.2.1 (hml.trans hl.1.symm) S.2.2.2 (S.2.2.1 _ hlink) (S.2.2.1 _ h1) (S.2.2.1 _ h2) (S.2.2.1 _ h3) hfr hlo hc.1 hc.2 hdg kk
theorem w_max {index nL : Nat} {x y v : Int32} {lv : List (Nat × Value)} (S : Sta p c cc s args own m) (hml : c.maxLocals = nL) (hl : lv_has ls nL lv) (hlink : Cond.methodLink own index Lib.Math.max.name ∈ lw_g) (h1 : Cond.static Lib.Math.max.name ∈ lw_g) (h2 : Cond.initialized "java/lang/Math" ∈ lw_g) (h3 : Cond.code Lib.Math.max.name Lib.Math.max.code 2 (some .int) ∈ lw_g) (hfr : 1 ≤ R.frames) (hlo : (rest.map fun v => v.category).sum + 13 ≤ R.locals) (hc : cells ≤ R.cells ∧ slots ≤ R.slots) (hv : mx x y = v) (hdg : decode cc pc = .ok (.invokestatic index, 3))
    (kk : W p l e R s m args below meth c H locs cells slots Q (F0 m (pc + 3) ls (.int v :: rest))) : W p l e R s m args below meth c H locs cells slots Q (F0 m pc ls (.int y :: .int x :: rest)) := by
  subst hv
  exact va_mmax S.1 S.2.1 (hml.trans hl.1.symm) S.2.2.2 (S.2.2.1 _ hlink) (S.2.2.1 _ h1) (S.2.2.1 _ h2) (S.2.2.1 _ h3) hfr hlo hc.1 hc.2 hdg kk
theorem w_abs {index nL : Nat} {x v : Int32} {lv : List (Nat × Value)} (S : Sta p c cc s args own m) (hml : c.maxLocals = nL) (hl : lv_has ls nL lv) (hlink : Cond.methodLink own index Lib.Math.abs.name ∈ lw_g) (h1 : Cond.static Lib.Math.abs.name ∈ lw_g) (h2 : Cond.initialized "java/lang/Math" ∈ lw_g) (h3 : Cond.code Lib.Math.abs.name Lib.Math.abs.code 1 (some .int) ∈ lw_g) (hfr : 1 ≤ R.frames) (hlo : (rest.map fun v => v.category).sum + 13 ≤ R.locals) (hc : cells ≤ R.cells ∧ slots ≤ R.slots) (hv : ab x = v) (hdg : decode cc pc = .ok (.invokestatic index, 3))
    (kk : W p l e R s m args below meth c H locs cells slots Q (F0 m (pc + 3) ls (.int v :: rest))) : W p l e R s m args below meth c H locs cells slots Q (F0 m pc ls (.int x :: rest)) := by
  subst hv
  exact va_mabs S.1 S.2.1 (hml.trans hl.1.symm) S.2.2.2 (S.2.2.1 _ hlink) (S.2.2.1 _ h1) (S.2.2.1 _ h2) (S.2.2.1 _ h3) hfr hlo hc.1 hc.2 hdg kk
end WROWS
theorem nz_1 {x : Int32} (h : 1 ≤ x) : ¬ x = 0 := fun z => by rw [z] at h; exact absurd h (by decide)
theorem nz_l {x : Int32} (h : 1 ≤ x) : ¬ x.toInt64 = 0 := fun z => nz_1 h (by
  have := congrArg Int64.toInt32 z
  simpa using this)
