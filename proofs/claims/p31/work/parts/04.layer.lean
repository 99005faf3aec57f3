/-! THE LAYER: one list of words for every contract; the bundle of facts of a point; contracts that tell how much was made -/
/-- two private methods of a class that is never made itself: they are called on a StringBuilder -/
def lw_xw : List Cond := [.selects RJ4 yJ5_ensureCapacityInternal_d00df yJ5_ensureCapacityInternal_d00df, .selects RJ4 yJ5_newCapacity_0f7a4 yJ5_newCapacity_0f7a4]
def lw_t2 : List Cond := lw_tbl ++ lw_xw
def lw_g : List Cond := lw_t2.filter goodWord
theorem lw_gx {w : Cond} (h : w ∈ lw_xw) (hg : goodWord w = true) : w ∈ lw_g := List.mem_filter.mpr ⟨List.mem_append_right _ h, hg⟩
theorem lw_gi {w : Cond} (i : Nat) (h : lw_tbl[i]? = some w) (hg : goodWord w = true) : w ∈ lw_g := List.mem_filter.mpr ⟨List.mem_append_left _ (List.mem_of_getElem? h), hg⟩
theorem lw_gg : ∀ w ∈ lw_g, goodWord w = true := fun _ h => (List.mem_filter.mp h).2
theorem lw_gt : ∀ w ∈ lw_g, w ∈ lw_t2 := fun _ h => (List.mem_filter.mp h).1
abbrev wsY (y : MethodName) (b : ByteArray) (n : Nat) (r : Option FieldType) : List Cond := Cond.code y b n r :: lw_g
theorem gi_Y {y : MethodName} {b : ByteArray} {n : Nat} {r : Option FieldType} (h : Cond.code y b n r ∈ lw_g) : GoodIn lw_g (wsY y b n r) := by
  intro w hw
  have hm : w ∈ lw_g := (List.mem_cons.mp hw).elim (fun e => e ▸ h) id
  exact ⟨hm, good_of_word (lw_gg w hm)⟩
theorem gi_wsV {own C : String} {idx : Nat} {y : MethodName} {b : ByteArray} {n : Nat} {r : Option FieldType} (h1 : Cond.methodLink own idx y ∈ lw_g) (h2 : Cond.instanceMethod y ∈ lw_g) (h3 : Cond.selects C y y ∈ lw_g) (h4 : Cond.initialized C ∈ lw_g) (h5 : Cond.code y b n r ∈ lw_g) : GoodIn lw_g (wsV own idx C y (wsY y b n r)) := by
  intro w hw
  have hm : w ∈ lw_g := by
    rcases List.mem_append.mp hw with h | h
    · simp only [List.mem_cons, List.not_mem_nil, or_false] at h
      rcases h with rfl | rfl | rfl | rfl <;> assumption
    · exact (gi_Y h5 w h).1
  exact ⟨hm, good_of_word (lw_gg w hm)⟩
theorem gi_wsS {own : String} {idx : Nat} {y : MethodName} {b : ByteArray} {n : Nat} {r : Option FieldType} (h1 : Cond.methodLink own idx y ∈ lw_g) (h2 : Cond.static y ∈ lw_g) (h4 : Cond.initialized own ∈ lw_g) (h5 : Cond.code y b n r ∈ lw_g) : GoodIn lw_g (wsS own idx y (wsY y b n r)) := by
  intro w hw
  have hm : w ∈ lw_g := by
    rcases List.mem_append.mp hw with h | h
    · simp only [List.mem_cons, List.not_mem_nil, or_false] at h
      rcases h with rfl | rfl | rfl <;> assumption
    · exact (gi_Y h5 w h).1
  exact ⟨hm, good_of_word (lw_gg w hm)⟩
abbrev vwC : List vw_C := [(RX0, TX0, 1), (RX1, TX1, 5), (RX2, TX2, 4), (RX3, TX3, 8), (RX4, TX4, 11), (RX5, TX5, 12), (RX6, TX6, 4), (RJ4, TJ4, 4), (RJx4a65c, TJx4a65c, 3)]
abbrev Gm : Type := va_G × (Nat → ClassId) × (Nat → Nat)
abbrev tysG (g : Gm) : List (ClassId × FieldType) := [(g.2.1 0, .int), (g.2.1 1, .long), (g.2.1 2, .boolean), (g.2.1 3, .byte), (g.2.1 4, .object "java/lang/Object"), (g.2.1 5, .object "Aquiferward$World")]
/-- all slots of a heap -/
def tot (H : Heap) : Nat := (H.toList.map (·.slots.size)).sum
theorem tot_split {H0 H : Heap} (h1 : H0.size ≤ H.size) (h2 : ∀ (a : Nat) (c : Cell), H0[a]? = some c → ∃ c' : Cell, H[a]? = some c' ∧ c'.slots.size = c.slots.size) : tot H = tot H0 + ((H.toList.drop H0.size).map (·.slots.size)).sum := by
  have e : (H.toList.take H0.size).map (·.slots.size) = H0.toList.map (·.slots.size) := by
    apply List.ext_getElem?
    intro i
    by_cases hi : i < H0.size
    · have hc : H0[i]? = some H0[i] := Array.getElem?_eq_getElem hi
      obtain ⟨c', h3, h4⟩ := h2 i _ hc
      rw [List.getElem?_map, List.getElem?_take, if_pos hi, Array.getElem?_toList, h3, List.getElem?_map, Array.getElem?_toList, hc]
      simp [h4]
    · rw [List.getElem?_map, List.getElem?_take, if_neg hi, List.getElem?_map, Array.getElem?_toList, Array.getElem?_eq_none (by omega)]
      try rfl
  unfold tot
  conv => lhs; rw [← List.take_append_drop H0.size H.toList]
  rw [List.map_append, List.sum_append, e]
section LAYER
variable {p : Program} {l : Launch} {e : Env} {R : Room} {s : State} {m : MethodId} {args : Array Value} {below : List Frame} {meth : Method} {c : Code} {H : Heap} {locs : List Loc} {cells slots : Nat} {Q : State → Prop}
theorem stand_tot {T : State} (X : Stand p l e R s m args below meth c T locs cells slots) : tot T.heap = tot s.heap + ((T.heap.toList.drop s.heap.size).map (·.slots.size)).sum := by
  obtain ⟨-, h1, -, -, -, h6⟩ := X.same
  refine tot_split h1 (fun a c h => ?_)
  obtain ⟨c', g1, -, g3, -⟩ := h6 a c h
  exact ⟨c', g1, g3⟩
/-- what a point's counters say of its heap -/
theorem W.know {g : JFrame} (k : H.size ≤ s.heap.size + cells → tot H ≤ tot s.heap + slots → s.heap.size ≤ H.size → W p l e R s m args below meth c H locs cells slots Q g) : W p l e R s m args below meth c H locs cells slots Q g := by
  intro T hT X
  have h := stand_tot X
  obtain ⟨-, h1, h2, -, h4, -⟩ := id X.same
  subst hT
  exact k h2 (by rw [h]; exact Nat.add_le_add_left h4 _) h1 T rfl X
/-- lower counters, where the heap is known -/
theorem W.tight {g : JFrame} {k n : Nat} (h1 : H.size ≤ s.heap.size + k) (h2 : tot H ≤ tot s.heap + n) (kk : W p l e R s m args below meth c H locs k n Q g) : W p l e R s m args below meth c H locs cells slots Q g := by
  intro T hT X
  have h := stand_tot X
  obtain ⟨g0, g1, -, g3, -, g5⟩ := id X.same
  have hT' : (T.setVm s.vm).heap = H := hT
  rw [hT'] at g1 g3 g5
  refine kk T hT { X with same := ⟨g0, by rw [hT']; exact g1, by rw [hT']; exact h1, by rw [hT']; exact g3, by rw [hT', ← hT]; rw [← hT, h] at h2; omega, by rw [hT']; exact g5⟩ }
end LAYER
def Ev (g : Gm) (A : Nat → Prop) (H0 H : Heap) (locs : List Loc) (ws : va_W) : Prop := va_P g.1 vwC ws H ∧ va_D A ws ∧ va_S A H0 H locs
def lw_nc : List (String × String) := [("java/lang/IllegalArgumentException", "java/lang/IndexOutOfBoundsException"), ("java/lang/IllegalStateException", "java/lang/IndexOutOfBoundsException"), ("java/lang/IllegalStateException", "java/lang/IllegalArgumentException"), ("java/lang/UnsupportedOperationException", "java/lang/IndexOutOfBoundsException"), ("java/lang/UnsupportedOperationException", "java/lang/IllegalArgumentException"), ("java/lang/ArithmeticException", "java/lang/IllegalArgumentException")]
def lw_st : List (String × Nat × String) := [("Aquiferward", 150, "there is no such index"), ("Aquiferward", 227, "a number is out of range"), ("Aquiferward", 98, "there is no room for another well"), ("Aquiferward", 116, "this transfer is not possible"), ("Aquiferward", 127, "so late a month is not counted"), ("Aquiferward", 156, "a well is not asked without itself"), ("Aquiferward", 191, "there is no such account")]
/-- words that the tables alone decide, which 'good' leaves out: what is declared, what is castable, nest mates, interfaces -/
def isDC : Cond → Bool
  | .declares _ => true
  | .castable .. => true
  | .fieldLinkNest .. => true
  | .methodLinkNest .. => true
  | .publicMethod _ => true
  | .unhidden .. => true
  | _ => false
def NWs (U : State) : Prop := ∀ w ∈ lw_tbl, isDC w = true → va_Nw w U
theorem NWs.same {u U : State} (hv : u.vm = U.vm) (h : NWs u) : NWs U := fun w hw hd => va_Nw.same (by cases w <;> first | rfl | cases hd) hv (h w hw hd)
theorem nws_pub {x : MethodName} {s U : State} (hW : s.WarmedH U.vm) (hZ : va_Nw (.publicMethod x) s) : va_Nw (.publicMethod x) U := va_tabs rfl (rfl : (s.setVm U.vm).vm = U.vm) (by rw [Cond.publicMethod_setVm hW.alike]; exact hZ)
theorem nws_unh {a b c : String} {s U : State} (hW : s.WarmedH U.vm) (hZ : va_Nw (.unhidden a b c) s) : va_Nw (.unhidden a b c) U := va_tabs rfl (rfl : (s.setVm U.vm).vm = U.vm) (by rw [Cond.unhidden_setVm hW.alike]; exact hZ)
theorem NWs.warm {s U : State} (hW : s.WarmedH U.vm) (h : NWs s) : NWs U := fun w hw hd => by
  have h1 := h w hw hd
  cases w <;> first | exact va_Nw.warmD hW h1 | exact va_Nw.warmC hW h1 | exact va_Nw.warmF hW h1 | exact va_Nw.warmM hW h1 | exact nws_pub hW h1 | exact nws_unh hW h1 | cases hd
/-- the object that stands for Object[] itself -/
def FWs (g : Gm) (U : State) : Prop := va_Mi "[Ljava/lang/Object;" (g.2.2 3) U
theorem FWs.moved {g : Gm} {u U : State} (hvm : u.vm.Alike U.vm) (h : FWs g u) : FWs g U := va_Mi.moved hvm h
/-- pairs that are not castable -/
def NCs (U : State) : Prop := ∀ q ∈ lw_nc, va_Nc q.1 q.2 U
theorem NCs.moved {u U : State} (hvm : u.vm.Alike U.vm) (h : NCs u) : NCs U := fun q hq => va_Nc.moved hvm (h q hq)
/-- the texts of the class's own throws -/
def STs (U : State) : Prop := ∀ q ∈ lw_st, ∃ a, vk_R q.1 q.2.1 q.2.2 a U
theorem STs.same {u U : State} (hv : u.vm = U.vm) (h : STs u) : STs U := fun q hq => by
  obtain ⟨a, h⟩ := h q hq
  exact ⟨a, vk_R.same hv.symm h⟩
theorem STs.warm {s U : State} (hW : s.WarmedH U.vm) (h : STs s) : STs U := fun q hq => by
  obtain ⟨a, h⟩ := h q hq
  exact ⟨a, vk_R.warm hW h⟩
/-- the names of the accounts: one text, of class and reference alike -/
def bytN : List Int32 := [119, 114, 112, 105, 111, 115, 110, 109, 108]
def NMs (g : Gm) (A : Nat → Prop) (U : State) (H : Heap) : Prop := vk_S 1 [9] [bytN] (fun _ => g.2.2 1) (fun _ => g.2.2 2) A U H
def NRs (g : Gm) (U : State) : Prop := vk_R "Aquiferward" 182 "wrpiosnml" (g.2.2 1) U ∧ True
/-- what a throw wants of the start -/
def ZX (g : Gm) (A : Nat → Prop) (U : State) (H : Heap) : Prop := vx_Zq Bundle.tN "UNASSIGNED_STACK" Bundle.steD A U H ∧ vx_Zq Bundle.tN "SUPPRESSED_SENTINEL" Bundle.listD A U H ∧ NWs U ∧ NCs U ∧ STs U ∧ FWs g U ∧ NRs g U ∧ NMs g A U H ∧ va_Zq "jdk/internal/util/Preconditions" "SIOOBE_FORMATTER" "Ljava/util/function/BiFunction;" A U H
theorem ZX.warm {g : Gm} {A : Nat → Prop} {u U : State} {H : Heap} (hW : u.WarmedH U.vm) (h : ZX g A u H) : ZX g A U H := ⟨vx_Zq.moved hW.alike h.1, vx_Zq.moved hW.alike h.2.1, h.2.2.1.warm hW, NCs.moved hW.alike h.2.2.2.1, h.2.2.2.2.1.warm hW, FWs.moved hW.alike h.2.2.2.2.2.1, ⟨vk_R.warm hW h.2.2.2.2.2.2.1.1, trivial⟩, vk_S.moved hW.alike h.2.2.2.2.2.2.2.1, va_Zq.moved hW.alike h.2.2.2.2.2.2.2.2⟩
theorem ZX.same {g : Gm} {A : Nat → Prop} {u U : State} {H : Heap} (hv : u.vm = U.vm) (h : ZX g A u H) : ZX g A U H := by
  have ha : u.vm.Alike U.vm := by rw [hv]; exact Vm.Alike.refl U.vm
  exact ⟨vx_Zq.moved ha h.1, vx_Zq.moved ha h.2.1, h.2.2.1.same hv, NCs.moved ha h.2.2.2.1, h.2.2.2.2.1.same hv, FWs.moved ha h.2.2.2.2.2.1, ⟨vk_R.same hv.symm h.2.2.2.2.2.2.1.1, trivial⟩, vk_S.moved ha h.2.2.2.2.2.2.2.1, va_Zq.moved ha h.2.2.2.2.2.2.2.2⟩
theorem ZX.kept {g : Gm} {A : Nat → Prop} {U : State} {H H1 : Heap} (h : ZX g A U H) (hq : ∀ a : Nat, a < H.size → ¬ A a → H1[a]? = H[a]?) : ZX g A U H1 := ⟨h.1.kept hq, h.2.1.kept hq, h.2.2.1, h.2.2.2.1, h.2.2.2.2.1, h.2.2.2.2.2.1, h.2.2.2.2.2.2.1, vk_S.kept h.2.2.2.2.2.2.2.1 hq, va_Zq.kept h.2.2.2.2.2.2.2.2 hq⟩
theorem ZX.narrow {g : Gm} {A B : Nat → Prop} {U : State} {H : Heap} (h : ZX g A U H) (hAB : ∀ q, B q → A q) : ZX g B U H := ⟨h.1.narrow hAB, h.2.1.narrow hAB, h.2.2.1, h.2.2.2.1, h.2.2.2.2.1, h.2.2.2.2.2.1, h.2.2.2.2.2.2.1, vk_S.narrow h.2.2.2.2.2.2.2.1 hAB, va_Zq.narrow h.2.2.2.2.2.2.2.2 hAB⟩
/-- statics that nobody writes: String.COMPACT_STRINGS, ArrayList's empty array; what a throw wants -/
def Zs (g : Gm) (A : Nat → Prop) (U : State) (H : Heap) : Prop := va_Z "java/lang/String" "COMPACT_STRINGS" "Z" (.int 1) A U H ∧ va_Z "java/util/ArrayList" "DEFAULTCAPACITY_EMPTY_ELEMENTDATA" "[Ljava/lang/Object;" (.ref (g.2.2 0)) A U H ∧ va_T (.object "java/lang/Object") (g.2.2 0) 0 (fun _ => .null) A U H ∧ (va_AO "java/lang/Object" U ∧ va_AO "Aquiferward$World" U) ∧ ZX g A U H
theorem Zs.warm {g : Gm} {A : Nat → Prop} {u U : State} {H : Heap} (hW : u.WarmedH U.vm) (h : Zs g A u H) : Zs g A U H := ⟨va_Z.moved hW.alike h.1, va_Z.moved hW.alike h.2.1, va_T.moved hW.alike h.2.2.1, ⟨va_AO.moved hW.alike h.2.2.2.1.1, va_AO.moved hW.alike h.2.2.2.1.2⟩, h.2.2.2.2.warm hW⟩
theorem Zs.same {g : Gm} {A : Nat → Prop} {u U : State} {H : Heap} (hv : u.vm = U.vm) (h : Zs g A u H) : Zs g A U H := by
  have ha : u.vm.Alike U.vm := by rw [hv]; exact Vm.Alike.refl U.vm
  exact ⟨va_Z.moved ha h.1, va_Z.moved ha h.2.1, va_T.moved ha h.2.2.1, ⟨va_AO.moved ha h.2.2.2.1.1, va_AO.moved ha h.2.2.2.1.2⟩, h.2.2.2.2.same hv⟩
theorem Zs.kept {g : Gm} {A : Nat → Prop} {U : State} {H H1 : Heap} (h : Zs g A U H) (hq : ∀ a : Nat, a < H.size → ¬ A a → H1[a]? = H[a]?) : Zs g A U H1 := ⟨va_Z.kept h.1 hq, va_Z.kept h.2.1 hq, va_T.kept h.2.2.1 hq, h.2.2.2.1, h.2.2.2.2.kept hq⟩
theorem Zs.narrow {g : Gm} {A B : Nat → Prop} {U : State} {H : Heap} (h : Zs g A U H) (hAB : ∀ q, B q → A q) : Zs g B U H := ⟨va_Z.narrow h.1 hAB, va_Z.narrow h.2.1 hAB, va_T.narrow h.2.2.1 hAB, h.2.2.2.1, h.2.2.2.2.narrow hAB⟩
theorem Zs.at {g : Gm} {A : Nat → Prop} {s : State} {H0 H : Heap} {locs : List Loc} {ws : va_W} (h : Zs g A s H0) (E : Ev g A H0 H locs ws) : Zs g A s H := h.kept (fun a h1 h2 => E.2.2.2.1 a h1 h2)
abbrev Sta (p : Program) (c : Code) (cc : ByteArray) (s : State) (args : Array Value) (own : String) (m : MethodId) : Prop := p.tables.exec = Jvm.exec ∧ c.code = cc ∧ (∀ w ∈ lw_g, w.before args s = true) ∧ s.vm.findClass own = some m.cls
/-- a method's start: its world, the size of the heap and of all its slots -/
def PreX (g : Gm) (ws : va_W) (sz tt : Nat) : State → Prop := fun U => U.heap.size = sz ∧ tot U.heap = tt ∧ va_P g.1 vwC ws U.heap ∧ va_K g.1 vwC (tysG g) U ∧ va_D (fun _ => True) ws ∧ Zs g (va_A ws sz) U U.heap
def AtX {S : Type} (g : Gm) (A : Nat → Prop) (wf : S → va_W) (kx : S → Nat × Nat) (sz tt : Nat) : S → State → Prop := fun u t => va_P g.1 vwC (wf u) t.heap ∧ va_K g.1 vwC (tysG g) t ∧ va_D A (wf u) ∧ t.heap.size ≤ sz + (kx u).1 ∧ tot t.heap ≤ tt + (kx u).2
def MXi {S : Type} (l : Launch) (g : Gm) (y : MethodName) (cc : ByteArray) (maxL : Nat) (rt : FieldType) (rm : Room) (As : List Value) (ws : va_W) (post : Int32 → S → Prop) (wf : S → va_W) (kx : S → Nat × Nat) : Prop := ∀ sz tt : Nat, Met l y (wsY y cc maxL (some rt)) rm (va_Pc As (PreX g ws sz tt)) (va_Qi post (AtX g (va_A ws sz) wf kx sz tt) (va_A ws sz)) rm.cells rm.slots (va_A ws sz)
def MXl {S : Type} (l : Launch) (g : Gm) (y : MethodName) (cc : ByteArray) (maxL : Nat) (rm : Room) (As : List Value) (ws : va_W) (post : Int64 → S → Prop) (wf : S → va_W) (kx : S → Nat × Nat) : Prop := ∀ sz tt : Nat, Met l y (wsY y cc maxL (some .long)) rm (va_Pc As (PreX g ws sz tt)) (va_Ql post (AtX g (va_A ws sz) wf kx sz tt) (va_A ws sz)) rm.cells rm.slots (va_A ws sz)
def MXv {S : Type} (l : Launch) (g : Gm) (y : MethodName) (cc : ByteArray) (maxL : Nat) (rm : Room) (As : List Value) (ws : va_W) (post : S → Prop) (wf : S → va_W) (kx : S → Nat × Nat) : Prop := ∀ sz tt : Nat, Met l y (wsY y cc maxL none) rm (va_Pc As (PreX g ws sz tt)) (va_Qv post (AtX g (va_A ws sz) wf kx sz tt) (va_A ws sz)) rm.cells rm.slots (va_A ws sz)
theorem PreX.blind {g : Gm} {ws : va_W} {sz tt : Nat} {As : List Value} : FrameBlind (va_Pc As (PreX g ws sz tt)) := fun a U gf mk q => by
  obtain ⟨q0, q1, q2, qP, qK, qD, qZ⟩ := q
  exact ⟨q0, q1, q2, qP, va_K.moved (u := U) (U := U.calling gf mk a) (Vm.Alike.refl U.vm) qK, qD, Zs.same (u := U) (U := U.calling gf mk a) rfl qZ⟩
theorem va_freeAll {A0 : Nat → Prop} {ws : va_W} {H0 H : Heap} {locs : List Loc} (hD : va_D A0 ws) (hS : va_S A0 H0 H locs) (hA : ∀ q, H0.size ≤ q → A0 q) : ∀ q, va_A ws H.size q → A0 q := by
  intro q h
  rcases h with ⟨k, e, h⟩ | h
  · exact hD.2 k (q, e) h
  · exact hA q (Nat.le_trans hS.1 h)
section ENTRY
variable {l : Launch} {g : Gm} {y : MethodName} {cc : ByteArray} {maxL : Nat} {rm : Room} {As : List Value} {ws : va_W}
/-- a method's body, from its start -/
theorem ofX {ret : Option FieldType} {Qc : Array Value → State → Outcome → State → Prop} {sz tt : Nat} {mc ms : Nat} (own : String) (hown : own = y.cls) (hy : plainName y.cls = true) (hn : (lg_sl As).length ≤ maxL)
    (body : ∀ (p : Program) (e : Env) (s : State) (m : MethodId) (args : Array Value) (below : List Frame) (meth : Method) (c : Code), args = As.toArray → Sta p c cc s args own m → c.maxLocals = maxL → meth.sig.returnType = ret → meth.locks = false → meth.name = y.name → s.heap.size = sz → tot s.heap = tt → va_K g.1 vwC (tysG g) s → (∀ q : Nat, s.heap.size ≤ q → va_A ws sz q) → Zs g (va_A ws sz) s s.heap → Ev g (va_A ws sz) s.heap s.heap [] ws → ∀ ls : Array Slot, lv_has ls maxL (lv_args 0 As) →
      W p l e rm s m args below meth c s.heap [] 0 0 (MQ below Qc args s mc ms (va_A ws sz)) (F0 m 0 ls [])) : Met l y (wsY y cc maxL ret) rm (va_Pc As (PreX g ws sz tt)) Qc mc ms (va_A ws sz) := by
  refine Met.ofW (cc := cc) (maxL := maxL) (ret := ret) hy rfl ?_
  intro p e s m args below meth c s₁ B hml hv
  obtain ⟨rfl, hsz, htt, hP, hK, hD0, hZ⟩ := hv
  have hts := atoms_spec (ws := wsY y cc maxL ret) B.pre
  have ho : s.vm.findClass own = some m.cls := by rw [hown]; exact findClass_of_methodNamed B.named
  rw [lg_entry_eq]
  exact body p e s m _ below meth c rfl ⟨B.exec, B.bytes, fun w h => hts w (List.mem_cons_of_mem _ h), ho⟩ hml B.returns B.notSynchronized (name_of_methodNamed B.named B.method).1 hsz htt hK (fun q h => Or.inr (by rw [← hsz]; exact h)) hZ ⟨hP, hD0.self, va_S.rf⟩ _ (lv_entry As hn)
end ENTRY
section ROWS
variable {p : Program} {l : Launch} {e : Env} {R : Room} {s : State} {m : MethodId} {args : Array Value} {below : List Frame} {meth : Method} {c : Code} {H : Heap} {locs : List Loc} {cells slots : Nat} {Q : State → Prop}
variable {cc : ByteArray} {pc : Nat} {ls : Array Slot} {rest : List Value} {g : Gm} {A : Nat → Prop} {H0 : Heap} {ws : va_W} {own : String}
theorem w_get {C ref : String} {T : u_T} {N ci idx a q0 k : Nat} {fs : List Value} {v : Value} (S : Sta p c cc s args own m) (hK : va_K g.1 vwC (tysG g) s) (E : Ev g A H0 H locs ws) (hin : ∀ w ∈ u_ws C T N, w ∈ lw_g) (he : ws[q0]? = some (a, .inr (ci, fs))) (hc : vwC[ci]? = some (C, T, N)) (hk : k < N) (hlink : Cond.fieldLink own idx ref (T k).2.1 (T k).2.2.1 ∈ lw_g) (href : ref = (T k).1) (hv : fs[k]? = some v) (hdg : decode cc pc = .ok (.getfield idx, 3))
    (kk : W p l e R s m args below meth c H locs cells slots Q (F0 m (pc + 3) ls (v :: rest))) : W p l e R s m args below meth c H locs cells slots Q (F0 m pc ls (.ref a :: rest)) := by
  subst href
  exact va_get S.1 S.2.1 S.2.2.1 hin S.2.2.2 hK E.1 q0 he hc k hk (S.2.2.1 _ hlink) (fun _ h => h) hv hdg kk
theorem w_put {C ref : String} {T : u_T} {N ci idx a q0 k : Nat} {fs : List Value} {v : Value} {ty : FieldType} (S : Sta p c cc s args own m) (hK : va_K g.1 vwC (tysG g) s) (E : Ev g A H0 H locs ws) (hin : ∀ w ∈ u_ws C T N, w ∈ lw_g) (ty0 : Nat → FieldType) (hty : ∀ k, k < N → parseFieldDescriptor (T k).2.2.1 = some (ty0 k)) (hnm : ∀ a, a < N → ∀ b, b < N → a ≠ b → (T a).2.1 ≠ (T b).2.1) (he : ws[q0]? = some (a, .inr (ci, fs))) (hc : vwC[ci]? = some (C, T, N)) (hk : k < N) (hlink : Cond.fieldLink own idx ref (T k).2.1 (T k).2.2.1 ∈ lw_g) (href : ref = (T k).1) (hfin : (T k).2.2.2 = false) (hd : ty0 k = ty) (hn : narrow ty v = v) (hfit : fits ty v = true) (hl : k < fs.length) {w' : va_W} (hw : ws.set q0 (a, .inr (ci, fs.set k v)) = w') (hdg : decode cc pc = .ok (.putfield idx, 3))
    (kk : ∀ (H1 : Heap) (locs1 : List Loc), Ev g A H0 H1 locs1 w' → W p l e R s m args below meth c H1 locs1 cells slots Q (F0 m (pc + 3) ls rest)) : W p l e R s m args below meth c H locs cells slots Q (F0 m pc ls (v :: .ref a :: rest)) := by
  subst href
  subst hw
  exact va_put S.1 S.2.1 S.2.2.1 hin ty0 hty hnm S.2.2.2 hK E.1 E.2.1 E.2.2 q0 he hc k hk (S.2.2.1 _ hlink) (fun _ h => h) hfin (by rw [hty k hk, hd]) hn hfit hl hdg (fun H1 l1 hP hD hS => kk H1 l1 ⟨hP, hD, hS⟩)
end ROWS
