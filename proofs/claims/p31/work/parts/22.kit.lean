/-! KIT of the third walker: rows that name their value; new objects; floats; arrays of one value -/
section KROWS
variable {p : Program} {l : Launch} {e : Env} {R : Room} {s : State} {m : MethodId} {args : Array Value} {below : List Frame} {meth : Method} {c : Code} {H : Heap} {locs : List Loc} {cells slots : Nat} {Q : State → Prop}
variable {cc : ByteArray} {pc : Nat} {ls : Array Slot} {rest st0 : List Value} {g : Gm} {A : Nat → Prop} {H0 : Heap} {ws wc wr : va_W} {own C : String} {nL : Nat}
theorem k_iadd {x y v : Int32} (hexec : p.tables.exec = Jvm.exec) (hb : c.code = cc) (hv : x + y = v) (hdg : decode cc pc = .ok (.iadd, 1)) (k : W p l e R s m args below meth c H locs cells slots Q (F0 m (pc + 1) ls (.int v :: rest))) : W p l e R s m args below meth c H locs cells slots Q (F0 m pc ls (.int y :: .int x :: rest)) := by subst hv; exact lv_iadd hexec hb hdg k
theorem k_isub {x y v : Int32} (hexec : p.tables.exec = Jvm.exec) (hb : c.code = cc) (hv : x - y = v) (hdg : decode cc pc = .ok (.isub, 1)) (k : W p l e R s m args below meth c H locs cells slots Q (F0 m (pc + 1) ls (.int v :: rest))) : W p l e R s m args below meth c H locs cells slots Q (F0 m pc ls (.int y :: .int x :: rest)) := by subst hv; exact lv_isub hexec hb hdg k
theorem k_imul {x y v : Int32} (hexec : p.tables.exec = Jvm.exec) (hb : c.code = cc) (hv : x * y = v) (hdg : decode cc pc = .ok (.imul, 1)) (k : W p l e R s m args below meth c H locs cells slots Q (F0 m (pc + 1) ls (.int v :: rest))) : W p l e R s m args below meth c H locs cells slots Q (F0 m pc ls (.int y :: .int x :: rest)) := by subst hv; exact lv_imul hexec hb hdg k
theorem k_iand {x y v : Int32} (hexec : p.tables.exec = Jvm.exec) (hb : c.code = cc) (hv : x &&& y = v) (hdg : decode cc pc = .ok (.iand, 1)) (k : W p l e R s m args below meth c H locs cells slots Q (F0 m (pc + 1) ls (.int v :: rest))) : W p l e R s m args below meth c H locs cells slots Q (F0 m pc ls (.int y :: .int x :: rest)) := by subst hv; exact lv_iand hexec hb hdg k
theorem k_ior {x y v : Int32} (hexec : p.tables.exec = Jvm.exec) (hb : c.code = cc) (hv : x ||| y = v) (hdg : decode cc pc = .ok (.ior, 1)) (k : W p l e R s m args below meth c H locs cells slots Q (F0 m (pc + 1) ls (.int v :: rest))) : W p l e R s m args below meth c H locs cells slots Q (F0 m pc ls (.int y :: .int x :: rest)) := by subst hv; exact lv_ior hexec hb hdg k
theorem k_ishl {x y v : Int32} (hexec : p.tables.exec = Jvm.exec) (hb : c.code = cc) (hv : x <<< (y &&& 31) = v) (hdg : decode cc pc = .ok (.ishl, 1)) (k : W p l e R s m args below meth c H locs cells slots Q (F0 m (pc + 1) ls (.int v :: rest))) : W p l e R s m args below meth c H locs cells slots Q (F0 m pc ls (.int y :: .int x :: rest)) := by subst hv; exact lv_ishl hexec hb hdg k
theorem k_ishr {x y v : Int32} (hexec : p.tables.exec = Jvm.exec) (hb : c.code = cc) (hv : x >>> (y &&& 31) = v) (hdg : decode cc pc = .ok (.ishr, 1)) (k : W p l e R s m args below meth c H locs cells slots Q (F0 m (pc + 1) ls (.int v :: rest))) : W p l e R s m args below meth c H locs cells slots Q (F0 m pc ls (.int y :: .int x :: rest)) := by subst hv; exact lv_ishr hexec hb hdg k
theorem k_ladd {x y v : Int64} (hexec : p.tables.exec = Jvm.exec) (hb : c.code = cc) (hv : x + y = v) (hdg : decode cc pc = .ok (.ladd, 1)) (k : W p l e R s m args below meth c H locs cells slots Q (F0 m (pc + 1) ls (.long v :: rest))) : W p l e R s m args below meth c H locs cells slots Q (F0 m pc ls (.long y :: .long x :: rest)) := by subst hv; exact lv_ladd hexec hb hdg k
theorem k_lsub {x y v : Int64} (hexec : p.tables.exec = Jvm.exec) (hb : c.code = cc) (hv : x - y = v) (hdg : decode cc pc = .ok (.lsub, 1)) (k : W p l e R s m args below meth c H locs cells slots Q (F0 m (pc + 1) ls (.long v :: rest))) : W p l e R s m args below meth c H locs cells slots Q (F0 m pc ls (.long y :: .long x :: rest)) := by subst hv; exact lv_lsub hexec hb hdg k
theorem k_lmul {x y v : Int64} (hexec : p.tables.exec = Jvm.exec) (hb : c.code = cc) (hv : x * y = v) (hdg : decode cc pc = .ok (.lmul, 1)) (k : W p l e R s m args below meth c H locs cells slots Q (F0 m (pc + 1) ls (.long v :: rest))) : W p l e R s m args below meth c H locs cells slots Q (F0 m pc ls (.long y :: .long x :: rest)) := by subst hv; exact lv_lmul hexec hb hdg k
theorem k_idiv {x y v : Int32} (hexec : p.tables.exec = Jvm.exec) (hb : c.code = cc) (hne : ¬ y = 0) (hv : x / y = v) (hdg : decode cc pc = .ok (.idiv, 1)) (k : W p l e R s m args below meth c H locs cells slots Q (F0 m (pc + 1) ls (.int v :: rest))) : W p l e R s m args below meth c H locs cells slots Q (F0 m pc ls (.int y :: .int x :: rest)) := by subst hv; exact lv_idiv hexec hb hdg hne k
theorem k_irem {x y v : Int32} (hexec : p.tables.exec = Jvm.exec) (hb : c.code = cc) (hne : ¬ y = 0) (hv : x - x / y * y = v) (hdg : decode cc pc = .ok (.irem, 1)) (k : W p l e R s m args below meth c H locs cells slots Q (F0 m (pc + 1) ls (.int v :: rest))) : W p l e R s m args below meth c H locs cells slots Q (F0 m pc ls (.int y :: .int x :: rest)) := by subst hv; exact lv_irem hexec hb hdg hne k
theorem k_ldiv {x y v : Int64} (hexec : p.tables.exec = Jvm.exec) (hb : c.code = cc) (hne : ¬ y = 0) (hv : x / y = v) (hdg : decode cc pc = .ok (.ldiv, 1)) (k : W p l e R s m args below meth c H locs cells slots Q (F0 m (pc + 1) ls (.long v :: rest))) : W p l e R s m args below meth c H locs cells slots Q (F0 m pc ls (.long y :: .long x :: rest)) := by subst hv; exact lv_ldiv hexec hb hdg hne k
theorem k_ineg {x v : Int32} (hexec : p.tables.exec = Jvm.exec) (hb : c.code = cc) (hv : -x = v) (hdg : decode cc pc = .ok (.ineg, 1)) (k : W p l e R s m args below meth c H locs cells slots Q (F0 m (pc + 1) ls (.int v :: rest))) : W p l e R s m args below meth c H locs cells slots Q (F0 m pc ls (.int x :: rest)) := by subst hv; exact lv_ineg hexec hb hdg k
theorem k_lcmp {x y : Int64} {v : Int32} (hexec : p.tables.exec = Jvm.exec) (hb : c.code = cc) (hv : lg_cmp x y = v) (hdg : decode cc pc = .ok (.lcmp, 1)) (k : W p l e R s m args below meth c H locs cells slots Q (F0 m (pc + 1) ls (.int v :: rest))) : W p l e R s m args below meth c H locs cells slots Q (F0 m pc ls (.long y :: .long x :: rest)) := by subst hv; exact W.lcmp hexec hb hdg k
theorem k_i2f {x : Int32} {v : UInt32} (hexec : p.tables.exec = Jvm.exec) (hb : c.code = cc) (hv : FP.i2f x = v) (hdg : decode cc pc = .ok (.i2f, 1)) (k : W p l e R s m args below meth c H locs cells slots Q (F0 m (pc + 1) ls (.float v :: rest))) : W p l e R s m args below meth c H locs cells slots Q (F0 m pc ls (.int x :: rest)) := by subst hv; exact lv_i2f hexec hb hdg k
theorem k_i2d {x : Int32} {v : UInt64} (hexec : p.tables.exec = Jvm.exec) (hb : c.code = cc) (hv : FP.i2d x = v) (hdg : decode cc pc = .ok (.i2d, 1)) (k : W p l e R s m args below meth c H locs cells slots Q (F0 m (pc + 1) ls (.double v :: rest))) : W p l e R s m args below meth c H locs cells slots Q (F0 m pc ls (.int x :: rest)) := by subst hv; exact lv_i2d hexec hb hdg k
theorem k_f2d {x : UInt32} {v : UInt64} (hexec : p.tables.exec = Jvm.exec) (hb : c.code = cc) (hv : FP.f2d x = v ∧ vf_n64 (FP.f2d x)) (hdg : decode cc pc = .ok (.f2d, 1)) (k : W p l e R s m args below meth c H locs cells slots Q (F0 m (pc + 1) ls (.double v :: rest))) : W p l e R s m args below meth c H locs cells slots Q (F0 m pc ls (.float x :: rest)) := by obtain ⟨rfl, h⟩ := hv; exact lv_f2d hexec hb hdg h k
theorem k_fdiv {x y v : UInt32} (hexec : p.tables.exec = Jvm.exec) (hb : c.code = cc) (hv : FP.fdiv x y = v ∧ vf_n32 (FP.fdiv x y)) (hdg : decode cc pc = .ok (.fdiv, 1)) (k : W p l e R s m args below meth c H locs cells slots Q (F0 m (pc + 1) ls (.float v :: rest))) : W p l e R s m args below meth c H locs cells slots Q (F0 m pc ls (.float y :: .float x :: rest)) := by obtain ⟨rfl, h⟩ := hv; exact lv_fdiv hexec hb hdg h k
theorem k_ddiv {x y v : UInt64} (hexec : p.tables.exec = Jvm.exec) (hb : c.code = cc) (hv : FP.ddiv x y = v ∧ vf_n64 (FP.ddiv x y)) (hdg : decode cc pc = .ok (.ddiv, 1)) (k : W p l e R s m args below meth c H locs cells slots Q (F0 m (pc + 1) ls (.double v :: rest))) : W p l e R s m args below meth c H locs cells slots Q (F0 m pc ls (.double y :: .double x :: rest)) := by obtain ⟨rfl, h⟩ := hv; exact lv_ddiv hexec hb hdg h k
theorem k_dcmp {x y : UInt64} {v : Int32} {op : CmpOp} (hexec : p.tables.exec = Jvm.exec) (hb : c.code = cc) (hv : Op.cmpValue (FP.dcmp x y) op = v) (hdg : decode cc pc = .ok (.dcmp op, 1)) (k : W p l e R s m args below meth c H locs cells slots Q (F0 m (pc + 1) ls (.int v :: rest))) : W p l e R s m args below meth c H locs cells slots Q (F0 m pc ls (.double y :: .double x :: rest)) := by subst hv; exact lv_dcmp hexec hb hdg k
theorem k_acmpT {x : Nat} {off : Int} {tgt : Nat} (hexec : p.tables.exec = Jvm.exec) (hb : c.code = cc) (hdg : decode cc pc = .ok (.if_acmp .eq off, 3)) (ht : (pc : Int) + off = (tgt : Int)) (k : W p l e R s m args below meth c H locs cells slots Q (F0 m tgt ls rest)) : W p l e R s m args below meth c H locs cells slots Q (F0 m pc ls (.ref x :: .ref x :: rest)) := lv_acmp_eq (rx := some x) (ry := some x) hexec hb hdg ht (fun _ => k) (fun h => absurd rfl h)
theorem w_alenZ (S : Sta p c cc s args own m) (hZ : Zs g A s s.heap) (E : Ev g A s.heap H locs ws) (hdg : decode cc pc = .ok (.arraylength, 1))
    (kk : W p l e R s m args below meth c H locs cells slots Q (F0 m (pc + 1) ls (.int 0 :: rest))) : W p l e R s m args below meth c H locs cells slots Q (F0 m pc ls (.ref (g.2.2 0) :: rest)) := va_tlen S.1 S.2.1 hZ.2.2.1 E.2.2 (by decide) hdg kk
theorem w_new {T : u_T} {N ci index : Nat} {fs : List Value} (S : Sta p c cc s args own m) (hK : va_K g.1 vwC (tysG g) s) (E : Ev g A H0 H locs ws) (hA : ∀ q, H0.size ≤ q → A q) (hin : ∀ w ∈ u_ws C T N, w ∈ lw_g) (ty : Nat → FieldType) (hty : ∀ k, k < N → parseFieldDescriptor (T k).2.2.1 = some (ty k)) (hcl : Cond.classLink own index C ∈ lw_g) (hinst : Cond.instantiable C N ∈ lw_g) (hini : Cond.initialized C ∈ lw_g) (hc : vwC[ci]? = some (C, T, N)) (hfs : ∀ j, j < N → defaultValue (ty j) = vp_V fs j) (hcells : cells + 1 ≤ R.cells) (hslots : slots + N ≤ R.slots) (hdg : decode cc pc = .ok (.new index, 3))
    (kk : ∀ (q : Nat) (H1 : Heap), Ev g A H0 H1 locs (ws ++ [(q, .inr (ci, fs))]) → W p l e R s m args below meth c H1 locs (cells + 1) (slots + N) Q (F0 m (pc + 3) ls (.ref q :: rest))) : W p l e R s m args below meth c H locs cells slots Q (F0 m pc ls rest) :=
  va_new S.1 S.2.1 S.2.2.1 hin ty hty S.2.2.2 (S.2.2.1 _ hcl) (S.2.2.1 _ hinst) (S.2.2.1 _ hini) hK E.1 E.2.1 E.2.2 hA hc hfs hcells hslots hdg (fun q H1 hP hD hS => kk q H1 ⟨hP, hD, hS⟩)
theorem va_RA_eq {U : State} {C : String} {a b : ClassId} (h1 : va_RA U a (.object C)) (h2 : va_RA U b (.object C)) : a = b := by
  obtain ⟨_, _, _, _, _, h3⟩ := h1
  obtain ⟨_, _, _, _, _, h4⟩ := h2
  exact Option.some.inj (h3.symm.trans h4)
theorem w_retvM {S : Type} {post : S → Prop} {wf : S → va_W} {kx : S → Nat × Nat} {a : Array Value} {mc ms : Nat}
    (hr : va_Run p l e R s m args below meth c H locs cells slots mc ms (F0 m pc ls st0) rest (va_Qv post (AtX g (va_A wc H.size) wf kx H.size (tot H)) (va_A wc H.size) a) (va_A wc H.size)) (hc : Cut g A H wc wr) (E : Ev g A H0 H locs ws)
    (kk : ∀ (u : S) (H1 : Heap) (locs1 : List Loc), post u → Ev g A H0 H1 locs1 (wr ++ wf u) → W p l e R s m args below meth c H1 locs1 (cells + mc) (slots + ms) Q (F0 m (pc + 3) ls rest)) : W p l e R s m args below meth c H locs cells slots Q (F0 m pc ls st0) := by
  refine va_callv hr E.2.2 (fun q _ h => hc.2.2.1 q h) hc.2.2.1 (fun u t H1 locs1 ht hvm hw hB hz1 hk1 hS => ?_)
  obtain ⟨hP1, -, hD1, -, -⟩ := hB
  rw [ht] at hP1
  obtain ⟨hP, hD⟩ := hc.2.2.2 _ H1 hk1 hP1 hD1
  exact kk u H1 locs1 hw ⟨hP, hD, hS⟩
theorem w_newq {index : Nat} {n : Int32} {N' : Nat} (t0 : Nat) {cA0 : ClassId} (S : Sta p c cc s args own m) (hK : va_K g.1 vwC (tysG g) s) (E : Ev g A H0 H locs ws) (hA : ∀ q, H0.size ≤ q → A q) (ht : (tysG g)[t0]? = some (cA0, .object C)) (hcl : Cond.classLink own index C ∈ lw_g) (hover : va_AO C s) (hn : ¬ n < 0) (hN : n.toNatClampNeg = N') (hbytes : N' * 4 ≤ 536870912) (hcells : cells + 1 ≤ R.cells) (hslots : slots + N' ≤ R.slots) (hdg : decode cc pc = .ok (.anewarray index, 3))
    (kk : ∀ (q : Nat) (H1 : Heap), Ev g A H0 H1 locs (ws ++ [(q, .inl (cA0, N', .inr (.inr (.inr (.inr (fun _ => none))))))]) → W p l e R s m args below meth c H1 locs (cells + 1) (slots + N') Q (F0 m (pc + 3) ls (.ref q :: rest))) : W p l e R s m args below meth c H locs cells slots Q (F0 m pc ls (.int n :: rest)) := by
  refine va_newq S.1 S.2.1 S.2.2.2 (S.2.2.1 _ hcl) hover hK E.1 E.2.1 E.2.2 hA hn hN hbytes hcells hslots hdg (fun q cA H1 hK1 hP hD hS => ?_)
  have h1 : va_RA s cA (.object C) := (hK1.2 6 (cA, .object C) rfl).2
  have h2 : va_RA s cA0 (.object C) := (hK.2 t0 (cA0, .object C) ht).2
  have e : cA = cA0 := va_RA_eq h1 h2
  subst e
  exact kk q H1 ⟨hP, hD, hS⟩
theorem w_astM {a n v : Nat} {cA : ClassId} {E0 : String} {f : Nat → Option Nat} {i : Int32} {w' : va_W} (S : Sta p c cc s args own m) (hK : va_K g.1 vwC (tysG g) s) (E : Ev g A H0 H locs ws) (q0 t0 : Nat) (ha : ws[q0]? = some (a, .inl (cA, n, .inr (.inr (.inr (.inr f)))))) (ht : (tysG g)[t0]? = some (cA, .object E0)) (hr : va_Any E0 s H v) (hin : vp_in i n) (hw : ws.set q0 (a, .inl (cA, n, .inr (.inr (.inr (.inr (va_up f i.toNatClampNeg (some v))))))) = w') (hdg : decode cc pc = .ok (.aastore, 1))
    (kk : ∀ (H1 : Heap) (locs1 : List Loc), Ev g A H0 H1 locs1 w' → W p l e R s m args below meth c H1 locs1 cells slots Q (F0 m (pc + 1) ls rest)) : W p l e R s m args below meth c H locs cells slots Q (F0 m pc ls (.ref v :: .int i :: .ref a :: rest)) := by
  subst hw
  exact va_astqM S.1 S.2.1 hK E.1 E.2.1 E.2.2 q0 t0 ha ht hr hin hdg (fun H1 l1 hP hD hS => kk H1 l1 ⟨hP, hD, hS⟩)
def MXf {S : Type} (l : Launch) (g : Gm) (y : MethodName) (cc : ByteArray) (maxL : Nat) (rm : Room) (As : List Value) (ws : va_W) (post : UInt32 → S → Prop) (wf : S → va_W) (kx : S → Nat × Nat) : Prop := ∀ sz tt : Nat, Met l y (wsY y cc maxL (some .float)) rm (va_Pc As (PreX g ws sz tt)) (va_Qf post (AtX g (va_A ws sz) wf kx sz tt) (va_A ws sz)) rm.cells rm.slots (va_A ws sz)
theorem w_retf {S : Type} {post : UInt32 → S → Prop} {wf : S → va_W} {kx : S → Nat × Nat} {a : Array Value} {mc ms : Nat}
    (hr : va_Run p l e R s m args below meth c H locs cells slots mc ms (F0 m pc ls st0) rest (va_Qf post (AtX g (va_A wc H.size) wf kx H.size (tot H)) (va_A wc H.size) a) (va_A wc H.size)) (hc : Cut g A H wc wr) (E : Ev g A H0 H locs ws)
    (kk : ∀ (r : UInt32) (u : S) (H1 : Heap) (locs1 : List Loc), post r u → Ev g A H0 H1 locs1 (wr ++ wf u) → W p l e R s m args below meth c H1 locs1 (cells + (kx u).1) (slots + (kx u).2) Q (F0 m (pc + 3) ls (.float r :: rest))) : W p l e R s m args below meth c H locs cells slots Q (F0 m pc ls st0) := by
  refine W.know (fun g1 g2 _ => ?_)
  refine va_callf hr E.2.2 (fun q _ h => hc.2.2.1 q h) hc.2.2.1 (fun r u t H1 locs1 ht hvm hw hB hz1 hk1 hS => ?_)
  obtain ⟨hP1, -, hD1, n1, n2⟩ := hB
  rw [ht] at hP1 n1 n2
  obtain ⟨hP, hD⟩ := hc.2.2.2 _ H1 hk1 hP1 hD1
  exact W.tight (by omega) (by omega) (kk r u H1 locs1 hw ⟨hP, hD, hS⟩)
theorem x_fret {S : Type} {post : UInt32 → S → Prop} {wf : S → va_W} {kx : S → Nat × Nat} {sz tt mc ms : Nat} {v : UInt32} {w0 : va_W} (u : S) (S0 : Sta p c cc s args own m) (hr : meth.sig.returnType = some .float) (hlocks : meth.locks = false) (hsz : s.heap.size = sz) (htt : tot s.heap = tt) (hK : va_K g.1 vwC (tysG g) s) (E : Ev g (va_A w0 sz) s.heap H locs ws) (hdg : decode cc pc = .ok (.freturn, 1)) (hp : post v u) (hw : ws = wf u) (hk : cells ≤ (kx u).1 ∧ slots ≤ (kx u).2) (hm : cells ≤ mc ∧ slots ≤ ms) :
    W p l e R s m args below meth c H locs cells slots (MQ below (va_Qf post (AtX g (va_A w0 sz) wf kx sz tt) (va_A w0 sz)) args s mc ms (va_A w0 sz)) (F0 m pc ls [.float v]) := by
  subst hw
  refine W.know (fun g1 g2 _ => ?_)
  refine W.widen hm.1 hm.2 ?_
  exact W.fret S0.1 S0.2.1 hr (fun t ht hW => ⟨⟨v, u, rfl, hp, by rw [ht]; exact E.1, va_K.moved hW.alike hK, E.2.1, by rw [ht]; omega, by rw [ht]; omega⟩, E.2.2.F ht⟩) E.2.2.2.2 hdg hlocks
def MXd {S : Type} (l : Launch) (g : Gm) (y : MethodName) (cc : ByteArray) (maxL : Nat) (rm : Room) (As : List Value) (ws : va_W) (post : UInt64 → S → Prop) (wf : S → va_W) (kx : S → Nat × Nat) : Prop := ∀ sz tt : Nat, Met l y (wsY y cc maxL (some .double)) rm (va_Pc As (PreX g ws sz tt)) (va_Qd post (AtX g (va_A ws sz) wf kx sz tt) (va_A ws sz)) rm.cells rm.slots (va_A ws sz)
theorem w_retd {S : Type} {post : UInt64 → S → Prop} {wf : S → va_W} {kx : S → Nat × Nat} {a : Array Value} {mc ms : Nat}
    (hr : va_Run p l e R s m args below meth c H locs cells slots mc ms (F0 m pc ls st0) rest (va_Qd post (AtX g (va_A wc H.size) wf kx H.size (tot H)) (va_A wc H.size) a) (va_A wc H.size)) (hc : Cut g A H wc wr) (E : Ev g A H0 H locs ws)
    (kk : ∀ (r : UInt64) (u : S) (H1 : Heap) (locs1 : List Loc), post r u → Ev g A H0 H1 locs1 (wr ++ wf u) → W p l e R s m args below meth c H1 locs1 (cells + (kx u).1) (slots + (kx u).2) Q (F0 m (pc + 3) ls (.double r :: rest))) : W p l e R s m args below meth c H locs cells slots Q (F0 m pc ls st0) := by
  refine W.know (fun g1 g2 _ => ?_)
  refine va_calld hr E.2.2 (fun q _ h => hc.2.2.1 q h) hc.2.2.1 (fun r u t H1 locs1 ht hvm hw hB hz1 hk1 hS => ?_)
  obtain ⟨hP1, -, hD1, n1, n2⟩ := hB
  rw [ht] at hP1 n1 n2
  obtain ⟨hP, hD⟩ := hc.2.2.2 _ H1 hk1 hP1 hD1
  exact W.tight (by omega) (by omega) (kk r u H1 locs1 hw ⟨hP, hD, hS⟩)
theorem x_dret {S : Type} {post : UInt64 → S → Prop} {wf : S → va_W} {kx : S → Nat × Nat} {sz tt mc ms : Nat} {v : UInt64} {w0 : va_W} (u : S) (S0 : Sta p c cc s args own m) (hr : meth.sig.returnType = some .double) (hlocks : meth.locks = false) (hsz : s.heap.size = sz) (htt : tot s.heap = tt) (hK : va_K g.1 vwC (tysG g) s) (E : Ev g (va_A w0 sz) s.heap H locs ws) (hdg : decode cc pc = .ok (.dreturn, 1)) (hp : post v u) (hw : ws = wf u) (hk : cells ≤ (kx u).1 ∧ slots ≤ (kx u).2) (hm : cells ≤ mc ∧ slots ≤ ms) :
    W p l e R s m args below meth c H locs cells slots (MQ below (va_Qd post (AtX g (va_A w0 sz) wf kx sz tt) (va_A w0 sz)) args s mc ms (va_A w0 sz)) (F0 m pc ls [.double v]) := by
  subst hw
  refine W.know (fun g1 g2 _ => ?_)
  refine W.widen hm.1 hm.2 ?_
  exact W.dret S0.1 S0.2.1 hr (fun t ht hW => ⟨⟨v, u, rfl, hp, by rw [ht]; exact E.1, va_K.moved hW.alike hK, E.2.1, by rw [ht]; omega, by rw [ht]; omega⟩, E.2.2.F ht⟩) E.2.2.2.2 hdg hlocks
theorem x_cret {S : Type} {post : Int32 → S → Prop} {wf : S → va_W} {kx : S → Nat × Nat} {sz tt mc ms : Nat} {v : Int32} {w0 : va_W} (u : S) (S0 : Sta p c cc s args own m) (hr : meth.sig.returnType = some .char) (hlocks : meth.locks = false) (hsz : s.heap.size = sz) (htt : tot s.heap = tt) (hK : va_K g.1 vwC (tysG g) s) (E : Ev g (va_A w0 sz) s.heap H locs ws) (hdg : decode cc pc = .ok (.ireturn, 1)) (hn : narrow .char (.int v) = .int v) (hp : post v u) (hw : ws = wf u) (hk : cells ≤ (kx u).1 ∧ slots ≤ (kx u).2) (hm : cells ≤ mc ∧ slots ≤ ms) :
    W p l e R s m args below meth c H locs cells slots (MQ below (va_Qi post (AtX g (va_A w0 sz) wf kx sz tt) (va_A w0 sz)) args s mc ms (va_A w0 sz)) (F0 m pc ls [.int v]) := by
  subst hw
  refine W.know (fun g1 g2 _ => ?_)
  refine W.widen hm.1 hm.2 ?_
  exact W.zret S0.1 S0.2.1 hr hn (fun t ht hW => ⟨⟨v, u, rfl, hp, by rw [ht]; exact E.1, va_K.moved hW.alike hK, E.2.1, by rw [ht]; omega, by rw [ht]; omega⟩, E.2.2.F ht⟩) E.2.2.2.2 hdg hlocks
end KROWS
abbrev rgOK (v lo hi : Int32) : Prop := lo ≤ v ∧ v ≤ hi
abbrev ixOK (i n : Int32) : Prop := 0 ≤ i ∧ i < n
theorem nlt_le {a b : Int32} (h : ¬ a < b) : b ≤ a := by rw [Int32.lt_iff_toInt_lt] at h; rw [Int32.le_iff_toInt_le]; omega
theorem nle_lt {a b : Int32} (h : ¬ a ≤ b) : b < a := by rw [Int32.le_iff_toInt_le] at h; rw [Int32.lt_iff_toInt_lt]; omega
theorem lt_nle {a b : Int32} (h : a < b) : ¬ b ≤ a := by rw [Int32.lt_iff_toInt_lt] at h; rw [Int32.le_iff_toInt_le]; omega
theorem le_nlt {a b : Int32} (h : a ≤ b) : ¬ b < a := by rw [Int32.le_iff_toInt_le] at h; rw [Int32.lt_iff_toInt_lt]; omega
theorem ix16 {x : Int32} : ixOK x 16 ↔ rgOK x 0 15 := by
  have e : (16 : Int32).toInt = 16 := by decide
  have e2 : (15 : Int32).toInt = 15 := by decide
  simp only [ixOK, rgOK, Int32.lt_iff_toInt_lt, Int32.le_iff_toInt_le, e, e2]
  omega
theorem ix8 {x : Int32} : ixOK x 8 ↔ rgOK x 0 7 := by
  have e : (8 : Int32).toInt = 8 := by decide
  have e2 : (7 : Int32).toInt = 7 := by decide
  simp only [ixOK, rgOK, Int32.lt_iff_toInt_lt, Int32.le_iff_toInt_le, e, e2]
  omega
theorem ix2 {x : Int32} : ixOK x 2 ↔ rgOK x 0 1 := by
  have e : (2 : Int32).toInt = 2 := by decide
  have e2 : (1 : Int32).toInt = 1 := by decide
  simp only [ixOK, rgOK, Int32.lt_iff_toInt_lt, Int32.le_iff_toInt_le, e, e2]
  omega
theorem ix0 {x : Int32} (h : ixOK x 0) : False := le_nlt h.1 h.2
theorem rg_in {x M : Int32} (n : Nat) {N : Nat} (hM : M.toInt = n) (hN : n < N) (hb : N < 2 ^ 31) (h : rgOK x 0 M) : vp_in x N := by
  obtain ⟨j, hj, rfl⟩ := nI_of2 hM (le_nlt h.1) h.2
  exact vp_in_nI (by omega) hb
theorem upd_c {v : Int32} {k : Nat} : upd (fun _ => v) k v = fun _ => v := by funext j; unfold upd; split <;> rfl
theorem updL_c {v : Int64} {k : Nat} : vp_updL (fun _ => v) k v = fun _ => v := by funext j; unfold vp_updL; split <;> rfl
theorem g_lt {x y : Int32} {a b : Nat} (hx : x = nI a) (hy : y = nI b) (h : a < b) (hb : b < 2 ^ 31) : x < y := by rw [hx, hy]; exact nI_lt h hb
theorem nI_ge0 {a : Nat} (ha : a < 2 ^ 31) : 0 ≤ nI a := nI_pos' ha
/-- an array's contents matter below its length alone -/
theorem Ev.arr {g : Gm} {A : Nat → Prop} {H0 H : Heap} {locs : List Loc} {ws : va_W} (E : Ev g A H0 H locs ws) (k : Nat) {a n : Nat} {cA : ClassId} {f f' : Nat → Int32} (he : ws[k]? = some (a, .inl (cA, n, .inl f))) (hf : ∀ j, j < n → f j = f' j) : Ev g A H0 H locs (ws.set k (a, .inl (cA, n, .inl f'))) := by
  have hlt : k < ws.length := (List.getElem?_eq_some_iff.mp he).1
  have hc : vp_cell cA (n, .inl f) = vp_cell cA (n, .inl f') := by
    rw [vp_cell_i, vp_cell_i]
    unfold arrV
    congr 1
    refine congrArg Array.ofFn (funext fun j => ?_)
    show Value.int (f j.val) = Value.int (f' j.val)
    rw [hf j.val j.isLt]
  have hat : ∀ q, ws[k]? = some q → q = (a, .inl (cA, n, .inl f)) := fun q h => Option.some.inj (h.symm.trans he)
  refine ⟨fun i q hq => ?_, ⟨fun i j p q hi hj hpq => ?_, fun i q hq => ?_⟩, E.2.2⟩
  · rw [List.getElem?_set] at hq
    by_cases h : k = i
    · rw [if_pos h, if_pos hlt] at hq
      cases hq
      have := E.1 k _ he
      show H[a]? = some (vp_cell cA (n, .inl f'))
      rw [← hc]
      exact this
    · rw [if_neg h] at hq
      exact E.1 i q hq
  · have key : ∀ (i : Nat) (p : Nat × va_E), (ws.set k (a, .inl (cA, n, .inl f')))[i]? = some p → ∃ p', ws[i]? = some p' ∧ p'.1 = p.1 := by
      intro i p h
      rw [List.getElem?_set] at h
      by_cases hk : k = i
      · rw [if_pos hk, if_pos hlt] at h
        cases h
        exact ⟨(a, .inl (cA, n, .inl f)), by rw [← hk]; exact he, rfl⟩
      · rw [if_neg hk] at h
        exact ⟨p, h, rfl⟩
    obtain ⟨p', h1, h2⟩ := key i p hi
    obtain ⟨q', h3, h4⟩ := key j q hj
    exact E.2.1.1 i j p' q' h1 h3 (by rw [h2, h4, hpq])
  · rw [List.getElem?_set] at hq
    by_cases hk : k = i
    · rw [if_pos hk, if_pos hlt] at hq
      cases hq
      exact E.2.1.2 k (a, .inl (cA, n, .inl f)) he
    · rw [if_neg hk] at hq
      exact E.2.1.2 i q hq

theorem at_ioob : ∀ w ∈ vx_atS RX6 226 "java/lang/IndexOutOfBoundsException" ["java/lang/RuntimeException", "java/lang/Exception"], w ∈ lw_tbl ∧ (goodWord w = true ∨ isDC w = true) := at_of (by decide +kernel)
theorem at_iae : ∀ w ∈ vx_atS RX6 193 "java/lang/IllegalArgumentException" ["java/lang/RuntimeException", "java/lang/Exception"], w ∈ lw_tbl ∧ (goodWord w = true ∨ isDC w = true) := at_of (by decide +kernel)
theorem at_ise : ∀ w ∈ vx_atS RX6 100 "java/lang/IllegalStateException" ["java/lang/RuntimeException", "java/lang/Exception"], w ∈ lw_tbl ∧ (goodWord w = true ∨ isDC w = true) := at_of (by decide +kernel)
theorem at_uoe : ∀ w ∈ vx_atS RX6 118 "java/lang/UnsupportedOperationException" ["java/lang/RuntimeException", "java/lang/Exception"], w ∈ lw_tbl ∧ (goodWord w = true ∨ isDC w = true) := at_of (by decide +kernel)
theorem at_ae : ∀ w ∈ vx_atS RX6 129 "java/lang/ArithmeticException" ["java/lang/RuntimeException", "java/lang/Exception"], w ∈ lw_tbl ∧ (goodWord w = true ∨ isDC w = true) := at_of (by decide +kernel)
theorem nw_ioob : Cond.castable "java/lang/IndexOutOfBoundsException" "java/lang/IndexOutOfBoundsException" ∈ lw_tbl := by decide +kernel
theorem nw_iae : Cond.castable "java/lang/IllegalArgumentException" "java/lang/IllegalArgumentException" ∈ lw_tbl := by decide +kernel
theorem nw_ise : Cond.castable "java/lang/IllegalStateException" "java/lang/IllegalStateException" ∈ lw_tbl := by decide +kernel
theorem nw_uoe : Cond.castable "java/lang/UnsupportedOperationException" "java/lang/UnsupportedOperationException" ∈ lw_tbl := by decide +kernel
theorem nw_ae : Cond.castable "java/lang/ArithmeticException" "java/lang/ArithmeticException" ∈ lw_tbl := by decide +kernel
theorem nw_nse : Cond.castable "java/util/NoSuchElementException" "java/util/NoSuchElementException" ∈ lw_tbl := by decide +kernel
theorem nw_X1 : Cond.castable RX1 "java/lang/Object" ∈ lw_tbl := by decide +kernel
theorem nw_aI : Cond.castable "[I" "java/lang/Object" ∈ lw_tbl := by decide +kernel
