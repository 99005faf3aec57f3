/-! THE NAMES OF THE ACCOUNTS: String.indexOf on the one text; account, in class, reference and law -/
section STR
variable {p : Program} {l : Launch} {e : Env} {R : Room} {s : State} {m : MethodId} {args : Array Value} {below : List Frame} {meth : Method} {c : Code} {H : Heap} {locs : List Loc} {cells slots : Nat} {Q : State → Prop}
variable {cc : ByteArray} {pc : Nat} {ls : Array Slot} {rest st0 : List Value} {g : Gm} {A : Nat → Prop} {H0 : Heap} {ws wc wr : va_W} {own C : String} {nL : Nat}
theorem Zs.nm {H : Heap} (hZ : Zs g A s H) : NMs g A s H := hZ.2.2.2.2.2.2.2.2.2.2.2.1
theorem Zs.nr {H : Heap} (hZ : Zs g A s H) : NRs g s := hZ.2.2.2.2.2.2.2.2.2.2.1
theorem z_val {index : Nat} (S : Sta p c cc s args own m) (hZ : Zs g A s s.heap) (E : Ev g A s.heap H locs ws) (hlink : Cond.fieldLink own index "java/lang/String" "value" "[B" ∈ lw_g) (hdg : decode cc pc = .ok (.getfield index, 3))
    (kk : W p l e R s m args below meth c H locs cells slots Q (F0 m (pc + 3) ls (.ref (g.2.2 2) :: rest))) : W p l e R s m args below meth c H locs cells slots Q (F0 m pc ls (.ref (g.2.2 1) :: rest)) :=
  vk_getf (o := "java/lang/String") S.1 S.2.1 (hZ.nm.1 0 (by decide)).2.2.1 E.2.2 S.2.2.2 (S.2.2.1 _ hlink) (fun _ h => h) hdg kk
theorem z_cod {index : Nat} (S : Sta p c cc s args own m) (hZ : Zs g A s s.heap) (E : Ev g A s.heap H locs ws) (hlink : Cond.fieldLink own index "java/lang/String" "coder" "B" ∈ lw_g) (hdg : decode cc pc = .ok (.getfield index, 3))
    (kk : W p l e R s m args below meth c H locs cells slots Q (F0 m (pc + 3) ls (.int 0 :: rest))) : W p l e R s m args below meth c H locs cells slots Q (F0 m pc ls (.ref (g.2.2 1) :: rest)) :=
  vk_getf (o := "java/lang/String") S.1 S.2.1 (hZ.nm.1 0 (by decide)).2.1 E.2.2 S.2.2.2 (S.2.2.1 _ hlink) (fun _ h => h) hdg kk
theorem z_len (S : Sta p c cc s args own m) (hZ : Zs g A s s.heap) (E : Ev g A s.heap H locs ws) (hdg : decode cc pc = .ok (.arraylength, 1))
    (kk : W p l e R s m args below meth c H locs cells slots Q (F0 m (pc + 1) ls (.int 9 :: rest))) : W p l e R s m args below meth c H locs cells slots Q (F0 m pc ls (.ref (g.2.2 2) :: rest)) := va_tlen S.1 S.2.1 (hZ.nm.1 0 (by decide)).2.2.2 E.2.2 (by decide) hdg kk
theorem z_bld {i v : Int32} (S : Sta p c cc s args own m) (hZ : Zs g A s s.heap) (E : Ev g A s.heap H locs ws) (hin : vp_in i 9) (hv : bytN.getD i.toNatClampNeg 0 = v) (hdg : decode cc pc = .ok (.baload, 1))
    (kk : W p l e R s m args below meth c H locs cells slots Q (F0 m (pc + 1) ls (.int v :: rest))) : W p l e R s m args below meth c H locs cells slots Q (F0 m pc ls (.int i :: .ref (g.2.2 2) :: rest)) := by
  subst hv
  exact va_tb S.1 S.2.1 (hZ.nm.1 0 (by decide)).2.2.2 E.2.2 hin rfl hdg kk
theorem runZ_X {y : MethodName} {cb : ByteArray} {mL n idx : Nat} {ret : Option FieldType} {rm : Room} {Qc : Array Value → State → Outcome → State → Prop} {As : List Value}
    (S : Sta p c cc s args own m) (hml : c.maxLocals = nL) (hK : va_K g.1 vwC (tysG g) s) (hZ0 : Zs g A s s.heap) (E : Ev g A s.heap H locs ws) (hc : Cut g A H wc wr)
    (hM : Met l y (wsY y cb mL ret) rm (va_Pc (.ref (g.2.2 1) :: As) (PreX g wc H.size (tot H))) Qc rm.cells rm.slots (va_A wc H.size))
    (hg : GoodIn lw_g (wsV own idx "java/lang/String" y (wsY y cb mL ret))) (hd : y.cls = "java/lang/String" ∧ y.cls ≠ "java/lang/invoke/MethodHandle" ∧ y.cls ≠ "java/lang/invoke/VarHandle" ∧ (parseMethodDescriptor y.desc).map (fun d => d.parameters.length) = some n)
    (hR : rm.frames + 1 ≤ R.frames ∧ 8 + (mL + 11) + rm.locals ≤ R.locals) (hn : As.length = n) (hls : ls.size = nL) (hst : st0 = As.reverse ++ .ref (g.2.2 1) :: rest) (hw : (rest.map fun v => v.category).sum ≤ 8) (hdg : decode cc pc = .ok (.invokevirtual idx, 3)) (hf : cells + rm.cells ≤ R.cells ∧ slots + rm.slots ≤ R.slots) :
    va_Run p l e R s m args below meth c H locs cells slots rm.cells rm.slots (F0 m pc ls st0) rest (Qc (Value.ref (g.2.2 1) :: As).toArray) (va_A wc H.size) := by
  subst hst
  have hZ : Zs g A s H := hZ0.at E
  exact va_runV (As := As) (rest := rest) ⟨S.1, S.2.1, hml, S.2.2.2, S.2.2.1⟩ hM (cwV n S.2.2.1 hg rfl rfl rfl hd hR) ⟨PreX.blind, vk_recv (N := 1) (len := [9]) (byt := [bytN]) (adK := fun _ => g.2.2 1) (adV := fun _ => g.2.2 2) (i := 0) hZ0.nm (by decide) E.2.2, fun U hU hW => ⟨rfl, by rw [hU], by rw [hU], by rw [hU]; exact hc.1, va_K.moved hW.alike hK, hc.2.1, by rw [hU]; exact (hZ.narrow hc.2.2.1).warm hW⟩⟩ rfl hn hls rfl (lv_room hw) hdg hf
theorem x_bret {S : Type} {post : Int32 → S → Prop} {wf : S → va_W} {kx : S → Nat × Nat} {sz tt mc ms : Nat} {v : Int32} {w0 : va_W} (u : S) (S0 : Sta p c cc s args own m) (hr : meth.sig.returnType = some .byte) (hlocks : meth.locks = false) (hsz : s.heap.size = sz) (htt : tot s.heap = tt) (hK : va_K g.1 vwC (tysG g) s) (E : Ev g (va_A w0 sz) s.heap H locs ws) (hdg : decode cc pc = .ok (.ireturn, 1)) (hn : narrow .byte (.int v) = .int v) (hp : post v u) (hw : ws = wf u) (hk : cells ≤ (kx u).1 ∧ slots ≤ (kx u).2) (hm : cells ≤ mc ∧ slots ≤ ms) :
    W p l e R s m args below meth c H locs cells slots (MQ below (va_Qi post (AtX g (va_A w0 sz) wf kx sz tt) (va_A w0 sz)) args s mc ms (va_A w0 sz)) (F0 m pc ls [.int v]) := by
  subst hw
  refine W.know (fun g1 g2 _ => ?_)
  refine W.widen hm.1 hm.2 ?_
  exact W.zret S0.1 S0.2.1 hr hn (fun t ht hW => ⟨⟨v, u, rfl, hp, by rw [ht]; exact E.1, va_K.moved hW.alike hK, E.2.1, by rw [ht]; omega, by rw [ht]; omega⟩, E.2.2.F ht⟩) E.2.2.2.2 hdg hlocks
end STR
theorem b8 {c v : Int32} (hc : rgOK c 0 255) (h : c.toInt8.toInt32 = v) (hv : v ∈ bytN) : c = v := by
  obtain ⟨j, hj, rfl⟩ := nI_of2 (M := 255) (n := 255) (by decide) (le_nlt hc.1) hc.2
  have key : ∀ k, k < 256 → ∀ w ∈ bytN, (nI k).toInt8.toInt32 = w → nI k = w := by decide +kernel
  exact key j (by omega) v hv h
theorem b8n {c v : Int32} (h : ¬ c.toInt8.toInt32 = v) (hv : v ∈ bytN) : ¬ c = v := by
  intro z
  subst z
  have key : ∀ w ∈ bytN, w.toInt8.toInt32 = w := by decide +kernel
  exact h (key c hv)
theorem n255 {c : Int32} (h : ¬ rgOK c 0 255) : c ∉ bytN := by
  have key : ∀ w ∈ bytN, rgOK w 0 255 := by decide +kernel
  exact fun z => h (key c z)
theorem dJ0_isLatin1_aae02_0 : decode cJ0_isLatin1_aae02 0 = .ok (.getstatic 38, 3) := by decide +kernel
theorem dJ0_isLatin1_aae02_3 : decode cJ0_isLatin1_aae02 3 = .ok (.ifCond .eq 14, 3) := by decide +kernel
theorem dJ0_isLatin1_aae02_6 : decode cJ0_isLatin1_aae02 6 = .ok (.aload_n 0, 1) := by decide +kernel
theorem dJ0_isLatin1_aae02_7 : decode cJ0_isLatin1_aae02 7 = .ok (.getfield 15, 3) := by decide +kernel
theorem dJ0_isLatin1_aae02_10 : decode cJ0_isLatin1_aae02 10 = .ok (.ifCond .ne 7, 3) := by decide +kernel
theorem dJ0_isLatin1_aae02_13 : decode cJ0_isLatin1_aae02 13 = .ok (.iconst 1, 1) := by decide +kernel
theorem dJ0_isLatin1_aae02_14 : decode cJ0_isLatin1_aae02 14 = .ok (.goto 4, 3) := by decide +kernel
theorem dJ0_isLatin1_aae02_17 : decode cJ0_isLatin1_aae02 17 = .ok (.iconst 0, 1) := by decide +kernel
theorem dJ0_isLatin1_aae02_18 : decode cJ0_isLatin1_aae02 18 = .ok (.ireturn, 1) := by decide +kernel
theorem dJ0_coder_7d493_0 : decode cJ0_coder_7d493 0 = .ok (.getstatic 38, 3) := by decide +kernel
theorem dJ0_coder_7d493_3 : decode cJ0_coder_7d493 3 = .ok (.ifCond .eq 10, 3) := by decide +kernel
theorem dJ0_coder_7d493_6 : decode cJ0_coder_7d493 6 = .ok (.aload_n 0, 1) := by decide +kernel
theorem dJ0_coder_7d493_7 : decode cJ0_coder_7d493 7 = .ok (.getfield 15, 3) := by decide +kernel
theorem dJ0_coder_7d493_10 : decode cJ0_coder_7d493 10 = .ok (.goto 4, 3) := by decide +kernel
theorem dJ0_coder_7d493_13 : decode cJ0_coder_7d493 13 = .ok (.iconst 1, 1) := by decide +kernel
theorem dJ0_coder_7d493_14 : decode cJ0_coder_7d493 14 = .ok (.ireturn, 1) := by decide +kernel
theorem dJ0_length_8abf5_0 : decode cJ0_length_8abf5 0 = .ok (.aload_n 0, 1) := by decide +kernel
theorem dJ0_length_8abf5_1 : decode cJ0_length_8abf5 1 = .ok (.getfield 9, 3) := by decide +kernel
theorem dJ0_length_8abf5_4 : decode cJ0_length_8abf5 4 = .ok (.arraylength, 1) := by decide +kernel
theorem dJ0_length_8abf5_5 : decode cJ0_length_8abf5 5 = .ok (.aload_n 0, 1) := by decide +kernel
theorem dJ0_length_8abf5_6 : decode cJ0_length_8abf5 6 = .ok (.invokevirtual 335, 3) := by decide +kernel
theorem dJ0_length_8abf5_9 : decode cJ0_length_8abf5 9 = .ok (.ishr, 1) := by decide +kernel
theorem dJ0_length_8abf5_10 : decode cJ0_length_8abf5 10 = .ok (.ireturn, 1) := by decide +kernel
theorem dJ0_indexOf_7cf53_0 : decode cJ0_indexOf_7cf53 0 = .ok (.aload_n 0, 1) := by decide +kernel
theorem dJ0_indexOf_7cf53_1 : decode cJ0_indexOf_7cf53 1 = .ok (.invokevirtual 492, 3) := by decide +kernel
theorem dJ0_indexOf_7cf53_4 : decode cJ0_indexOf_7cf53 4 = .ok (.ifCond .eq 19, 3) := by decide +kernel
theorem dJ0_indexOf_7cf53_7 : decode cJ0_indexOf_7cf53 7 = .ok (.aload_n 0, 1) := by decide +kernel
theorem dJ0_indexOf_7cf53_8 : decode cJ0_indexOf_7cf53 8 = .ok (.getfield 9, 3) := by decide +kernel
theorem dJ0_indexOf_7cf53_11 : decode cJ0_indexOf_7cf53 11 = .ok (.iload_n 1, 1) := by decide +kernel
theorem dJ0_indexOf_7cf53_12 : decode cJ0_indexOf_7cf53 12 = .ok (.iload_n 2, 1) := by decide +kernel
theorem dJ0_indexOf_7cf53_13 : decode cJ0_indexOf_7cf53 13 = .ok (.aload_n 0, 1) := by decide +kernel
theorem dJ0_indexOf_7cf53_14 : decode cJ0_indexOf_7cf53 14 = .ok (.invokevirtual 505, 3) := by decide +kernel
theorem dJ0_indexOf_7cf53_17 : decode cJ0_indexOf_7cf53 17 = .ok (.invokestatic 637, 3) := by decide +kernel
theorem dJ0_indexOf_7cf53_20 : decode cJ0_indexOf_7cf53 20 = .ok (.goto 16, 3) := by decide +kernel
theorem dJ0_indexOf_7cf53_23 : decode cJ0_indexOf_7cf53 23 = .ok (.aload_n 0, 1) := by decide +kernel
theorem dJ0_indexOf_7cf53_24 : decode cJ0_indexOf_7cf53 24 = .ok (.getfield 9, 3) := by decide +kernel
theorem dJ0_indexOf_7cf53_27 : decode cJ0_indexOf_7cf53 27 = .ok (.iload_n 1, 1) := by decide +kernel
theorem dJ0_indexOf_7cf53_28 : decode cJ0_indexOf_7cf53 28 = .ok (.iload_n 2, 1) := by decide +kernel
theorem dJ0_indexOf_7cf53_29 : decode cJ0_indexOf_7cf53 29 = .ok (.aload_n 0, 1) := by decide +kernel
theorem dJ0_indexOf_7cf53_30 : decode cJ0_indexOf_7cf53 30 = .ok (.invokevirtual 505, 3) := by decide +kernel
theorem dJ0_indexOf_7cf53_33 : decode cJ0_indexOf_7cf53 33 = .ok (.invokestatic 640, 3) := by decide +kernel
theorem dJ0_indexOf_7cf53_36 : decode cJ0_indexOf_7cf53 36 = .ok (.ireturn, 1) := by decide +kernel
theorem dJ0_indexOf_0f7a4_0 : decode cJ0_indexOf_0f7a4 0 = .ok (.aload_n 0, 1) := by decide +kernel
theorem dJ0_indexOf_0f7a4_1 : decode cJ0_indexOf_0f7a4 1 = .ok (.iload_n 1, 1) := by decide +kernel
theorem dJ0_indexOf_0f7a4_2 : decode cJ0_indexOf_0f7a4 2 = .ok (.iconst 0, 1) := by decide +kernel
theorem dJ0_indexOf_0f7a4_3 : decode cJ0_indexOf_0f7a4 3 = .ok (.invokevirtual 633, 3) := by decide +kernel
theorem dJ0_indexOf_0f7a4_6 : decode cJ0_indexOf_0f7a4 6 = .ok (.ireturn, 1) := by decide +kernel
theorem dJ1_canEncode_9a6ad_0 : decode cJ1_canEncode_9a6ad 0 = .ok (.iload_n 0, 1) := by decide +kernel
theorem dJ1_canEncode_9a6ad_1 : decode cJ1_canEncode_9a6ad 1 = .ok (.ifCond .lt 14, 3) := by decide +kernel
theorem dJ1_canEncode_9a6ad_4 : decode cJ1_canEncode_9a6ad 4 = .ok (.iload_n 0, 1) := by decide +kernel
theorem dJ1_canEncode_9a6ad_5 : decode cJ1_canEncode_9a6ad 5 = .ok (.sipush 255, 3) := by decide +kernel
theorem dJ1_canEncode_9a6ad_8 : decode cJ1_canEncode_9a6ad 8 = .ok (.if_icmp .gt 7, 3) := by decide +kernel
theorem dJ1_canEncode_9a6ad_11 : decode cJ1_canEncode_9a6ad 11 = .ok (.iconst 1, 1) := by decide +kernel
theorem dJ1_canEncode_9a6ad_12 : decode cJ1_canEncode_9a6ad 12 = .ok (.goto 4, 3) := by decide +kernel
theorem dJ1_canEncode_9a6ad_15 : decode cJ1_canEncode_9a6ad 15 = .ok (.iconst 0, 1) := by decide +kernel
theorem dJ1_canEncode_9a6ad_16 : decode cJ1_canEncode_9a6ad 16 = .ok (.ireturn, 1) := by decide +kernel
theorem dJ1_indexOf_4cfef_0 : decode cJ1_indexOf_4cfef 0 = .ok (.iload_n 1, 1) := by decide +kernel
theorem dJ1_indexOf_4cfef_1 : decode cJ1_indexOf_4cfef 1 = .ok (.invokestatic 88, 3) := by decide +kernel
theorem dJ1_indexOf_4cfef_4 : decode cJ1_indexOf_4cfef 4 = .ok (.ifCond .ne 5, 3) := by decide +kernel
theorem dJ1_indexOf_4cfef_7 : decode cJ1_indexOf_4cfef 7 = .ok (.iconst (-1), 1) := by decide +kernel
theorem dJ1_indexOf_4cfef_8 : decode cJ1_indexOf_4cfef 8 = .ok (.ireturn, 1) := by decide +kernel
theorem dJ1_indexOf_4cfef_9 : decode cJ1_indexOf_4cfef 9 = .ok (.iload_n 2, 1) := by decide +kernel
theorem dJ1_indexOf_4cfef_10 : decode cJ1_indexOf_4cfef 10 = .ok (.iconst 0, 1) := by decide +kernel
theorem dJ1_indexOf_4cfef_11 : decode cJ1_indexOf_4cfef 11 = .ok (.invokestatic 92, 3) := by decide +kernel
theorem dJ1_indexOf_4cfef_14 : decode cJ1_indexOf_4cfef 14 = .ok (.istore_n 2, 1) := by decide +kernel
theorem dJ1_indexOf_4cfef_15 : decode cJ1_indexOf_4cfef 15 = .ok (.iload_n 3, 1) := by decide +kernel
theorem dJ1_indexOf_4cfef_16 : decode cJ1_indexOf_4cfef 16 = .ok (.aload_n 0, 1) := by decide +kernel
theorem dJ1_indexOf_4cfef_17 : decode cJ1_indexOf_4cfef 17 = .ok (.arraylength, 1) := by decide +kernel
theorem dJ1_indexOf_4cfef_18 : decode cJ1_indexOf_4cfef 18 = .ok (.invokestatic 38, 3) := by decide +kernel
theorem dJ1_indexOf_4cfef_21 : decode cJ1_indexOf_4cfef 21 = .ok (.istore_n 3, 1) := by decide +kernel
theorem dJ1_indexOf_4cfef_22 : decode cJ1_indexOf_4cfef 22 = .ok (.iload_n 2, 1) := by decide +kernel
theorem dJ1_indexOf_4cfef_23 : decode cJ1_indexOf_4cfef 23 = .ok (.iload_n 3, 1) := by decide +kernel
theorem dJ1_indexOf_4cfef_24 : decode cJ1_indexOf_4cfef 24 = .ok (.if_icmp .lt 5, 3) := by decide +kernel
theorem dJ1_indexOf_4cfef_27 : decode cJ1_indexOf_4cfef 27 = .ok (.iconst (-1), 1) := by decide +kernel
theorem dJ1_indexOf_4cfef_28 : decode cJ1_indexOf_4cfef 28 = .ok (.ireturn, 1) := by decide +kernel
theorem dJ1_indexOf_4cfef_29 : decode cJ1_indexOf_4cfef 29 = .ok (.aload_n 0, 1) := by decide +kernel
theorem dJ1_indexOf_4cfef_30 : decode cJ1_indexOf_4cfef 30 = .ok (.iload_n 1, 1) := by decide +kernel
theorem dJ1_indexOf_4cfef_31 : decode cJ1_indexOf_4cfef 31 = .ok (.iload_n 2, 1) := by decide +kernel
theorem dJ1_indexOf_4cfef_32 : decode cJ1_indexOf_4cfef 32 = .ok (.iload_n 3, 1) := by decide +kernel
theorem dJ1_indexOf_4cfef_33 : decode cJ1_indexOf_4cfef 33 = .ok (.invokestatic 95, 3) := by decide +kernel
theorem dJ1_indexOf_4cfef_36 : decode cJ1_indexOf_4cfef 36 = .ok (.ireturn, 1) := by decide +kernel
theorem dJ1_indexOfChar_4cfef_0 : decode cJ1_indexOfChar_4cfef 0 = .ok (.iload_n 1, 1) := by decide +kernel
theorem dJ1_indexOfChar_4cfef_1 : decode cJ1_indexOfChar_4cfef 1 = .ok (.i2b, 1) := by decide +kernel
theorem dJ1_indexOfChar_4cfef_2 : decode cJ1_indexOfChar_4cfef 2 = .ok (.istore 4, 2) := by decide +kernel
theorem dJ1_indexOfChar_4cfef_4 : decode cJ1_indexOfChar_4cfef 4 = .ok (.iload_n 2, 1) := by decide +kernel
theorem dJ1_indexOfChar_4cfef_5 : decode cJ1_indexOfChar_4cfef 5 = .ok (.istore 5, 2) := by decide +kernel
theorem dJ1_indexOfChar_4cfef_7 : decode cJ1_indexOfChar_4cfef 7 = .ok (.iload 5, 2) := by decide +kernel
theorem dJ1_indexOfChar_4cfef_9 : decode cJ1_indexOfChar_4cfef 9 = .ok (.iload_n 3, 1) := by decide +kernel
theorem dJ1_indexOfChar_4cfef_10 : decode cJ1_indexOfChar_4cfef 10 = .ok (.if_icmp .ge 21, 3) := by decide +kernel
theorem dJ1_indexOfChar_4cfef_13 : decode cJ1_indexOfChar_4cfef 13 = .ok (.aload_n 0, 1) := by decide +kernel
theorem dJ1_indexOfChar_4cfef_14 : decode cJ1_indexOfChar_4cfef 14 = .ok (.iload 5, 2) := by decide +kernel
theorem dJ1_indexOfChar_4cfef_16 : decode cJ1_indexOfChar_4cfef 16 = .ok (.baload, 1) := by decide +kernel
theorem dJ1_indexOfChar_4cfef_17 : decode cJ1_indexOfChar_4cfef 17 = .ok (.iload 4, 2) := by decide +kernel
theorem dJ1_indexOfChar_4cfef_19 : decode cJ1_indexOfChar_4cfef 19 = .ok (.if_icmp .ne 6, 3) := by decide +kernel
theorem dJ1_indexOfChar_4cfef_22 : decode cJ1_indexOfChar_4cfef 22 = .ok (.iload 5, 2) := by decide +kernel
theorem dJ1_indexOfChar_4cfef_24 : decode cJ1_indexOfChar_4cfef 24 = .ok (.ireturn, 1) := by decide +kernel
theorem dJ1_indexOfChar_4cfef_25 : decode cJ1_indexOfChar_4cfef 25 = .ok (.iinc 5 1, 3) := by decide +kernel
theorem dJ1_indexOfChar_4cfef_28 : decode cJ1_indexOfChar_4cfef 28 = .ok (.goto (-21), 3) := by decide +kernel
theorem dJ1_indexOfChar_4cfef_31 : decode cJ1_indexOfChar_4cfef 31 = .ok (.iconst (-1), 1) := by decide +kernel
theorem dJ1_indexOfChar_4cfef_32 : decode cJ1_indexOfChar_4cfef 32 = .ok (.ireturn, 1) := by decide +kernel
set_option maxHeartbeats 4000000 in
set_option maxRecDepth 100000 in
/-- String.isLatin1 -/
theorem c_J0_isLatin1_aae02 (l : Launch) (g : Gm) : MXi (S := Unit) l g yJ0_isLatin1_aae02 cJ0_isLatin1_aae02 1 .boolean ({ frames := 0, cells := 0, slots := 0, locals := 0 } : Room) [.ref (g.2.2 1)] [] (fun r _ => r = 1) (fun _ => []) (fun _ => (0, 0)) := by
  intro sz tt
  refine ofX RJ0 rfl (by decide +kernel) (Nat.le_of_ble_eq_true rfl) (fun p e s m args below meth c hargs S hml hr hlk hnm hsz htt hK hA hZ E ls hl => ?_)
  have hx := S.1
  have hb := S.2.1
  have hl : lv_has ls 1 [(0, .ref (g.2.2 1))] := hl
  refine w_gets S hZ.1 E fl_J0_38 dJ0_isLatin1_aae02_0 ?_
  refine lv_if_eq (tgt := 17) hx hb dJ0_isLatin1_aae02_3 (by decide) (fun c_ => absurd c_ (show ¬ ((1 : Int32) = 0) by decide)) (fun _ => ?_)
  refine lv_aload_n hx hb dJ0_isLatin1_aae02_6 rfl (lv_at hl 0 rfl) ?_
  refine z_cod S hZ E fl_J0_15 dJ0_isLatin1_aae02_7 ?_
  refine lv_if_ne (tgt := 17) hx hb dJ0_isLatin1_aae02_10 (by decide) (fun c_ => absurd (show (0 : Int32) = 0 by decide) c_) (fun _ => ?_)
  refine lv_iconst (v := 1) hx hb dJ0_isLatin1_aae02_13 (by decide) ?_
  refine lv_goto (tgt := 18) hx hb dJ0_isLatin1_aae02_14 (by decide) ?_
  exact x_zret () S hr hlk hsz htt hK E dJ0_isLatin1_aae02_18 rfl rfl rfl ⟨Nat.le_of_ble_eq_true rfl, Nat.le_of_ble_eq_true rfl⟩ ⟨Nat.le_of_ble_eq_true rfl, Nat.le_of_ble_eq_true rfl⟩

set_option maxHeartbeats 4000000 in
set_option maxRecDepth 100000 in
/-- String.coder -/
theorem c_J0_coder_7d493 (l : Launch) (g : Gm) : MXi (S := Unit) l g yJ0_coder_7d493 cJ0_coder_7d493 1 .byte ({ frames := 0, cells := 0, slots := 0, locals := 0 } : Room) [.ref (g.2.2 1)] [] (fun r _ => r = 0) (fun _ => []) (fun _ => (0, 0)) := by
  intro sz tt
  refine ofX RJ0 rfl (by decide +kernel) (Nat.le_of_ble_eq_true rfl) (fun p e s m args below meth c hargs S hml hr hlk hnm hsz htt hK hA hZ E ls hl => ?_)
  have hx := S.1
  have hb := S.2.1
  have hl : lv_has ls 1 [(0, .ref (g.2.2 1))] := hl
  refine w_gets S hZ.1 E fl_J0_38 dJ0_coder_7d493_0 ?_
  refine lv_if_eq (tgt := 13) hx hb dJ0_coder_7d493_3 (by decide) (fun c_ => absurd c_ (show ¬ ((1 : Int32) = 0) by decide)) (fun _ => ?_)
  refine lv_aload_n hx hb dJ0_coder_7d493_6 rfl (lv_at hl 0 rfl) ?_
  refine z_cod S hZ E fl_J0_15 dJ0_coder_7d493_7 ?_
  refine lv_goto (tgt := 14) hx hb dJ0_coder_7d493_10 (by decide) ?_
  exact x_bret () S hr hlk hsz htt hK E dJ0_coder_7d493_14 rfl rfl rfl ⟨Nat.le_of_ble_eq_true rfl, Nat.le_of_ble_eq_true rfl⟩ ⟨Nat.le_of_ble_eq_true rfl, Nat.le_of_ble_eq_true rfl⟩

set_option maxHeartbeats 4000000 in
set_option maxRecDepth 100000 in
/-- String.length -/
theorem c_J0_length_8abf5 (l : Launch) (g : Gm) : MXi (S := Unit) l g yJ0_length_8abf5 cJ0_length_8abf5 1 .int ({ frames := 1, cells := 0, slots := 0, locals := 20 } : Room) [.ref (g.2.2 1)] [] (fun r _ => r = 9) (fun _ => []) (fun _ => (0, 0)) := by
  intro sz tt
  refine ofX RJ0 rfl (by decide +kernel) (Nat.le_of_ble_eq_true rfl) (fun p e s m args below meth c hargs S hml hr hlk hnm hsz htt hK hA hZ E ls hl => ?_)
  have hx := S.1
  have hb := S.2.1
  have hl : lv_has ls 1 [(0, .ref (g.2.2 1))] := hl
  refine lv_aload_n hx hb dJ0_length_8abf5_0 rfl (lv_at hl 0 rfl) ?_
  refine z_val S hZ E fl_J0_9 dJ0_length_8abf5_1 ?_
  refine z_len S hZ E dJ0_length_8abf5_4 ?_
  refine lv_aload_n hx hb dJ0_length_8abf5_5 rfl (lv_at hl 0 rfl) ?_
  refine w_reti (runZ_X (As := []) (rest := [.int 9]) (n := 0) S hml hK hZ E (Cut.full E hA) (c_J0_coder_7d493 l g   _ _) (gi_wsV ml_J0_335 im_J0_coder_7d493 sl_J0_coder_7d493 in_J0 co_J0_coder_7d493) ⟨rfl, by decide +kernel, by decide +kernel, by decide +kernel⟩ ⟨Nat.le_of_ble_eq_true rfl, Nat.le_of_ble_eq_true rfl⟩ rfl hl.1 rfl (Nat.le_of_ble_eq_true rfl) dJ0_length_8abf5_6 ⟨Nat.le_of_ble_eq_true rfl, Nat.le_of_ble_eq_true rfl⟩) (Cut.full E hA) E (fun r1 u1 H locs hp E => ?_)
  have E : Ev g _ s.heap H locs [] := E
  subst hp
  refine k_ishr (v := 9) hx hb (by decide) dJ0_length_8abf5_9 ?_
  exact x_iret () S hr hlk hsz htt hK E dJ0_length_8abf5_10 rfl rfl ⟨Nat.le_of_ble_eq_true rfl, Nat.le_of_ble_eq_true rfl⟩ ⟨Nat.le_of_ble_eq_true rfl, Nat.le_of_ble_eq_true rfl⟩

set_option maxHeartbeats 4000000 in
set_option maxRecDepth 100000 in
/-- StringLatin1.canEncode -/
theorem c_ce0 (l : Launch) (g : Gm) (ch : Int32) : MXi (S := Unit) l g yJ1_canEncode_9a6ad cJ1_canEncode_9a6ad 1 .boolean ({ frames := 0, cells := 0, slots := 0, locals := 0 } : Room) [.int ch] [] (fun r _ => (r = 1 ∧ rgOK ch 0 255) ∨ (r = 0 ∧ ¬ rgOK ch 0 255)) (fun _ => []) (fun _ => (0, 0)) := by
  intro sz tt
  refine ofX RJ1 rfl (by decide +kernel) (Nat.le_of_ble_eq_true rfl) (fun p e s m args below meth c hargs S hml hr hlk hnm hsz htt hK hA hZ E ls hl => ?_)
  have hx := S.1
  have hb := S.2.1
  have hl : lv_has ls 1 [(0, .int ch)] := hl
  refine lv_iload_n hx hb dJ1_canEncode_9a6ad_0 rfl (lv_at hl 0 rfl) ?_
  refine lv_if_lt (tgt := 15) hx hb dJ1_canEncode_9a6ad_1 (by decide) (fun c1 => ?_) (fun c1 => ?_)
  · have c1 : ch < 0 := c1
    refine lv_iconst (v := 0) hx hb dJ1_canEncode_9a6ad_15 (by decide) ?_
    exact x_zret () S hr hlk hsz htt hK E dJ1_canEncode_9a6ad_16 rfl (Or.inr ⟨rfl, fun z => le_nlt z.1 c1⟩) rfl ⟨Nat.le_of_ble_eq_true rfl, Nat.le_of_ble_eq_true rfl⟩ ⟨Nat.le_of_ble_eq_true rfl, Nat.le_of_ble_eq_true rfl⟩
  · have c1 : ¬ (ch < 0) := c1
    refine lv_iload_n hx hb dJ1_canEncode_9a6ad_4 rfl (lv_at hl 0 rfl) ?_
    refine lv_sipush (v := 255) hx hb dJ1_canEncode_9a6ad_5 (by decide) ?_
    refine lv_icmp_gt (tgt := 15) hx hb dJ1_canEncode_9a6ad_8 (by decide) (fun c2 => ?_) (fun c2 => ?_)
    · have c2 : 255 < ch := c2
      refine lv_iconst (v := 0) hx hb dJ1_canEncode_9a6ad_15 (by decide) ?_
      exact x_zret () S hr hlk hsz htt hK E dJ1_canEncode_9a6ad_16 rfl (Or.inr ⟨rfl, fun z => le_nlt z.2 c2⟩) rfl ⟨Nat.le_of_ble_eq_true rfl, Nat.le_of_ble_eq_true rfl⟩ ⟨Nat.le_of_ble_eq_true rfl, Nat.le_of_ble_eq_true rfl⟩
    · have c2 : ¬ (255 < ch) := c2
      refine lv_iconst (v := 1) hx hb dJ1_canEncode_9a6ad_11 (by decide) ?_
      refine lv_goto (tgt := 16) hx hb dJ1_canEncode_9a6ad_12 (by decide) ?_
      exact x_zret () S hr hlk hsz htt hK E dJ1_canEncode_9a6ad_16 rfl (Or.inl ⟨rfl, nlt_le c1, nlt_le c2⟩) rfl ⟨Nat.le_of_ble_eq_true rfl, Nat.le_of_ble_eq_true rfl⟩ ⟨Nat.le_of_ble_eq_true rfl, Nat.le_of_ble_eq_true rfl⟩

theorem nin9 {ch : Int32} (h0 : ¬ ch = 119) (h1 : ¬ ch = 114) (h2 : ¬ ch = 112) (h3 : ¬ ch = 105) (h4 : ¬ ch = 111) (h5 : ¬ ch = 115) (h6 : ¬ ch = 110) (h7 : ¬ ch = 109) (h8 : ¬ ch = 108) : ch ∉ bytN := by
  unfold bytN
  simp only [List.mem_cons, List.not_mem_nil, or_false, not_or]
  exact ⟨h0, h1, h2, h3, h4, h5, h6, h7, h8⟩
set_option maxHeartbeats 4000000 in
set_option maxRecDepth 100000 in
/-- StringLatin1.indexOfChar -/
theorem c_ic0 (l : Launch) (g : Gm) (ch : Int32) (hc : rgOK ch 0 255) : MXi (S := Unit) l g yJ1_indexOfChar_4cfef cJ1_indexOfChar_4cfef 6 .int ({ frames := 0, cells := 0, slots := 0, locals := 0 } : Room) [.ref (g.2.2 2), .int ch, .int 0, .int 9] [] (fun r _ => (r = 0 ∧ ch = 119) ∨ (r = 1 ∧ ch = 114) ∨ (r = 2 ∧ ch = 112) ∨ (r = 3 ∧ ch = 105) ∨ (r = 4 ∧ ch = 111) ∨ (r = 5 ∧ ch = 115) ∨ (r = 6 ∧ ch = 110) ∨ (r = 7 ∧ ch = 109) ∨ (r = 8 ∧ ch = 108) ∨ (r = -1 ∧ ch ∉ bytN)) (fun _ => []) (fun _ => (0, 0)) := by
  intro sz tt
  refine ofX RJ1 rfl (by decide +kernel) (Nat.le_of_ble_eq_true rfl) (fun p e s m args below meth c hargs S hml hr hlk hnm hsz htt hK hA hZ E ls hl => ?_)
  have hx := S.1
  have hb := S.2.1
  have hl : lv_has ls 6 [(0, .ref (g.2.2 2)), (1, .int ch), (2, .int 0), (3, .int 9)] := hl
  refine lv_iload_n hx hb dJ1_indexOfChar_4cfef_0 rfl (lv_at hl 1 rfl) ?_
  refine lv_i2b (v := (ch).toInt8.toInt32) hx hb dJ1_indexOfChar_4cfef_1 rfl ?_
  refine lv_istore (lv' := [(4, .int ((ch).toInt8.toInt32)), (0, .ref (g.2.2 2)), (1, .int ch), (2, .int 0), (3, .int 9)]) hx hb dJ1_indexOfChar_4cfef_2 hl (by decide) rfl (fun ls hl => ?_)
  refine lv_iload_n hx hb dJ1_indexOfChar_4cfef_4 rfl (lv_at hl 3 rfl) ?_
  refine lv_istore (lv' := [(5, .int 0), (4, .int ((ch).toInt8.toInt32)), (0, .ref (g.2.2 2)), (1, .int ch), (2, .int 0), (3, .int 9)]) hx hb dJ1_indexOfChar_4cfef_5 hl (by decide) rfl (fun ls hl => ?_)
  refine lv_iload hx hb dJ1_indexOfChar_4cfef_7 (lv_at hl 0 rfl) ?_
  refine lv_iload_n hx hb dJ1_indexOfChar_4cfef_9 rfl (lv_at hl 5 rfl) ?_
  refine lv_icmp_ge (tgt := 31) hx hb dJ1_indexOfChar_4cfef_10 (by decide) (fun c_ => absurd c_ (show ¬ ((9 : Int32) ≤ (0 : Int32)) by decide)) (fun _ => ?_)
  refine lv_aload_n hx hb dJ1_indexOfChar_4cfef_13 rfl (lv_at hl 2 rfl) ?_
  refine lv_iload hx hb dJ1_indexOfChar_4cfef_14 (lv_at hl 0 rfl) ?_
  refine z_bld (v := 119) S hZ E (show vp_in 0 9 by unfold vp_in; decide) rfl dJ1_indexOfChar_4cfef_16 ?_
  refine lv_iload hx hb dJ1_indexOfChar_4cfef_17 (lv_at hl 1 rfl) ?_
  refine lv_icmp_ne (tgt := 25) hx hb dJ1_indexOfChar_4cfef_19 (by decide) (fun c1 => ?_) (fun c1 => ?_)
  · have c1 : ¬ (119 = ((ch).toInt8.toInt32)) := c1
    refine lv_iinc (v := 1) (lv' := [(5, .int 1), (4, .int ((ch).toInt8.toInt32)), (0, .ref (g.2.2 2)), (1, .int ch), (2, .int 0), (3, .int 9)]) hx hb dJ1_indexOfChar_4cfef_25 hl (k := 0) rfl (by decide) (by decide) rfl (fun ls hl => ?_)
    refine lv_goto (tgt := 7) hx hb dJ1_indexOfChar_4cfef_28 (by decide) ?_
    refine lv_iload hx hb dJ1_indexOfChar_4cfef_7 (lv_at hl 0 rfl) ?_
    refine lv_iload_n hx hb dJ1_indexOfChar_4cfef_9 rfl (lv_at hl 5 rfl) ?_
    refine lv_icmp_ge (tgt := 31) hx hb dJ1_indexOfChar_4cfef_10 (by decide) (fun c_ => absurd c_ (show ¬ ((9 : Int32) ≤ (1 : Int32)) by decide)) (fun _ => ?_)
    refine lv_aload_n hx hb dJ1_indexOfChar_4cfef_13 rfl (lv_at hl 2 rfl) ?_
    refine lv_iload hx hb dJ1_indexOfChar_4cfef_14 (lv_at hl 0 rfl) ?_
    refine z_bld (v := 114) S hZ E (show vp_in 1 9 by unfold vp_in; decide) rfl dJ1_indexOfChar_4cfef_16 ?_
    refine lv_iload hx hb dJ1_indexOfChar_4cfef_17 (lv_at hl 1 rfl) ?_
    refine lv_icmp_ne (tgt := 25) hx hb dJ1_indexOfChar_4cfef_19 (by decide) (fun c2 => ?_) (fun c2 => ?_)
    · have c2 : ¬ (114 = ((ch).toInt8.toInt32)) := c2
      refine lv_iinc (v := 2) (lv' := [(5, .int 2), (4, .int ((ch).toInt8.toInt32)), (0, .ref (g.2.2 2)), (1, .int ch), (2, .int 0), (3, .int 9)]) hx hb dJ1_indexOfChar_4cfef_25 hl (k := 0) rfl (by decide) (by decide) rfl (fun ls hl => ?_)
      refine lv_goto (tgt := 7) hx hb dJ1_indexOfChar_4cfef_28 (by decide) ?_
      refine lv_iload hx hb dJ1_indexOfChar_4cfef_7 (lv_at hl 0 rfl) ?_
      refine lv_iload_n hx hb dJ1_indexOfChar_4cfef_9 rfl (lv_at hl 5 rfl) ?_
      refine lv_icmp_ge (tgt := 31) hx hb dJ1_indexOfChar_4cfef_10 (by decide) (fun c_ => absurd c_ (show ¬ ((9 : Int32) ≤ (2 : Int32)) by decide)) (fun _ => ?_)
      refine lv_aload_n hx hb dJ1_indexOfChar_4cfef_13 rfl (lv_at hl 2 rfl) ?_
      refine lv_iload hx hb dJ1_indexOfChar_4cfef_14 (lv_at hl 0 rfl) ?_
      refine z_bld (v := 112) S hZ E (show vp_in 2 9 by unfold vp_in; decide) rfl dJ1_indexOfChar_4cfef_16 ?_
      refine lv_iload hx hb dJ1_indexOfChar_4cfef_17 (lv_at hl 1 rfl) ?_
      refine lv_icmp_ne (tgt := 25) hx hb dJ1_indexOfChar_4cfef_19 (by decide) (fun c3 => ?_) (fun c3 => ?_)
      · have c3 : ¬ (112 = ((ch).toInt8.toInt32)) := c3
        refine lv_iinc (v := 3) (lv' := [(5, .int 3), (4, .int ((ch).toInt8.toInt32)), (0, .ref (g.2.2 2)), (1, .int ch), (2, .int 0), (3, .int 9)]) hx hb dJ1_indexOfChar_4cfef_25 hl (k := 0) rfl (by decide) (by decide) rfl (fun ls hl => ?_)
        refine lv_goto (tgt := 7) hx hb dJ1_indexOfChar_4cfef_28 (by decide) ?_
        refine lv_iload hx hb dJ1_indexOfChar_4cfef_7 (lv_at hl 0 rfl) ?_
        refine lv_iload_n hx hb dJ1_indexOfChar_4cfef_9 rfl (lv_at hl 5 rfl) ?_
        refine lv_icmp_ge (tgt := 31) hx hb dJ1_indexOfChar_4cfef_10 (by decide) (fun c_ => absurd c_ (show ¬ ((9 : Int32) ≤ (3 : Int32)) by decide)) (fun _ => ?_)
        refine lv_aload_n hx hb dJ1_indexOfChar_4cfef_13 rfl (lv_at hl 2 rfl) ?_
        refine lv_iload hx hb dJ1_indexOfChar_4cfef_14 (lv_at hl 0 rfl) ?_
        refine z_bld (v := 105) S hZ E (show vp_in 3 9 by unfold vp_in; decide) rfl dJ1_indexOfChar_4cfef_16 ?_
        refine lv_iload hx hb dJ1_indexOfChar_4cfef_17 (lv_at hl 1 rfl) ?_
        refine lv_icmp_ne (tgt := 25) hx hb dJ1_indexOfChar_4cfef_19 (by decide) (fun c4 => ?_) (fun c4 => ?_)
        · have c4 : ¬ (105 = ((ch).toInt8.toInt32)) := c4
          refine lv_iinc (v := 4) (lv' := [(5, .int 4), (4, .int ((ch).toInt8.toInt32)), (0, .ref (g.2.2 2)), (1, .int ch), (2, .int 0), (3, .int 9)]) hx hb dJ1_indexOfChar_4cfef_25 hl (k := 0) rfl (by decide) (by decide) rfl (fun ls hl => ?_)
          refine lv_goto (tgt := 7) hx hb dJ1_indexOfChar_4cfef_28 (by decide) ?_
          refine lv_iload hx hb dJ1_indexOfChar_4cfef_7 (lv_at hl 0 rfl) ?_
          refine lv_iload_n hx hb dJ1_indexOfChar_4cfef_9 rfl (lv_at hl 5 rfl) ?_
          refine lv_icmp_ge (tgt := 31) hx hb dJ1_indexOfChar_4cfef_10 (by decide) (fun c_ => absurd c_ (show ¬ ((9 : Int32) ≤ (4 : Int32)) by decide)) (fun _ => ?_)
          refine lv_aload_n hx hb dJ1_indexOfChar_4cfef_13 rfl (lv_at hl 2 rfl) ?_
          refine lv_iload hx hb dJ1_indexOfChar_4cfef_14 (lv_at hl 0 rfl) ?_
          refine z_bld (v := 111) S hZ E (show vp_in 4 9 by unfold vp_in; decide) rfl dJ1_indexOfChar_4cfef_16 ?_
          refine lv_iload hx hb dJ1_indexOfChar_4cfef_17 (lv_at hl 1 rfl) ?_
          refine lv_icmp_ne (tgt := 25) hx hb dJ1_indexOfChar_4cfef_19 (by decide) (fun c5 => ?_) (fun c5 => ?_)
          · have c5 : ¬ (111 = ((ch).toInt8.toInt32)) := c5
            refine lv_iinc (v := 5) (lv' := [(5, .int 5), (4, .int ((ch).toInt8.toInt32)), (0, .ref (g.2.2 2)), (1, .int ch), (2, .int 0), (3, .int 9)]) hx hb dJ1_indexOfChar_4cfef_25 hl (k := 0) rfl (by decide) (by decide) rfl (fun ls hl => ?_)
            refine lv_goto (tgt := 7) hx hb dJ1_indexOfChar_4cfef_28 (by decide) ?_
            refine lv_iload hx hb dJ1_indexOfChar_4cfef_7 (lv_at hl 0 rfl) ?_
            refine lv_iload_n hx hb dJ1_indexOfChar_4cfef_9 rfl (lv_at hl 5 rfl) ?_
            refine lv_icmp_ge (tgt := 31) hx hb dJ1_indexOfChar_4cfef_10 (by decide) (fun c_ => absurd c_ (show ¬ ((9 : Int32) ≤ (5 : Int32)) by decide)) (fun _ => ?_)
            refine lv_aload_n hx hb dJ1_indexOfChar_4cfef_13 rfl (lv_at hl 2 rfl) ?_
            refine lv_iload hx hb dJ1_indexOfChar_4cfef_14 (lv_at hl 0 rfl) ?_
            refine z_bld (v := 115) S hZ E (show vp_in 5 9 by unfold vp_in; decide) rfl dJ1_indexOfChar_4cfef_16 ?_
            refine lv_iload hx hb dJ1_indexOfChar_4cfef_17 (lv_at hl 1 rfl) ?_
            refine lv_icmp_ne (tgt := 25) hx hb dJ1_indexOfChar_4cfef_19 (by decide) (fun c6 => ?_) (fun c6 => ?_)
            · have c6 : ¬ (115 = ((ch).toInt8.toInt32)) := c6
              refine lv_iinc (v := 6) (lv' := [(5, .int 6), (4, .int ((ch).toInt8.toInt32)), (0, .ref (g.2.2 2)), (1, .int ch), (2, .int 0), (3, .int 9)]) hx hb dJ1_indexOfChar_4cfef_25 hl (k := 0) rfl (by decide) (by decide) rfl (fun ls hl => ?_)
              refine lv_goto (tgt := 7) hx hb dJ1_indexOfChar_4cfef_28 (by decide) ?_
              refine lv_iload hx hb dJ1_indexOfChar_4cfef_7 (lv_at hl 0 rfl) ?_
              refine lv_iload_n hx hb dJ1_indexOfChar_4cfef_9 rfl (lv_at hl 5 rfl) ?_
              refine lv_icmp_ge (tgt := 31) hx hb dJ1_indexOfChar_4cfef_10 (by decide) (fun c_ => absurd c_ (show ¬ ((9 : Int32) ≤ (6 : Int32)) by decide)) (fun _ => ?_)
              refine lv_aload_n hx hb dJ1_indexOfChar_4cfef_13 rfl (lv_at hl 2 rfl) ?_
              refine lv_iload hx hb dJ1_indexOfChar_4cfef_14 (lv_at hl 0 rfl) ?_
              refine z_bld (v := 110) S hZ E (show vp_in 6 9 by unfold vp_in; decide) rfl dJ1_indexOfChar_4cfef_16 ?_
              refine lv_iload hx hb dJ1_indexOfChar_4cfef_17 (lv_at hl 1 rfl) ?_
              refine lv_icmp_ne (tgt := 25) hx hb dJ1_indexOfChar_4cfef_19 (by decide) (fun c7 => ?_) (fun c7 => ?_)
              · have c7 : ¬ (110 = ((ch).toInt8.toInt32)) := c7
                refine lv_iinc (v := 7) (lv' := [(5, .int 7), (4, .int ((ch).toInt8.toInt32)), (0, .ref (g.2.2 2)), (1, .int ch), (2, .int 0), (3, .int 9)]) hx hb dJ1_indexOfChar_4cfef_25 hl (k := 0) rfl (by decide) (by decide) rfl (fun ls hl => ?_)
                refine lv_goto (tgt := 7) hx hb dJ1_indexOfChar_4cfef_28 (by decide) ?_
                refine lv_iload hx hb dJ1_indexOfChar_4cfef_7 (lv_at hl 0 rfl) ?_
                refine lv_iload_n hx hb dJ1_indexOfChar_4cfef_9 rfl (lv_at hl 5 rfl) ?_
                refine lv_icmp_ge (tgt := 31) hx hb dJ1_indexOfChar_4cfef_10 (by decide) (fun c_ => absurd c_ (show ¬ ((9 : Int32) ≤ (7 : Int32)) by decide)) (fun _ => ?_)
                refine lv_aload_n hx hb dJ1_indexOfChar_4cfef_13 rfl (lv_at hl 2 rfl) ?_
                refine lv_iload hx hb dJ1_indexOfChar_4cfef_14 (lv_at hl 0 rfl) ?_
                refine z_bld (v := 109) S hZ E (show vp_in 7 9 by unfold vp_in; decide) rfl dJ1_indexOfChar_4cfef_16 ?_
                refine lv_iload hx hb dJ1_indexOfChar_4cfef_17 (lv_at hl 1 rfl) ?_
                refine lv_icmp_ne (tgt := 25) hx hb dJ1_indexOfChar_4cfef_19 (by decide) (fun c8 => ?_) (fun c8 => ?_)
                · have c8 : ¬ (109 = ((ch).toInt8.toInt32)) := c8
                  refine lv_iinc (v := 8) (lv' := [(5, .int 8), (4, .int ((ch).toInt8.toInt32)), (0, .ref (g.2.2 2)), (1, .int ch), (2, .int 0), (3, .int 9)]) hx hb dJ1_indexOfChar_4cfef_25 hl (k := 0) rfl (by decide) (by decide) rfl (fun ls hl => ?_)
                  refine lv_goto (tgt := 7) hx hb dJ1_indexOfChar_4cfef_28 (by decide) ?_
                  refine lv_iload hx hb dJ1_indexOfChar_4cfef_7 (lv_at hl 0 rfl) ?_
                  refine lv_iload_n hx hb dJ1_indexOfChar_4cfef_9 rfl (lv_at hl 5 rfl) ?_
                  refine lv_icmp_ge (tgt := 31) hx hb dJ1_indexOfChar_4cfef_10 (by decide) (fun c_ => absurd c_ (show ¬ ((9 : Int32) ≤ (8 : Int32)) by decide)) (fun _ => ?_)
                  refine lv_aload_n hx hb dJ1_indexOfChar_4cfef_13 rfl (lv_at hl 2 rfl) ?_
                  refine lv_iload hx hb dJ1_indexOfChar_4cfef_14 (lv_at hl 0 rfl) ?_
                  refine z_bld (v := 108) S hZ E (show vp_in 8 9 by unfold vp_in; decide) rfl dJ1_indexOfChar_4cfef_16 ?_
                  refine lv_iload hx hb dJ1_indexOfChar_4cfef_17 (lv_at hl 1 rfl) ?_
                  refine lv_icmp_ne (tgt := 25) hx hb dJ1_indexOfChar_4cfef_19 (by decide) (fun c9 => ?_) (fun c9 => ?_)
                  · have c9 : ¬ (108 = ((ch).toInt8.toInt32)) := c9
                    refine lv_iinc (v := 9) (lv' := [(5, .int 9), (4, .int ((ch).toInt8.toInt32)), (0, .ref (g.2.2 2)), (1, .int ch), (2, .int 0), (3, .int 9)]) hx hb dJ1_indexOfChar_4cfef_25 hl (k := 0) rfl (by decide) (by decide) rfl (fun ls hl => ?_)
                    refine lv_goto (tgt := 7) hx hb dJ1_indexOfChar_4cfef_28 (by decide) ?_
                    refine lv_iload hx hb dJ1_indexOfChar_4cfef_7 (lv_at hl 0 rfl) ?_
                    refine lv_iload_n hx hb dJ1_indexOfChar_4cfef_9 rfl (lv_at hl 5 rfl) ?_
                    refine lv_icmp_ge (tgt := 31) hx hb dJ1_indexOfChar_4cfef_10 (by decide) (fun _ => ?_) (fun c_ => absurd (show (9 : Int32) ≤ (9 : Int32) by decide) c_)
                    refine lv_iconst (v := (-1)) hx hb dJ1_indexOfChar_4cfef_31 (by decide) ?_
                    exact x_iret () S hr hlk hsz htt hK E dJ1_indexOfChar_4cfef_32 (Or.inr (Or.inr (Or.inr (Or.inr (Or.inr (Or.inr (Or.inr (Or.inr (Or.inr (⟨rfl, nin9 (b8n (fun z => c1 z.symm) (by decide)) (b8n (fun z => c2 z.symm) (by decide)) (b8n (fun z => c3 z.symm) (by decide)) (b8n (fun z => c4 z.symm) (by decide)) (b8n (fun z => c5 z.symm) (by decide)) (b8n (fun z => c6 z.symm) (by decide)) (b8n (fun z => c7 z.symm) (by decide)) (b8n (fun z => c8 z.symm) (by decide)) (b8n (fun z => c9 z.symm) (by decide))⟩)))))))))) rfl ⟨Nat.le_of_ble_eq_true rfl, Nat.le_of_ble_eq_true rfl⟩ ⟨Nat.le_of_ble_eq_true rfl, Nat.le_of_ble_eq_true rfl⟩
                  · have c9 : 108 = ((ch).toInt8.toInt32) := c9
                    refine lv_iload hx hb dJ1_indexOfChar_4cfef_22 (lv_at hl 0 rfl) ?_
                    exact x_iret () S hr hlk hsz htt hK E dJ1_indexOfChar_4cfef_24 (Or.inr (Or.inr (Or.inr (Or.inr (Or.inr (Or.inr (Or.inr (Or.inr (Or.inl ⟨rfl, b8 hc c9.symm (by decide)⟩))))))))) rfl ⟨Nat.le_of_ble_eq_true rfl, Nat.le_of_ble_eq_true rfl⟩ ⟨Nat.le_of_ble_eq_true rfl, Nat.le_of_ble_eq_true rfl⟩
                · have c8 : 109 = ((ch).toInt8.toInt32) := c8
                  refine lv_iload hx hb dJ1_indexOfChar_4cfef_22 (lv_at hl 0 rfl) ?_
                  exact x_iret () S hr hlk hsz htt hK E dJ1_indexOfChar_4cfef_24 (Or.inr (Or.inr (Or.inr (Or.inr (Or.inr (Or.inr (Or.inr (Or.inl ⟨rfl, b8 hc c8.symm (by decide)⟩)))))))) rfl ⟨Nat.le_of_ble_eq_true rfl, Nat.le_of_ble_eq_true rfl⟩ ⟨Nat.le_of_ble_eq_true rfl, Nat.le_of_ble_eq_true rfl⟩
              · have c7 : 110 = ((ch).toInt8.toInt32) := c7
                refine lv_iload hx hb dJ1_indexOfChar_4cfef_22 (lv_at hl 0 rfl) ?_
                exact x_iret () S hr hlk hsz htt hK E dJ1_indexOfChar_4cfef_24 (Or.inr (Or.inr (Or.inr (Or.inr (Or.inr (Or.inr (Or.inl ⟨rfl, b8 hc c7.symm (by decide)⟩))))))) rfl ⟨Nat.le_of_ble_eq_true rfl, Nat.le_of_ble_eq_true rfl⟩ ⟨Nat.le_of_ble_eq_true rfl, Nat.le_of_ble_eq_true rfl⟩
            · have c6 : 115 = ((ch).toInt8.toInt32) := c6
              refine lv_iload hx hb dJ1_indexOfChar_4cfef_22 (lv_at hl 0 rfl) ?_
              exact x_iret () S hr hlk hsz htt hK E dJ1_indexOfChar_4cfef_24 (Or.inr (Or.inr (Or.inr (Or.inr (Or.inr (Or.inl ⟨rfl, b8 hc c6.symm (by decide)⟩)))))) rfl ⟨Nat.le_of_ble_eq_true rfl, Nat.le_of_ble_eq_true rfl⟩ ⟨Nat.le_of_ble_eq_true rfl, Nat.le_of_ble_eq_true rfl⟩
          · have c5 : 111 = ((ch).toInt8.toInt32) := c5
            refine lv_iload hx hb dJ1_indexOfChar_4cfef_22 (lv_at hl 0 rfl) ?_
            exact x_iret () S hr hlk hsz htt hK E dJ1_indexOfChar_4cfef_24 (Or.inr (Or.inr (Or.inr (Or.inr (Or.inl ⟨rfl, b8 hc c5.symm (by decide)⟩))))) rfl ⟨Nat.le_of_ble_eq_true rfl, Nat.le_of_ble_eq_true rfl⟩ ⟨Nat.le_of_ble_eq_true rfl, Nat.le_of_ble_eq_true rfl⟩
        · have c4 : 105 = ((ch).toInt8.toInt32) := c4
          refine lv_iload hx hb dJ1_indexOfChar_4cfef_22 (lv_at hl 0 rfl) ?_
          exact x_iret () S hr hlk hsz htt hK E dJ1_indexOfChar_4cfef_24 (Or.inr (Or.inr (Or.inr (Or.inl ⟨rfl, b8 hc c4.symm (by decide)⟩)))) rfl ⟨Nat.le_of_ble_eq_true rfl, Nat.le_of_ble_eq_true rfl⟩ ⟨Nat.le_of_ble_eq_true rfl, Nat.le_of_ble_eq_true rfl⟩
      · have c3 : 112 = ((ch).toInt8.toInt32) := c3
        refine lv_iload hx hb dJ1_indexOfChar_4cfef_22 (lv_at hl 0 rfl) ?_
        exact x_iret () S hr hlk hsz htt hK E dJ1_indexOfChar_4cfef_24 (Or.inr (Or.inr (Or.inl ⟨rfl, b8 hc c3.symm (by decide)⟩))) rfl ⟨Nat.le_of_ble_eq_true rfl, Nat.le_of_ble_eq_true rfl⟩ ⟨Nat.le_of_ble_eq_true rfl, Nat.le_of_ble_eq_true rfl⟩
    · have c2 : 114 = ((ch).toInt8.toInt32) := c2
      refine lv_iload hx hb dJ1_indexOfChar_4cfef_22 (lv_at hl 0 rfl) ?_
      exact x_iret () S hr hlk hsz htt hK E dJ1_indexOfChar_4cfef_24 (Or.inr (Or.inl ⟨rfl, b8 hc c2.symm (by decide)⟩)) rfl ⟨Nat.le_of_ble_eq_true rfl, Nat.le_of_ble_eq_true rfl⟩ ⟨Nat.le_of_ble_eq_true rfl, Nat.le_of_ble_eq_true rfl⟩
  · have c1 : 119 = ((ch).toInt8.toInt32) := c1
    refine lv_iload hx hb dJ1_indexOfChar_4cfef_22 (lv_at hl 0 rfl) ?_
    exact x_iret () S hr hlk hsz htt hK E dJ1_indexOfChar_4cfef_24 (Or.inl ⟨rfl, b8 hc c1.symm (by decide)⟩) rfl ⟨Nat.le_of_ble_eq_true rfl, Nat.le_of_ble_eq_true rfl⟩ ⟨Nat.le_of_ble_eq_true rfl, Nat.le_of_ble_eq_true rfl⟩

set_option maxHeartbeats 4000000 in
set_option maxRecDepth 100000 in
/-- StringLatin1.indexOf -/
theorem c_ix0 (l : Launch) (g : Gm) (ch : Int32) : MXi (S := Unit) l g yJ1_indexOf_4cfef cJ1_indexOf_4cfef 4 .int ({ frames := 1, cells := 0, slots := 0, locals := 25 } : Room) [.ref (g.2.2 2), .int ch, .int 0, .int 9] [] (fun r _ => (r = 0 ∧ ch = 119) ∨ (r = 1 ∧ ch = 114) ∨ (r = 2 ∧ ch = 112) ∨ (r = 3 ∧ ch = 105) ∨ (r = 4 ∧ ch = 111) ∨ (r = 5 ∧ ch = 115) ∨ (r = 6 ∧ ch = 110) ∨ (r = 7 ∧ ch = 109) ∨ (r = 8 ∧ ch = 108) ∨ (r = -1 ∧ ch ∉ bytN)) (fun _ => []) (fun _ => (0, 0)) := by
  intro sz tt
  refine ofX RJ1 rfl (by decide +kernel) (Nat.le_of_ble_eq_true rfl) (fun p e s m args below meth c hargs S hml hr hlk hnm hsz htt hK hA hZ E ls hl => ?_)
  have hx := S.1
  have hb := S.2.1
  have hl : lv_has ls 4 [(0, .ref (g.2.2 2)), (1, .int ch), (2, .int 0), (3, .int 9)] := hl
  refine lv_iload_n hx hb dJ1_indexOf_4cfef_0 rfl (lv_at hl 1 rfl) ?_
  refine w_reti (runS_X (As := [.int ch]) (rest := []) (n := 1) S hml hK (hZ.at E) (Cut.full E hA) (c_ce0 l g ch _ _) ml_J1_88 st_J1_canEncode_9a6ad in_J1 co_J1_canEncode_9a6ad ⟨by decide +kernel, by decide +kernel, by decide +kernel⟩ ⟨Nat.le_of_ble_eq_true rfl, Nat.le_of_ble_eq_true rfl⟩ rfl hl.1 rfl (Nat.le_of_ble_eq_true rfl) dJ1_indexOf_4cfef_1 ⟨Nat.le_of_ble_eq_true rfl, Nat.le_of_ble_eq_true rfl⟩) (Cut.full E hA) E (fun r1 u1 H locs hp E => ?_)
  have E : Ev g _ s.heap H locs [] := E
  rcases hp with ⟨rfl, hCE⟩ | ⟨rfl, hCE⟩
  · skip
    refine lv_if_ne (tgt := 9) hx hb dJ1_indexOf_4cfef_4 (by decide) (fun _ => ?_) (fun c_ => absurd c_ (show ¬ ((1 : Int32) = 0) by decide))
    refine lv_iload_n hx hb dJ1_indexOf_4cfef_9 rfl (lv_at hl 2 rfl) ?_
    refine lv_iconst (v := 0) hx hb dJ1_indexOf_4cfef_10 (by decide) ?_
    refine w_max (v := 0) S hml hl ml_J1_92 st_max in_J9 co_max (Nat.le_of_ble_eq_true rfl) (Nat.le_of_ble_eq_true rfl) ⟨Nat.le_of_ble_eq_true rfl, Nat.le_of_ble_eq_true rfl⟩ (by decide) dJ1_indexOf_4cfef_11 ?_
    refine lv_istore_n (lv' := [(2, .int 0), (0, .ref (g.2.2 2)), (1, .int ch), (3, .int 9)]) hx hb dJ1_indexOf_4cfef_14 rfl hl (by decide) rfl (fun ls hl => ?_)
    refine lv_iload_n hx hb dJ1_indexOf_4cfef_15 rfl (lv_at hl 3 rfl) ?_
    refine lv_aload_n hx hb dJ1_indexOf_4cfef_16 rfl (lv_at hl 1 rfl) ?_
    refine z_len S hZ E dJ1_indexOf_4cfef_17 ?_
    refine w_min (v := 9) S hml hl ml_J1_38 st_min in_J9 co_min (Nat.le_of_ble_eq_true rfl) (Nat.le_of_ble_eq_true rfl) ⟨Nat.le_of_ble_eq_true rfl, Nat.le_of_ble_eq_true rfl⟩ (by decide) dJ1_indexOf_4cfef_18 ?_
    refine lv_istore_n (lv' := [(3, .int 9), (2, .int 0), (0, .ref (g.2.2 2)), (1, .int ch)]) hx hb dJ1_indexOf_4cfef_21 rfl hl (by decide) rfl (fun ls hl => ?_)
    refine lv_iload_n hx hb dJ1_indexOf_4cfef_22 rfl (lv_at hl 1 rfl) ?_
    refine lv_iload_n hx hb dJ1_indexOf_4cfef_23 rfl (lv_at hl 0 rfl) ?_
    refine lv_icmp_lt (tgt := 29) hx hb dJ1_indexOf_4cfef_24 (by decide) (fun _ => ?_) (fun c_ => absurd (show (0 : Int32) < (9 : Int32) by decide) c_)
    refine lv_aload_n hx hb dJ1_indexOf_4cfef_29 rfl (lv_at hl 2 rfl) ?_
    refine lv_iload_n hx hb dJ1_indexOf_4cfef_30 rfl (lv_at hl 3 rfl) ?_
    refine lv_iload_n hx hb dJ1_indexOf_4cfef_31 rfl (lv_at hl 1 rfl) ?_
    refine lv_iload_n hx hb dJ1_indexOf_4cfef_32 rfl (lv_at hl 0 rfl) ?_
    refine w_reti (runS_X (As := [.ref (g.2.2 2), .int ch, .int 0, .int 9]) (rest := []) (n := 4) S hml hK (hZ.at E) (Cut.full E hA) (c_ic0 l g ch hCE _ _) ml_J1_95 st_J1_indexOfChar_4cfef in_J1 co_J1_indexOfChar_4cfef ⟨by decide +kernel, by decide +kernel, by decide +kernel⟩ ⟨Nat.le_of_ble_eq_true rfl, Nat.le_of_ble_eq_true rfl⟩ rfl hl.1 rfl (Nat.le_of_ble_eq_true rfl) dJ1_indexOf_4cfef_33 ⟨Nat.le_of_ble_eq_true rfl, Nat.le_of_ble_eq_true rfl⟩) (Cut.full E hA) E (fun r2 u2 H locs hp E => ?_)
    have E : Ev g _ s.heap H locs [] := E
    rcases hp with ⟨rfl, hIX⟩ | ⟨rfl, hIX⟩ | ⟨rfl, hIX⟩ | ⟨rfl, hIX⟩ | ⟨rfl, hIX⟩ | ⟨rfl, hIX⟩ | ⟨rfl, hIX⟩ | ⟨rfl, hIX⟩ | ⟨rfl, hIX⟩ | ⟨rfl, hIX⟩
    · skip
      exact x_iret () S hr hlk hsz htt hK E dJ1_indexOf_4cfef_36 (Or.inl ⟨rfl, hIX⟩) rfl ⟨Nat.le_of_ble_eq_true rfl, Nat.le_of_ble_eq_true rfl⟩ ⟨Nat.le_of_ble_eq_true rfl, Nat.le_of_ble_eq_true rfl⟩
    · skip
      exact x_iret () S hr hlk hsz htt hK E dJ1_indexOf_4cfef_36 (Or.inr (Or.inl ⟨rfl, hIX⟩)) rfl ⟨Nat.le_of_ble_eq_true rfl, Nat.le_of_ble_eq_true rfl⟩ ⟨Nat.le_of_ble_eq_true rfl, Nat.le_of_ble_eq_true rfl⟩
    · skip
      exact x_iret () S hr hlk hsz htt hK E dJ1_indexOf_4cfef_36 (Or.inr (Or.inr (Or.inl ⟨rfl, hIX⟩))) rfl ⟨Nat.le_of_ble_eq_true rfl, Nat.le_of_ble_eq_true rfl⟩ ⟨Nat.le_of_ble_eq_true rfl, Nat.le_of_ble_eq_true rfl⟩
    · skip
      exact x_iret () S hr hlk hsz htt hK E dJ1_indexOf_4cfef_36 (Or.inr (Or.inr (Or.inr (Or.inl ⟨rfl, hIX⟩)))) rfl ⟨Nat.le_of_ble_eq_true rfl, Nat.le_of_ble_eq_true rfl⟩ ⟨Nat.le_of_ble_eq_true rfl, Nat.le_of_ble_eq_true rfl⟩
    · skip
      exact x_iret () S hr hlk hsz htt hK E dJ1_indexOf_4cfef_36 (Or.inr (Or.inr (Or.inr (Or.inr (Or.inl ⟨rfl, hIX⟩))))) rfl ⟨Nat.le_of_ble_eq_true rfl, Nat.le_of_ble_eq_true rfl⟩ ⟨Nat.le_of_ble_eq_true rfl, Nat.le_of_ble_eq_true rfl⟩
    · skip
      exact x_iret () S hr hlk hsz htt hK E dJ1_indexOf_4cfef_36 (Or.inr (Or.inr (Or.inr (Or.inr (Or.inr (Or.inl ⟨rfl, hIX⟩)))))) rfl ⟨Nat.le_of_ble_eq_true rfl, Nat.le_of_ble_eq_true rfl⟩ ⟨Nat.le_of_ble_eq_true rfl, Nat.le_of_ble_eq_true rfl⟩
    · skip
      exact x_iret () S hr hlk hsz htt hK E dJ1_indexOf_4cfef_36 (Or.inr (Or.inr (Or.inr (Or.inr (Or.inr (Or.inr (Or.inl ⟨rfl, hIX⟩))))))) rfl ⟨Nat.le_of_ble_eq_true rfl, Nat.le_of_ble_eq_true rfl⟩ ⟨Nat.le_of_ble_eq_true rfl, Nat.le_of_ble_eq_true rfl⟩
    · skip
      exact x_iret () S hr hlk hsz htt hK E dJ1_indexOf_4cfef_36 (Or.inr (Or.inr (Or.inr (Or.inr (Or.inr (Or.inr (Or.inr (Or.inl ⟨rfl, hIX⟩)))))))) rfl ⟨Nat.le_of_ble_eq_true rfl, Nat.le_of_ble_eq_true rfl⟩ ⟨Nat.le_of_ble_eq_true rfl, Nat.le_of_ble_eq_true rfl⟩
    · skip
      exact x_iret () S hr hlk hsz htt hK E dJ1_indexOf_4cfef_36 (Or.inr (Or.inr (Or.inr (Or.inr (Or.inr (Or.inr (Or.inr (Or.inr (Or.inl ⟨rfl, hIX⟩))))))))) rfl ⟨Nat.le_of_ble_eq_true rfl, Nat.le_of_ble_eq_true rfl⟩ ⟨Nat.le_of_ble_eq_true rfl, Nat.le_of_ble_eq_true rfl⟩
    · skip
      exact x_iret () S hr hlk hsz htt hK E dJ1_indexOf_4cfef_36 (Or.inr (Or.inr (Or.inr (Or.inr (Or.inr (Or.inr (Or.inr (Or.inr (Or.inr (⟨rfl, hIX⟩)))))))))) rfl ⟨Nat.le_of_ble_eq_true rfl, Nat.le_of_ble_eq_true rfl⟩ ⟨Nat.le_of_ble_eq_true rfl, Nat.le_of_ble_eq_true rfl⟩
  · skip
    refine lv_if_ne (tgt := 9) hx hb dJ1_indexOf_4cfef_4 (by decide) (fun c_ => absurd (show (0 : Int32) = 0 by decide) c_) (fun _ => ?_)
    refine lv_iconst (v := (-1)) hx hb dJ1_indexOf_4cfef_7 (by decide) ?_
    exact x_iret () S hr hlk hsz htt hK E dJ1_indexOf_4cfef_8 (Or.inr (Or.inr (Or.inr (Or.inr (Or.inr (Or.inr (Or.inr (Or.inr (Or.inr (⟨rfl, n255 hCE⟩)))))))))) rfl ⟨Nat.le_of_ble_eq_true rfl, Nat.le_of_ble_eq_true rfl⟩ ⟨Nat.le_of_ble_eq_true rfl, Nat.le_of_ble_eq_true rfl⟩

set_option maxHeartbeats 4000000 in
set_option maxRecDepth 100000 in
/-- String.indexOf(c, 0) -/
theorem c_ix1 (l : Launch) (g : Gm) (ch : Int32) : MXi (S := Unit) l g yJ0_indexOf_7cf53 cJ0_indexOf_7cf53 3 .int ({ frames := 2, cells := 0, slots := 0, locals := 48 } : Room) [.ref (g.2.2 1), .int ch, .int 0] [] (fun r _ => (r = 0 ∧ ch = 119) ∨ (r = 1 ∧ ch = 114) ∨ (r = 2 ∧ ch = 112) ∨ (r = 3 ∧ ch = 105) ∨ (r = 4 ∧ ch = 111) ∨ (r = 5 ∧ ch = 115) ∨ (r = 6 ∧ ch = 110) ∨ (r = 7 ∧ ch = 109) ∨ (r = 8 ∧ ch = 108) ∨ (r = -1 ∧ ch ∉ bytN)) (fun _ => []) (fun _ => (0, 0)) := by
  intro sz tt
  refine ofX RJ0 rfl (by decide +kernel) (Nat.le_of_ble_eq_true rfl) (fun p e s m args below meth c hargs S hml hr hlk hnm hsz htt hK hA hZ E ls hl => ?_)
  have hx := S.1
  have hb := S.2.1
  have hl : lv_has ls 3 [(0, .ref (g.2.2 1)), (1, .int ch), (2, .int 0)] := hl
  refine lv_aload_n hx hb dJ0_indexOf_7cf53_0 rfl (lv_at hl 0 rfl) ?_
  refine w_reti (runZ_X (As := []) (rest := []) (n := 0) S hml hK hZ E (Cut.full E hA) (c_J0_isLatin1_aae02 l g   _ _) (gi_wsV ml_J0_492 im_J0_isLatin1_aae02 sl_J0_isLatin1_aae02 in_J0 co_J0_isLatin1_aae02) ⟨rfl, by decide +kernel, by decide +kernel, by decide +kernel⟩ ⟨Nat.le_of_ble_eq_true rfl, Nat.le_of_ble_eq_true rfl⟩ rfl hl.1 rfl (Nat.le_of_ble_eq_true rfl) dJ0_indexOf_7cf53_1 ⟨Nat.le_of_ble_eq_true rfl, Nat.le_of_ble_eq_true rfl⟩) (Cut.full E hA) E (fun r1 u1 H locs hp E => ?_)
  have E : Ev g _ s.heap H locs [] := E
  subst hp
  refine lv_if_eq (tgt := 23) hx hb dJ0_indexOf_7cf53_4 (by decide) (fun c_ => absurd c_ (show ¬ ((1 : Int32) = 0) by decide)) (fun _ => ?_)
  refine lv_aload_n hx hb dJ0_indexOf_7cf53_7 rfl (lv_at hl 0 rfl) ?_
  refine z_val S hZ E fl_J0_9 dJ0_indexOf_7cf53_8 ?_
  refine lv_iload_n hx hb dJ0_indexOf_7cf53_11 rfl (lv_at hl 1 rfl) ?_
  refine lv_iload_n hx hb dJ0_indexOf_7cf53_12 rfl (lv_at hl 2 rfl) ?_
  refine lv_aload_n hx hb dJ0_indexOf_7cf53_13 rfl (lv_at hl 0 rfl) ?_
  refine w_reti (runZ_X (As := []) (rest := [.int 0, .int ch, .ref (g.2.2 2)]) (n := 0) S hml hK hZ E (Cut.full E hA) (c_J0_length_8abf5 l g   _ _) (gi_wsV ml_J0_505 im_J0_length_8abf5 sl_J0_length_8abf5 in_J0 co_J0_length_8abf5) ⟨rfl, by decide +kernel, by decide +kernel, by decide +kernel⟩ ⟨Nat.le_of_ble_eq_true rfl, Nat.le_of_ble_eq_true rfl⟩ rfl hl.1 rfl (Nat.le_of_ble_eq_true rfl) dJ0_indexOf_7cf53_14 ⟨Nat.le_of_ble_eq_true rfl, Nat.le_of_ble_eq_true rfl⟩) (Cut.full E hA) E (fun r2 u2 H locs hp E => ?_)
  have E : Ev g _ s.heap H locs [] := E
  subst hp
  refine w_reti (runS_X (As := [.ref (g.2.2 2), .int ch, .int 0, .int 9]) (rest := []) (n := 4) S hml hK (hZ.at E) (Cut.full E hA) (c_ix0 l g ch _ _) ml_J0_637 st_J1_indexOf_4cfef in_J1 co_J1_indexOf_4cfef ⟨by decide +kernel, by decide +kernel, by decide +kernel⟩ ⟨Nat.le_of_ble_eq_true rfl, Nat.le_of_ble_eq_true rfl⟩ rfl hl.1 rfl (Nat.le_of_ble_eq_true rfl) dJ0_indexOf_7cf53_17 ⟨Nat.le_of_ble_eq_true rfl, Nat.le_of_ble_eq_true rfl⟩) (Cut.full E hA) E (fun r3 u3 H locs hp E => ?_)
  have E : Ev g _ s.heap H locs [] := E
  rcases hp with ⟨rfl, hIX⟩ | ⟨rfl, hIX⟩ | ⟨rfl, hIX⟩ | ⟨rfl, hIX⟩ | ⟨rfl, hIX⟩ | ⟨rfl, hIX⟩ | ⟨rfl, hIX⟩ | ⟨rfl, hIX⟩ | ⟨rfl, hIX⟩ | ⟨rfl, hIX⟩
  · skip
    refine lv_goto (tgt := 36) hx hb dJ0_indexOf_7cf53_20 (by decide) ?_
    exact x_iret () S hr hlk hsz htt hK E dJ0_indexOf_7cf53_36 (Or.inl ⟨rfl, hIX⟩) rfl ⟨Nat.le_of_ble_eq_true rfl, Nat.le_of_ble_eq_true rfl⟩ ⟨Nat.le_of_ble_eq_true rfl, Nat.le_of_ble_eq_true rfl⟩
  · skip
    refine lv_goto (tgt := 36) hx hb dJ0_indexOf_7cf53_20 (by decide) ?_
    exact x_iret () S hr hlk hsz htt hK E dJ0_indexOf_7cf53_36 (Or.inr (Or.inl ⟨rfl, hIX⟩)) rfl ⟨Nat.le_of_ble_eq_true rfl, Nat.le_of_ble_eq_true rfl⟩ ⟨Nat.le_of_ble_eq_true rfl, Nat.le_of_ble_eq_true rfl⟩
  · skip
    refine lv_goto (tgt := 36) hx hb dJ0_indexOf_7cf53_20 (by decide) ?_
    exact x_iret () S hr hlk hsz htt hK E dJ0_indexOf_7cf53_36 (Or.inr (Or.inr (Or.inl ⟨rfl, hIX⟩))) rfl ⟨Nat.le_of_ble_eq_true rfl, Nat.le_of_ble_eq_true rfl⟩ ⟨Nat.le_of_ble_eq_true rfl, Nat.le_of_ble_eq_true rfl⟩
  · skip
    refine lv_goto (tgt := 36) hx hb dJ0_indexOf_7cf53_20 (by decide) ?_
    exact x_iret () S hr hlk hsz htt hK E dJ0_indexOf_7cf53_36 (Or.inr (Or.inr (Or.inr (Or.inl ⟨rfl, hIX⟩)))) rfl ⟨Nat.le_of_ble_eq_true rfl, Nat.le_of_ble_eq_true rfl⟩ ⟨Nat.le_of_ble_eq_true rfl, Nat.le_of_ble_eq_true rfl⟩
  · skip
    refine lv_goto (tgt := 36) hx hb dJ0_indexOf_7cf53_20 (by decide) ?_
    exact x_iret () S hr hlk hsz htt hK E dJ0_indexOf_7cf53_36 (Or.inr (Or.inr (Or.inr (Or.inr (Or.inl ⟨rfl, hIX⟩))))) rfl ⟨Nat.le_of_ble_eq_true rfl, Nat.le_of_ble_eq_true rfl⟩ ⟨Nat.le_of_ble_eq_true rfl, Nat.le_of_ble_eq_true rfl⟩
  · skip
    refine lv_goto (tgt := 36) hx hb dJ0_indexOf_7cf53_20 (by decide) ?_
    exact x_iret () S hr hlk hsz htt hK E dJ0_indexOf_7cf53_36 (Or.inr (Or.inr (Or.inr (Or.inr (Or.inr (Or.inl ⟨rfl, hIX⟩)))))) rfl ⟨Nat.le_of_ble_eq_true rfl, Nat.le_of_ble_eq_true rfl⟩ ⟨Nat.le_of_ble_eq_true rfl, Nat.le_of_ble_eq_true rfl⟩
  · skip
    refine lv_goto (tgt := 36) hx hb dJ0_indexOf_7cf53_20 (by decide) ?_
    exact x_iret () S hr hlk hsz htt hK E dJ0_indexOf_7cf53_36 (Or.inr (Or.inr (Or.inr (Or.inr (Or.inr (Or.inr (Or.inl ⟨rfl, hIX⟩))))))) rfl ⟨Nat.le_of_ble_eq_true rfl, Nat.le_of_ble_eq_true rfl⟩ ⟨Nat.le_of_ble_eq_true rfl, Nat.le_of_ble_eq_true rfl⟩
  · skip
    refine lv_goto (tgt := 36) hx hb dJ0_indexOf_7cf53_20 (by decide) ?_
    exact x_iret () S hr hlk hsz htt hK E dJ0_indexOf_7cf53_36 (Or.inr (Or.inr (Or.inr (Or.inr (Or.inr (Or.inr (Or.inr (Or.inl ⟨rfl, hIX⟩)))))))) rfl ⟨Nat.le_of_ble_eq_true rfl, Nat.le_of_ble_eq_true rfl⟩ ⟨Nat.le_of_ble_eq_true rfl, Nat.le_of_ble_eq_true rfl⟩
  · skip
    refine lv_goto (tgt := 36) hx hb dJ0_indexOf_7cf53_20 (by decide) ?_
    exact x_iret () S hr hlk hsz htt hK E dJ0_indexOf_7cf53_36 (Or.inr (Or.inr (Or.inr (Or.inr (Or.inr (Or.inr (Or.inr (Or.inr (Or.inl ⟨rfl, hIX⟩))))))))) rfl ⟨Nat.le_of_ble_eq_true rfl, Nat.le_of_ble_eq_true rfl⟩ ⟨Nat.le_of_ble_eq_true rfl, Nat.le_of_ble_eq_true rfl⟩
  · skip
    refine lv_goto (tgt := 36) hx hb dJ0_indexOf_7cf53_20 (by decide) ?_
    exact x_iret () S hr hlk hsz htt hK E dJ0_indexOf_7cf53_36 (Or.inr (Or.inr (Or.inr (Or.inr (Or.inr (Or.inr (Or.inr (Or.inr (Or.inr (⟨rfl, hIX⟩)))))))))) rfl ⟨Nat.le_of_ble_eq_true rfl, Nat.le_of_ble_eq_true rfl⟩ ⟨Nat.le_of_ble_eq_true rfl, Nat.le_of_ble_eq_true rfl⟩

set_option maxHeartbeats 4000000 in
set_option maxRecDepth 100000 in
/-- String.indexOf(c) -/
theorem c_ix2 (l : Launch) (g : Gm) (ch : Int32) : MXi (S := Unit) l g yJ0_indexOf_0f7a4 cJ0_indexOf_0f7a4 2 .int ({ frames := 3, cells := 0, slots := 0, locals := 70 } : Room) [.ref (g.2.2 1), .int ch] [] (fun r _ => (r = 0 ∧ ch = 119) ∨ (r = 1 ∧ ch = 114) ∨ (r = 2 ∧ ch = 112) ∨ (r = 3 ∧ ch = 105) ∨ (r = 4 ∧ ch = 111) ∨ (r = 5 ∧ ch = 115) ∨ (r = 6 ∧ ch = 110) ∨ (r = 7 ∧ ch = 109) ∨ (r = 8 ∧ ch = 108) ∨ (r = -1 ∧ ch ∉ bytN)) (fun _ => []) (fun _ => (0, 0)) := by
  intro sz tt
  refine ofX RJ0 rfl (by decide +kernel) (Nat.le_of_ble_eq_true rfl) (fun p e s m args below meth c hargs S hml hr hlk hnm hsz htt hK hA hZ E ls hl => ?_)
  have hx := S.1
  have hb := S.2.1
  have hl : lv_has ls 2 [(0, .ref (g.2.2 1)), (1, .int ch)] := hl
  refine lv_aload_n hx hb dJ0_indexOf_0f7a4_0 rfl (lv_at hl 0 rfl) ?_
  refine lv_iload_n hx hb dJ0_indexOf_0f7a4_1 rfl (lv_at hl 1 rfl) ?_
  refine lv_iconst (v := 0) hx hb dJ0_indexOf_0f7a4_2 (by decide) ?_
  refine w_reti (runZ_X (As := [.int ch, .int 0]) (rest := []) (n := 2) S hml hK hZ E (Cut.full E hA) (c_ix1 l g ch  _ _) (gi_wsV ml_J0_633 im_J0_indexOf_7cf53 sl_J0_indexOf_7cf53 in_J0 co_J0_indexOf_7cf53) ⟨rfl, by decide +kernel, by decide +kernel, by decide +kernel⟩ ⟨Nat.le_of_ble_eq_true rfl, Nat.le_of_ble_eq_true rfl⟩ rfl hl.1 rfl (Nat.le_of_ble_eq_true rfl) dJ0_indexOf_0f7a4_3 ⟨Nat.le_of_ble_eq_true rfl, Nat.le_of_ble_eq_true rfl⟩) (Cut.full E hA) E (fun r1 u1 H locs hp E => ?_)
  have E : Ev g _ s.heap H locs [] := E
  rcases hp with ⟨rfl, hIX⟩ | ⟨rfl, hIX⟩ | ⟨rfl, hIX⟩ | ⟨rfl, hIX⟩ | ⟨rfl, hIX⟩ | ⟨rfl, hIX⟩ | ⟨rfl, hIX⟩ | ⟨rfl, hIX⟩ | ⟨rfl, hIX⟩ | ⟨rfl, hIX⟩
  · skip
    exact x_iret () S hr hlk hsz htt hK E dJ0_indexOf_0f7a4_6 (Or.inl ⟨rfl, hIX⟩) rfl ⟨Nat.le_of_ble_eq_true rfl, Nat.le_of_ble_eq_true rfl⟩ ⟨Nat.le_of_ble_eq_true rfl, Nat.le_of_ble_eq_true rfl⟩
  · skip
    exact x_iret () S hr hlk hsz htt hK E dJ0_indexOf_0f7a4_6 (Or.inr (Or.inl ⟨rfl, hIX⟩)) rfl ⟨Nat.le_of_ble_eq_true rfl, Nat.le_of_ble_eq_true rfl⟩ ⟨Nat.le_of_ble_eq_true rfl, Nat.le_of_ble_eq_true rfl⟩
  · skip
    exact x_iret () S hr hlk hsz htt hK E dJ0_indexOf_0f7a4_6 (Or.inr (Or.inr (Or.inl ⟨rfl, hIX⟩))) rfl ⟨Nat.le_of_ble_eq_true rfl, Nat.le_of_ble_eq_true rfl⟩ ⟨Nat.le_of_ble_eq_true rfl, Nat.le_of_ble_eq_true rfl⟩
  · skip
    exact x_iret () S hr hlk hsz htt hK E dJ0_indexOf_0f7a4_6 (Or.inr (Or.inr (Or.inr (Or.inl ⟨rfl, hIX⟩)))) rfl ⟨Nat.le_of_ble_eq_true rfl, Nat.le_of_ble_eq_true rfl⟩ ⟨Nat.le_of_ble_eq_true rfl, Nat.le_of_ble_eq_true rfl⟩
  · skip
    exact x_iret () S hr hlk hsz htt hK E dJ0_indexOf_0f7a4_6 (Or.inr (Or.inr (Or.inr (Or.inr (Or.inl ⟨rfl, hIX⟩))))) rfl ⟨Nat.le_of_ble_eq_true rfl, Nat.le_of_ble_eq_true rfl⟩ ⟨Nat.le_of_ble_eq_true rfl, Nat.le_of_ble_eq_true rfl⟩
  · skip
    exact x_iret () S hr hlk hsz htt hK E dJ0_indexOf_0f7a4_6 (Or.inr (Or.inr (Or.inr (Or.inr (Or.inr (Or.inl ⟨rfl, hIX⟩)))))) rfl ⟨Nat.le_of_ble_eq_true rfl, Nat.le_of_ble_eq_true rfl⟩ ⟨Nat.le_of_ble_eq_true rfl, Nat.le_of_ble_eq_true rfl⟩
  · skip
    exact x_iret () S hr hlk hsz htt hK E dJ0_indexOf_0f7a4_6 (Or.inr (Or.inr (Or.inr (Or.inr (Or.inr (Or.inr (Or.inl ⟨rfl, hIX⟩))))))) rfl ⟨Nat.le_of_ble_eq_true rfl, Nat.le_of_ble_eq_true rfl⟩ ⟨Nat.le_of_ble_eq_true rfl, Nat.le_of_ble_eq_true rfl⟩
  · skip
    exact x_iret () S hr hlk hsz htt hK E dJ0_indexOf_0f7a4_6 (Or.inr (Or.inr (Or.inr (Or.inr (Or.inr (Or.inr (Or.inr (Or.inl ⟨rfl, hIX⟩)))))))) rfl ⟨Nat.le_of_ble_eq_true rfl, Nat.le_of_ble_eq_true rfl⟩ ⟨Nat.le_of_ble_eq_true rfl, Nat.le_of_ble_eq_true rfl⟩
  · skip
    exact x_iret () S hr hlk hsz htt hK E dJ0_indexOf_0f7a4_6 (Or.inr (Or.inr (Or.inr (Or.inr (Or.inr (Or.inr (Or.inr (Or.inr (Or.inl ⟨rfl, hIX⟩))))))))) rfl ⟨Nat.le_of_ble_eq_true rfl, Nat.le_of_ble_eq_true rfl⟩ ⟨Nat.le_of_ble_eq_true rfl, Nat.le_of_ble_eq_true rfl⟩
  · skip
    exact x_iret () S hr hlk hsz htt hK E dJ0_indexOf_0f7a4_6 (Or.inr (Or.inr (Or.inr (Or.inr (Or.inr (Or.inr (Or.inr (Or.inr (Or.inr (⟨rfl, hIX⟩)))))))))) rfl ⟨Nat.le_of_ble_eq_true rfl, Nat.le_of_ble_eq_true rfl⟩ ⟨Nat.le_of_ble_eq_true rfl, Nat.le_of_ble_eq_true rfl⟩

def kk_account (ch : Int32) : Int32 := if ch ∈ bytN then 0 else 1
/-- what stands on an account -/
def acc (σ : Sg) (ch : Int32) : Int64 := if ch = 119 then gl σ 28 0 else if ch = 114 then gl σ 28 1 else if ch = 112 then gl σ 28 2 else if ch = 105 then gl σ 28 3 else if ch = 111 then gl σ 28 4 else if ch = 115 then gl σ 28 5 else if ch = 110 then gl σ 28 6 else if ch = 109 then gl σ 28 7 else if ch = 108 then gl σ 28 8 else 0
set_option maxHeartbeats 4000000 in
set_option maxRecDepth 100000 in
/-- account -/
theorem c_G_account (l : Launch) (g : Gm) (hst : l.stackTraces = false) (x : Nat) (ag : Nat) (wo : Nat) (dy : Nat) (ad : Nat → Nat) (ea : Nat) (σ : Sg) (ch : Int32) : YXl (S := Unit) l g yX6_account cX6_account 3 ({ frames := 6, cells := 1, slots := 6, locals := 91 } : Room) [.ref x, .int ch] ([(x, .inr (6, [.ref (ad 0), .ref ag, .ref wo, .ref dy]))] ++ wsW g ad (-1) 1 0 ea σ) (fun r _ => r = acc σ ch ∧ ch ∈ bytN) (fun _ => ([(x, .inr (6, [.ref (ad 0), .ref ag, .ref wo, .ref dy]))] ++ wsW g ad (-1) 1 0 ea σ)) (fun _ => (0, 0)) ([(x, .inr (6, [.ref (ad 0), .ref ag, .ref wo, .ref dy]))] ++ wsW g ad (-1) 1 0 ea σ) (fun En => En = "java/lang/IllegalArgumentException" ∧ ch ∉ bytN) := by
  intro sz tt
  refine ofY RX6 rfl (by decide +kernel) (Nat.le_of_ble_eq_true rfl) (fun p e s m args below meth c hargs S hml hr hlk hex hsz htt hK hA hZ E ls hl => ?_)
  have hx := S.1
  have hb := S.2.1
  have hl : lv_has ls 3 [(0, .ref x), (1, .int ch)] := hl
  refine va_ldcS S.1 S.2.1 S.2.2.2 hZ.nr.1 dX6_account_0 ?_
  refine lv_iload_n hx hb dX6_account_2 rfl (lv_at hl 1 rfl) ?_
  refine w_reti (runZ_X (As := [.int ch]) (rest := []) (n := 1) S hml hK hZ E (Cut.none E hA) (c_ix2 l g ch  _ _) (gi_wsV ml_X6_184 im_J0_indexOf_0f7a4 sl_J0_indexOf_0f7a4 in_J0 co_J0_indexOf_0f7a4) ⟨rfl, by decide +kernel, by decide +kernel, by decide +kernel⟩ ⟨Nat.le_of_ble_eq_true rfl, Nat.le_of_ble_eq_true rfl⟩ rfl hl.1 rfl (Nat.le_of_ble_eq_true rfl) dX6_account_3 ⟨Nat.le_of_ble_eq_true rfl, Nat.le_of_ble_eq_true rfl⟩) (Cut.none E hA) E (fun r1 u1 H locs hp E => ?_)
  have E : Ev g _ s.heap H locs ([(x, .inr (6, [.ref (ad 0), .ref ag, .ref wo, .ref dy]))] ++ wsW g ad (-1) 1 0 ea σ) := Ev.nilr E
  rcases hp with ⟨rfl, hIX⟩ | ⟨rfl, hIX⟩ | ⟨rfl, hIX⟩ | ⟨rfl, hIX⟩ | ⟨rfl, hIX⟩ | ⟨rfl, hIX⟩ | ⟨rfl, hIX⟩ | ⟨rfl, hIX⟩ | ⟨rfl, hIX⟩ | ⟨rfl, hIX⟩
  · skip
    refine lv_istore_n (lv' := [(2, .int 0), (0, .ref x), (1, .int ch)]) hx hb dX6_account_6 rfl hl (by decide) rfl (fun ls hl => ?_)
    refine lv_iload_n hx hb dX6_account_7 rfl (lv_at hl 0 rfl) ?_
    refine lv_if_ge (tgt := 21) hx hb dX6_account_8 (by decide) (fun _ => ?_) (fun c_ => absurd (show 0 ≤ (0 : Int32) by decide) c_)
    refine lv_aload_n hx hb dX6_account_21 rfl (lv_at hl 1 rfl) ?_
    refine wg_X6_14 (v := .ref (ad 0)) S hK E 0 rfl rfl dX6_account_22 ?_
    refine wg_X6_194 (v := .ref (ad 4)) S hK E 1 rfl rfl dX6_account_25 ?_
    refine wg_X6_198 (v := .ref (ad 28)) S hK E 5 rfl rfl dX6_account_28 ?_
    refine lv_iload_n hx hb dX6_account_31 rfl (lv_at hl 0 rfl) ?_
    refine w_lld (v := (gl σ 28 (0 : Int32))) S hK E 29 1 rfl rfl (show vp_in 0 9 by unfold vp_in; decide) rfl dX6_account_32 ?_
    exact vx_ret (x_lret () S hr hlk hsz htt hK E dX6_account_33 ⟨by rw [hIX]; rfl, by rw [hIX]; decide⟩ rfl ⟨Nat.le_of_ble_eq_true rfl, Nat.le_of_ble_eq_true rfl⟩ ⟨Nat.le_of_ble_eq_true rfl, Nat.le_of_ble_eq_true rfl⟩)
  · skip
    refine lv_istore_n (lv' := [(2, .int 1), (0, .ref x), (1, .int ch)]) hx hb dX6_account_6 rfl hl (by decide) rfl (fun ls hl => ?_)
    refine lv_iload_n hx hb dX6_account_7 rfl (lv_at hl 0 rfl) ?_
    refine lv_if_ge (tgt := 21) hx hb dX6_account_8 (by decide) (fun _ => ?_) (fun c_ => absurd (show 0 ≤ (1 : Int32) by decide) c_)
    refine lv_aload_n hx hb dX6_account_21 rfl (lv_at hl 1 rfl) ?_
    refine wg_X6_14 (v := .ref (ad 0)) S hK E 0 rfl rfl dX6_account_22 ?_
    refine wg_X6_194 (v := .ref (ad 4)) S hK E 1 rfl rfl dX6_account_25 ?_
    refine wg_X6_198 (v := .ref (ad 28)) S hK E 5 rfl rfl dX6_account_28 ?_
    refine lv_iload_n hx hb dX6_account_31 rfl (lv_at hl 0 rfl) ?_
    refine w_lld (v := (gl σ 28 (1 : Int32))) S hK E 29 1 rfl rfl (show vp_in 1 9 by unfold vp_in; decide) rfl dX6_account_32 ?_
    exact vx_ret (x_lret () S hr hlk hsz htt hK E dX6_account_33 ⟨by rw [hIX]; rfl, by rw [hIX]; decide⟩ rfl ⟨Nat.le_of_ble_eq_true rfl, Nat.le_of_ble_eq_true rfl⟩ ⟨Nat.le_of_ble_eq_true rfl, Nat.le_of_ble_eq_true rfl⟩)
  · skip
    refine lv_istore_n (lv' := [(2, .int 2), (0, .ref x), (1, .int ch)]) hx hb dX6_account_6 rfl hl (by decide) rfl (fun ls hl => ?_)
    refine lv_iload_n hx hb dX6_account_7 rfl (lv_at hl 0 rfl) ?_
    refine lv_if_ge (tgt := 21) hx hb dX6_account_8 (by decide) (fun _ => ?_) (fun c_ => absurd (show 0 ≤ (2 : Int32) by decide) c_)
    refine lv_aload_n hx hb dX6_account_21 rfl (lv_at hl 1 rfl) ?_
    refine wg_X6_14 (v := .ref (ad 0)) S hK E 0 rfl rfl dX6_account_22 ?_
    refine wg_X6_194 (v := .ref (ad 4)) S hK E 1 rfl rfl dX6_account_25 ?_
    refine wg_X6_198 (v := .ref (ad 28)) S hK E 5 rfl rfl dX6_account_28 ?_
    refine lv_iload_n hx hb dX6_account_31 rfl (lv_at hl 0 rfl) ?_
    refine w_lld (v := (gl σ 28 (2 : Int32))) S hK E 29 1 rfl rfl (show vp_in 2 9 by unfold vp_in; decide) rfl dX6_account_32 ?_
    exact vx_ret (x_lret () S hr hlk hsz htt hK E dX6_account_33 ⟨by rw [hIX]; rfl, by rw [hIX]; decide⟩ rfl ⟨Nat.le_of_ble_eq_true rfl, Nat.le_of_ble_eq_true rfl⟩ ⟨Nat.le_of_ble_eq_true rfl, Nat.le_of_ble_eq_true rfl⟩)
  · skip
    refine lv_istore_n (lv' := [(2, .int 3), (0, .ref x), (1, .int ch)]) hx hb dX6_account_6 rfl hl (by decide) rfl (fun ls hl => ?_)
    refine lv_iload_n hx hb dX6_account_7 rfl (lv_at hl 0 rfl) ?_
    refine lv_if_ge (tgt := 21) hx hb dX6_account_8 (by decide) (fun _ => ?_) (fun c_ => absurd (show 0 ≤ (3 : Int32) by decide) c_)
    refine lv_aload_n hx hb dX6_account_21 rfl (lv_at hl 1 rfl) ?_
    refine wg_X6_14 (v := .ref (ad 0)) S hK E 0 rfl rfl dX6_account_22 ?_
    refine wg_X6_194 (v := .ref (ad 4)) S hK E 1 rfl rfl dX6_account_25 ?_
    refine wg_X6_198 (v := .ref (ad 28)) S hK E 5 rfl rfl dX6_account_28 ?_
    refine lv_iload_n hx hb dX6_account_31 rfl (lv_at hl 0 rfl) ?_
    refine w_lld (v := (gl σ 28 (3 : Int32))) S hK E 29 1 rfl rfl (show vp_in 3 9 by unfold vp_in; decide) rfl dX6_account_32 ?_
    exact vx_ret (x_lret () S hr hlk hsz htt hK E dX6_account_33 ⟨by rw [hIX]; rfl, by rw [hIX]; decide⟩ rfl ⟨Nat.le_of_ble_eq_true rfl, Nat.le_of_ble_eq_true rfl⟩ ⟨Nat.le_of_ble_eq_true rfl, Nat.le_of_ble_eq_true rfl⟩)
  · skip
    refine lv_istore_n (lv' := [(2, .int 4), (0, .ref x), (1, .int ch)]) hx hb dX6_account_6 rfl hl (by decide) rfl (fun ls hl => ?_)
    refine lv_iload_n hx hb dX6_account_7 rfl (lv_at hl 0 rfl) ?_
    refine lv_if_ge (tgt := 21) hx hb dX6_account_8 (by decide) (fun _ => ?_) (fun c_ => absurd (show 0 ≤ (4 : Int32) by decide) c_)
    refine lv_aload_n hx hb dX6_account_21 rfl (lv_at hl 1 rfl) ?_
    refine wg_X6_14 (v := .ref (ad 0)) S hK E 0 rfl rfl dX6_account_22 ?_
    refine wg_X6_194 (v := .ref (ad 4)) S hK E 1 rfl rfl dX6_account_25 ?_
    refine wg_X6_198 (v := .ref (ad 28)) S hK E 5 rfl rfl dX6_account_28 ?_
    refine lv_iload_n hx hb dX6_account_31 rfl (lv_at hl 0 rfl) ?_
    refine w_lld (v := (gl σ 28 (4 : Int32))) S hK E 29 1 rfl rfl (show vp_in 4 9 by unfold vp_in; decide) rfl dX6_account_32 ?_
    exact vx_ret (x_lret () S hr hlk hsz htt hK E dX6_account_33 ⟨by rw [hIX]; rfl, by rw [hIX]; decide⟩ rfl ⟨Nat.le_of_ble_eq_true rfl, Nat.le_of_ble_eq_true rfl⟩ ⟨Nat.le_of_ble_eq_true rfl, Nat.le_of_ble_eq_true rfl⟩)
  · skip
    refine lv_istore_n (lv' := [(2, .int 5), (0, .ref x), (1, .int ch)]) hx hb dX6_account_6 rfl hl (by decide) rfl (fun ls hl => ?_)
    refine lv_iload_n hx hb dX6_account_7 rfl (lv_at hl 0 rfl) ?_
    refine lv_if_ge (tgt := 21) hx hb dX6_account_8 (by decide) (fun _ => ?_) (fun c_ => absurd (show 0 ≤ (5 : Int32) by decide) c_)
    refine lv_aload_n hx hb dX6_account_21 rfl (lv_at hl 1 rfl) ?_
    refine wg_X6_14 (v := .ref (ad 0)) S hK E 0 rfl rfl dX6_account_22 ?_
    refine wg_X6_194 (v := .ref (ad 4)) S hK E 1 rfl rfl dX6_account_25 ?_
    refine wg_X6_198 (v := .ref (ad 28)) S hK E 5 rfl rfl dX6_account_28 ?_
    refine lv_iload_n hx hb dX6_account_31 rfl (lv_at hl 0 rfl) ?_
    refine w_lld (v := (gl σ 28 (5 : Int32))) S hK E 29 1 rfl rfl (show vp_in 5 9 by unfold vp_in; decide) rfl dX6_account_32 ?_
    exact vx_ret (x_lret () S hr hlk hsz htt hK E dX6_account_33 ⟨by rw [hIX]; rfl, by rw [hIX]; decide⟩ rfl ⟨Nat.le_of_ble_eq_true rfl, Nat.le_of_ble_eq_true rfl⟩ ⟨Nat.le_of_ble_eq_true rfl, Nat.le_of_ble_eq_true rfl⟩)
  · skip
    refine lv_istore_n (lv' := [(2, .int 6), (0, .ref x), (1, .int ch)]) hx hb dX6_account_6 rfl hl (by decide) rfl (fun ls hl => ?_)
    refine lv_iload_n hx hb dX6_account_7 rfl (lv_at hl 0 rfl) ?_
    refine lv_if_ge (tgt := 21) hx hb dX6_account_8 (by decide) (fun _ => ?_) (fun c_ => absurd (show 0 ≤ (6 : Int32) by decide) c_)
    refine lv_aload_n hx hb dX6_account_21 rfl (lv_at hl 1 rfl) ?_
    refine wg_X6_14 (v := .ref (ad 0)) S hK E 0 rfl rfl dX6_account_22 ?_
    refine wg_X6_194 (v := .ref (ad 4)) S hK E 1 rfl rfl dX6_account_25 ?_
    refine wg_X6_198 (v := .ref (ad 28)) S hK E 5 rfl rfl dX6_account_28 ?_
    refine lv_iload_n hx hb dX6_account_31 rfl (lv_at hl 0 rfl) ?_
    refine w_lld (v := (gl σ 28 (6 : Int32))) S hK E 29 1 rfl rfl (show vp_in 6 9 by unfold vp_in; decide) rfl dX6_account_32 ?_
    exact vx_ret (x_lret () S hr hlk hsz htt hK E dX6_account_33 ⟨by rw [hIX]; rfl, by rw [hIX]; decide⟩ rfl ⟨Nat.le_of_ble_eq_true rfl, Nat.le_of_ble_eq_true rfl⟩ ⟨Nat.le_of_ble_eq_true rfl, Nat.le_of_ble_eq_true rfl⟩)
  · skip
    refine lv_istore_n (lv' := [(2, .int 7), (0, .ref x), (1, .int ch)]) hx hb dX6_account_6 rfl hl (by decide) rfl (fun ls hl => ?_)
    refine lv_iload_n hx hb dX6_account_7 rfl (lv_at hl 0 rfl) ?_
    refine lv_if_ge (tgt := 21) hx hb dX6_account_8 (by decide) (fun _ => ?_) (fun c_ => absurd (show 0 ≤ (7 : Int32) by decide) c_)
    refine lv_aload_n hx hb dX6_account_21 rfl (lv_at hl 1 rfl) ?_
    refine wg_X6_14 (v := .ref (ad 0)) S hK E 0 rfl rfl dX6_account_22 ?_
    refine wg_X6_194 (v := .ref (ad 4)) S hK E 1 rfl rfl dX6_account_25 ?_
    refine wg_X6_198 (v := .ref (ad 28)) S hK E 5 rfl rfl dX6_account_28 ?_
    refine lv_iload_n hx hb dX6_account_31 rfl (lv_at hl 0 rfl) ?_
    refine w_lld (v := (gl σ 28 (7 : Int32))) S hK E 29 1 rfl rfl (show vp_in 7 9 by unfold vp_in; decide) rfl dX6_account_32 ?_
    exact vx_ret (x_lret () S hr hlk hsz htt hK E dX6_account_33 ⟨by rw [hIX]; rfl, by rw [hIX]; decide⟩ rfl ⟨Nat.le_of_ble_eq_true rfl, Nat.le_of_ble_eq_true rfl⟩ ⟨Nat.le_of_ble_eq_true rfl, Nat.le_of_ble_eq_true rfl⟩)
  · skip
    refine lv_istore_n (lv' := [(2, .int 8), (0, .ref x), (1, .int ch)]) hx hb dX6_account_6 rfl hl (by decide) rfl (fun ls hl => ?_)
    refine lv_iload_n hx hb dX6_account_7 rfl (lv_at hl 0 rfl) ?_
    refine lv_if_ge (tgt := 21) hx hb dX6_account_8 (by decide) (fun _ => ?_) (fun c_ => absurd (show 0 ≤ (8 : Int32) by decide) c_)
    refine lv_aload_n hx hb dX6_account_21 rfl (lv_at hl 1 rfl) ?_
    refine wg_X6_14 (v := .ref (ad 0)) S hK E 0 rfl rfl dX6_account_22 ?_
    refine wg_X6_194 (v := .ref (ad 4)) S hK E 1 rfl rfl dX6_account_25 ?_
    refine wg_X6_198 (v := .ref (ad 28)) S hK E 5 rfl rfl dX6_account_28 ?_
    refine lv_iload_n hx hb dX6_account_31 rfl (lv_at hl 0 rfl) ?_
    refine w_lld (v := (gl σ 28 (8 : Int32))) S hK E 29 1 rfl rfl (show vp_in 8 9 by unfold vp_in; decide) rfl dX6_account_32 ?_
    exact vx_ret (x_lret () S hr hlk hsz htt hK E dX6_account_33 ⟨by rw [hIX]; rfl, by rw [hIX]; decide⟩ rfl ⟨Nat.le_of_ble_eq_true rfl, Nat.le_of_ble_eq_true rfl⟩ ⟨Nat.le_of_ble_eq_true rfl, Nat.le_of_ble_eq_true rfl⟩)
  · skip
    refine lv_istore_n (lv' := [(2, .int (-1)), (0, .ref x), (1, .int ch)]) hx hb dX6_account_6 rfl hl (by decide) rfl (fun ls hl => ?_)
    refine lv_iload_n hx hb dX6_account_7 rfl (lv_at hl 0 rfl) ?_
    refine lv_if_ge (tgt := 21) hx hb dX6_account_8 (by decide) (fun c_ => absurd c_ (show ¬ (0 ≤ (-1 : Int32)) by decide)) (fun _ => ?_)
    exact y_throw (text := "there is no such account") (names := ["java/lang/RuntimeException", "java/lang/Exception"]) S hst hml hl hex hlk hK hZ E rfl ⟨rfl, hIX⟩ (by decide +kernel) (by decide +kernel) cl_X6_189 in__java_lang_IllegalArgumentException (by decide +kernel) at_iae dX6_account_11 dX6_account_14 dX6_account_15 dX6_account_17 dX6_account_20 (Nat.le_of_ble_eq_true rfl) (Nat.le_of_ble_eq_true rfl) ⟨Nat.le_of_ble_eq_true rfl, Nat.le_of_ble_eq_true rfl⟩ ⟨Nat.le_of_ble_eq_true rfl, Nat.le_of_ble_eq_true rfl⟩

/-- the checksum, from a cell on -/
def f_check (σ : Sg) : Nat → Nat → Int64 → Int64
  | 0, _, a => a
  | k + 1, i, a => f_check σ k (i + 1) ((31 * a + (gi σ 10 (nI i)).toInt64) + 7 * (gi σ 11 (nI i)).toInt64)
set_option maxHeartbeats 4000000 in
set_option maxRecDepth 100000 in
/-- checksum -/
theorem c_G_checksum (l : Launch) (g : Gm) (x ag wo dy : Nat) (ad : Nat → Nat) (ea : Nat) (σ : Sg) : MXl (S := Unit) l g yX6_checksum cX6_checksum 4 ({ frames := 0, cells := 0, slots := 0, locals := 0 } : Room) [.ref x] ([(x, .inr (6, [.ref (ad 0), .ref ag, .ref wo, .ref dy]))] ++ wsW g ad (-1) 1 0 ea σ) (fun r _ => r = f_check σ 16 0 0) (fun _ => ([(x, .inr (6, [.ref (ad 0), .ref ag, .ref wo, .ref dy]))] ++ wsW g ad (-1) 1 0 ea σ)) (fun _ => (0, 0)) := by
  intro sz tt
  refine ofX RX6 rfl (by decide +kernel) (Nat.le_of_ble_eq_true rfl) (fun p e s m args below meth c hargs S hml hr hlk hnm hsz htt hK hA hZ E ls hl => ?_)
  have hx := S.1
  have hb := S.2.1
  have hl : lv_has ls 4 [(0, .ref x)] := hl
  refine lv_lconst (v := 0) hx hb dX6_checksum_0 (by decide) ?_
  refine lv_lstore_n (lv' := [(1, .long 0), (0, .ref x)]) hx hb dX6_checksum_1 rfl hl (by decide) rfl (fun ls hl => ?_)
  refine lv_iconst (v := 0) hx hb dX6_checksum_2 (by decide) ?_
  refine lv_istore_n (lv' := [(3, .int 0), (1, .long 0), (0, .ref x)]) hx hb dX6_checksum_3 rfl hl (by decide) rfl (fun ls hl => ?_)
  have L : ∀ (k i : Nat), i + k = 16 → ∀ (a : Int64), f_check σ k i a = f_check σ 16 0 0 → ∀ ls : Array Slot, lv_has ls 4 [(3, .int (nI i)), (1, .long a), (0, .ref x)] → W p l e ({ frames := 0, cells := 0, slots := 0, locals := 0 } : Room) s m args below meth c s.heap [] 0 0 (MQ below (va_Ql (S := Unit) (fun r _ => r = f_check σ 16 0 0) (AtX g (va_A ([(x, .inr (6, [.ref (ad 0), .ref ag, .ref wo, .ref dy]))] ++ wsW g ad (-1) 1 0 ea σ) sz) (fun _ => ([(x, .inr (6, [.ref (ad 0), .ref ag, .ref wo, .ref dy]))] ++ wsW g ad (-1) 1 0 ea σ)) (fun _ => (0, 0)) sz tt) (va_A ([(x, .inr (6, [.ref (ad 0), .ref ag, .ref wo, .ref dy]))] ++ wsW g ad (-1) 1 0 ea σ) sz)) args s 0 0 (va_A ([(x, .inr (6, [.ref (ad 0), .ref ag, .ref wo, .ref dy]))] ++ wsW g ad (-1) 1 0 ea σ) sz)) (F0 m 4 ls []) := by
    intro k
    induction k with
    | zero =>
      intro i hi a ha ls hl
      obtain rfl : i = 16 := by omega
      refine lv_iload_n hx hb dX6_checksum_4 rfl (lv_at hl 0 rfl) ?_
      refine lv_bipush (v := 16) hx hb dX6_checksum_5 (by decide) ?_
      refine lv_icmp_ge (tgt := 54) hx hb dX6_checksum_7 (by decide) (fun _ => ?_) (fun c_ => absurd (show (16 : Int32) ≤ nI 16 by decide) c_)
      refine lv_lload_n hx hb dX6_checksum_54 rfl (lv_at hl 1 rfl) ?_
      exact x_lret () S hr hlk hsz htt hK E dX6_checksum_55 ha rfl ⟨Nat.le_of_ble_eq_true rfl, Nat.le_of_ble_eq_true rfl⟩ ⟨Nat.le_of_ble_eq_true rfl, Nat.le_of_ble_eq_true rfl⟩
    | succ k ih =>
      intro i hi a ha ls hl
      have hin : vp_in (nI i) 16 := vp_in_nI (by omega) (by decide)
      refine lv_iload_n hx hb dX6_checksum_4 rfl (lv_at hl 0 rfl) ?_
      refine lv_bipush (v := 16) hx hb dX6_checksum_5 (by decide) ?_
      refine lv_icmp_ge (tgt := 54) hx hb dX6_checksum_7 (by decide) (fun c_ => absurd c_ (g_no (a := i) (b := 16) rfl rfl (by omega) (by omega))) (fun _ => ?_)
      refine lv_ldc2 (v := 31) hx hb S.2.2.2 (S.2.2.1 _ cn_X6_201) dX6_checksum_10 ?_
      refine lv_lload_n hx hb dX6_checksum_13 rfl (lv_at hl 1 rfl) ?_
      refine k_lmul (v := 31 * a) hx hb rfl dX6_checksum_14 ?_
      refine lv_aload_n hx hb dX6_checksum_15 rfl (lv_at hl 2 rfl) ?_
      refine wg_X6_14 (v := .ref (ad 0)) S hK E 0 rfl rfl dX6_checksum_16 ?_
      refine wg_X6_40 (v := .ref (ad 1)) S hK E 1 rfl rfl dX6_checksum_19 ?_
      refine wg_X6_44 (v := .ref (ad 10)) S hK E 2 rfl rfl dX6_checksum_22 ?_
      refine lv_iload_n hx hb dX6_checksum_25 rfl (lv_at hl 0 rfl) ?_
      refine w_ild (v := gi σ 10 (nI i)) S hK E 11 0 rfl rfl hin rfl dX6_checksum_26 ?_
      refine lv_i2l (v := (gi σ 10 (nI i)).toInt64) hx hb dX6_checksum_27 rfl ?_
      refine k_ladd (v := 31 * a + (gi σ 10 (nI i)).toInt64) hx hb rfl dX6_checksum_28 ?_
      refine lv_ldc2 (v := 7) hx hb S.2.2.2 (S.2.2.1 _ cn_X6_203) dX6_checksum_29 ?_
      refine lv_aload_n hx hb dX6_checksum_32 rfl (lv_at hl 2 rfl) ?_
      refine wg_X6_14 (v := .ref (ad 0)) S hK E 0 rfl rfl dX6_checksum_33 ?_
      refine wg_X6_40 (v := .ref (ad 1)) S hK E 1 rfl rfl dX6_checksum_36 ?_
      refine wg_X6_134 (v := .ref (ad 11)) S hK E 2 rfl rfl dX6_checksum_39 ?_
      refine lv_iload_n hx hb dX6_checksum_42 rfl (lv_at hl 0 rfl) ?_
      refine w_ild (v := gi σ 11 (nI i)) S hK E 12 0 rfl rfl hin rfl dX6_checksum_43 ?_
      refine lv_i2l (v := (gi σ 11 (nI i)).toInt64) hx hb dX6_checksum_44 rfl ?_
      refine k_lmul (v := 7 * (gi σ 11 (nI i)).toInt64) hx hb rfl dX6_checksum_45 ?_
      refine k_ladd (v := (31 * a + (gi σ 10 (nI i)).toInt64) + 7 * (gi σ 11 (nI i)).toInt64) hx hb rfl dX6_checksum_46 ?_
      refine lv_lstore_n (lv' := [(1, .long ((31 * a + (gi σ 10 (nI i)).toInt64) + 7 * (gi σ 11 (nI i)).toInt64)), (3, .int (nI i)), (0, .ref x)]) hx hb dX6_checksum_47 rfl hl (by decide) rfl (fun ls hl => ?_)
      refine lv_iinc (v := nI (i + 1)) (lv' := [(3, .int (nI (i + 1))), (1, .long ((31 * a + (gi σ 10 (nI i)).toInt64) + 7 * (gi σ 11 (nI i)).toInt64)), (0, .ref x)]) hx hb dX6_checksum_48 hl (k := 1) rfl (nI_1 i) (by decide) rfl (fun ls hl => ?_)
      refine lv_goto (tgt := 4) hx hb dX6_checksum_51 (by decide) ?_
      exact ih (i + 1) (by omega) _ ha ls hl
  exact L 16 0 rfl 0 rfl ls hl
set_option maxHeartbeats 4000000 in
set_option maxRecDepth 100000 in
/-- Cells.sameWater, of one state -/
theorem c_swG (l : Launch) (g : Gm) (ad : Nat → Nat) (bd : Nat → Nat) (ea : Nat) (eb : Nat) (lo2 : Int32) (ke2 : Int32) (fo2 : Int32) (σ : Sg) : MXi (S := Unit) l g yX2_sameWater cX2_sameWater 3 .boolean ({ frames := 0, cells := 0, slots := 0, locals := 0 } : Room) [.ref (ad 1), .ref (bd 1)] (wsW g ad (-1) 1 0 ea σ ++ wsW g bd lo2 ke2 fo2 eb σ) (fun r _ => r = 1) (fun _ => (wsW g ad (-1) 1 0 ea σ ++ wsW g bd lo2 ke2 fo2 eb σ)) (fun _ => (0, 0)) := by
  intro sz tt
  refine ofX RX2 rfl (by decide +kernel) (Nat.le_of_ble_eq_true rfl) (fun p e s m args below meth c hargs S hml hr hlk hnm hsz htt hK hA hZ E ls hl => ?_)
  have hx := S.1
  have hb := S.2.1
  have hl : lv_has ls 3 [(0, .ref (ad 1)), (1, .ref (bd 1))] := hl
  refine lv_iconst (v := 0) hx hb dX2_sameWater_0 (by decide) ?_
  refine lv_istore_n (lv' := [(2, .int 0), (0, .ref (ad 1)), (1, .ref (bd 1))]) hx hb dX2_sameWater_1 rfl hl (by decide) rfl (fun ls hl => ?_)
  have L1 : ∀ (k1 i1 : Nat), i1 + k1 = 16 → ∀ (H : Heap) (locs : List Loc), Ev g (va_A (wsW g ad (-1) 1 0 ea σ ++ wsW g bd lo2 ke2 fo2 eb σ) sz) s.heap H locs (wsW g ad (-1) 1 0 ea σ ++ wsW g bd lo2 ke2 fo2 eb σ) → ∀ ls : Array Slot, lv_has ls 3 [(2, .int (nI i1)), (0, .ref (ad 1)), (1, .ref (bd 1))] → W p l e ({ frames := 0, cells := 0, slots := 0, locals := 0 } : Room) s m args below meth c H locs 0 0 (MQ below (va_Qi (S := Unit) (fun r _ => r = 1) (AtX g (va_A (wsW g ad (-1) 1 0 ea σ ++ wsW g bd lo2 ke2 fo2 eb σ) sz) (fun _ => (wsW g ad (-1) 1 0 ea σ ++ wsW g bd lo2 ke2 fo2 eb σ)) (fun _ => (0, 0)) sz tt) (va_A (wsW g ad (-1) 1 0 ea σ ++ wsW g bd lo2 ke2 fo2 eb σ) sz)) args s 0 0 (va_A (wsW g ad (-1) 1 0 ea σ ++ wsW g bd lo2 ke2 fo2 eb σ) sz)) (F0 m 2 ls []) := by
    intro k1
    induction k1 with
    | zero =>
      intro i1 hi1 H locs E ls hl
      obtain rfl : i1 = 16 := by omega
      have hl : lv_has ls 3 [(2, .int (nI 16)), (0, .ref (ad 1)), (1, .ref (bd 1))] := hl
      refine lv_iload_n hx hb dX2_sameWater_2 rfl (lv_at hl 0 rfl) ?_
      refine lv_bipush (v := 16) hx hb dX2_sameWater_3 (by decide) ?_
      refine lv_icmp_ge (tgt := 31) hx hb dX2_sameWater_5 (by decide) (fun _ => ?_) (fun c_ => absurd (show 16 ≤ (nI 16) by decide) c_)
      refine lv_iconst (v := 1) hx hb dX2_sameWater_31 (by decide) ?_
      exact x_zret () S hr hlk hsz htt hK E dX2_sameWater_32 rfl rfl rfl ⟨Nat.le_of_ble_eq_true rfl, Nat.le_of_ble_eq_true rfl⟩ ⟨Nat.le_of_ble_eq_true rfl, Nat.le_of_ble_eq_true rfl⟩
    | succ k1 ih1 =>
      intro i1 hi1 H locs E ls hl
      have hl : lv_has ls 3 [(2, .int (nI i1)), (0, .ref (ad 1)), (1, .ref (bd 1))] := hl
      refine lv_iload_n hx hb dX2_sameWater_2 rfl (lv_at hl 0 rfl) ?_
      refine lv_bipush (v := 16) hx hb dX2_sameWater_3 (by decide) ?_
      refine lv_icmp_ge (tgt := 31) hx hb dX2_sameWater_5 (by decide) (fun c_ => absurd c_ (g_no (a := i1) (b := 16) rfl rfl (by omega) (by omega))) (fun _ => ?_)
      refine lv_aload_n hx hb dX2_sameWater_8 rfl (lv_at hl 1 rfl) ?_
      refine wg_X2_18 (v := .ref (ad 10)) S hK E 1 rfl rfl dX2_sameWater_9 ?_
      refine lv_iload_n hx hb dX2_sameWater_12 rfl (lv_at hl 0 rfl) ?_
      refine w_ild (v := (gi σ 10 (nI i1))) S hK E 10 0 rfl rfl (vp_in_nI (n := i1) (by omega) (by decide)) rfl dX2_sameWater_13 ?_
      refine lv_aload_n hx hb dX2_sameWater_14 rfl (lv_at hl 2 rfl) ?_
      refine wg_X2_18 (v := .ref (bd 10)) S hK E 32 rfl rfl dX2_sameWater_15 ?_
      refine lv_iload_n hx hb dX2_sameWater_18 rfl (lv_at hl 0 rfl) ?_
      refine w_ild (v := (gi σ 10 (nI i1))) S hK E 41 0 rfl rfl (vp_in_nI (n := i1) (by omega) (by decide)) rfl dX2_sameWater_19 ?_
      refine lv_icmp_eq (tgt := 25) hx hb dX2_sameWater_20 (by decide) (fun _ => ?_) (fun c_ => absurd rfl c_)
      refine lv_iinc (v := (nI (i1 + 1))) (lv' := [(2, .int (nI (i1 + 1))), (0, .ref (ad 1)), (1, .ref (bd 1))]) hx hb dX2_sameWater_25 hl (k := 0) rfl (nI_1 i1) (by decide) rfl (fun ls hl => ?_)
      refine lv_goto (tgt := 2) hx hb dX2_sameWater_28 (by decide) ?_
      exact ih1 (i1 + 1) (by omega) _ _ E ls (lv_sub hl [0, 1, 2] rfl)
  exact L1 16 0 (by omega) _ _ E ls (lv_sub hl [0, 1, 2] rfl)

