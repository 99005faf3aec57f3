theorem dL_closed_0 : decode cL_closed 0 = .ok (.lconst 0, 1) := by decide +kernel
theorem dL_closed_1 : decode cL_closed 1 = .ok (.lstore_n 2, 1) := by decide +kernel
theorem dL_closed_2 : decode cL_closed 2 = .ok (.lconst 0, 1) := by decide +kernel
theorem dL_closed_3 : decode cL_closed 3 = .ok (.lstore 4, 2) := by decide +kernel
theorem dL_closed_5 : decode cL_closed 5 = .ok (.lconst 0, 1) := by decide +kernel
theorem dL_closed_6 : decode cL_closed 6 = .ok (.lstore 6, 2) := by decide +kernel
theorem dL_closed_8 : decode cL_closed 8 = .ok (.iconst 0, 1) := by decide +kernel
theorem dL_closed_9 : decode cL_closed 9 = .ok (.istore 8, 2) := by decide +kernel
theorem dL_closed_11 : decode cL_closed 11 = .ok (.iload 8, 2) := by decide +kernel
theorem dL_closed_13 : decode cL_closed 13 = .ok (.bipush 16, 2) := by decide +kernel
theorem dL_closed_15 : decode cL_closed 15 = .ok (.if_icmp .ge 57, 3) := by decide +kernel
theorem dL_closed_18 : decode cL_closed 18 = .ok (.aload_n 0, 1) := by decide +kernel
theorem dL_closed_19 : decode cL_closed 19 = .ok (.iload 8, 2) := by decide +kernel
theorem dL_closed_21 : decode cL_closed 21 = .ok (.invokestatic 116, 3) := by decide +kernel
theorem dL_closed_24 : decode cL_closed 24 = .ok (.ifCond .lt 30, 3) := by decide +kernel
theorem dL_closed_27 : decode cL_closed 27 = .ok (.aload_n 0, 1) := by decide +kernel
theorem dL_closed_28 : decode cL_closed 28 = .ok (.iload 8, 2) := by decide +kernel
theorem dL_closed_30 : decode cL_closed 30 = .ok (.invokestatic 119, 3) := by decide +kernel
theorem dL_closed_33 : decode cL_closed 33 = .ok (.ifCond .lt 21, 3) := by decide +kernel
theorem dL_closed_36 : decode cL_closed 36 = .ok (.aload_n 0, 1) := by decide +kernel
theorem dL_closed_37 : decode cL_closed 37 = .ok (.iload 8, 2) := by decide +kernel
theorem dL_closed_39 : decode cL_closed 39 = .ok (.invokestatic 116, 3) := by decide +kernel
theorem dL_closed_42 : decode cL_closed 42 = .ok (.ifCond .ne 14, 3) := by decide +kernel
theorem dL_closed_45 : decode cL_closed 45 = .ok (.aload_n 0, 1) := by decide +kernel
theorem dL_closed_46 : decode cL_closed 46 = .ok (.iload 8, 2) := by decide +kernel
theorem dL_closed_48 : decode cL_closed 48 = .ok (.invokestatic 119, 3) := by decide +kernel
theorem dL_closed_51 : decode cL_closed 51 = .ok (.ifCond .eq 5, 3) := by decide +kernel
theorem dL_closed_54 : decode cL_closed 54 = .ok (.iconst 0, 1) := by decide +kernel
theorem dL_closed_55 : decode cL_closed 55 = .ok (.ireturn, 1) := by decide +kernel
theorem dL_closed_56 : decode cL_closed 56 = .ok (.lload_n 2, 1) := by decide +kernel
theorem dL_closed_57 : decode cL_closed 57 = .ok (.aload_n 0, 1) := by decide +kernel
theorem dL_closed_58 : decode cL_closed 58 = .ok (.iload 8, 2) := by decide +kernel
theorem dL_closed_60 : decode cL_closed 60 = .ok (.invokestatic 116, 3) := by decide +kernel
theorem dL_closed_63 : decode cL_closed 63 = .ok (.i2l, 1) := by decide +kernel
theorem dL_closed_64 : decode cL_closed 64 = .ok (.ladd, 1) := by decide +kernel
theorem dL_closed_65 : decode cL_closed 65 = .ok (.lstore_n 2, 1) := by decide +kernel
theorem dL_closed_66 : decode cL_closed 66 = .ok (.iinc 8 1, 3) := by decide +kernel
theorem dL_closed_69 : decode cL_closed 69 = .ok (.goto (-58), 3) := by decide +kernel
theorem dL_closed_72 : decode cL_closed 72 = .ok (.lload_n 2, 1) := by decide +kernel
theorem dL_closed_73 : decode cL_closed 73 = .ok (.aload_n 0, 1) := by decide +kernel
theorem dL_closed_74 : decode cL_closed 74 = .ok (.bipush 119, 2) := by decide +kernel
theorem dL_closed_76 : decode cL_closed 76 = .ok (.invokestatic 121, 3) := by decide +kernel
theorem dL_closed_79 : decode cL_closed 79 = .ok (.aload_n 0, 1) := by decide +kernel
theorem dL_closed_80 : decode cL_closed 80 = .ok (.bipush 114, 2) := by decide +kernel
theorem dL_closed_82 : decode cL_closed 82 = .ok (.invokestatic 121, 3) := by decide +kernel
theorem dL_closed_85 : decode cL_closed 85 = .ok (.ladd, 1) := by decide +kernel
theorem dL_closed_86 : decode cL_closed 86 = .ok (.aload_n 0, 1) := by decide +kernel
theorem dL_closed_87 : decode cL_closed 87 = .ok (.bipush 112, 2) := by decide +kernel
theorem dL_closed_89 : decode cL_closed 89 = .ok (.invokestatic 121, 3) := by decide +kernel
theorem dL_closed_92 : decode cL_closed 92 = .ok (.lsub, 1) := by decide +kernel
theorem dL_closed_93 : decode cL_closed 93 = .ok (.aload_n 0, 1) := by decide +kernel
theorem dL_closed_94 : decode cL_closed 94 = .ok (.bipush 105, 2) := by decide +kernel
theorem dL_closed_96 : decode cL_closed 96 = .ok (.invokestatic 121, 3) := by decide +kernel
theorem dL_closed_99 : decode cL_closed 99 = .ok (.ladd, 1) := by decide +kernel
theorem dL_closed_100 : decode cL_closed 100 = .ok (.aload_n 0, 1) := by decide +kernel
theorem dL_closed_101 : decode cL_closed 101 = .ok (.bipush 111, 2) := by decide +kernel
theorem dL_closed_103 : decode cL_closed 103 = .ok (.invokestatic 121, 3) := by decide +kernel
theorem dL_closed_106 : decode cL_closed 106 = .ok (.lsub, 1) := by decide +kernel
theorem dL_closed_107 : decode cL_closed 107 = .ok (.aload_n 0, 1) := by decide +kernel
theorem dL_closed_108 : decode cL_closed 108 = .ok (.bipush 115, 2) := by decide +kernel
theorem dL_closed_110 : decode cL_closed 110 = .ok (.invokestatic 121, 3) := by decide +kernel
theorem dL_closed_113 : decode cL_closed 113 = .ok (.lsub, 1) := by decide +kernel
theorem dL_closed_114 : decode cL_closed 114 = .ok (.aload_n 0, 1) := by decide +kernel
theorem dL_closed_115 : decode cL_closed 115 = .ok (.bipush 110, 2) := by decide +kernel
theorem dL_closed_117 : decode cL_closed 117 = .ok (.invokestatic 121, 3) := by decide +kernel
theorem dL_closed_120 : decode cL_closed 120 = .ok (.ladd, 1) := by decide +kernel
theorem dL_closed_121 : decode cL_closed 121 = .ok (.aload_n 0, 1) := by decide +kernel
theorem dL_closed_122 : decode cL_closed 122 = .ok (.bipush 109, 2) := by decide +kernel
theorem dL_closed_124 : decode cL_closed 124 = .ok (.invokestatic 121, 3) := by decide +kernel
theorem dL_closed_127 : decode cL_closed 127 = .ok (.lsub, 1) := by decide +kernel
theorem dL_closed_128 : decode cL_closed 128 = .ok (.lcmp, 1) := by decide +kernel
theorem dL_closed_129 : decode cL_closed 129 = .ok (.ifCond .eq 5, 3) := by decide +kernel
theorem dL_closed_132 : decode cL_closed 132 = .ok (.iconst 0, 1) := by decide +kernel
theorem dL_closed_133 : decode cL_closed 133 = .ok (.ireturn, 1) := by decide +kernel
theorem dL_closed_134 : decode cL_closed 134 = .ok (.bipush 6, 2) := by decide +kernel
theorem dL_closed_136 : decode cL_closed 136 = .ok (.newarray .boolean, 2) := by decide +kernel
theorem dL_closed_138 : decode cL_closed 138 = .ok (.astore 8, 2) := by decide +kernel
theorem dL_closed_140 : decode cL_closed 140 = .ok (.iconst 0, 1) := by decide +kernel
theorem dL_closed_141 : decode cL_closed 141 = .ok (.istore 9, 2) := by decide +kernel
theorem dL_closed_143 : decode cL_closed 143 = .ok (.iload 9, 2) := by decide +kernel
theorem dL_closed_145 : decode cL_closed 145 = .ok (.iload_n 1, 1) := by decide +kernel
theorem dL_closed_146 : decode cL_closed 146 = .ok (.if_icmp .ge 116, 3) := by decide +kernel
theorem dL_closed_149 : decode cL_closed 149 = .ok (.aload_n 0, 1) := by decide +kernel
theorem dL_closed_150 : decode cL_closed 150 = .ok (.iload 9, 2) := by decide +kernel
theorem dL_closed_152 : decode cL_closed 152 = .ok (.invokestatic 124, 3) := by decide +kernel
theorem dL_closed_155 : decode cL_closed 155 = .ok (.istore 10, 2) := by decide +kernel
theorem dL_closed_157 : decode cL_closed 157 = .ok (.iload 10, 2) := by decide +kernel
theorem dL_closed_159 : decode cL_closed 159 = .ok (.ifCond .lt 17, 3) := by decide +kernel
theorem dL_closed_162 : decode cL_closed 162 = .ok (.iload 10, 2) := by decide +kernel
theorem dL_closed_164 : decode cL_closed 164 = .ok (.iload_n 1, 1) := by decide +kernel
theorem dL_closed_165 : decode cL_closed 165 = .ok (.if_icmp .ge 11, 3) := by decide +kernel
theorem dL_closed_168 : decode cL_closed 168 = .ok (.aload 8, 2) := by decide +kernel
theorem dL_closed_170 : decode cL_closed 170 = .ok (.iload 10, 2) := by decide +kernel
theorem dL_closed_172 : decode cL_closed 172 = .ok (.baload, 1) := by decide +kernel
theorem dL_closed_173 : decode cL_closed 173 = .ok (.ifCond .eq 5, 3) := by decide +kernel
theorem dL_closed_176 : decode cL_closed 176 = .ok (.iconst 0, 1) := by decide +kernel
theorem dL_closed_177 : decode cL_closed 177 = .ok (.ireturn, 1) := by decide +kernel
theorem dL_closed_178 : decode cL_closed 178 = .ok (.aload 8, 2) := by decide +kernel
theorem dL_closed_180 : decode cL_closed 180 = .ok (.iload 10, 2) := by decide +kernel
theorem dL_closed_182 : decode cL_closed 182 = .ok (.iconst 1, 1) := by decide +kernel
theorem dL_closed_183 : decode cL_closed 183 = .ok (.bastore, 1) := by decide +kernel
theorem dL_closed_184 : decode cL_closed 184 = .ok (.lload 6, 2) := by decide +kernel
theorem dL_closed_186 : decode cL_closed 186 = .ok (.aload_n 0, 1) := by decide +kernel
theorem dL_closed_187 : decode cL_closed 187 = .ok (.iload 9, 2) := by decide +kernel
theorem dL_closed_189 : decode cL_closed 189 = .ok (.invokestatic 126, 3) := by decide +kernel
theorem dL_closed_192 : decode cL_closed 192 = .ok (.ladd, 1) := by decide +kernel
theorem dL_closed_193 : decode cL_closed 193 = .ok (.lstore 6, 2) := by decide +kernel
theorem dL_closed_195 : decode cL_closed 195 = .ok (.aload_n 0, 1) := by decide +kernel
theorem dL_closed_196 : decode cL_closed 196 = .ok (.iload 9, 2) := by decide +kernel
theorem dL_closed_198 : decode cL_closed 198 = .ok (.invokestatic 129, 3) := by decide +kernel
theorem dL_closed_201 : decode cL_closed 201 = .ok (.ifCond .lt 53, 3) := by decide +kernel
theorem dL_closed_204 : decode cL_closed 204 = .ok (.aload_n 0, 1) := by decide +kernel
theorem dL_closed_205 : decode cL_closed 205 = .ok (.iload 9, 2) := by decide +kernel
theorem dL_closed_207 : decode cL_closed 207 = .ok (.invokestatic 129, 3) := by decide +kernel
theorem dL_closed_210 : decode cL_closed 210 = .ok (.i2l, 1) := by decide +kernel
theorem dL_closed_211 : decode cL_closed 211 = .ok (.aload_n 0, 1) := by decide +kernel
theorem dL_closed_212 : decode cL_closed 212 = .ok (.iload 9, 2) := by decide +kernel
theorem dL_closed_214 : decode cL_closed 214 = .ok (.invokestatic 126, 3) := by decide +kernel
theorem dL_closed_217 : decode cL_closed 217 = .ok (.lcmp, 1) := by decide +kernel
theorem dL_closed_218 : decode cL_closed 218 = .ok (.ifCond .gt 36, 3) := by decide +kernel
theorem dL_closed_221 : decode cL_closed 221 = .ok (.aload_n 0, 1) := by decide +kernel
theorem dL_closed_222 : decode cL_closed 222 = .ok (.iload 9, 2) := by decide +kernel
theorem dL_closed_224 : decode cL_closed 224 = .ok (.invokestatic 131, 3) := by decide +kernel
theorem dL_closed_227 : decode cL_closed 227 = .ok (.ifCond .lt 27, 3) := by decide +kernel
theorem dL_closed_230 : decode cL_closed 230 = .ok (.aload_n 0, 1) := by decide +kernel
theorem dL_closed_231 : decode cL_closed 231 = .ok (.iload 9, 2) := by decide +kernel
theorem dL_closed_233 : decode cL_closed 233 = .ok (.invokestatic 131, 3) := by decide +kernel
theorem dL_closed_236 : decode cL_closed 236 = .ok (.sipush 999, 3) := by decide +kernel
theorem dL_closed_239 : decode cL_closed 239 = .ok (.if_icmp .gt 15, 3) := by decide +kernel
theorem dL_closed_242 : decode cL_closed 242 = .ok (.aload_n 0, 1) := by decide +kernel
theorem dL_closed_243 : decode cL_closed 243 = .ok (.aload_n 0, 1) := by decide +kernel
theorem dL_closed_244 : decode cL_closed 244 = .ok (.iconst 0, 1) := by decide +kernel
theorem dL_closed_245 : decode cL_closed 245 = .ok (.invokestatic 124, 3) := by decide +kernel
theorem dL_closed_248 : decode cL_closed 248 = .ok (.invokestatic 133, 3) := by decide +kernel
theorem dL_closed_251 : decode cL_closed 251 = .ok (.ifCond .eq 5, 3) := by decide +kernel
theorem dL_closed_254 : decode cL_closed 254 = .ok (.iconst 0, 1) := by decide +kernel
theorem dL_closed_255 : decode cL_closed 255 = .ok (.ireturn, 1) := by decide +kernel
theorem dL_closed_256 : decode cL_closed 256 = .ok (.iinc 9 1, 3) := by decide +kernel
theorem dL_closed_259 : decode cL_closed 259 = .ok (.goto (-116), 3) := by decide +kernel
theorem dL_closed_262 : decode cL_closed 262 = .ok (.lload 6, 2) := by decide +kernel
theorem dL_closed_264 : decode cL_closed 264 = .ok (.aload_n 0, 1) := by decide +kernel
theorem dL_closed_265 : decode cL_closed 265 = .ok (.bipush 112, 2) := by decide +kernel
theorem dL_closed_267 : decode cL_closed 267 = .ok (.invokestatic 121, 3) := by decide +kernel
theorem dL_closed_270 : decode cL_closed 270 = .ok (.lcmp, 1) := by decide +kernel
theorem dL_closed_271 : decode cL_closed 271 = .ok (.ifCond .ne 17, 3) := by decide +kernel
theorem dL_closed_274 : decode cL_closed 274 = .ok (.aload_n 0, 1) := by decide +kernel
theorem dL_closed_275 : decode cL_closed 275 = .ok (.iload_n 1, 1) := by decide +kernel
theorem dL_closed_276 : decode cL_closed 276 = .ok (.invokestatic 124, 3) := by decide +kernel
theorem dL_closed_279 : decode cL_closed 279 = .ok (.ldc 90, 2) := by decide +kernel
theorem dL_closed_281 : decode cL_closed 281 = .ok (.if_icmp .ne 7, 3) := by decide +kernel
theorem dL_closed_284 : decode cL_closed 284 = .ok (.iconst 1, 1) := by decide +kernel
theorem dL_closed_285 : decode cL_closed 285 = .ok (.goto 4, 3) := by decide +kernel
theorem dL_closed_288 : decode cL_closed 288 = .ok (.iconst 0, 1) := by decide +kernel
theorem dL_closed_289 : decode cL_closed 289 = .ok (.ireturn, 1) := by decide +kernel
set_option maxHeartbeats 4000000 in
set_option maxRecDepth 100000 in
/-- closed: the books close -/
theorem c_L_closed (l : Launch) (g : Gm) (hst : l.stackTraces = false) (q : Fx) (u : SOB) (σ : Sg) {C M : Nat} (hI : Inv C M σ) : MXi (S := Unit) l g yL_closed cL_closed 11 .boolean ({ frames := 12, cells := 10, slots := 100, locals := 189 } : Room) [.ref q.1, .int (nI (cnt σ))] (OB g q u σ) (fun r _ => r = 1) (fun _ => OB g q u σ) (fun _ => (2, 12)) := by
  intro sz tt
  refine ofX RL rfl (by decide +kernel) (Nat.le_of_ble_eq_true rfl) (fun p e s m args below meth c hargs S hml hr hlk hnm hsz htt hK hA hZ E ls hl => ?_)
  have hx := S.1
  have hb := S.2.1
  have h6 := hI.wf.le
  have hl : lv_has ls 11 [(0, .ref q.1), (1, .int (nI (cnt σ)))] := hl
  have L2 : ∀ (qb k i : Nat), i + k = cnt σ → ∀ (fs : Nat → Int32), (∀ p, i ≤ p → p < cnt σ → fs (oN σ p) = 0) → ∀ (H : Heap) (locs : List Loc), Ev g (va_A (OB g q u σ) sz) s.heap H locs ([(qb, .inl (g.2.1 2, 6, .inl fs))] ++ OB g q u σ) → ∀ ls : Array Slot, lv_has ls 11 [(9, .int (nI i)), (8, .ref qb), (6, .long (pl σ i)), (4, .long 0), (2, .long (th σ 16)), (0, .ref q.1), (1, .int (nI (cnt σ)))] → W p l e ({ frames := 12, cells := 10, slots := 100, locals := 189 } : Room) s m args below meth c H locs 1 6 (MQ below (va_Qi (S := Unit) (fun r _ => r = 1) (AtX g (va_A (OB g q u σ) sz) (fun _ => OB g q u σ) (fun _ => (2, 12)) sz tt) (va_A (OB g q u σ) sz)) args s 10 100 (va_A (OB g q u σ) sz)) (F0 m 143 ls []) := by
    intro qb k
    induction k with
    | zero =>
      intro i hi fs hfs H locs E ls hl
      have hie : i = cnt σ := by omega
      subst hie
      refine lv_iload hx hb dL_closed_143 (lv_at hl 0 rfl) ?_
      refine lv_iload_n hx hb dL_closed_145 rfl (lv_at hl 6 rfl) ?_
      refine lv_icmp_ge (tgt := 262) hx hb dL_closed_146 (by decide) (fun _ => ?_) (fun c_ => absurd (nI_le (Nat.le_refl _) (by omega)) c_)
      refine lv_lload hx hb dL_closed_262 (lv_at hl 2 rfl) ?_
      refine lv_aload_n hx hb dL_closed_264 rfl (lv_at hl 5 rfl) ?_
      refine lv_bipush (v := 112) hx hb dL_closed_265 (by decide) ?_
      refine y_retl (yrunH (As := [.ref q.1, .int 112]) (rest := [.long (pl σ (cnt σ))]) (n := 2) S hml hK (hZ.at E) (Cut.app E hA) (c_L_account l g hst q u σ 112 (by decide) _ _) ml_L_121 st_L_account in_L rfl co_L_account ⟨by decide +kernel, by decide +kernel, by decide +kernel⟩ ⟨Nat.le_of_ble_eq_true rfl, Nat.le_of_ble_eq_true rfl⟩ rfl hl.1 rfl (Nat.le_of_ble_eq_true rfl) dL_closed_267 ⟨Nat.le_of_ble_eq_true rfl, Nat.le_of_ble_eq_true rfl⟩) (Cut.app E hA) E (fun En ce q9 H locs hp E hce hcv hcl => (False.elim hp)) (fun r1 u1 H locs hp E => ?_)
      have hr := hp.trans acc_p
      subst hr
      have E : Ev g _ s.heap H locs ([(qb, .inl (g.2.1 2, 6, .inl fs))] ++ OB g q u σ) := E
      refine k_lcmp (v := (lg_cmp (pl σ (cnt σ)) (gl σ 28 2))) hx hb rfl dL_closed_270 ?_
      refine lv_if_ne (tgt := 288) hx hb dL_closed_271 (by decide) (fun c_ => absurd (cl_all hI) c_) (fun _ => ?_)
      refine lv_aload_n hx hb dL_closed_274 rfl (lv_at hl 5 rfl) ?_
      refine lv_iload_n hx hb dL_closed_275 rfl (lv_at hl 6 rfl) ?_
      refine y_reti (yrunH (As := [.ref q.1, .int (nI (cnt σ))]) (rest := []) (n := 2) S hml hK (hZ.at E) (Cut.app E hA) (c_L_byAgeN l g hst q u σ (nI (cnt σ)) hI.wf (fun z => absurd z.2 (by rw [hI.wf.n]; exact le_nlt (nI_le (Nat.le_refl _) (by omega)))) _ _) ml_L_124 st_L_byAge in_L rfl co_L_byAge ⟨by decide +kernel, by decide +kernel, by decide +kernel⟩ ⟨Nat.le_of_ble_eq_true rfl, Nat.le_of_ble_eq_true rfl⟩ rfl hl.1 rfl (Nat.le_of_ble_eq_true rfl) dL_closed_276 ⟨Nat.le_of_ble_eq_true rfl, Nat.le_of_ble_eq_true rfl⟩) (Cut.app E hA) E (fun En ce q9 H locs hp E hce hcv hcl => (False.elim hp)) (fun r2 u2 H locs hp E => ?_)
      have hr := hp
      subst hr
      have E : Ev g _ s.heap H locs ([(qb, .inl (g.2.1 2, 6, .inl fs))] ++ OB g q u σ) := E
      refine lv_ldc (v := (-3000000)) hx hb S.2.2.2 (S.2.2.1 _ cn_L_90) dL_closed_279 ?_
      refine lv_icmp_ne (tgt := 288) hx hb dL_closed_281 (by decide) (fun c_ => absurd (show (-3000000 : Int32) = (-3000000 : Int32) by decide) c_) (fun _ => ?_)
      refine lv_iconst (v := 1) hx hb dL_closed_284 (by decide) ?_
      refine lv_goto (tgt := 289) hx hb dL_closed_285 (by decide) ?_
      exact x_zret () S hr hlk hsz htt hK (Ev.drp (a := [(qb, .inl (g.2.1 2, 6, .inl fs))]) E) dL_closed_289 rfl rfl rfl ⟨Nat.le_of_ble_eq_true rfl, Nat.le_of_ble_eq_true rfl⟩ ⟨Nat.le_of_ble_eq_true rfl, Nat.le_of_ble_eq_true rfl⟩
    | succ k ih =>
      intro i hi fs hfs H locs E ls hl
      have hin : i < cnt σ := by omega
      refine lv_iload hx hb dL_closed_143 (lv_at hl 0 rfl) ?_
      refine lv_iload_n hx hb dL_closed_145 rfl (lv_at hl 6 rfl) ?_
      refine lv_icmp_ge (tgt := 262) hx hb dL_closed_146 (by decide) (fun c_ => absurd c_ (nI_ge (a := i) (b := cnt σ) hin (by omega))) (fun _ => ?_)
      refine lv_aload_n hx hb dL_closed_149 rfl (lv_at hl 5 rfl) ?_
      refine lv_iload hx hb dL_closed_150 (lv_at hl 0 rfl) ?_
      refine y_reti (yrunH (As := [.ref q.1, .int (nI i)]) (rest := []) (n := 2) S hml hK (hZ.at E) (Cut.app E hA) (c_L_byAge l g hst q u σ (nI i) hI.wf (ixN hI.wf (by omega)) _ _) ml_L_124 st_L_byAge in_L rfl co_L_byAge ⟨by decide +kernel, by decide +kernel, by decide +kernel⟩ ⟨Nat.le_of_ble_eq_true rfl, Nat.le_of_ble_eq_true rfl⟩ rfl hl.1 rfl (Nat.le_of_ble_eq_true rfl) dL_closed_152 ⟨Nat.le_of_ble_eq_true rfl, Nat.le_of_ble_eq_true rfl⟩) (Cut.app E hA) E (fun En ce q9 H locs hp E hce hcv hcl => (False.elim hp)) (fun r3 u3 H locs hp E => ?_)
      have hr := hp
      subst hr
      have E : Ev g _ s.heap H locs ([(qb, .inl (g.2.1 2, 6, .inl fs))] ++ OB g q u σ) := E
      refine lv_istore (lv' := [(10, .int (gi σ 27 (nI i))), (9, .int (nI i)), (8, .ref qb), (6, .long (pl σ i)), (4, .long 0), (2, .long (th σ 16)), (0, .ref q.1), (1, .int (nI (cnt σ)))]) hx hb dL_closed_155 hl (by decide) rfl (fun ls hl => ?_)
      refine lv_iload hx hb dL_closed_157 (lv_at hl 0 rfl) ?_
      refine lv_if_lt (tgt := 176) hx hb dL_closed_159 (by decide) (fun c_ => absurd c_ (cl_o0 hI hin)) (fun _ => ?_)
      refine lv_iload hx hb dL_closed_162 (lv_at hl 0 rfl) ?_
      refine lv_iload_n hx hb dL_closed_164 rfl (lv_at hl 7 rfl) ?_
      refine lv_icmp_ge (tgt := 176) hx hb dL_closed_165 (by decide) (fun c_ => absurd c_ (cl_on hI hin)) (fun _ => ?_)
      refine lv_aload hx hb dL_closed_168 (lv_at hl 2 rfl) ?_
      refine lv_iload hx hb dL_closed_170 (lv_at hl 0 rfl) ?_
      refine w_zld (v := 0) S hK E 0 2 rfl rfl (cl_o6 hI hin) (by rw [gi_oN (by omega)]; exact hfs i (Nat.le_refl _) (by omega)) dL_closed_172 ?_
      refine lv_if_eq (tgt := 178) hx hb dL_closed_173 (by decide) (fun _ => ?_) (fun c_ => absurd (show (0 : Int32) = 0 by decide) c_)
      refine lv_aload hx hb dL_closed_178 (lv_at hl 2 rfl) ?_
      refine lv_iload hx hb dL_closed_180 (lv_at hl 0 rfl) ?_
      refine lv_iconst (v := 1) hx hb dL_closed_182 (by decide) ?_
      refine w_zst (w' := ([(qb, .inl (g.2.1 2, 6, .inl (upd fs (gi σ 27 (nI i)).toNatClampNeg (vp_nar .boolean 1))))] ++ OB g q u σ)) S hK E 0 2 rfl rfl (cl_o6 hI hin) rfl dL_closed_183 (fun H locs E => ?_)
      refine lv_lload hx hb dL_closed_184 (lv_at hl 3 rfl) ?_
      refine lv_aload_n hx hb dL_closed_186 rfl (lv_at hl 6 rfl) ?_
      refine lv_iload hx hb dL_closed_187 (lv_at hl 1 rfl) ?_
      refine y_retl (yrunH (As := [.ref q.1, .int (nI i)]) (rest := [.long (pl σ i)]) (n := 2) S hml hK (hZ.at E) (Cut.app E hA) (c_L_pumped l g hst q u σ (nI i) hI.wf (ixN hI.wf (by omega)) _ _) ml_L_126 st_L_pumped in_L rfl co_L_pumped ⟨by decide +kernel, by decide +kernel, by decide +kernel⟩ ⟨Nat.le_of_ble_eq_true rfl, Nat.le_of_ble_eq_true rfl⟩ rfl hl.1 rfl (Nat.le_of_ble_eq_true rfl) dL_closed_189 ⟨Nat.le_of_ble_eq_true rfl, Nat.le_of_ble_eq_true rfl⟩) (Cut.app E hA) E (fun En ce q9 H locs hp E hce hcv hcl => (False.elim hp)) (fun r4 u4 H locs hp E => ?_)
      have hr := hp
      subst hr
      have E : Ev g _ s.heap H locs ([(qb, .inl (g.2.1 2, 6, .inl (upd fs (gi σ 27 (nI i)).toNatClampNeg (vp_nar .boolean 1))))] ++ OB g q u σ) := E
      refine k_ladd (v := (pl σ (i + 1))) hx hb rfl dL_closed_192 ?_
      refine lv_lstore (lv' := [(6, .long (pl σ (i + 1))), (10, .int (gi σ 27 (nI i))), (9, .int (nI i)), (8, .ref qb), (4, .long 0), (2, .long (th σ 16)), (0, .ref q.1), (1, .int (nI (cnt σ)))]) hx hb dL_closed_193 hl (by decide) rfl (fun ls hl => ?_)
      refine lv_aload_n hx hb dL_closed_195 rfl (lv_at hl 6 rfl) ?_
      refine lv_iload hx hb dL_closed_196 (lv_at hl 2 rfl) ?_
      refine y_reti (yrunH (As := [.ref q.1, .int (nI i)]) (rest := []) (n := 2) S hml hK (hZ.at E) (Cut.app E hA) (c_L_yearly l g hst q u σ (nI i) hI.wf (ixN hI.wf (by omega)) _ _) ml_L_129 st_L_yearly in_L rfl co_L_yearly ⟨by decide +kernel, by decide +kernel, by decide +kernel⟩ ⟨Nat.le_of_ble_eq_true rfl, Nat.le_of_ble_eq_true rfl⟩ rfl hl.1 rfl (Nat.le_of_ble_eq_true rfl) dL_closed_198 ⟨Nat.le_of_ble_eq_true rfl, Nat.le_of_ble_eq_true rfl⟩) (Cut.app E hA) E (fun En ce q9 H locs hp E hce hcv hcl => (False.elim hp)) (fun r5 u5 H locs hp E => ?_)
      have hr := hp
      subst hr
      have E : Ev g _ s.heap H locs ([(qb, .inl (g.2.1 2, 6, .inl (upd fs (gi σ 27 (nI i)).toNatClampNeg (vp_nar .boolean 1))))] ++ OB g q u σ) := E
      refine lv_if_lt (tgt := 254) hx hb dL_closed_201 (by decide) (fun c_ => absurd c_ (cl_y0 hI hin)) (fun _ => ?_)
      refine lv_aload_n hx hb dL_closed_204 rfl (lv_at hl 6 rfl) ?_
      refine lv_iload hx hb dL_closed_205 (lv_at hl 2 rfl) ?_
      refine y_reti (yrunH (As := [.ref q.1, .int (nI i)]) (rest := []) (n := 2) S hml hK (hZ.at E) (Cut.app E hA) (c_L_yearly l g hst q u σ (nI i) hI.wf (ixN hI.wf (by omega)) _ _) ml_L_129 st_L_yearly in_L rfl co_L_yearly ⟨by decide +kernel, by decide +kernel, by decide +kernel⟩ ⟨Nat.le_of_ble_eq_true rfl, Nat.le_of_ble_eq_true rfl⟩ rfl hl.1 rfl (Nat.le_of_ble_eq_true rfl) dL_closed_207 ⟨Nat.le_of_ble_eq_true rfl, Nat.le_of_ble_eq_true rfl⟩) (Cut.app E hA) E (fun En ce q9 H locs hp E hce hcv hcl => (False.elim hp)) (fun r6 u6 H locs hp E => ?_)
      have hr := hp
      subst hr
      have E : Ev g _ s.heap H locs ([(qb, .inl (g.2.1 2, 6, .inl (upd fs (gi σ 27 (nI i)).toNatClampNeg (vp_nar .boolean 1))))] ++ OB g q u σ) := E
      refine lv_i2l (v := (gi σ 22 (nI i)).toInt64) hx hb dL_closed_210 rfl ?_
      refine lv_aload_n hx hb dL_closed_211 rfl (lv_at hl 6 rfl) ?_
      refine lv_iload hx hb dL_closed_212 (lv_at hl 2 rfl) ?_
      refine y_retl (yrunH (As := [.ref q.1, .int (nI i)]) (rest := [.long ((gi σ 22 (nI i)).toInt64)]) (n := 2) S hml hK (hZ.at E) (Cut.app E hA) (c_L_pumped l g hst q u σ (nI i) hI.wf (ixN hI.wf (by omega)) _ _) ml_L_126 st_L_pumped in_L rfl co_L_pumped ⟨by decide +kernel, by decide +kernel, by decide +kernel⟩ ⟨Nat.le_of_ble_eq_true rfl, Nat.le_of_ble_eq_true rfl⟩ rfl hl.1 rfl (Nat.le_of_ble_eq_true rfl) dL_closed_214 ⟨Nat.le_of_ble_eq_true rfl, Nat.le_of_ble_eq_true rfl⟩) (Cut.app E hA) E (fun En ce q9 H locs hp E hce hcv hcl => (False.elim hp)) (fun r7 u7 H locs hp E => ?_)
      have hr := hp
      subst hr
      have E : Ev g _ s.heap H locs ([(qb, .inl (g.2.1 2, 6, .inl (upd fs (gi σ 27 (nI i)).toNatClampNeg (vp_nar .boolean 1))))] ++ OB g q u σ) := E
      refine k_lcmp (v := (lg_cmp ((gi σ 22 (nI i)).toInt64) (gl σ 23 (nI i)))) hx hb rfl dL_closed_217 ?_
      refine lv_if_gt (tgt := 254) hx hb dL_closed_218 (by decide) (fun c_ => absurd c_ (cl_yp hI hin)) (fun _ => ?_)
      refine lv_aload_n hx hb dL_closed_221 rfl (lv_at hl 6 rfl) ?_
      refine lv_iload hx hb dL_closed_222 (lv_at hl 2 rfl) ?_
      refine y_reti (yrunH (As := [.ref q.1, .int (nI i)]) (rest := []) (n := 2) S hml hK (hZ.at E) (Cut.app E hA) (c_L_amount l g hst q u σ (nI i) hI.wf (ixN hI.wf (by omega)) _ _) ml_L_131 st_L_amount in_L rfl co_L_amount ⟨by decide +kernel, by decide +kernel, by decide +kernel⟩ ⟨Nat.le_of_ble_eq_true rfl, Nat.le_of_ble_eq_true rfl⟩ rfl hl.1 rfl (Nat.le_of_ble_eq_true rfl) dL_closed_224 ⟨Nat.le_of_ble_eq_true rfl, Nat.le_of_ble_eq_true rfl⟩) (Cut.app E hA) E (fun En ce q9 H locs hp E hce hcv hcl => (False.elim hp)) (fun r8 u8 H locs hp E => ?_)
      have hr := hp
      subst hr
      have E : Ev g _ s.heap H locs ([(qb, .inl (g.2.1 2, 6, .inl (upd fs (gi σ 27 (nI i)).toNatClampNeg (vp_nar .boolean 1))))] ++ OB g q u σ) := E
      refine lv_if_lt (tgt := 254) hx hb dL_closed_227 (by decide) (fun c_ => absurd c_ (cl_a0 hI hin)) (fun _ => ?_)
      refine lv_aload_n hx hb dL_closed_230 rfl (lv_at hl 6 rfl) ?_
      refine lv_iload hx hb dL_closed_231 (lv_at hl 2 rfl) ?_
      refine y_reti (yrunH (As := [.ref q.1, .int (nI i)]) (rest := []) (n := 2) S hml hK (hZ.at E) (Cut.app E hA) (c_L_amount l g hst q u σ (nI i) hI.wf (ixN hI.wf (by omega)) _ _) ml_L_131 st_L_amount in_L rfl co_L_amount ⟨by decide +kernel, by decide +kernel, by decide +kernel⟩ ⟨Nat.le_of_ble_eq_true rfl, Nat.le_of_ble_eq_true rfl⟩ rfl hl.1 rfl (Nat.le_of_ble_eq_true rfl) dL_closed_233 ⟨Nat.le_of_ble_eq_true rfl, Nat.le_of_ble_eq_true rfl⟩) (Cut.app E hA) E (fun En ce q9 H locs hp E hce hcv hcl => (False.elim hp)) (fun r9 u9 H locs hp E => ?_)
      have hr := hp
      subst hr
      have E : Ev g _ s.heap H locs ([(qb, .inl (g.2.1 2, 6, .inl (upd fs (gi σ 27 (nI i)).toNatClampNeg (vp_nar .boolean 1))))] ++ OB g q u σ) := E
      refine lv_sipush (v := 999) hx hb dL_closed_236 (by decide) ?_
      refine lv_icmp_gt (tgt := 254) hx hb dL_closed_239 (by decide) (fun c_ => absurd c_ (cl_a9 hI hin)) (fun _ => ?_)
      refine lv_aload_n hx hb dL_closed_242 rfl (lv_at hl 6 rfl) ?_
      refine lv_aload_n hx hb dL_closed_243 rfl (lv_at hl 6 rfl) ?_
      refine lv_iconst (v := 0) hx hb dL_closed_244 (by decide) ?_
      refine y_reti (yrunH (As := [.ref q.1, .int 0]) (rest := [.ref q.1]) (n := 2) S hml hK (hZ.at E) (Cut.app E hA) (c_L_byAge l g hst q u σ 0 hI.wf (ixN (k := 0) hI.wf (by omega)) _ _) ml_L_124 st_L_byAge in_L rfl co_L_byAge ⟨by decide +kernel, by decide +kernel, by decide +kernel⟩ ⟨Nat.le_of_ble_eq_true rfl, Nat.le_of_ble_eq_true rfl⟩ rfl hl.1 rfl (Nat.le_of_ble_eq_true rfl) dL_closed_245 ⟨Nat.le_of_ble_eq_true rfl, Nat.le_of_ble_eq_true rfl⟩) (Cut.app E hA) E (fun En ce q9 H locs hp E hce hcv hcl => (False.elim hp)) (fun r10 u10 H locs hp E => ?_)
      have hr := hp
      subst hr
      have E : Ev g _ s.heap H locs ([(qb, .inl (g.2.1 2, 6, .inl (upd fs (gi σ 27 (nI i)).toNatClampNeg (vp_nar .boolean 1))))] ++ OB g q u σ) := E
      refine y_reti (yrunH (As := [.ref q.1, .int (gi σ 27 0)]) (rest := []) (n := 2) S hml hK (hZ.at E) (Cut.app E hA) (c_L_isShut l g hst q u σ (gi σ 27 0) hI.wf (cl_ox (i := 0) hI (by omega)) (cl_sh hI (by omega)) _ _) ml_L_133 st_L_isShut in_L rfl co_L_isShut ⟨by decide +kernel, by decide +kernel, by decide +kernel⟩ ⟨Nat.le_of_ble_eq_true rfl, Nat.le_of_ble_eq_true rfl⟩ rfl hl.1 rfl (Nat.le_of_ble_eq_true rfl) dL_closed_248 ⟨Nat.le_of_ble_eq_true rfl, Nat.le_of_ble_eq_true rfl⟩) (Cut.app E hA) E (fun En ce q9 H locs hp E hce hcv hcl => (False.elim hp)) (fun r11 u11 H locs hp E => ?_)
      have hr := hp
      subst hr
      have E : Ev g _ s.heap H locs ([(qb, .inl (g.2.1 2, 6, .inl (upd fs (gi σ 27 (nI i)).toNatClampNeg (vp_nar .boolean 1))))] ++ OB g q u σ) := E
      refine lv_if_eq (tgt := 256) hx hb dL_closed_251 (by decide) (fun _ => ?_) (fun c_ => absurd (show (0 : Int32) = 0 by decide) c_)
      refine lv_iinc (v := (nI (i + 1))) (lv' := [(9, .int (nI (i + 1))), (6, .long (pl σ (i + 1))), (10, .int (gi σ 27 (nI i))), (8, .ref qb), (4, .long 0), (2, .long (th σ 16)), (0, .ref q.1), (1, .int (nI (cnt σ)))]) hx hb dL_closed_256 hl (k := 2) rfl (nI_1 i) (by decide) rfl (fun ls hl => ?_)
      refine lv_goto (tgt := 143) hx hb dL_closed_259 (by decide) ?_
      exact ih (i + 1) (by omega) _ (fun p h1 h2 => cl_seen hI hin hfs h1 h2) _ _ E ls (lv_sub hl [0, 3, 1, 4, 5, 6, 7] rfl)
  have L1 : ∀ (k i : Nat), i + k = 16 → ∀ (H : Heap) (locs : List Loc), Ev g (va_A (OB g q u σ) sz) s.heap H locs (([] : va_W) ++ OB g q u σ) → ∀ ls : Array Slot, lv_has ls 11 [(8, .int (nI i)), (6, .long 0), (4, .long 0), (2, .long (th σ i)), (0, .ref q.1), (1, .int (nI (cnt σ)))] → W p l e ({ frames := 12, cells := 10, slots := 100, locals := 189 } : Room) s m args below meth c H locs 0 0 (MQ below (va_Qi (S := Unit) (fun r _ => r = 1) (AtX g (va_A (OB g q u σ) sz) (fun _ => OB g q u σ) (fun _ => (2, 12)) sz tt) (va_A (OB g q u σ) sz)) args s 10 100 (va_A (OB g q u σ) sz)) (F0 m 11 ls []) := by
    intro k
    induction k with
    | zero =>
      intro i hi H locs E ls hl
      obtain rfl : i = 16 := by omega
      refine lv_iload hx hb dL_closed_11 (lv_at hl 0 rfl) ?_
      refine lv_bipush (v := 16) hx hb dL_closed_13 (by decide) ?_
      refine lv_icmp_ge (tgt := 72) hx hb dL_closed_15 (by decide) (fun _ => ?_) (fun c_ => absurd (show 16 ≤ (nI 16) by decide) c_)
      refine lv_lload_n hx hb dL_closed_72 rfl (lv_at hl 3 rfl) ?_
      refine lv_aload_n hx hb dL_closed_73 rfl (lv_at hl 4 rfl) ?_
      refine lv_bipush (v := 119) hx hb dL_closed_74 (by decide) ?_
      refine y_retl (yrunH (As := [.ref q.1, .int 119]) (rest := [.long (th σ 16)]) (n := 2) S hml hK (hZ.at E) (Cut.app E hA) (c_L_account l g hst q u σ 119 (by decide) _ _) ml_L_121 st_L_account in_L rfl co_L_account ⟨by decide +kernel, by decide +kernel, by decide +kernel⟩ ⟨Nat.le_of_ble_eq_true rfl, Nat.le_of_ble_eq_true rfl⟩ rfl hl.1 rfl (Nat.le_of_ble_eq_true rfl) dL_closed_76 ⟨Nat.le_of_ble_eq_true rfl, Nat.le_of_ble_eq_true rfl⟩) (Cut.app E hA) E (fun En ce q9 H locs hp E hce hcv hcl => (False.elim hp)) (fun r12 u12 H locs hp E => ?_)
      have hr := hp.trans acc_w
      subst hr
      have E : Ev g _ s.heap H locs (([] : va_W) ++ OB g q u σ) := E
      refine lv_aload_n hx hb dL_closed_79 rfl (lv_at hl 4 rfl) ?_
      refine lv_bipush (v := 114) hx hb dL_closed_80 (by decide) ?_
      refine y_retl (yrunH (As := [.ref q.1, .int 114]) (rest := [.long (gl σ 28 0), .long (th σ 16)]) (n := 2) S hml hK (hZ.at E) (Cut.app E hA) (c_L_account l g hst q u σ 114 (by decide) _ _) ml_L_121 st_L_account in_L rfl co_L_account ⟨by decide +kernel, by decide +kernel, by decide +kernel⟩ ⟨Nat.le_of_ble_eq_true rfl, Nat.le_of_ble_eq_true rfl⟩ rfl hl.1 rfl (Nat.le_of_ble_eq_true rfl) dL_closed_82 ⟨Nat.le_of_ble_eq_true rfl, Nat.le_of_ble_eq_true rfl⟩) (Cut.app E hA) E (fun En ce q9 H locs hp E hce hcv hcl => (False.elim hp)) (fun r13 u13 H locs hp E => ?_)
      have hr := hp.trans acc_r
      subst hr
      have E : Ev g _ s.heap H locs (([] : va_W) ++ OB g q u σ) := E
      refine k_ladd (v := ((gl σ 28 0) + (gl σ 28 1))) hx hb rfl dL_closed_85 ?_
      refine lv_aload_n hx hb dL_closed_86 rfl (lv_at hl 4 rfl) ?_
      refine lv_bipush (v := 112) hx hb dL_closed_87 (by decide) ?_
      refine y_retl (yrunH (As := [.ref q.1, .int 112]) (rest := [.long ((gl σ 28 0) + (gl σ 28 1)), .long (th σ 16)]) (n := 2) S hml hK (hZ.at E) (Cut.app E hA) (c_L_account l g hst q u σ 112 (by decide) _ _) ml_L_121 st_L_account in_L rfl co_L_account ⟨by decide +kernel, by decide +kernel, by decide +kernel⟩ ⟨Nat.le_of_ble_eq_true rfl, Nat.le_of_ble_eq_true rfl⟩ rfl hl.1 rfl (Nat.le_of_ble_eq_true rfl) dL_closed_89 ⟨Nat.le_of_ble_eq_true rfl, Nat.le_of_ble_eq_true rfl⟩) (Cut.app E hA) E (fun En ce q9 H locs hp E hce hcv hcl => (False.elim hp)) (fun r14 u14 H locs hp E => ?_)
      have hr := hp.trans acc_p
      subst hr
      have E : Ev g _ s.heap H locs (([] : va_W) ++ OB g q u σ) := E
      refine k_lsub (v := (((gl σ 28 0) + (gl σ 28 1)) - (gl σ 28 2))) hx hb rfl dL_closed_92 ?_
      refine lv_aload_n hx hb dL_closed_93 rfl (lv_at hl 4 rfl) ?_
      refine lv_bipush (v := 105) hx hb dL_closed_94 (by decide) ?_
      refine y_retl (yrunH (As := [.ref q.1, .int 105]) (rest := [.long (((gl σ 28 0) + (gl σ 28 1)) - (gl σ 28 2)), .long (th σ 16)]) (n := 2) S hml hK (hZ.at E) (Cut.app E hA) (c_L_account l g hst q u σ 105 (by decide) _ _) ml_L_121 st_L_account in_L rfl co_L_account ⟨by decide +kernel, by decide +kernel, by decide +kernel⟩ ⟨Nat.le_of_ble_eq_true rfl, Nat.le_of_ble_eq_true rfl⟩ rfl hl.1 rfl (Nat.le_of_ble_eq_true rfl) dL_closed_96 ⟨Nat.le_of_ble_eq_true rfl, Nat.le_of_ble_eq_true rfl⟩) (Cut.app E hA) E (fun En ce q9 H locs hp E hce hcv hcl => (False.elim hp)) (fun r15 u15 H locs hp E => ?_)
      have hr := hp.trans acc_i
      subst hr
      have E : Ev g _ s.heap H locs (([] : va_W) ++ OB g q u σ) := E
      refine k_ladd (v := ((((gl σ 28 0) + (gl σ 28 1)) - (gl σ 28 2)) + (gl σ 28 3))) hx hb rfl dL_closed_99 ?_
      refine lv_aload_n hx hb dL_closed_100 rfl (lv_at hl 4 rfl) ?_
      refine lv_bipush (v := 111) hx hb dL_closed_101 (by decide) ?_
      refine y_retl (yrunH (As := [.ref q.1, .int 111]) (rest := [.long ((((gl σ 28 0) + (gl σ 28 1)) - (gl σ 28 2)) + (gl σ 28 3)), .long (th σ 16)]) (n := 2) S hml hK (hZ.at E) (Cut.app E hA) (c_L_account l g hst q u σ 111 (by decide) _ _) ml_L_121 st_L_account in_L rfl co_L_account ⟨by decide +kernel, by decide +kernel, by decide +kernel⟩ ⟨Nat.le_of_ble_eq_true rfl, Nat.le_of_ble_eq_true rfl⟩ rfl hl.1 rfl (Nat.le_of_ble_eq_true rfl) dL_closed_103 ⟨Nat.le_of_ble_eq_true rfl, Nat.le_of_ble_eq_true rfl⟩) (Cut.app E hA) E (fun En ce q9 H locs hp E hce hcv hcl => (False.elim hp)) (fun r16 u16 H locs hp E => ?_)
      have hr := hp.trans acc_o
      subst hr
      have E : Ev g _ s.heap H locs (([] : va_W) ++ OB g q u σ) := E
      refine k_lsub (v := (((((gl σ 28 0) + (gl σ 28 1)) - (gl σ 28 2)) + (gl σ 28 3)) - (gl σ 28 4))) hx hb rfl dL_closed_106 ?_
      refine lv_aload_n hx hb dL_closed_107 rfl (lv_at hl 4 rfl) ?_
      refine lv_bipush (v := 115) hx hb dL_closed_108 (by decide) ?_
      refine y_retl (yrunH (As := [.ref q.1, .int 115]) (rest := [.long (((((gl σ 28 0) + (gl σ 28 1)) - (gl σ 28 2)) + (gl σ 28 3)) - (gl σ 28 4)), .long (th σ 16)]) (n := 2) S hml hK (hZ.at E) (Cut.app E hA) (c_L_account l g hst q u σ 115 (by decide) _ _) ml_L_121 st_L_account in_L rfl co_L_account ⟨by decide +kernel, by decide +kernel, by decide +kernel⟩ ⟨Nat.le_of_ble_eq_true rfl, Nat.le_of_ble_eq_true rfl⟩ rfl hl.1 rfl (Nat.le_of_ble_eq_true rfl) dL_closed_110 ⟨Nat.le_of_ble_eq_true rfl, Nat.le_of_ble_eq_true rfl⟩) (Cut.app E hA) E (fun En ce q9 H locs hp E hce hcv hcl => (False.elim hp)) (fun r17 u17 H locs hp E => ?_)
      have hr := hp.trans acc_s
      subst hr
      have E : Ev g _ s.heap H locs (([] : va_W) ++ OB g q u σ) := E
      refine k_lsub (v := ((((((gl σ 28 0) + (gl σ 28 1)) - (gl σ 28 2)) + (gl σ 28 3)) - (gl σ 28 4)) - (gl σ 28 5))) hx hb rfl dL_closed_113 ?_
      refine lv_aload_n hx hb dL_closed_114 rfl (lv_at hl 4 rfl) ?_
      refine lv_bipush (v := 110) hx hb dL_closed_115 (by decide) ?_
      refine y_retl (yrunH (As := [.ref q.1, .int 110]) (rest := [.long ((((((gl σ 28 0) + (gl σ 28 1)) - (gl σ 28 2)) + (gl σ 28 3)) - (gl σ 28 4)) - (gl σ 28 5)), .long (th σ 16)]) (n := 2) S hml hK (hZ.at E) (Cut.app E hA) (c_L_account l g hst q u σ 110 (by decide) _ _) ml_L_121 st_L_account in_L rfl co_L_account ⟨by decide +kernel, by decide +kernel, by decide +kernel⟩ ⟨Nat.le_of_ble_eq_true rfl, Nat.le_of_ble_eq_true rfl⟩ rfl hl.1 rfl (Nat.le_of_ble_eq_true rfl) dL_closed_117 ⟨Nat.le_of_ble_eq_true rfl, Nat.le_of_ble_eq_true rfl⟩) (Cut.app E hA) E (fun En ce q9 H locs hp E hce hcv hcl => (False.elim hp)) (fun r18 u18 H locs hp E => ?_)
      have hr := hp.trans acc_n
      subst hr
      have E : Ev g _ s.heap H locs (([] : va_W) ++ OB g q u σ) := E
      refine k_ladd (v := (((((((gl σ 28 0) + (gl σ 28 1)) - (gl σ 28 2)) + (gl σ 28 3)) - (gl σ 28 4)) - (gl σ 28 5)) + (gl σ 28 6))) hx hb rfl dL_closed_120 ?_
      refine lv_aload_n hx hb dL_closed_121 rfl (lv_at hl 4 rfl) ?_
      refine lv_bipush (v := 109) hx hb dL_closed_122 (by decide) ?_
      refine y_retl (yrunH (As := [.ref q.1, .int 109]) (rest := [.long (((((((gl σ 28 0) + (gl σ 28 1)) - (gl σ 28 2)) + (gl σ 28 3)) - (gl σ 28 4)) - (gl σ 28 5)) + (gl σ 28 6)), .long (th σ 16)]) (n := 2) S hml hK (hZ.at E) (Cut.app E hA) (c_L_account l g hst q u σ 109 (by decide) _ _) ml_L_121 st_L_account in_L rfl co_L_account ⟨by decide +kernel, by decide +kernel, by decide +kernel⟩ ⟨Nat.le_of_ble_eq_true rfl, Nat.le_of_ble_eq_true rfl⟩ rfl hl.1 rfl (Nat.le_of_ble_eq_true rfl) dL_closed_124 ⟨Nat.le_of_ble_eq_true rfl, Nat.le_of_ble_eq_true rfl⟩) (Cut.app E hA) E (fun En ce q9 H locs hp E hce hcv hcl => (False.elim hp)) (fun r19 u19 H locs hp E => ?_)
      have hr := hp.trans acc_m
      subst hr
      have E : Ev g _ s.heap H locs (([] : va_W) ++ OB g q u σ) := E
      refine k_lsub (v := ((((((((gl σ 28 0) + (gl σ 28 1)) - (gl σ 28 2)) + (gl σ 28 3)) - (gl σ 28 4)) - (gl σ 28 5)) + (gl σ 28 6)) - (gl σ 28 7))) hx hb rfl dL_closed_127 ?_
      refine k_lcmp (v := (lg_cmp (th σ 16) ((((((((gl σ 28 0) + (gl σ 28 1)) - (gl σ 28 2)) + (gl σ 28 3)) - (gl σ 28 4)) - (gl σ 28 5)) + (gl σ 28 6)) - (gl σ 28 7)))) hx hb rfl dL_closed_128 ?_
      refine lv_if_eq (tgt := 134) hx hb dL_closed_129 (by decide) (fun _ => ?_) (fun c_ => absurd (cl_bal hI) c_)
      refine lv_bipush (v := 6) hx hb dL_closed_134 (by decide) ?_
      refine w_newa (atype := .boolean) (ty := .boolean) (a0 := (6, .inl (fun _ => 0))) (N' := 6) 2 S hK E hA ac_boolean rfl rfl (fun C h => by cases h) (fun cA => by first | rfl | (rw [vp_cell_i]; rfl)) (by decide) (by decide) (by decide) (Nat.le_of_ble_eq_true rfl) (Nat.le_of_ble_eq_true rfl) dL_closed_136 (fun q20 H E => ?_)
      have E : Ev g _ s.heap H _ (([] : va_W) ++ OB g q u σ ++ [(q20, .inl (g.2.1 2, 6, .inl (fun _ => 0)))]) := E
      have E : Ev g _ s.heap H _ ([(q20, .inl (g.2.1 2, 6, .inl (fun _ => 0)))] ++ OB g q u σ) := Ev.tl (a := ([] : va_W)) (t := OB g q u σ) (c := [(q20, .inl (g.2.1 2, 6, .inl (fun _ => 0)))]) E
      refine lv_astore (lv' := [(8, .ref q20), (6, .long 0), (4, .long 0), (2, .long (th σ 16)), (0, .ref q.1), (1, .int (nI (cnt σ)))]) hx hb dL_closed_138 hl (by decide) rfl (fun ls hl => ?_)
      refine lv_iconst (v := 0) hx hb dL_closed_140 (by decide) ?_
      refine lv_istore (lv' := [(9, .int 0), (8, .ref q20), (6, .long 0), (4, .long 0), (2, .long (th σ 16)), (0, .ref q.1), (1, .int (nI (cnt σ)))]) hx hb dL_closed_141 hl (by decide) rfl (fun ls hl => ?_)
      exact L2 q20 (cnt σ) 0 (by omega) (fun _ => 0) (fun _ _ _ => rfl) _ _ E ls (lv_sub hl [0, 1, 2, 3, 4, 5, 6] rfl)
    | succ k ih =>
      intro i hi H locs E ls hl
      have hik : i < 16 := by omega
      refine lv_iload hx hb dL_closed_11 (lv_at hl 0 rfl) ?_
      refine lv_bipush (v := 16) hx hb dL_closed_13 (by decide) ?_
      refine lv_icmp_ge (tgt := 72) hx hb dL_closed_15 (by decide) (fun c_ => absurd c_ (g_no (a := i) (b := 16) rfl rfl (by omega) (by omega))) (fun _ => ?_)
      refine lv_aload_n hx hb dL_closed_18 rfl (lv_at hl 4 rfl) ?_
      refine lv_iload hx hb dL_closed_19 (lv_at hl 0 rfl) ?_
      refine y_reti (yrunH (As := [.ref q.1, .int (nI i)]) (rest := []) (n := 2) S hml hK (hZ.at E) (Cut.app E hA) (c_L_water l g hst q u σ (nI i) (rgN (m := 15) (by omega) (by decide)) _ _) ml_L_116 st_L_water in_L rfl co_L_water ⟨by decide +kernel, by decide +kernel, by decide +kernel⟩ ⟨Nat.le_of_ble_eq_true rfl, Nat.le_of_ble_eq_true rfl⟩ rfl hl.1 rfl (Nat.le_of_ble_eq_true rfl) dL_closed_21 ⟨Nat.le_of_ble_eq_true rfl, Nat.le_of_ble_eq_true rfl⟩) (Cut.app E hA) E (fun En ce q9 H locs hp E hce hcv hcl => (False.elim hp)) (fun r21 u21 H locs hp E => ?_)
      have hr := hp
      subst hr
      have E : Ev g _ s.heap H locs (([] : va_W) ++ OB g q u σ) := E
      refine lv_if_lt (tgt := 54) hx hb dL_closed_24 (by decide) (fun c_ => absurd c_ (cl_w hI hik)) (fun _ => ?_)
      refine lv_aload_n hx hb dL_closed_27 rfl (lv_at hl 4 rfl) ?_
      refine lv_iload hx hb dL_closed_28 (lv_at hl 0 rfl) ?_
      refine y_reti (yrunH (As := [.ref q.1, .int (nI i)]) (rest := []) (n := 2) S hml hK (hZ.at E) (Cut.app E hA) (c_L_salt l g hst q u σ (nI i) (rgN (m := 15) (by omega) (by decide)) _ _) ml_L_119 st_L_salt in_L rfl co_L_salt ⟨by decide +kernel, by decide +kernel, by decide +kernel⟩ ⟨Nat.le_of_ble_eq_true rfl, Nat.le_of_ble_eq_true rfl⟩ rfl hl.1 rfl (Nat.le_of_ble_eq_true rfl) dL_closed_30 ⟨Nat.le_of_ble_eq_true rfl, Nat.le_of_ble_eq_true rfl⟩) (Cut.app E hA) E (fun En ce q9 H locs hp E hce hcv hcl => (False.elim hp)) (fun r22 u22 H locs hp E => ?_)
      have hr := hp
      subst hr
      have E : Ev g _ s.heap H locs (([] : va_W) ++ OB g q u σ) := E
      refine lv_if_lt (tgt := 54) hx hb dL_closed_33 (by decide) (fun c_ => absurd c_ (cl_s hI hik)) (fun _ => ?_)
      refine lv_aload_n hx hb dL_closed_36 rfl (lv_at hl 4 rfl) ?_
      refine lv_iload hx hb dL_closed_37 (lv_at hl 0 rfl) ?_
      refine y_reti (yrunH (As := [.ref q.1, .int (nI i)]) (rest := []) (n := 2) S hml hK (hZ.at E) (Cut.app E hA) (c_L_water l g hst q u σ (nI i) (rgN (m := 15) (by omega) (by decide)) _ _) ml_L_116 st_L_water in_L rfl co_L_water ⟨by decide +kernel, by decide +kernel, by decide +kernel⟩ ⟨Nat.le_of_ble_eq_true rfl, Nat.le_of_ble_eq_true rfl⟩ rfl hl.1 rfl (Nat.le_of_ble_eq_true rfl) dL_closed_39 ⟨Nat.le_of_ble_eq_true rfl, Nat.le_of_ble_eq_true rfl⟩) (Cut.app E hA) E (fun En ce q9 H locs hp E hce hcv hcl => (False.elim hp)) (fun r23 u23 H locs hp E => ?_)
      have hr := hp
      subst hr
      have E : Ev g _ s.heap H locs (([] : va_W) ++ OB g q u σ) := E
      refine lv_if_ne (tgt := 56) hx hb dL_closed_42 (by decide) (fun c24 => ?_) (fun c24 => ?_)
      · have c24 : ¬ ((gi σ 10 (nI i)) = 0) := c24
        refine lv_lload_n hx hb dL_closed_56 rfl (lv_at hl 3 rfl) ?_
        refine lv_aload_n hx hb dL_closed_57 rfl (lv_at hl 4 rfl) ?_
        refine lv_iload hx hb dL_closed_58 (lv_at hl 0 rfl) ?_
        refine y_reti (yrunH (As := [.ref q.1, .int (nI i)]) (rest := [.long (th σ i)]) (n := 2) S hml hK (hZ.at E) (Cut.app E hA) (c_L_water l g hst q u σ (nI i) (rgN (m := 15) (by omega) (by decide)) _ _) ml_L_116 st_L_water in_L rfl co_L_water ⟨by decide +kernel, by decide +kernel, by decide +kernel⟩ ⟨Nat.le_of_ble_eq_true rfl, Nat.le_of_ble_eq_true rfl⟩ rfl hl.1 rfl (Nat.le_of_ble_eq_true rfl) dL_closed_60 ⟨Nat.le_of_ble_eq_true rfl, Nat.le_of_ble_eq_true rfl⟩) (Cut.app E hA) E (fun En ce q9 H locs hp E hce hcv hcl => (False.elim hp)) (fun r25 u25 H locs hp E => ?_)
        have hr := hp
        subst hr
        have E : Ev g _ s.heap H locs (([] : va_W) ++ OB g q u σ) := E
        refine lv_i2l (v := (gi σ 10 (nI i)).toInt64) hx hb dL_closed_63 rfl ?_
        refine k_ladd (v := (th σ (i + 1))) hx hb rfl dL_closed_64 ?_
        refine lv_lstore_n (lv' := [(2, .long (th σ (i + 1))), (8, .int (nI i)), (6, .long 0), (4, .long 0), (0, .ref q.1), (1, .int (nI (cnt σ)))]) hx hb dL_closed_65 rfl hl (by decide) rfl (fun ls hl => ?_)
        refine lv_iinc (v := (nI (i + 1))) (lv' := [(8, .int (nI (i + 1))), (2, .long (th σ (i + 1))), (6, .long 0), (4, .long 0), (0, .ref q.1), (1, .int (nI (cnt σ)))]) hx hb dL_closed_66 hl (k := 1) rfl (nI_1 i) (by decide) rfl (fun ls hl => ?_)
        refine lv_goto (tgt := 11) hx hb dL_closed_69 (by decide) ?_
        exact ih (i + 1) (by omega) _ _ E ls (lv_sub hl [0, 2, 3, 1, 4, 5] rfl)
      · have c24 : (gi σ 10 (nI i)) = 0 := c24
        refine lv_aload_n hx hb dL_closed_45 rfl (lv_at hl 4 rfl) ?_
        refine lv_iload hx hb dL_closed_46 (lv_at hl 0 rfl) ?_
        refine y_reti (yrunH (As := [.ref q.1, .int (nI i)]) (rest := []) (n := 2) S hml hK (hZ.at E) (Cut.app E hA) (c_L_salt l g hst q u σ (nI i) (rgN (m := 15) (by omega) (by decide)) _ _) ml_L_119 st_L_salt in_L rfl co_L_salt ⟨by decide +kernel, by decide +kernel, by decide +kernel⟩ ⟨Nat.le_of_ble_eq_true rfl, Nat.le_of_ble_eq_true rfl⟩ rfl hl.1 rfl (Nat.le_of_ble_eq_true rfl) dL_closed_48 ⟨Nat.le_of_ble_eq_true rfl, Nat.le_of_ble_eq_true rfl⟩) (Cut.app E hA) E (fun En ce q9 H locs hp E hce hcv hcl => (False.elim hp)) (fun r26 u26 H locs hp E => ?_)
        have hr := hp
        subst hr
        have E : Ev g _ s.heap H locs (([] : va_W) ++ OB g q u σ) := E
        refine lv_if_eq (tgt := 56) hx hb dL_closed_51 (by decide) (fun _ => ?_) (fun c_ => absurd (cl_z hI hik c24) c_)
        refine lv_lload_n hx hb dL_closed_56 rfl (lv_at hl 3 rfl) ?_
        refine lv_aload_n hx hb dL_closed_57 rfl (lv_at hl 4 rfl) ?_
        refine lv_iload hx hb dL_closed_58 (lv_at hl 0 rfl) ?_
        refine y_reti (yrunH (As := [.ref q.1, .int (nI i)]) (rest := [.long (th σ i)]) (n := 2) S hml hK (hZ.at E) (Cut.app E hA) (c_L_water l g hst q u σ (nI i) (rgN (m := 15) (by omega) (by decide)) _ _) ml_L_116 st_L_water in_L rfl co_L_water ⟨by decide +kernel, by decide +kernel, by decide +kernel⟩ ⟨Nat.le_of_ble_eq_true rfl, Nat.le_of_ble_eq_true rfl⟩ rfl hl.1 rfl (Nat.le_of_ble_eq_true rfl) dL_closed_60 ⟨Nat.le_of_ble_eq_true rfl, Nat.le_of_ble_eq_true rfl⟩) (Cut.app E hA) E (fun En ce q9 H locs hp E hce hcv hcl => (False.elim hp)) (fun r27 u27 H locs hp E => ?_)
        have hr := hp
        subst hr
        have E : Ev g _ s.heap H locs (([] : va_W) ++ OB g q u σ) := E
        refine lv_i2l (v := (gi σ 10 (nI i)).toInt64) hx hb dL_closed_63 rfl ?_
        refine k_ladd (v := (th σ (i + 1))) hx hb rfl dL_closed_64 ?_
        refine lv_lstore_n (lv' := [(2, .long (th σ (i + 1))), (8, .int (nI i)), (6, .long 0), (4, .long 0), (0, .ref q.1), (1, .int (nI (cnt σ)))]) hx hb dL_closed_65 rfl hl (by decide) rfl (fun ls hl => ?_)
        refine lv_iinc (v := (nI (i + 1))) (lv' := [(8, .int (nI (i + 1))), (2, .long (th σ (i + 1))), (6, .long 0), (4, .long 0), (0, .ref q.1), (1, .int (nI (cnt σ)))]) hx hb dL_closed_66 hl (k := 1) rfl (nI_1 i) (by decide) rfl (fun ls hl => ?_)
        refine lv_goto (tgt := 11) hx hb dL_closed_69 (by decide) ?_
        exact ih (i + 1) (by omega) _ _ E ls (lv_sub hl [0, 2, 3, 1, 4, 5] rfl)
  refine lv_lconst (v := 0) hx hb dL_closed_0 (by decide) ?_
  refine lv_lstore_n (lv' := [(2, .long 0), (0, .ref q.1), (1, .int (nI (cnt σ)))]) hx hb dL_closed_1 rfl hl (by decide) rfl (fun ls hl => ?_)
  refine lv_lconst (v := 0) hx hb dL_closed_2 (by decide) ?_
  refine lv_lstore (lv' := [(4, .long 0), (2, .long 0), (0, .ref q.1), (1, .int (nI (cnt σ)))]) hx hb dL_closed_3 hl (by decide) rfl (fun ls hl => ?_)
  refine lv_lconst (v := 0) hx hb dL_closed_5 (by decide) ?_
  refine lv_lstore (lv' := [(6, .long 0), (4, .long 0), (2, .long 0), (0, .ref q.1), (1, .int (nI (cnt σ)))]) hx hb dL_closed_6 hl (by decide) rfl (fun ls hl => ?_)
  refine lv_iconst (v := 0) hx hb dL_closed_8 (by decide) ?_
  refine lv_istore (lv' := [(8, .int 0), (6, .long 0), (4, .long 0), (2, .long 0), (0, .ref q.1), (1, .int (nI (cnt σ)))]) hx hb dL_closed_9 hl (by decide) rfl (fun ls hl => ?_)
  exact L1 16 0 rfl _ _ E ls (lv_sub hl [0, 1, 2, 3, 4, 5] rfl)
