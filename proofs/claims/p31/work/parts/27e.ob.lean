/-! AN OBJECT AS ONE PIECE: q says where its fixed cells are (x, wo, dy, ad, bd, eb), u its events' text and its diary (ea, mc, el, cap, dcs) -/
abbrev Fx : Type := Nat × Nat × Nat × (Nat → Nat) × (Nat → Nat) × Nat
abbrev SOB : Type := Nat × Int32 × Nat × Nat × va_W
/-- the object and its world -/
abbrev OX (g : Gm) (q : Fx) (ea : Nat) (σ : Sg) : va_W := ([(q.1, .inr (6, [.ref (q.2.2.2.1 0), .ref (q.2.2.2.2.1 0), .ref q.2.1, .ref q.2.2.1]))] ++ wsW g q.2.2.2.1 (-1) 1 0 ea σ)
/-- its diary, where it isn't empty -/
abbrev DN (g : Gm) (q : Fx) (u : SOB) : va_W := [(q.2.2.1, .inr (8, [.int u.2.1, .ref u.2.2.1, .int (nI u.2.2.2.2.length)])), (u.2.2.1, .inl (g.2.1 4, u.2.2.2.1, .inr (.inr (.inr (.inr (rfs u.2.2.2.2))))))]
/-- its diary, where it is empty -/
abbrev DF (g : Gm) (q : Fx) : va_W := [(q.2.2.1, .inr (8, [.int 0, .ref (g.2.2 0), .int 0]))]
def DL (g : Gm) (q : Fx) (u : SOB) : va_W := if u.2.2.2.2 = [] then DF g q else DN g q u ++ u.2.2.2.2
abbrev SW (g : Gm) (q : Fx) (u : SOB) (σ : Sg) : va_W := ((OX g q u.1 σ ++ DN g q u) ++ u.2.2.2.2)
abbrev SF (g : Gm) (q : Fx) (u : SOB) (σ : Sg) : va_W := (OX g q u.1 σ ++ DF g q)
/-- its other world, and the worlds without a well -/
abbrev AG (g : Gm) (q : Fx) : va_W := wsW g q.2.2.2.2.1 (-1) 0 0 q.2.2.2.2.2 σ0
abbrev WN (g : Gm) (q : Fx) : va_W := [(q.2.1, .inl (g.2.1 5, 6, .inr (.inr (.inr (.inr (fun _ => none))))))]
def OR (g : Gm) (q : Fx) : va_W := AG g q ++ WN g q
def OB (g : Gm) (q : Fx) (u : SOB) (σ : Sg) : va_W := OR g q ++ (OX g q u.1 σ ++ DL g q u)
theorem OB_ne {g : Gm} {q : Fx} {u : SOB} {σ : Sg} (h : u.2.2.2.2 ≠ []) : OB g q u σ = OR g q ++ SW g q u σ := by
  unfold OB DL
  rw [if_neg h, ← List.append_assoc (OX g q u.1 σ)]
theorem OB_e {g : Gm} {q : Fx} {u : SOB} {σ : Sg} (h : u.2.2.2.2 = []) : OB g q u σ = OR g q ++ SF g q u σ := by
  unfold OB DL
  rw [if_pos h]
theorem pm_ox {R D X : va_W} : ((R ++ D) ++ X).Perm (R ++ (X ++ D)) := by
  have h := perm_ix [R, X, D] (is := [0, 2, 1]) (js := [0, 1, 2]) (by decide)
  simpa [cat] using h
section OBS
variable {g : Gm} {A : Nat → Prop} {H0 H : Heap} {locs : List Loc} {q : Fx} {u : SOB} {σ : Sg} {Y : va_W}
theorem Ev.obN (h : u.2.2.2.2 ≠ []) (E : Ev g A H0 H locs (OB g q u σ)) : Ev g A H0 H locs (OR g q ++ SW g q u σ) := by rwa [OB_ne h] at E
theorem Ev.obE (h : u.2.2.2.2 = []) (E : Ev g A H0 H locs (OB g q u σ)) : Ev g A H0 H locs (OR g q ++ SF g q u σ) := by rwa [OB_e h] at E
theorem Ev.nOb (h : u.2.2.2.2 ≠ []) (E : Ev g A H0 H locs (OR g q ++ SW g q u σ)) : Ev g A H0 H locs (OB g q u σ) := by rwa [OB_ne h]
/-- the object and its world stand last -/
theorem Ev.obX (E : Ev g A H0 H locs (OB g q u σ)) : Ev g A H0 H locs ((OR g q ++ DL g q u) ++ OX g q u.1 σ) := E.perm pm_ox
theorem Ev.xOb (E : Ev g A H0 H locs ((OR g q ++ DL g q u) ++ OX g q u.1 σ)) : Ev g A H0 H locs (OB g q u σ) := E.perm pm_ox.symm
end OBS
/-- what holds of a diary -/
def OkU (u : SOB) : Prop := AllC u.2.2.2.2 ∧ u.2.2.2.2.length ≤ u.2.2.2.1 ∧ 10 ≤ u.2.2.2.1 ∧ u.2.2.2.1 ≤ 800 ∧ u.2.2.2.2.length ≤ 512
/-- the diary behind a call -/
def Nx (u : SOB) (v : CV) (u' : SOB) : Prop := OkU u' ∧ u'.2.2.2.2 ≠ [] ∧ (u.2.2.2.2.length < 512 → ∃ a : Nat, u'.2.2.2.2 = u.2.2.2.2 ++ [(a, cE v)])
theorem nx_of {u u' : SOB} {v : CV} (hu : OkU u) (h : ObN u.2.2.2.2.length u.2.2.2.2 (cE v) u') : Nx u v u' := by
  obtain ⟨h1, h2, h3, h4⟩ := h
  obtain ⟨a1, a2, a3, a4, a5⟩ := hu
  rcases h1 with ⟨hl, q, e⟩ | ⟨hl, e⟩
  · refine ⟨⟨?_, h2, h3, h4, ?_⟩, ?_, fun _ => ⟨q, e⟩⟩
    · rw [e]; exact AllC.add a1 rfl
    · rw [e, List.length_append]; show _ + 1 ≤ 512; omega
    · rw [e]; intro z; have := congrArg List.length z; rw [List.length_append] at this; exact absurd this (by show ¬ _ + 1 = 0; omega)
  · refine ⟨⟨by rw [e]; exact a1, h2, h3, h4, by rw [e]; exact a5⟩, ?_, fun z => absurd hl (by omega)⟩
    rw [e]
    intro z
    rw [z] at hl
    exact absurd hl (by show ¬ 512 ≤ 0; omega)
/-- the diary tells these calls -/
def Dg (u : SOB) (cvs : List CV) : Prop := u.2.2.2.2.map Prod.snd = cvs.map cE
theorem Dg.add {u u' : SOB} {v : CV} {cvs : List CV} (h : Dg u cvs) (hl : cvs.length < 512) (n : Nx u v u') : Dg u' (cvs ++ [v]) := by
  obtain ⟨a, e⟩ := n.2.2 (by rw [dc_len h]; exact hl)
  unfold Dg at h ⊢
  rw [e, List.map_append, List.map_append, h]
  rfl
theorem fo1_11 {lo b c d : Int32} {σ : Sg} {mm : Nat} (h : mm < 2 ^ 31) : fo1 lo (11, nI mm, b, c, d) σ = f_X5_follow_11 σ lo mm b c d := by
  show f_X5_follow_11 σ lo (nI mm).toNatClampNeg b c d = _
  rw [nI_clamp h]
theorem fo1_m {lo b c d : Int32} {σ : Sg} {mm : Nat} (h : mm < 2 ^ 31) : fo1 lo (11, nI mm, b, c, d) σ = f_months mm σ := (fo1_11 h).trans fol11
/-- a static method with a table of its own, that answers a long and lets nothing out -/
def HXl {S : Type} (l : Launch) (g : Gm) (y : MethodName) (cc : ByteArray) (maxL : Nat) (hh : List (Nat × Nat × Nat × Nat)) (rm : Room) (As : List Value) (ws : va_W) (post : Int64 → S → Prop) (wf : S → va_W) (kx : S → Nat × Nat) : Prop := ∀ sz tt : Nat, vx_Met l y (wsH y cc maxL (some .long) hh) rm (va_Pc As (PreX g ws sz tt)) (va_Ql post (AtX g (va_A ws sz) wf kx sz tt) (va_A ws sz)) (XX g ws [] (fun _ => False) sz) rm.cells rm.slots (va_A ws sz)
abbrev kxS (σ τ : Sg) : SOB → Nat × Nat := fun _ => (eg τ - eg σ + 3, 2 * ec τ - 2 * ec σ + 815)
