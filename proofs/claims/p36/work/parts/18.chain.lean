/-! What the walks use besides. -/
def sv_wk : List (Option sv_V) → List (Option sv_V) → Prop
  | [], _ => True
  | none :: a, _ :: b => sv_wk a b
  | some v :: a, w :: b => w = some v ∧ sv_wk a b
  | _ :: _, [] => False
theorem sv_wk_0 {b : List (Option sv_V)} : sv_wk [] b := trivial
theorem sv_wk_n {a b : List (Option sv_V)} {w : Option sv_V} (h : sv_wk a b) : sv_wk (none :: a) (w :: b) := h
theorem sv_wk_c {a b : List (Option sv_V)} {v : sv_V} (h : sv_wk a b) : sv_wk (some v :: a) (some v :: b) := ⟨rfl, h⟩
theorem sv_wk_at : ∀ {a b : List (Option sv_V)}, sv_wk a b → ∀ (i : Nat) (v : sv_V), a[i]? = some (some v) → b[i]? = some (some v)
  | [], _, _, i, v, h => by simp at h
  | none :: a, w :: b, hw, i, v, h => by
    match i, h with
    | i + 1, h => exact sv_wk_at (a := a) (b := b) hw i v h
  | some x :: a, w :: b, hw, i, v, h => by
    match i, h with
    | 0, h => cases h; rw [hw.1]; rfl
    | i + 1, h => exact sv_wk_at (a := a) (b := b) hw.2 i v h
theorem s_weak {X : sx_T} {E : sv_E} {Q : State → Prop} {u w pc : Nat} {ls ls2 : List (Option sv_V)} {st : List sv_V} {σ : sv_G} (h : sv_wk ls2 ls) (kk : SW X E Q u w pc ls2 st σ) : SW X E Q u w pc ls st σ := by
  obtain ⟨p, l, e, R, s, m, args, below, meth, c⟩ := X
  intro H locs lsA hR hL
  exact kk H locs lsA hR ⟨hL.1, hL.2.1, fun i v hi => hL.2.2 i v (sv_wk_at h i v hi)⟩
theorem kpI {α : Type} {F : α → sv_G → Prop} {P : α → Prop} {σ : sv_G} (h : ∀ r, P r → F r σ) : ∀ (r : α) (σ9 : sv_G), (σ9 = σ ∧ P r) → F r σ9 := fun r _ h9 => h9.1 ▸ h r h9.2
theorem kpV {F : sv_G → Prop} {P : Prop} {σ : sv_G} (h : P → F σ) : ∀ (σ9 : sv_G), (σ9 = σ ∧ P) → F σ9 := fun _ h9 => h9.1 ▸ h h9.2
theorem CT.mono {E : sv_E} {M : md_T} {k : Nat} {av : List sv_V} {σ : sv_G} {P P' : Option sv_V → sv_G → Prop} (h : ∀ o σ9, P o σ9 → P' o σ9) (c : CT E M k av σ P) : CT E M k av σ P' := by
  intro l hl
  intro p e ha hc hk s m args below hf happ hP hK
  obtain ⟨t, o, h1, h2, h3, h4⟩ := c l hl p e ha hc hk s m args below hf happ hP hK
  refine ⟨t, o, h1, h2, h3, ?_⟩
  obtain ⟨⟨⟨o9, σ9, g1, g2, g3⟩, g4⟩, g5⟩ := h4
  exact ⟨⟨⟨o9, σ9, g1, h o9 σ9 g2, g3⟩, g4⟩, g5⟩
