/-! The model's calls that change a grammar. -/
theorem ifc1 {p : Prop} [Decidable p] (h : (if p then (1 : Int) else 0) = 0) : ¬ p := fun q => by rw [if_pos q] at h; cases h
theorem ifc2 {p q : Prop} [Decidable p] [Decidable q] (h : (if p then (1 : Int) else if q then 2 else 0) = 0) : ¬ p ∧ ¬ q := by
  by_cases a : p
  · rw [if_pos a] at h; cases h
  · rw [if_neg a] at h
    refine ⟨a, fun b => ?_⟩
    rw [if_pos b] at h; cases h
theorem ifc3 {p q r : Prop} [Decidable p] [Decidable q] [Decidable r] (h : (if p then (1 : Int) else if q then 2 else if r then 3 else 0) = 0) : ¬ p ∧ ¬ q ∧ ¬ r := by
  by_cases a : p
  · rw [if_pos a] at h; cases h
  · rw [if_neg a] at h
    by_cases b : q
    · rw [if_pos b] at h; cases h
    · rw [if_neg b] at h
      refine ⟨a, b, fun c => ?_⟩
      rw [if_pos c] at h; cases h
theorem own_up {σ σ9 : sv_G} {b a : Nat} {g k i v : Int} (h : ¬ own b g k) (ho : own a g i) (e : σ9 = up σ a i v) : σ9 b k = σ b k := by
  rw [e, up_n]
  by_cases q : b = a
  · refine Or.inr fun z => h ?_
    rw [q, z]; exact ho
  · exact Or.inl q
theorem moP.gr {σ σ9 : sv_G} {S : st_T} {r g : Int} {o : op_T} {D : gd_T} (hS : StOK S) (hO : RO σ S) (h0 : o.1 = 0) (hr : r = o.2.1) (e : o.2.2 = uD S g D) (hM : RM σ9 g D) (h37 : σ9 195 37 = 0) (hf : ∀ b k, ¬ own b g k → (b ≠ 195 ∨ k ≠ 37) → σ9 b k = σ b k) : moP σ σ9 S r o := by
  have hn : ∀ b k, b < 196 ∨ 216 ≤ b → ¬ own b g k := fun b k q z => by have := own_b z; omega
  exact moP.yes h0 h37 hr (by rw [e]; exact hO.gr hS hM (fun b k q q2 => hf b k q (Or.inl q2)) fun k q => hf 195 k (hn _ _ (by decide)) (Or.inr q)) fun b k q => hf b k (hn _ _ (by omega)) (Or.inl (by omega))
theorem BM.fr2 {σ σ9 : sv_G} {g : Int} {D D' : gd_T} (h : BM σ g D) (e : gB D' = gB D ∧ gC D' 1 = gC D 1) (hf : ∀ b k, 199 ≤ b → b ≤ 206 → σ9 b k = σ b k) : BM σ9 g D' := ⟨by rw [hf _ _ (by decide) (by decide), e.2]; exact h.1, fun i k h1 h2 h3 => by rw [hf _ _ (by omega) (by omega), e.1]; rw [e.2] at h2; exact h.2 i k h1 h2 h3⟩
theorem SM.fr2 {σ σ9 : sv_G} {g : Int} {D D' : gd_T} (h : SM σ g D) (e : gS D' = gS D ∧ gC D' 3 = gC D 3 ∧ gC D' 4 = gC D 4) (hf : ∀ b k, 211 ≤ b → b ≤ 215 → σ9 b k = σ b k) : SM σ9 g D' := ⟨by rw [hf _ _ (by decide) (by decide), e.2.1]; exact h.1, by rw [hf _ _ (by decide) (by decide), e.2.2]; exact h.2.1, fun i k h1 h2 h3 => by rw [hf _ _ (by omega) (by omega), e.1]; rw [e.2.2] at h2; exact h.2.2 i k h1 h2 h3⟩
theorem FM.fr2 {σ σ9 : sv_G} {g : Int} {D D' : gd_T} (h : FM σ g D) (e : gP D' = gP D ∧ gC D' 2 = gC D 2) (hf : ∀ b k, 207 ≤ b → b ≤ 210 → σ9 b k = σ b k) : FM σ9 g D' := by
  obtain ⟨h1, h2, h3, h4⟩ := h
  obtain ⟨e1, e2⟩ := e
  refine ⟨by rw [hf _ _ (by decide) (by decide), e2]; exact h1, fun i a b => by rw [hf _ _ (by decide) (by decide), hf _ _ (by decide) (by decide), hf _ _ (by decide) (by decide), e1]; rw [e2] at b; exact h2 i a b, fun x k q => ?_, fun i j a b c => by rw [hf _ _ (by decide) (by decide), hf _ _ (by decide) (by decide), hf _ _ (by decide) (by decide), hf _ _ (by decide) (by decide)]; rw [e2] at c; exact h4 i j a b c⟩
  rw [e1] at q
  obtain ⟨i, a, b, c, d⟩ := h3 x k q
  exact ⟨i, a, by rw [e2]; exact b, by rw [hf _ _ (by decide) (by decide)]; exact c, by rw [hf _ _ (by decide) (by decide)]; exact d⟩
theorem AM.fr2 {σ σ9 : sv_G} {g : Int} {D D' : gd_T} (h : AM σ g D) (e : gF D' = gF D ∧ gC D' 0 = gC D 0) (hf : ∀ b k, 196 ≤ b → b ≤ 198 → σ9 b k = σ b k) : AM σ9 g D' := by
  obtain ⟨h1, h2, h3, h4⟩ := h
  obtain ⟨e1, e2⟩ := e
  refine ⟨by rw [hf _ _ (by decide) (by decide), e2]; exact h1, fun i a b => by rw [hf _ _ (by decide) (by decide), hf _ _ (by decide) (by decide), e1]; rw [e2] at b; exact h2 i a b, fun x q => ?_, fun i j a b c => by rw [hf _ _ (by decide) (by decide), hf _ _ (by decide) (by decide)]; rw [e2] at c; exact h4 i j a b c⟩
  rw [e1] at q
  obtain ⟨i, a, b, c⟩ := h3 x q
  exact ⟨i, a, by rw [e2]; exact b, by rw [hf _ _ (by decide) (by decide)]; exact c⟩
theorem AM.add {σ σ9 : sv_G} {g : Int} {D : gd_T} {x v : Int} (h : AM σ g D) (h0 : 0 ≤ gC D 0) (hx : gF D x = -1) (hv : 0 ≤ v ∧ v ≤ 199) (e1 : σ9 196 g = gC D 0 + 1) (e2 : σ9 197 (40 * g + gC D 0) = x) (e3 : σ9 198 (40 * g + gC D 0) = v) (hf : ∀ i, 0 ≤ i → i < gC D 0 → σ9 197 (40 * g + i) = σ 197 (40 * g + i) ∧ σ9 198 (40 * g + i) = σ 198 (40 * g + i)) : AM σ9 g (dAt D x v (gC D 0 + 1)) := by
  obtain ⟨a1, a2, a3, a4⟩ := h
  have nx : ∀ i, 0 ≤ i → i < gC D 0 → σ 197 (40 * g + i) ≠ x := fun i h1 h2 q => by have z := a2 i h1 h2; rw [q, hx] at z; omega
  refine ⟨e1, fun i h1 h2 => ?_, fun y q => ?_, fun i j h1 h2 h3 => ?_⟩
  · have h2' : i < gC D 0 + 1 := h2
    show ftS (gF D) x v (σ9 197 (40 * g + i)) = σ9 198 (40 * g + i) ∧ 0 ≤ σ9 198 (40 * g + i) ∧ σ9 198 (40 * g + i) ≤ 199
    by_cases c : i = gC D 0
    · rw [c, e2, e3]; exact ⟨if_pos rfl, hv⟩
    · have f := hf i h1 (by omega)
      rw [f.1, f.2]
      have a := a2 i h1 (by omega)
      exact ⟨(if_neg (nx i h1 (by omega))).trans a.1, a.2⟩
  · have q' : ftS (gF D) x v y ≠ -1 := q
    by_cases c : y = x
    · exact ⟨gC D 0, h0, show gC D 0 < gC D 0 + 1 by omega, by rw [c]; exact e2⟩
    · have q2 : gF D y ≠ -1 := fun z => q' ((if_neg c).trans z)
      obtain ⟨i, i1, i2, i3⟩ := a3 y q2
      exact ⟨i, i1, show i < gC D 0 + 1 by omega, by rw [(hf i i1 i2).1]; exact i3⟩
  · have h3' : j < gC D 0 + 1 := h3
    rw [(hf i h1 (by omega)).1]
    by_cases c : j = gC D 0
    · rw [c, e2]; exact nx i h1 (by omega)
    · rw [(hf j (by omega) (by omega)).1]; exact a4 i j h1 h2 (by omega)
theorem AM.inj {σ : sv_G} {g : Int} {D : gd_T} (h : AM σ g D) {i j : Int} (hi : 0 ≤ i ∧ i < gC D 0) (hj : 0 ≤ j ∧ j < gC D 0) (q : i ≠ j) : σ 197 (40 * g + i) ≠ σ 197 (40 * g + j) := by
  by_cases c : i < j
  · exact h.2.2.2 i j hi.1 c hj.2
  · exact fun z => h.2.2.2 j i hj.1 (by omega) hi.2 z.symm
theorem AM.set {σ σ9 : sv_G} {g : Int} {D : gd_T} {x v i0 : Int} (h : AM σ g D) (hi : 0 ≤ i0 ∧ i0 < gC D 0) (hx : σ 197 (40 * g + i0) = x) (hv : 0 ≤ v ∧ v ≤ 199) (e1 : σ9 196 g = gC D 0) (e2 : ∀ i, σ9 197 i = σ 197 i) (e3 : σ9 198 (40 * g + i0) = v) (hf : ∀ i, i ≠ i0 → σ9 198 (40 * g + i) = σ 198 (40 * g + i)) : AM σ9 g (dAt D x v (gC D 0)) := by
  refine ⟨e1, fun i h1 h2 => ?_, fun y q => ?_, fun i j h1 h2 h3 => by rw [e2, e2]; exact h.2.2.2 i j h1 h2 h3⟩
  · have h2' : i < gC D 0 := h2
    show ftS (gF D) x v (σ9 197 (40 * g + i)) = σ9 198 (40 * g + i) ∧ 0 ≤ σ9 198 (40 * g + i) ∧ σ9 198 (40 * g + i) ≤ 199
    rw [e2]
    by_cases c : i = i0
    · rw [c, hx, e3]; exact ⟨if_pos rfl, hv⟩
    · rw [hf i c]
      have a := h.2.1 i h1 h2'
      exact ⟨(if_neg (by rw [← hx]; exact h.inj ⟨h1, h2'⟩ hi c)).trans a.1, a.2⟩
  · have q' : ftS (gF D) x v y ≠ -1 := q
    by_cases c : y = x
    · exact ⟨i0, hi.1, hi.2, by rw [e2, c]; exact hx⟩
    · have q2 : gF D y ≠ -1 := fun z => q' ((if_neg c).trans z)
      obtain ⟨i, i1, i2, i3⟩ := h.2.2.1 y q2
      exact ⟨i, i1, i2, by rw [e2]; exact i3⟩
theorem AM.drop {σ σ9 : sv_G} {g : Int} {D : gd_T} {x i0 : Int} (h : AM σ g D) (hi : 0 ≤ i0 ∧ i0 < gC D 0) (hx : σ 197 (40 * g + i0) = x) (e1 : σ9 196 g = gC D 0 - 1) (e2 : σ9 197 (40 * g + i0) = σ 197 (40 * g + (gC D 0 - 1)) ∧ σ9 198 (40 * g + i0) = σ 198 (40 * g + (gC D 0 - 1))) (hf : ∀ i, i ≠ i0 → σ9 197 (40 * g + i) = σ 197 (40 * g + i) ∧ σ9 198 (40 * g + i) = σ 198 (40 * g + i)) : AM σ9 g (dAt D x (-1) (gC D 0 - 1)) := by
  have hm : ∀ i, 0 ≤ i → i < gC D 0 - 1 → ∃ j, (0 ≤ j ∧ j < gC D 0) ∧ j ≠ i0 ∧ ((i = i0 ∧ j = gC D 0 - 1) ∨ (i ≠ i0 ∧ j = i)) ∧ σ9 197 (40 * g + i) = σ 197 (40 * g + j) ∧ σ9 198 (40 * g + i) = σ 198 (40 * g + j) := fun i h1 h2 => by
    by_cases c : i = i0
    · exact ⟨gC D 0 - 1, by omega, by omega, Or.inl ⟨c, rfl⟩, by rw [c]; exact e2.1, by rw [c]; exact e2.2⟩
    · exact ⟨i, by omega, c, Or.inr ⟨c, rfl⟩, (hf i c).1, (hf i c).2⟩
  refine ⟨e1, fun i h1 h2 => ?_, fun y q => ?_, fun i j h1 h2 h3 => ?_⟩
  · show ftS (gF D) x (-1) (σ9 197 (40 * g + i)) = σ9 198 (40 * g + i) ∧ 0 ≤ σ9 198 (40 * g + i) ∧ σ9 198 (40 * g + i) ≤ 199
    obtain ⟨j, j1, j2, -, j3, j4⟩ := hm i h1 h2
    rw [j3, j4]
    have a := h.2.1 j j1.1 j1.2
    exact ⟨(if_neg (by rw [← hx]; exact h.inj j1 hi j2)).trans a.1, a.2⟩
  · have q' : ftS (gF D) x (-1) y ≠ -1 := q
    have c : y ≠ x := fun c => q' (if_pos c)
    obtain ⟨i, i1, i2, i3⟩ := h.2.2.1 y fun z => q' ((if_neg c).trans z)
    have ci : i ≠ i0 := fun z => c (by rw [← i3, z]; exact hx)
    by_cases w : i = gC D 0 - 1
    · exact ⟨i0, hi.1, show i0 < gC D 0 - 1 by omega, by rw [e2.1, ← w]; exact i3⟩
    · exact ⟨i, i1, show i < gC D 0 - 1 by omega, by rw [(hf i ci).1]; exact i3⟩
  · have h3' : j < gC D 0 - 1 := h3
    obtain ⟨i', a1, a2, a3, a4, -⟩ := hm i h1 (by omega)
    obtain ⟨j', b1, b2, b3, b4, -⟩ := hm j (by omega) h3
    rw [a4, b4]
    exact h.inj a1 b1 (by omega)
theorem FM.inj {σ : sv_G} {g : Int} {D : gd_T} (h : FM σ g D) {i j : Int} (hi : 0 ≤ i ∧ i < gC D 2) (hj : 0 ≤ j ∧ j < gC D 2) (q : i ≠ j) : ¬ (σ 208 (30 * g + i) = σ 208 (30 * g + j) ∧ σ 209 (30 * g + i) = σ 209 (30 * g + j)) := by
  by_cases c : i < j
  · exact h.2.2.2 i j hi.1 c hj.2
  · exact fun z => h.2.2.2 j i hj.1 (by omega) hi.2 ⟨z.1.symm, z.2.symm⟩
theorem FM.add {σ σ9 : sv_G} {g : Int} {D : gd_T} {w k v : Int} (h : FM σ g D) (h0 : 0 ≤ gC D 2) (hx : gP D w k = -1) (hv : 0 ≤ v ∧ v ≤ 199) (e1 : σ9 207 g = gC D 2 + 1) (e2 : σ9 208 (30 * g + gC D 2) = w) (e3 : σ9 209 (30 * g + gC D 2) = k) (e4 : σ9 210 (30 * g + gC D 2) = v) (hf : ∀ i, i ≠ gC D 2 → σ9 208 (30 * g + i) = σ 208 (30 * g + i) ∧ σ9 209 (30 * g + i) = σ 209 (30 * g + i) ∧ σ9 210 (30 * g + i) = σ 210 (30 * g + i)) : FM σ9 g (dFm D w k v (gC D 2 + 1)) := by
  obtain ⟨a1, a2, a3, a4⟩ := h
  have nx : ∀ i, 0 ≤ i → i < gC D 2 → ¬ (σ 208 (30 * g + i) = w ∧ σ 209 (30 * g + i) = k) := fun i h1 h2 q => by have z := a2 i h1 h2; rw [q.1, q.2, hx] at z; omega
  refine ⟨e1, fun i h1 h2 => ?_, fun y l q => ?_, fun i j h1 h2 h3 => ?_⟩
  · have h2' : i < gC D 2 + 1 := h2
    show fmS (gP D) w k v (σ9 208 (30 * g + i)) (σ9 209 (30 * g + i)) = σ9 210 (30 * g + i) ∧ 0 ≤ σ9 210 (30 * g + i) ∧ σ9 210 (30 * g + i) ≤ 199
    by_cases c : i = gC D 2
    · rw [c, e2, e3, e4]; exact ⟨if_pos ⟨rfl, rfl⟩, hv⟩
    · have f := hf i c
      rw [f.1, f.2.1, f.2.2]
      have a := a2 i h1 (by omega)
      exact ⟨(if_neg (nx i h1 (by omega))).trans a.1, a.2⟩
  · have q' : fmS (gP D) w k v y l ≠ -1 := q
    by_cases c : y = w ∧ l = k
    · exact ⟨gC D 2, h0, show gC D 2 < gC D 2 + 1 by omega, by rw [c.1]; exact e2, by rw [c.2]; exact e3⟩
    · have q2 : gP D y l ≠ -1 := fun z => q' ((if_neg c).trans z)
      obtain ⟨i, i1, i2, i3, i4⟩ := a3 y l q2
      have f := hf i (by omega)
      exact ⟨i, i1, show i < gC D 2 + 1 by omega, by rw [f.1]; exact i3, by rw [f.2.1]; exact i4⟩
  · have h3' : j < gC D 2 + 1 := h3
    have f := hf i (by omega)
    rw [f.1, f.2.1]
    by_cases c : j = gC D 2
    · rw [c, e2, e3]; exact nx i h1 (by omega)
    · have f2 := hf j c
      rw [f2.1, f2.2.1]; exact a4 i j h1 h2 (by omega)
theorem FM.set {σ σ9 : sv_G} {g : Int} {D : gd_T} {w k v i0 : Int} (h : FM σ g D) (hi : 0 ≤ i0 ∧ i0 < gC D 2) (hx : σ 208 (30 * g + i0) = w ∧ σ 209 (30 * g + i0) = k) (hv : 0 ≤ v ∧ v ≤ 199) (e1 : σ9 207 g = gC D 2) (e2 : σ9 208 (30 * g + i0) = w) (e3 : σ9 209 (30 * g + i0) = k) (e4 : σ9 210 (30 * g + i0) = v) (hf : ∀ i, i ≠ i0 → σ9 208 (30 * g + i) = σ 208 (30 * g + i) ∧ σ9 209 (30 * g + i) = σ 209 (30 * g + i) ∧ σ9 210 (30 * g + i) = σ 210 (30 * g + i)) : FM σ9 g (dFm D w k v (gC D 2)) := by
  have f2 : ∀ i, σ9 208 (30 * g + i) = σ 208 (30 * g + i) ∧ σ9 209 (30 * g + i) = σ 209 (30 * g + i) := fun i => by
    by_cases c : i = i0
    · rw [c, e2, e3]; exact ⟨hx.1.symm, hx.2.symm⟩
    · exact ⟨(hf i c).1, (hf i c).2.1⟩
  refine ⟨e1, fun i h1 h2 => ?_, fun y l q => ?_, fun i j h1 h2 h3 => by rw [(f2 i).1, (f2 i).2, (f2 j).1, (f2 j).2]; exact h.2.2.2 i j h1 h2 h3⟩
  · have h2' : i < gC D 2 := h2
    show fmS (gP D) w k v (σ9 208 (30 * g + i)) (σ9 209 (30 * g + i)) = σ9 210 (30 * g + i) ∧ 0 ≤ σ9 210 (30 * g + i) ∧ σ9 210 (30 * g + i) ≤ 199
    by_cases c : i = i0
    · rw [c, e2, e3, e4]; exact ⟨if_pos ⟨rfl, rfl⟩, hv⟩
    · rw [(f2 i).1, (f2 i).2, (hf i c).2.2]
      have a := h.2.1 i h1 h2'
      exact ⟨(if_neg (by rw [← hx.1, ← hx.2]; exact h.inj ⟨h1, h2'⟩ hi c)).trans a.1, a.2⟩
  · have q' : fmS (gP D) w k v y l ≠ -1 := q
    by_cases c : y = w ∧ l = k
    · exact ⟨i0, hi.1, hi.2, by rw [c.1]; exact e2, by rw [c.2]; exact e3⟩
    · have q2 : gP D y l ≠ -1 := fun z => q' ((if_neg c).trans z)
      obtain ⟨i, i1, i2, i3, i4⟩ := h.2.2.1 y l q2
      exact ⟨i, i1, i2, by rw [(f2 i).1]; exact i3, by rw [(f2 i).2]; exact i4⟩
theorem BM.set {σ σ9 : sv_G} {g : Int} {D : gd_T} {p : Int} {b : Nat → Int} (h : BM σ g D) (e1 : σ9 199 g = gC D 1) (e2 : ∀ k : Nat, k < 7 → σ9 (200 + k) (5 * g + p) = b k) (hf : ∀ (k : Nat) (i : Int), i ≠ p → k < 7 → σ9 (200 + k) (5 * g + i) = σ (200 + k) (5 * g + i)) : BM σ9 g (dBs D p b) := by
  refine ⟨e1, fun i k h1 h2 h3 => ?_⟩
  show _ = (if i = p then b else gB D i) k
  by_cases c : i = p
  · rw [if_pos c, c]; exact e2 k h3
  · rw [if_neg c, hf k i c h3]; exact h.2 i k h1 h2 h3
theorem BM.add {σ σ9 : sv_G} {g : Int} {D : gd_T} {b : Nat → Int} (h : BM σ g D) (e1 : σ9 199 g = gC D 1 + 1) (e2 : ∀ k : Nat, k < 7 → σ9 (200 + k) (5 * g + gC D 1) = b k) (hf : ∀ (k : Nat) (i : Int), i ≠ gC D 1 → k < 7 → σ9 (200 + k) (5 * g + i) = σ (200 + k) (5 * g + i)) : BM σ9 g (dBase D b) := by
  refine ⟨e1, fun i k h1 h2 h3 => ?_⟩
  have h2' : i < gC D 1 + 1 := h2
  show _ = (if i = gC D 1 then b else gB D i) k
  by_cases c : i = gC D 1
  · rw [if_pos c, c]; exact e2 k h3
  · rw [if_neg c, hf k i c h3]; exact h.2 i k h1 (by omega) h3
theorem SM.add {σ σ9 : sv_G} {g : Int} {D : gd_T} {x y z : Int} (h : SM σ g D) (e0 : σ9 211 g = gC D 3) (e1 : σ9 212 g = gC D 4 + 1) (e2 : σ9 213 (6 * g + gC D 4) = x ∧ σ9 214 (6 * g + gC D 4) = y ∧ σ9 215 (6 * g + gC D 4) = z) (hf : ∀ (k : Nat) (i : Int), i ≠ gC D 4 → k < 3 → σ9 (213 + k) (6 * g + i) = σ (213 + k) (6 * g + i)) : SM σ9 g (dSeam D x y z) := by
  refine ⟨e0, e1, fun i k h1 h2 h3 => ?_⟩
  have h2' : i < gC D 4 + 1 := h2
  show _ = (if i = gC D 4 then (if k = 0 then x else if k = 1 then y else z) else gS D k i)
  by_cases c : i = gC D 4
  · rw [if_pos c, c]
    have hk : k = 0 ∨ k = 1 ∨ k = 2 := by omega
    rcases hk with q | q | q
    · rw [q]; exact e2.1
    · rw [q]; exact e2.2.1
    · rw [q]; exact e2.2.2
  · rw [if_neg c, hf k i c h3]; exact h.2.2 i k h1 (by omega) h3

set_option maxRecDepth 100000 in
set_option maxHeartbeats 8000000 in
theorem kX8_atom {E : sv_E} {σ : sv_G} {S : st_T} (hS : StOK S) (hO : RO σ S) {x : Int} (hx : -2147483648 ≤ x ∧ x ≤ 2147483647) {y : Int} (hy : -2147483648 ≤ y ∧ y ≤ 2147483647) {z : Int} (hz : -2147483648 ≤ z ∧ z ≤ 2147483647) : CT E MX8_atom 2 [(vR 195), (vI x), (vI y), (vI z)] σ (PI fun r σ9 => moP σ σ9 S r (op_atom S x y z)) := by
  refine CT.of (RX8, cX8_atom, 9, (some .int), [], 2, 0, 0) rfl moX8_atom (Nat.le_of_ble_eq_true rfl) (ls0 := [some (vR 195), some (vI x), some (vI y), some (vI z), none, none, none, none, none]) rfl ?_
  intro X Q C hR
  refine s_iload_n C dX8_atom_0 rfl ?_
  refine s_cS1i C dX8_atom_1 lkX8_114 moX8_isGrammar mvX8_isGrammar (kX8_isGrammar (by omega)) (by decide) (Nat.le_of_ble_eq_true rfl) rfl (by decide) (kpI (fun r1 hp1 => ?_))
  have hb1 := (hp1).b
  have J19 : ∀ (a : Int), (yn a (0 ≤ x ∧ x ≤ 3 ∧ 0 ≤ z ∧ z ≤ 199)) → SW X E Q 0 0 19 [some (vR 195), some (vI x), some (vI y), some (vI z), none, none, none, none, none] [(vI a)] σ := by
    intro a j19_0
    have hbj19_0 := j19_0.b
    refine s_istore (ls2 := [some (vR 195), some (vI x), some (vI y), some (vI z), some (vI a), none, none, none, none]) C dX8_atom_19 (by decide) rfl ?_
    refine s_iload_n C dX8_atom_21 rfl ?_
    refine s_cS1i C dX8_atom_22 lkX8_121 moX8_isNumber mvX8_isNumber (kX8_isNumber (by omega)) (by decide) (Nat.le_of_ble_eq_true rfl) rfl (by decide) (kpI (fun r22 hp22 => ?_))
    have hb22 := (hp22).b
    refine s_istore (ls2 := [some (vR 195), some (vI x), some (vI y), some (vI z), some (vI a), some (vI r22), none, none, none]) C dX8_atom_25 (by decide) rfl ?_
    refine s_iload C dX8_atom_27 rfl ?_
    have J47 : ∀ (t : Int), ((t = -1 ∧ (¬ (0 ≤ x ∧ x ≤ 3 ∧ 0 ≤ z ∧ z ≤ 199) ∨ ¬ (0 ≤ y ∧ y ≤ 9999) ∨ gF (sD S x) y = -1)) ∨ ((0 ≤ x ∧ x ≤ 3 ∧ 0 ≤ z ∧ z ≤ 199) ∧ (0 ≤ y ∧ y ≤ 9999) ∧ (40 * x ≤ t ∧ t < 40 * x + gC (sD S x) 0) ∧ σ 197 t = y ∧ σ 198 t = gF (sD S x) y ∧ gF (sD S x) y ≠ -1)) → (-1 ≤ t ∧ t ≤ 160) → SW X E Q 0 0 47 [some (vR 195), some (vI x), some (vI y), some (vI z), some (vI a), some (vI r22), none, none, none] [(vI t)] σ := by
      intro t j47_0 j47_1
      refine s_istore (ls2 := [some (vR 195), some (vI x), some (vI y), some (vI z), some (vI a), some (vI r22), some (vI t), none, none]) C dX8_atom_47 (by decide) rfl ?_
      refine s_iload C dX8_atom_49 rfl ?_
      have J81 : ∀ (f : Int), (yn f ((0 ≤ x ∧ x ≤ 3 ∧ 0 ≤ z ∧ z ≤ 199) ∧ (0 ≤ y ∧ y ≤ 9999) ∧ gF (sD S x) y = -1 ∧ gC (sD S x) 0 = 40)) → SW X E Q 0 0 81 [some (vR 195), some (vI x), some (vI y), some (vI z), some (vI a), some (vI r22), some (vI t), none, none] [(vI f)] σ := by
        intro f j81_0
        have hbj81_0 := j81_0.b
        refine s_istore (ls2 := [some (vR 195), some (vI x), some (vI y), some (vI z), some (vI a), some (vI r22), some (vI t), some (vI f), none]) C dX8_atom_81 (by decide) rfl ?_
        refine s_aload_n C dX8_atom_83 rfl ?_
        refine s_iload C dX8_atom_84 rfl ?_
        have J112 : ∀ (c : Int), (c = (op_atom S x y z).1) → (0 ≤ c ∧ c ≤ 3) → SW X E Q 0 0 112 [some (vR 195), some (vI x), some (vI y), some (vI z), some (vI a), some (vI r22), some (vI t), some (vI f), none] [(vI c), (vR 195)] σ := by
          intro c j112_0 j112_1
          refine s_cV1i C dX8_atom_112 lkX8_128 moX8_can mvX8_can (kX8_can (by omega)) sh_195 ⟨_, _, rfl⟩ (by decide) (Nat.le_of_ble_eq_true rfl) rfl (by decide) (fun r112 σ_112 hp112 => ?_)
          have hb112 := (hp112.2).b
          have hO2 := hO.t (can_T2 hp112.1)
          refine s_if_ne (tgt := 120) C dX8_atom_115 (by decide) (by omega) (fun c115 => ?_) (fun c115 => ?_)
          · have y115 := (hp112.2).y (by omega)
            have h0 : (op_atom S x y z).1 = 0 := by rw [← j112_0]; exact y115
            have hk := ifc3 (show (if ¬ (0 ≤ x ∧ x ≤ 3 ∧ 0 ≤ z ∧ z ≤ 199) then 1 else if ¬ (0 ≤ y ∧ y ≤ 9999) then 2 else if gF (sD S x) y = -1 ∧ gC (sD S x) 0 = 40 then 3 else 0 : Int) = 0 from h0)
            have h37 : σ_112 195 37 = 0 := by rw [hp112.1, up_s]; exact y115
            have hD := hS.1 x (by omega) (by omega)
            have hM := hO2.1 x (by omega) (by omega)
            have hn0 := hD.2.2.1
            have hn1 := hD.2.2.2.1
            have hn2 := hD.2.2.2.2.1
            have hn3 := hD.2.2.2.2.2.1
            have hn4 := hD.2.2.2.2.2.2.1
            have e112 : σ_112 196 x = gC (sD S x) 0 := hM.1.1
            have f112 : ∀ b k, b ≠ 195 → σ_112 b k = σ b k := fun b k q => by rw [hp112.1, up_a q]
            refine s_iload C dX8_atom_120 rfl ?_
            refine s_iconst C dX8_atom_122 ?_
            refine s_icmp_ne (tgt := 172) C dX8_atom_123 (by decide) (by omega) (by omega) (fun c123 => ?_) (fun c123 => ?_)
            · refine s_aload_n C dX8_atom_172 rfl ?_
              refine s_getR (c := 8) C fl_8_16 dX8_atom_173 sh_195 rfl rf_195_2 ?_
              refine s_iload C dX8_atom_176 rfl ?_
              refine s_iald C dX8_atom_178 sh_198 (by omega) (fun g178 => ?_)
              refine s_topI (fun x8_179 ex8_179 => ?_)
              refine s_istore (ls2 := [some (vR 195), some (vI x), some (vI y), some (vI z), some (vI a), some (vI r22), some (vI t), some (vI f), some (vI x8_179)]) C dX8_atom_179 (by decide) rfl ?_
              refine s_aload_n C dX8_atom_181 rfl ?_
              refine s_getR (c := 8) C fl_8_16 dX8_atom_182 sh_195 rfl rf_195_2 ?_
              refine s_iload C dX8_atom_185 rfl ?_
              refine s_iload_n C dX8_atom_187 rfl ?_
              refine s_iast C dX8_atom_188 sh_198 (by omega) (by omega) ?_
              refine s_nameG (fun σ_188 hσ_188 => ?_)
              refine s_iload C dX8_atom_189 rfl ?_
              refine s_iret C hR dX8_atom_191 rfl ⟨_, rfl, ?_⟩ (by decide)
              have hgf : gF (sD S x) y ≠ -1 := by omega
              have e6 : 40 * x + (t - 40 * x) = t := by omega
              have g9 : ∀ b k, b ≠ 198 → σ_188 b k = σ_112 b k := fun b k q => by rw [hσ_188, up_a q]
              have hA : AM σ_188 x (dAt (sD S x) y z (gC (sD S x) 0)) := by
                refine hM.1.set (i0 := t - 40 * x) (by omega) (by rw [e6, f112 _ _ (by decide)]; omega) (by omega) (by rw [g9 _ _ (by decide)]; exact e112) (fun i => g9 _ _ (by decide)) (by rw [e6, hσ_188, up_s]) fun i q => by rw [hσ_188, up_k (by omega)]
              refine moP.gr (g := x) hS hO h0 (show _ = gF (sD S x) y by rw [ex8_179, f112 _ _ (by decide)]; omega) (show uD S x (dAt (sD S x) y z (if gF (sD S x) y = -1 then gC (sD S x) 0 + 1 else gC (sD S x) 0)) = uD S x (dAt (sD S x) y z (gC (sD S x) 0)) by rw [if_neg hgf]) ⟨hA, hM.2.1.fr2 ⟨rfl, rfl⟩ fun b k a _ => g9 b k (by omega), hM.2.2.1.fr2 ⟨rfl, rfl⟩ fun b k a _ => g9 b k (by omega), hM.2.2.2.fr2 ⟨rfl, rfl, rfl⟩ fun b k a _ => g9 b k (by omega)⟩ (by rw [hσ_188, up_a (by decide)]; exact h37) (fun b k q1 q2 => by rw [own_up (g := x) q1 (by unfold own; omega) hσ_188, hp112.1, up_n q2])
            · refine s_aload_n C dX8_atom_126 rfl ?_
              refine s_getR (c := 8) C fl_8_13 dX8_atom_127 sh_195 rfl rf_195_1 ?_
              refine s_bipush C dX8_atom_130 (by decide) ?_
              refine s_iload_n C dX8_atom_132 rfl ?_
              refine s_imul C dX8_atom_133 ?_
              refine s_aload_n C dX8_atom_134 rfl ?_
              refine s_getR (c := 8) C fl_8_7 dX8_atom_135 sh_195 rfl rf_195_0 ?_
              refine s_iload_n C dX8_atom_138 rfl ?_
              refine s_iald C dX8_atom_139 sh_196 (by omega) (fun g139 => ?_)
              refine s_iadd C dX8_atom_140 ?_
              refine s_iload_n C dX8_atom_141 rfl ?_
              refine s_iast C dX8_atom_142 sh_197 (by omega) (by omega) ?_
              refine s_nameG (fun σ_142 hσ_142 => ?_)
              have e142 : σ_142 196 x = gC (sD S x) 0 := by rw [hσ_142, up_a (by decide)]; exact e112
              refine s_aload_n C dX8_atom_143 rfl ?_
              refine s_getR (c := 8) C fl_8_16 dX8_atom_144 sh_195 rfl rf_195_2 ?_
              refine s_bipush C dX8_atom_147 (by decide) ?_
              refine s_iload_n C dX8_atom_149 rfl ?_
              refine s_imul C dX8_atom_150 ?_
              refine s_aload_n C dX8_atom_151 rfl ?_
              refine s_getR (c := 8) C fl_8_7 dX8_atom_152 sh_195 rfl rf_195_0 ?_
              refine s_iload_n C dX8_atom_155 rfl ?_
              refine s_iald C dX8_atom_156 sh_196 (by omega) (fun g156 => ?_)
              refine s_iadd C dX8_atom_157 ?_
              refine s_iload_n C dX8_atom_158 rfl ?_
              refine s_iast C dX8_atom_159 sh_198 (by omega) (by omega) ?_
              refine s_nameG (fun σ_159 hσ_159 => ?_)
              have e159 : σ_159 196 x = gC (sD S x) 0 := by rw [hσ_159, up_a (by decide)]; exact e142
              refine s_aload_n C dX8_atom_160 rfl ?_
              refine s_getR (c := 8) C fl_8_7 dX8_atom_161 sh_195 rfl rf_195_0 ?_
              refine s_iload_n C dX8_atom_164 rfl ?_
              refine s_dup2 C dX8_atom_165 rfl rfl ?_
              refine s_iald C dX8_atom_166 sh_196 (by omega) (fun g166 => ?_)
              refine s_iconst C dX8_atom_167 ?_
              refine s_iadd C dX8_atom_168 ?_
              refine s_iast C dX8_atom_169 sh_196 (by omega) (by omega) ?_
              refine s_nameG (fun σ_169 hσ_169 => ?_)
              refine s_iconst C dX8_atom_170 ?_
              refine s_iret C hR dX8_atom_171 rfl ⟨_, rfl, ?_⟩ (by decide)
              have hgf : gF (sD S x) y = -1 := by omega
              have f9 : ∀ i, i ≠ gC (sD S x) 0 → σ_169 197 (40 * x + i) = σ_112 197 (40 * x + i) ∧ σ_169 198 (40 * x + i) = σ_112 198 (40 * x + i) := fun i q => ⟨by rw [hσ_169, up_a (by decide), hσ_159, up_a (by decide), hσ_142, up_k (by omega)], by rw [hσ_169, up_a (by decide), hσ_159, up_k (by omega), hσ_142, up_a (by decide)]⟩
              have g9 : ∀ b k, 199 ≤ b → σ_169 b k = σ_112 b k := fun b k q => by rw [hσ_169, up_a (by omega), hσ_159, up_a (by omega), hσ_142, up_a (by omega)]
              have hA : AM σ_169 x (dAt (sD S x) y z (gC (sD S x) 0 + 1)) := by
                refine hM.1.add hn0.1 hgf (by omega) (by rw [hσ_169, up_s, e159]) ?_ ?_ fun i h1 h2 => f9 i (by omega)
                · rw [hσ_169, up_a (by decide), hσ_159, up_a (by decide), hσ_142, e112, up_s]
                · rw [hσ_169, up_a (by decide), hσ_159, e142, up_s]
              refine moP.gr (g := x) hS hO h0 (show _ = gF (sD S x) y by omega) (show uD S x (dAt (sD S x) y z (if gF (sD S x) y = -1 then gC (sD S x) 0 + 1 else gC (sD S x) 0)) = uD S x (dAt (sD S x) y z (gC (sD S x) 0 + 1)) by rw [if_pos hgf]) ⟨hA, hM.2.1.fr2 ⟨rfl, rfl⟩ fun b k a _ => g9 b k (by omega), hM.2.2.1.fr2 ⟨rfl, rfl⟩ fun b k a _ => g9 b k (by omega), hM.2.2.2.fr2 ⟨rfl, rfl, rfl⟩ fun b k a _ => g9 b k (by omega)⟩ (by rw [hσ_169, up_a (by decide), hσ_159, up_a (by decide), hσ_142, up_a (by decide)]; exact h37) (fun b k q1 q2 => by rw [own_up (g := x) q1 (Or.inl ⟨by decide, rfl⟩) hσ_169, own_up (g := x) q1 (by unfold own; omega) hσ_159, own_up (g := x) q1 (by unfold own; omega) hσ_142, hp112.1, up_n q2])
          · have y115 := (hp112.2).n (by omega)
            refine s_iconst C dX8_atom_118 ?_
            refine s_iret C hR dX8_atom_119 rfl ⟨_, rfl, ?_⟩ (by decide)
            exact moP.no hO hp112.1 j112_0 y115
        refine s_if_ne (tgt := 93) C dX8_atom_86 (by decide) (by omega) (fun c86 => ?_) (fun c86 => ?_)
        · have y86 := (j19_0).y (by omega)
          refine s_iload C dX8_atom_93 rfl ?_
          refine s_if_ne (tgt := 102) C dX8_atom_95 (by decide) (by omega) (fun c95 => ?_) (fun c95 => ?_)
          · have y95 := (hp22).y (by omega)
            refine s_iload C dX8_atom_102 rfl ?_
            refine s_if_eq (tgt := 111) C dX8_atom_104 (by decide) (by omega) (fun c104 => ?_) (fun c104 => ?_)
            · have y104 := (j81_0).n (by omega)
              refine s_iconst C dX8_atom_111 ?_
              refine J112 0 ?_ (by first | assumption | omega)
              · unfold op_atom; dsimp only; (repeat' split) <;> omega
            · have y104 := (j81_0).y (by omega)
              refine s_iconst C dX8_atom_107 ?_
              refine s_goto (tgt := 112) C dX8_atom_108 (by decide) ?_
              refine J112 3 ?_ (by first | assumption | omega)
              · unfold op_atom; dsimp only; (repeat' split) <;> omega
          · have y95 := (hp22).n (by omega)
            refine s_iconst C dX8_atom_98 ?_
            refine s_goto (tgt := 112) C dX8_atom_99 (by decide) ?_
            refine J112 2 ?_ (by first | assumption | omega)
            · unfold op_atom; dsimp only; (repeat' split) <;> omega
        · have y86 := (j19_0).n (by omega)
          refine s_iconst C dX8_atom_89 ?_
          refine s_goto (tgt := 112) C dX8_atom_90 (by decide) ?_
          refine J112 1 ?_ (by first | assumption | omega)
          · unfold op_atom; dsimp only; (repeat' split) <;> omega
      refine s_if_eq (tgt := 80) C dX8_atom_51 (by decide) (by omega) (fun c51 => ?_) (fun c51 => ?_)
      · have y51 := (j19_0).n (by omega)
        refine s_iconst C dX8_atom_80 ?_
        refine J81 0 ?_
        · exact yn.zero (by omega)
      · have y51 := (j19_0).y (by omega)
        refine s_iload C dX8_atom_54 rfl ?_
        refine s_if_eq (tgt := 80) C dX8_atom_56 (by decide) (by omega) (fun c56 => ?_) (fun c56 => ?_)
        · have y56 := (hp22).n (by omega)
          refine s_iconst C dX8_atom_80 ?_
          refine J81 0 ?_
          · exact yn.zero (by omega)
        · have y56 := (hp22).y (by omega)
          have e196 := (hO.1 x (by omega) (by omega)).1.1
          have hn40 := (hS.1 x (by omega) (by omega)).2.2.1
          refine s_iload C dX8_atom_59 rfl ?_
          refine s_iconst C dX8_atom_61 ?_
          refine s_icmp_ne (tgt := 80) C dX8_atom_62 (by decide) (by omega) (by omega) (fun c62 => ?_) (fun c62 => ?_)
          · refine s_iconst C dX8_atom_80 ?_
            refine J81 0 ?_
            · exact yn.zero (by omega)
          · refine s_aload_n C dX8_atom_65 rfl ?_
            refine s_getR (c := 8) C fl_8_7 dX8_atom_66 sh_195 rfl rf_195_0 ?_
            refine s_iload_n C dX8_atom_69 rfl ?_
            refine s_iald C dX8_atom_70 sh_196 (by omega) (fun g70 => ?_)
            refine s_bipush C dX8_atom_71 (by decide) ?_
            refine s_icmp_ne (tgt := 80) C dX8_atom_73 (by decide) (by omega) (by omega) (fun c73 => ?_) (fun c73 => ?_)
            · refine s_iconst C dX8_atom_80 ?_
              refine J81 0 ?_
              · exact yn.zero (by omega)
            · refine s_iconst C dX8_atom_76 ?_
              refine s_goto (tgt := 81) C dX8_atom_77 (by decide) ?_
              refine J81 1 ?_
              · exact yn.one (by omega)
    refine s_if_eq (tgt := 46) C dX8_atom_29 (by decide) (by omega) (fun c29 => ?_) (fun c29 => ?_)
    · have y29 := (j19_0).n (by omega)
      refine s_iconst C dX8_atom_46 ?_
      refine J47 (-1) ?_ (by first | assumption | omega)
      · exact Or.inl ⟨rfl, by omega⟩
    · have y29 := (j19_0).y (by omega)
      refine s_iload C dX8_atom_32 rfl ?_
      refine s_if_eq (tgt := 46) C dX8_atom_34 (by decide) (by omega) (fun c34 => ?_) (fun c34 => ?_)
      · have y34 := (hp22).n (by omega)
        refine s_iconst C dX8_atom_46 ?_
        refine J47 (-1) ?_ (by first | assumption | omega)
        · exact Or.inl ⟨rfl, by omega⟩
      · have y34 := (hp22).y (by omega)
        refine s_aload_n C dX8_atom_37 rfl ?_
        refine s_iload_n C dX8_atom_38 rfl ?_
        refine s_iload_n C dX8_atom_39 rfl ?_
        refine s_cV2i C dX8_atom_40 lkX8_124 moX8_atomAt mvX8_atomAt (kX8_atomAt (by exact hS.1 x (by omega) (by omega)) (by omega) (by exact (hO.1 x (by omega) (by omega)).1) (by omega)) sh_195 ⟨_, _, rfl⟩ (by decide) (Nat.le_of_ble_eq_true rfl) rfl (by decide) (kpI (fun r40 hp40 => ?_))
        have hn40 := (hS.1 x (by omega) (by omega)).2.2.1
        refine s_goto (tgt := 47) C dX8_atom_43 (by decide) ?_
        refine J47 r40 ?_ (by first | assumption | omega)
        · rcases hp40 with q | q
          · exact Or.inl ⟨q.1, Or.inr (Or.inr q.2)⟩
          · exact Or.inr ⟨y29, y34, q⟩
  refine s_if_eq (tgt := 18) C dX8_atom_4 (by decide) (by omega) (fun c4 => ?_) (fun c4 => ?_)
  · have y4 := (hp1).n (by omega)
    refine s_iconst C dX8_atom_18 ?_
    refine J19 0 ?_
    · exact yn.zero (by omega)
  · have y4 := (hp1).y (by omega)
    refine s_iload_n C dX8_atom_7 rfl ?_
    refine s_cS1i C dX8_atom_8 lkX8_118 moX8_isWord mvX8_isWord (kX8_isWord (by omega)) (by decide) (Nat.le_of_ble_eq_true rfl) rfl (by decide) (kpI (fun r8 hp8 => ?_))
    have hb8 := (hp8).b
    refine s_if_eq (tgt := 18) C dX8_atom_11 (by decide) (by omega) (fun c11 => ?_) (fun c11 => ?_)
    · have y11 := (hp8).n (by omega)
      refine s_iconst C dX8_atom_18 ?_
      refine J19 0 ?_
      · exact yn.zero (by omega)
    · have y11 := (hp8).y (by omega)
      refine s_iconst C dX8_atom_14 ?_
      refine s_goto (tgt := 19) C dX8_atom_15 (by decide) ?_
      refine J19 1 ?_
      · exact yn.one (by omega)

set_option maxRecDepth 100000 in
set_option maxHeartbeats 8000000 in
theorem kX8_dropAtom {E : sv_E} {σ : sv_G} {S : st_T} (hS : StOK S) (hO : RO σ S) {x : Int} (hx : -2147483648 ≤ x ∧ x ≤ 2147483647) {y : Int} (hy : -2147483648 ≤ y ∧ y ≤ 2147483647) : CT E MX8_dropAtom 2 [(vR 195), (vI x), (vI y)] σ (PI fun r σ9 => moP σ σ9 S r (op_dropAtom S x y)) := by
  refine CT.of (RX8, cX8_dropAtom, 5, (some .int), [], 2, 0, 0) rfl moX8_dropAtom (Nat.le_of_ble_eq_true rfl) (ls0 := [some (vR 195), some (vI x), some (vI y), none, none]) rfl ?_
  intro X Q C hR
  refine s_aload_n C dX8_dropAtom_0 rfl ?_
  refine s_iload_n C dX8_dropAtom_1 rfl ?_
  refine s_cS1i C dX8_dropAtom_2 lkX8_114 moX8_isGrammar mvX8_isGrammar (kX8_isGrammar (by omega)) (by decide) (Nat.le_of_ble_eq_true rfl) rfl (by decide) (kpI (fun r2 hp2 => ?_))
  have hb2 := (hp2).b
  have J13 : ∀ (c : Int), (c = (op_dropAtom S x y).1) → (0 ≤ c ∧ c ≤ 3) → SW X E Q 0 0 13 [some (vR 195), some (vI x), some (vI y), none, none] [(vI c), (vR 195)] σ := by
    intro c j13_0 j13_1
    refine s_cV1i C dX8_dropAtom_13 lkX8_128 moX8_can mvX8_can (kX8_can (by omega)) sh_195 ⟨_, _, rfl⟩ (by decide) (Nat.le_of_ble_eq_true rfl) rfl (by decide) (fun r13 σ_13 hp13 => ?_)
    have hb13 := (hp13.2).b
    have hO2 := hO.t (can_T2 hp13.1)
    refine s_if_ne (tgt := 21) C dX8_dropAtom_16 (by decide) (by omega) (fun c16 => ?_) (fun c16 => ?_)
    · have y16 := (hp13.2).y (by omega)
      have h0 : (op_dropAtom S x y).1 = 0 := by rw [← j13_0]; exact y16
      have hk := ifc1 (show (if ¬ (0 ≤ x ∧ x ≤ 3) then 1 else 0 : Int) = 0 from h0)
      have h37 : σ_13 195 37 = 0 := by rw [hp13.1, up_s]; exact y16
      have hD := hS.1 x (by omega) (by omega)
      have hM := hO2.1 x (by omega) (by omega)
      have hn0 := hD.2.2.1
      have hn1 := hD.2.2.2.1
      have hn2 := hD.2.2.2.2.1
      have hn3 := hD.2.2.2.2.2.1
      have hn4 := hD.2.2.2.2.2.2.1
      have e13 : σ_13 196 x = gC (sD S x) 0 := hM.1.1
      refine s_aload_n C dX8_dropAtom_21 rfl ?_
      refine s_iload_n C dX8_dropAtom_22 rfl ?_
      refine s_iload_n C dX8_dropAtom_23 rfl ?_
      refine s_cV2i C dX8_dropAtom_24 lkX8_124 moX8_atomAt mvX8_atomAt (kX8_atomAt (by exact hD) (by omega) (by exact hM.1) (by omega)) sh_195 ⟨_, _, rfl⟩ (by decide) (Nat.le_of_ble_eq_true rfl) rfl (by decide) (kpI (fun r24 hp24 => ?_))
      refine s_istore_n (ls2 := [some (vR 195), some (vI x), some (vI y), some (vI r24), none]) C dX8_dropAtom_27 (by decide) rfl ?_
      refine s_iload_n C dX8_dropAtom_28 rfl ?_
      refine s_iconst C dX8_dropAtom_29 ?_
      refine s_icmp_ne (tgt := 35) C dX8_dropAtom_30 (by decide) (by omega) (by omega) (fun c30 => ?_) (fun c30 => ?_)
      · refine s_aload_n C dX8_dropAtom_35 rfl ?_
        refine s_getR (c := 8) C fl_8_16 dX8_dropAtom_36 sh_195 rfl rf_195_2 ?_
        refine s_iload_n C dX8_dropAtom_39 rfl ?_
        refine s_iald C dX8_dropAtom_40 sh_198 (by omega) (fun g40 => ?_)
        refine s_topI (fun x4_41 ex4_41 => ?_)
        refine s_istore (ls2 := [some (vR 195), some (vI x), some (vI y), some (vI r24), some (vI x4_41)]) C dX8_dropAtom_41 (by decide) rfl ?_
        refine s_aload_n C dX8_dropAtom_43 rfl ?_
        refine s_getR (c := 8) C fl_8_7 dX8_dropAtom_44 sh_195 rfl rf_195_0 ?_
        refine s_iload_n C dX8_dropAtom_47 rfl ?_
        refine s_dup2 C dX8_dropAtom_48 rfl rfl ?_
        refine s_iald C dX8_dropAtom_49 sh_196 (by omega) (fun g49 => ?_)
        refine s_iconst C dX8_dropAtom_50 ?_
        refine s_isub C dX8_dropAtom_51 ?_
        refine s_iast C dX8_dropAtom_52 sh_196 (by omega) (by omega) ?_
        refine s_nameG (fun σ_52 hσ_52 => ?_)
        have e52 : σ_52 196 x = gC (sD S x) 0 - 1 := by rw [hσ_52, up_s, e13]
        refine s_aload_n C dX8_dropAtom_53 rfl ?_
        refine s_getR (c := 8) C fl_8_13 dX8_dropAtom_54 sh_195 rfl rf_195_1 ?_
        refine s_iload_n C dX8_dropAtom_57 rfl ?_
        refine s_aload_n C dX8_dropAtom_58 rfl ?_
        refine s_getR (c := 8) C fl_8_13 dX8_dropAtom_59 sh_195 rfl rf_195_1 ?_
        refine s_bipush C dX8_dropAtom_62 (by decide) ?_
        refine s_iload_n C dX8_dropAtom_64 rfl ?_
        refine s_imul C dX8_dropAtom_65 ?_
        refine s_aload_n C dX8_dropAtom_66 rfl ?_
        refine s_getR (c := 8) C fl_8_7 dX8_dropAtom_67 sh_195 rfl rf_195_0 ?_
        refine s_iload_n C dX8_dropAtom_70 rfl ?_
        refine s_iald C dX8_dropAtom_71 sh_196 (by omega) (fun g71 => ?_)
        refine s_iadd C dX8_dropAtom_72 ?_
        have hr2 := (hM.1.2.1 (gC (sD S x) 0 - 1) (by omega) (by omega))
        have hnd := hM.1.2.1
        refine s_iald C dX8_dropAtom_73 sh_197 (by omega) (fun g73 => ?_)
        refine s_iast C dX8_dropAtom_74 sh_197 (by omega) (by omega) ?_
        refine s_nameG (fun σ_74 hσ_74 => ?_)
        have e74 : σ_74 196 x = gC (sD S x) 0 - 1 := by rw [hσ_74, up_a (by decide)]; exact e52
        refine s_aload_n C dX8_dropAtom_75 rfl ?_
        refine s_getR (c := 8) C fl_8_16 dX8_dropAtom_76 sh_195 rfl rf_195_2 ?_
        refine s_iload_n C dX8_dropAtom_79 rfl ?_
        refine s_aload_n C dX8_dropAtom_80 rfl ?_
        refine s_getR (c := 8) C fl_8_16 dX8_dropAtom_81 sh_195 rfl rf_195_2 ?_
        refine s_bipush C dX8_dropAtom_84 (by decide) ?_
        refine s_iload_n C dX8_dropAtom_86 rfl ?_
        refine s_imul C dX8_dropAtom_87 ?_
        refine s_aload_n C dX8_dropAtom_88 rfl ?_
        refine s_getR (c := 8) C fl_8_7 dX8_dropAtom_89 sh_195 rfl rf_195_0 ?_
        refine s_iload_n C dX8_dropAtom_92 rfl ?_
        refine s_iald C dX8_dropAtom_93 sh_196 (by omega) (fun g93 => ?_)
        refine s_iadd C dX8_dropAtom_94 ?_
        refine s_iald C dX8_dropAtom_95 sh_198 (by omega) (fun g95 => ?_)
        refine s_iast C dX8_dropAtom_96 sh_198 (by omega) (by omega) ?_
        refine s_nameG (fun σ_96 hσ_96 => ?_)
        refine s_iload C dX8_dropAtom_97 rfl ?_
        refine s_iret C hR dX8_dropAtom_99 rfl ⟨_, rfl, ?_⟩ (by decide)
        have hgf : gF (sD S x) y ≠ -1 := by omega
        have e6 : 40 * x + (r24 - 40 * x) = r24 := by omega
        have g9 : ∀ b k, 199 ≤ b → σ_96 b k = σ_13 b k := fun b k q => by rw [hσ_96, up_a (by omega), hσ_74, up_a (by omega), hσ_52, up_a (by omega)]
        have hA : AM σ_96 x (dAt (sD S x) y (-1) (gC (sD S x) 0 - 1)) := by
          refine hM.1.drop (i0 := r24 - 40 * x) (by omega) (by rw [e6]; omega) (by rw [hσ_96, up_a (by decide)]; exact e74) ⟨?_, ?_⟩ fun i q => ⟨?_, ?_⟩
          · rw [e6, hσ_96, up_a (by decide), hσ_74, up_s, e52, hσ_52, up_a (by decide)]
          · rw [e6, hσ_96, up_s, e74, hσ_74, up_a (by decide), hσ_52, up_a (by decide)]
          · rw [hσ_96, up_a (by decide), hσ_74, up_k (by omega), hσ_52, up_a (by decide)]
          · rw [hσ_96, up_k (by omega), hσ_74, up_a (by decide), hσ_52, up_a (by decide)]
        refine moP.gr (g := x) hS hO h0 (show _ = gF (sD S x) y by omega) (show uD S x (dAt (sD S x) y (-1) (if gF (sD S x) y = -1 then gC (sD S x) 0 else gC (sD S x) 0 - 1)) = uD S x (dAt (sD S x) y (-1) (gC (sD S x) 0 - 1)) by rw [if_neg hgf]) ⟨hA, hM.2.1.fr2 ⟨rfl, rfl⟩ fun b k a _ => g9 b k (by omega), hM.2.2.1.fr2 ⟨rfl, rfl⟩ fun b k a _ => g9 b k (by omega), hM.2.2.2.fr2 ⟨rfl, rfl, rfl⟩ fun b k a _ => g9 b k (by omega)⟩ (by rw [hσ_96, up_a (by decide), hσ_74, up_a (by decide), hσ_52, up_a (by decide)]; exact h37) (fun b k q1 q2 => by rw [own_up (g := x) q1 (by unfold own; omega) hσ_96, own_up (g := x) q1 (by unfold own; omega) hσ_74, own_up (g := x) q1 (Or.inl ⟨by decide, rfl⟩) hσ_52, hp13.1, up_n q2])
      · refine s_iconst C dX8_dropAtom_33 ?_
        refine s_iret C hR dX8_dropAtom_34 rfl ⟨_, rfl, ?_⟩ (by decide)
        have hgf : gF (sD S x) y = -1 := by omega
        have e : ∀ z, gF (dAt (sD S x) y (-1) (gC (sD S x) 0)) z = gF (sD S x) z := fun z => by
          show (if z = y then (-1 : Int) else gF (sD S x) z) = _
          by_cases q : z = y
          · rw [if_pos q, q, hgf]
          · rw [if_neg q]
        refine moP.gr (g := x) hS hO h0 (show _ = gF (sD S x) y by omega) (show uD S x (dAt (sD S x) y (-1) (if gF (sD S x) y = -1 then gC (sD S x) 0 else gC (sD S x) 0 - 1)) = uD S x (dAt (sD S x) y (-1) (gC (sD S x) 0)) by rw [if_pos hgf]) ⟨hM.1.fr2 ⟨funext e, rfl⟩ fun _ _ _ _ => rfl, hM.2.1.fr2 ⟨rfl, rfl⟩ fun b k a _ => rfl, hM.2.2.1.fr2 ⟨rfl, rfl⟩ fun b k a _ => rfl, hM.2.2.2.fr2 ⟨rfl, rfl, rfl⟩ fun b k a _ => rfl⟩ h37 (fun b k q1 q2 => by rw [hp13.1, up_n q2])
    · have y16 := (hp13.2).n (by omega)
      refine s_iconst C dX8_dropAtom_19 ?_
      refine s_iret C hR dX8_dropAtom_20 rfl ⟨_, rfl, ?_⟩ (by decide)
      exact moP.no hO hp13.1 j13_0 y16
  refine s_if_eq (tgt := 12) C dX8_dropAtom_5 (by decide) (by omega) (fun c5 => ?_) (fun c5 => ?_)
  · have y5 := (hp2).n (by omega)
    refine s_iconst C dX8_dropAtom_12 ?_
    refine J13 1 ?_ (by first | assumption | omega)
    · unfold op_dropAtom; dsimp only; (repeat' split) <;> omega
  · have y5 := (hp2).y (by omega)
    refine s_iconst C dX8_dropAtom_8 ?_
    refine s_goto (tgt := 13) C dX8_dropAtom_9 (by decide) ?_
    refine J13 0 ?_ (by first | assumption | omega)
    · unfold op_dropAtom; dsimp only; (repeat' split) <;> omega
