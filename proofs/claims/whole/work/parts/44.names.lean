theorem lst_split : ∀ S : List Int, S ≠ [] → ∃ S' x, S = S' ++ [x]
  | [], h => absurd rfl h
  | [a], _ => ⟨[], a, rfl⟩
  | a :: b :: t, _ => by
    obtain ⟨S', x, h⟩ := lst_split (b :: t) (List.cons_ne_nil _ _)
    exact ⟨a :: S', x, by rw [h]; rfl⟩
theorem AM.fr {σ σ9 : sv_G} {g : Int} {D : gd_T} (h : AM σ g D) (hf : ∀ b k, 196 ≤ b → b ≤ 215 → σ9 b k = σ b k) : AM σ9 g D := by
  obtain ⟨h1, h2, h3, h4⟩ := h
  refine ⟨by rw [hf _ _ (by decide) (by decide)]; exact h1, fun i a b => by rw [hf _ _ (by decide) (by decide), hf _ _ (by decide) (by decide)]; exact h2 i a b, fun x q => ?_, fun i j a b c => by rw [hf _ _ (by decide) (by decide), hf _ _ (by decide) (by decide)]; exact h4 i j a b c⟩
  obtain ⟨i, a, b, c⟩ := h3 x q
  exact ⟨i, a, b, by rw [hf _ _ (by decide) (by decide)]; exact c⟩
theorem BM.fr {σ σ9 : sv_G} {g : Int} {D : gd_T} (h : BM σ g D) (hf : ∀ b k, 196 ≤ b → b ≤ 215 → σ9 b k = σ b k) : BM σ9 g D := ⟨by rw [hf _ _ (by decide) (by decide)]; exact h.1, fun i k a b c => by rw [hf _ _ (by omega) (by omega)]; exact h.2 i k a b c⟩
def SR (σ : sv_G) (ws : List Int) : Prop := σ 195 20 = ws.length ∧ Sg σ 216 0 ws
def frN (σ σ9 : sv_G) : Prop := ∀ b k, (b ≠ 195 ∨ (k ≠ 20 ∧ k ≠ 24)) → b ≠ 216 → b ≠ 218 → σ9 b k = σ b k
theorem frN.tr {σ σ1 σ2 : sv_G} (h : frN σ σ1) (h2 : frN σ1 σ2) : frN σ σ2 := fun b k q1 q2 q3 => (h2 b k q1 q2 q3).trans (h b k q1 q2 q3)
theorem frK.N {σ σ9 : sv_G} (h : frK σ σ9) : frN σ σ9 := fun b k q1 _ q3 => h b k (by omega) q3
theorem SR.fr {σ σ9 : sv_G} {ws : List Int} (h : SR σ ws) (hf : ∀ b k, (b = 195 ∧ k = 20) ∨ b = 216 → σ9 b k = σ b k) : SR σ9 ws := ⟨by rw [hf _ _ (Or.inl ⟨rfl, rfl⟩)]; exact h.1, fun i hi => by rw [hf _ _ (Or.inr rfl)]; exact h.2 i hi⟩
theorem SR.K {σ σ9 : sv_G} {ws : List Int} (h : SR σ ws) (hf : frK σ σ9) : SR σ9 ws := h.fr fun b k q => hf b k (by omega) (by omega)
theorem SR.push {σ σ9 : sv_G} {ws : List Int} {x : Int} (h : SR σ ws) (e : σ9 = up (up σ 216 (σ 195 20) x) 195 20 (σ 195 20 + 1)) : SR σ9 (ws ++ [x]) := by
  refine ⟨?_, fun i hi => ?_⟩
  · rw [e, up_s, h.1, List.length_append]; simp
  · rw [List.length_append] at hi
    have hi2 : i < ws.length + 1 := hi
    rw [e, up_a (by decide), up_i, h.1, List.getD_eq_getElem?_getD]
    by_cases q : i = ws.length
    · rw [if_pos (by omega), q, List.getElem?_append_right (Nat.le_refl _), Nat.sub_self]; rfl
    · rw [if_neg (by omega), List.getElem?_append_left (by omega), ← List.getD_eq_getElem?_getD]
      exact h.2 i (by omega)
theorem SK.pop {σ σ9 : sv_G} {S : List Int} {x : Int} (h : SK σ (S ++ [x])) (e : σ9 = up σ 195 24 (σ 195 24 - 1)) : SK σ9 S ∧ σ9 218 (σ9 195 24) = x ∧ frK σ σ9 := by
  have h1 := h.1
  rw [List.length_append] at h1
  have h2 : σ 195 24 = (S.length : Int) + 1 := by rw [h1]; simp
  refine ⟨⟨by rw [e, up_s]; omega, fun i hi => ?_⟩, ?_, fun b k q1 q2 => by rw [e, up_n q1]⟩
  · have h3 := h.2 i (by rw [List.length_append]; simp; omega)
    rw [e, up_a (by decide), h3, List.getD_eq_getElem?_getD, List.getElem?_append_left hi, ← List.getD_eq_getElem?_getD]
  · have h3 := h.2 S.length (by rw [List.length_append]; simp)
    rw [List.getD_eq_getElem?_getD, List.getElem?_append_right (Nat.le_refl _), Nat.sub_self] at h3
    rw [e, up_s, up_a (by decide), h2, show (S.length : Int) + 1 - 1 = 0 + (S.length : Int) by omega]
    exact h3
