/-! The model's state. -/
def own (b : Nat) (g k : Int) : Prop := ((b = 196 ∨ b = 199 ∨ b = 207 ∨ b = 211 ∨ b = 212) ∧ k = g) ∨ ((b = 197 ∨ b = 198) ∧ 40 * g ≤ k ∧ k < 40 * g + 40) ∨ ((200 ≤ b ∧ b ≤ 206) ∧ 5 * g ≤ k ∧ k < 5 * g + 5) ∨ ((208 ≤ b ∧ b ≤ 210) ∧ 30 * g ≤ k ∧ k < 30 * g + 30) ∨ ((213 ≤ b ∧ b ≤ 215) ∧ 6 * g ≤ k ∧ k < 6 * g + 6)
theorem own_b {b : Nat} {g k : Int} (h : own b g k) : 196 ≤ b ∧ b ≤ 215 := by unfold own at h; omega
theorem own_ne {b : Nat} {g g' k : Int} (h : own b g k) (hg : g ≠ g') : ¬ own b g' k := by unfold own at h ⊢; omega
theorem RM.own9 {σ σ9 : sv_G} {g : Int} {D : gd_T} (hD : GDok D) (h : RM σ g D) (hf : ∀ b k, own b g k → σ9 b k = σ b k) : RM σ9 g D := by
  obtain ⟨⟨a1, a2, a3, a4⟩, ⟨b1, b2⟩, ⟨c1, c2, c3, c4⟩, ⟨d1, d2, d3⟩⟩ := h
  have n0 := hD.2.2.1
  have n1 := hD.2.2.2.1
  have n2 := hD.2.2.2.2.1
  have n4 := hD.2.2.2.2.2.2.1
  have e1 : ∀ i, 0 ≤ i → i < gC D 0 → σ9 197 (40 * g + i) = σ 197 (40 * g + i) := fun i h1 h2 => hf _ _ (by unfold own; omega)
  have e2 : ∀ i, 0 ≤ i → i < gC D 0 → σ9 198 (40 * g + i) = σ 198 (40 * g + i) := fun i h1 h2 => hf _ _ (by unfold own; omega)
  have e3 : ∀ i, 0 ≤ i → i < gC D 2 → σ9 208 (30 * g + i) = σ 208 (30 * g + i) := fun i h1 h2 => hf _ _ (by unfold own; omega)
  have e4 : ∀ i, 0 ≤ i → i < gC D 2 → σ9 209 (30 * g + i) = σ 209 (30 * g + i) := fun i h1 h2 => hf _ _ (by unfold own; omega)
  have e5 : ∀ i, 0 ≤ i → i < gC D 2 → σ9 210 (30 * g + i) = σ 210 (30 * g + i) := fun i h1 h2 => hf _ _ (by unfold own; omega)
  refine ⟨⟨by rw [hf _ _ (by unfold own; omega)]; exact a1, fun i h1 h2 => by rw [e1 i h1 h2, e2 i h1 h2]; exact a2 i h1 h2, fun x q => ?_, fun i j h1 h2 h3 => by rw [e1 i h1 (by omega), e1 j (by omega) h3]; exact a4 i j h1 h2 h3⟩,
    ⟨by rw [hf _ _ (by unfold own; omega)]; exact b1, fun i k h1 h2 h3 => by rw [hf _ _ (by unfold own; omega)]; exact b2 i k h1 h2 h3⟩,
    ⟨by rw [hf _ _ (by unfold own; omega)]; exact c1, fun i h1 h2 => by rw [e3 i h1 h2, e4 i h1 h2, e5 i h1 h2]; exact c2 i h1 h2, fun w k q => ?_, fun i j h1 h2 h3 => by rw [e3 i h1 (by omega), e3 j (by omega) h3, e4 i h1 (by omega), e4 j (by omega) h3]; exact c4 i j h1 h2 h3⟩,
    ⟨by rw [hf _ _ (by unfold own; omega)]; exact d1, by rw [hf _ _ (by unfold own; omega)]; exact d2, fun i k h1 h2 h3 => by rw [hf _ _ (by unfold own; omega)]; exact d3 i k h1 h2 h3⟩⟩
  · obtain ⟨i, h1, h2, h3⟩ := a3 x q
    exact ⟨i, h1, h2, by rw [e1 i h1 h2]; exact h3⟩
  · obtain ⟨i, h1, h2, h3, h4⟩ := c3 w k q
    exact ⟨i, h1, h2, by rw [e3 i h1 h2]; exact h3, by rw [e4 i h1 h2]; exact h4⟩
def RO (σ : sv_G) (S : st_T) : Prop := (∀ g, 0 ≤ g → g ≤ 3 → RM σ g (sD S g)) ∧ (σ 195 22 = (sL S).length ∧ Sg σ 217 0 (sL S)) ∧ (σ 195 26 = (sH S).length ∧ Sg σ 219 0 (sH S)) ∧
  (σ 195 28 = (sE S).length ∧ ∀ i : Nat, i < (sE S).length → σ 220 i = ((sE S).getD i (0, [])).1 ∧ σ 221 i = ((sE S).getD i (0, [])).2.length ∧ Sg σ 222 (20 * i) ((sE S).getD i (0, [])).2) ∧
  (∀ i, 0 ≤ i → i < 6 → σ 225 i = sB S i ∧ σ 226 i = sT S i) ∧ σ 195 36 = sZ S
def frM (σ σ9 : sv_G) : Prop := ∀ b k, b < 195 ∨ 228 ≤ b → σ9 b k = σ b k
theorem frM.tr {σ σ1 σ2 : sv_G} (h : frM σ σ1) (h2 : frM σ1 σ2) : frM σ σ2 := fun b k q => (h2 b k q).trans (h b k q)
/-- all but what is used for a while -/
def frT2 (σ σ9 : sv_G) : Prop := ∀ b k, (b ≠ 195 ∨ (k ≠ 20 ∧ k ≠ 24 ∧ k ≠ 37)) → b ≠ 216 → b ≠ 218 → b ≠ 223 → b ≠ 224 → b ≠ 227 → σ9 b k = σ b k
theorem frT2.M {σ σ9 : sv_G} (h : frT2 σ σ9) : frM σ σ9 := fun b k q => h b k (by omega) (by omega) (by omega) (by omega) (by omega) (by omega)
theorem frT2.tr {σ σ1 σ2 : sv_G} (h : frT2 σ σ1) (h2 : frT2 σ1 σ2) : frT2 σ σ2 := fun b k q1 q2 q3 q4 q5 q6 => (h2 b k q1 q2 q3 q4 q5 q6).trans (h b k q1 q2 q3 q4 q5 q6)
theorem frN.T2 {σ σ9 : sv_G} (h : frN σ σ9) : frT2 σ σ9 := fun b k q1 q2 q3 _ _ _ => h b k (by omega) q2 q3
theorem Sg.fr {σ σ9 : sv_G} {a : Nat} {o : Int} {ws : List Int} (h : Sg σ a o ws) (hf : ∀ k, σ9 a k = σ a k) : Sg σ9 a o ws := fun i hi => by rw [hf]; exact h i hi
theorem RO.fr {σ σ9 : sv_G} {S : st_T} (h : RO σ S) (hf : ∀ b k, (196 ≤ b ∧ b ≤ 215) ∨ b = 217 ∨ (219 ≤ b ∧ b ≤ 222) ∨ b = 225 ∨ b = 226 ∨ (b = 195 ∧ (k = 22 ∨ k = 26 ∨ k = 28 ∨ k = 36)) → σ9 b k = σ b k) : RO σ9 S := by
  obtain ⟨h1, h2, h3, h4, h5, h6⟩ := h
  exact ⟨fun g a b => (h1 g a b).fr fun b k q1 q2 => hf b k (Or.inl ⟨q1, q2⟩), ⟨by rw [hf _ _ (by omega)]; exact h2.1, h2.2.fr fun k => hf _ k (by omega)⟩, ⟨by rw [hf _ _ (by omega)]; exact h3.1, h3.2.fr fun k => hf _ k (by omega)⟩,
    ⟨by rw [hf _ _ (by omega)]; exact h4.1, fun i hi => ⟨by rw [hf _ _ (by omega)]; exact (h4.2 i hi).1, by rw [hf _ _ (by omega)]; exact (h4.2 i hi).2.1, (h4.2 i hi).2.2.fr fun k => hf _ k (by omega)⟩⟩,
    fun i a b => by rw [hf _ _ (by omega), hf _ _ (by omega)]; exact h5 i a b, by rw [hf _ _ (by omega)]; exact h6⟩
theorem RO.t {σ σ9 : sv_G} {S : st_T} (h : RO σ S) (hf : frT2 σ σ9) : RO σ9 S := h.fr fun b k q => hf b k (by omega) (by omega) (by omega) (by omega) (by omega) (by omega)
theorem RO.gr {σ σ9 : sv_G} {S : st_T} {g : Int} {D : gd_T} (hS : StOK S) (h : RO σ S) (hC : RM σ9 g D) (hf : ∀ b k, ¬ own b g k → b ≠ 195 → σ9 b k = σ b k) (hf2 : ∀ k, k ≠ 37 → σ9 195 k = σ 195 k) : RO σ9 (uD S g D) := by
  obtain ⟨h1, h2, h3, h4, h5, h6⟩ := h
  have hn : ∀ b k, (216 ≤ b) → σ9 b k = σ b k := fun b k q => hf b k (fun z => by have := own_b z; omega) (by omega)
  refine ⟨fun g' a b => ?_, ⟨by rw [hf2 _ (by decide)]; exact h2.1, h2.2.fr fun k => hn _ k (by decide)⟩, ⟨by rw [hf2 _ (by decide)]; exact h3.1, h3.2.fr fun k => hn _ k (by decide)⟩,
    ⟨by rw [hf2 _ (by decide)]; exact h4.1, fun i hi => ⟨by rw [hn _ _ (by decide)]; exact (h4.2 i hi).1, by rw [hn _ _ (by decide)]; exact (h4.2 i hi).2.1, (h4.2 i hi).2.2.fr fun k => hn _ k (by decide)⟩⟩,
    fun i a b => by rw [hn _ _ (by decide), hn _ _ (by decide)]; exact h5 i a b, by rw [hf2 _ (by decide)]; exact h6⟩
  show RM σ9 g' (if g' = g then D else sD S g')
  by_cases q : g' = g
  · rw [if_pos q, q]; exact hC
  · rw [if_neg q]
    exact RM.own9 (hS.1 g' a b) (h1 g' a b) fun b k z => hf b k (own_ne z q) (by have := own_b z; omega)
/-- how a call of the model ends -/
def moP (σ σ9 : sv_G) (S : st_T) (r : Int) (o : op_T) : Prop := σ9 195 37 = o.1 ∧ (o.1 = 0 → r = o.2.1 ∧ RO σ9 o.2.2) ∧ (o.1 ≠ 0 → RO σ9 S) ∧ frM σ σ9
theorem can_T2 {σ σ9 : sv_G} {c : Int} (h : σ9 = up σ 195 37 c) : frT2 σ σ9 := fun b k q1 _ _ _ _ _ => by rw [h, up_n (by omega)]
theorem moP.no {σ σ9 : sv_G} {S : st_T} {c r : Int} {o : op_T} (hO : RO σ S) (h : σ9 = up σ 195 37 c) (hc : c = o.1) (hn : c ≠ 0) : moP σ σ9 S r o := ⟨by rw [h, up_s]; exact hc, fun z => absurd (hc.trans z) hn, fun _ => hO.t (can_T2 h), (can_T2 h).M⟩
theorem moP.yes {σ σ9 : sv_G} {S : st_T} {r : Int} {o : op_T} (h0 : o.1 = 0) (h37 : σ9 195 37 = 0) (hr : r = o.2.1) (hO : RO σ9 o.2.2) (hf : frM σ σ9) : moP σ σ9 S r o := ⟨h37.trans h0.symm, fun _ => ⟨hr, hO⟩, fun z => absurd h0 z, hf⟩
