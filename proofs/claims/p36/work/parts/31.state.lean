/-! What the calls speak of: the grammars, the latest saying, what was heard, the examples, the cords. -/
abbrev st_T : Type := (Int → gd_T) × List Int × List Int × List (Int × List Int) × (Int → Int) × (Int → Int) × Int
abbrev sD (S : st_T) : Int → gd_T := S.1
abbrev sL (S : st_T) : List Int := S.2.1
abbrev sH (S : st_T) : List Int := S.2.2.1
abbrev sE (S : st_T) : List (Int × List Int) := S.2.2.2.1
abbrev sB (S : st_T) : Int → Int := S.2.2.2.2.1
abbrev sT (S : st_T) : Int → Int := S.2.2.2.2.2.1
abbrev sZ (S : st_T) : Int := S.2.2.2.2.2.2
def uD (S : st_T) (g : Int) (D : gd_T) : st_T := ((fun g' => if g' = g then D else sD S g'), S.2)
def uL (S : st_T) (l : List Int) : st_T := (S.1, l, S.2.2)
def uH (S : st_T) (l : List Int) : st_T := (S.1, S.2.1, l, S.2.2.2)
def uE (S : st_T) (l : List (Int × List Int)) : st_T := (S.1, S.2.1, S.2.2.1, l, S.2.2.2.2)
def uC (S : st_T) (b t : Int → Int) (z : Int) : st_T := (S.1, S.2.1, S.2.2.1, S.2.2.2.1, b, t, z)
def hOK (l : List Int) : Prop := ∀ w ∈ l, -1 ≤ w ∧ w ≤ 199
def eOK (e : Int × List Int) : Prop := (0 ≤ e.1 ∧ e.1 ≤ 9999) ∧ e.2.length ≤ 20 ∧ e.2 ≠ [] ∧ wOK e.2
def StOK (S : st_T) : Prop := (∀ g, 0 ≤ g → g ≤ 3 → GDok (sD S g)) ∧ (wOK (sL S) ∧ (sL S).length ≤ 20) ∧ (hOK (sH S) ∧ (sH S).length ≤ 20) ∧ ((sE S).length ≤ 20 ∧ ∀ e ∈ sE S, eOK e) ∧
  (∀ i, 0 ≤ i → i < 6 → 2 ≤ sB S i ∧ sB S i ≤ 60 ∧ 0 ≤ sT S i ∧ sT S i < sB S i) ∧ (-9223372036854775808 ≤ sZ S ∧ sZ S ≤ 9223372036854775807)
def RN (σ : sv_G) (S : st_T) : Prop := (∀ g : Int, 0 ≤ g → g ≤ 3 → RC σ (23 + 17 * g.toNat) (sD S g)) ∧ Rw σ 2 (sL S) ∧ Rw σ 4 (sH S) ∧ σ 0 10 = (sE S).length ∧
  (∀ i : Nat, i < (sE S).length → σ 16 i = ((sE S).getD i (0, [])).1 ∧ Rw σ (91 + 2 * i) ((sE S).getD i (0, [])).2) ∧ (∀ i, 0 ≤ i → i < 6 → σ 21 i = sB S i ∧ σ 22 i = sT S i) ∧ σ 20 2 = sZ S
def frC (σ σ9 : sv_G) : Prop := ∀ b k, 195 ≤ b → σ9 b k = σ b k
theorem frC.tr {σ σ1 σ2 : sv_G} (h : frC σ σ1) (h2 : frC σ1 σ2) : frC σ σ2 := fun b k q => (h2 b k q).trans (h b k q)
theorem Rw.fr {σ σ9 : sv_G} {a : Nat} {ws : List Int} (h : Rw σ a ws) (hf : ∀ b k, a ≤ b → b ≤ a + 1 → σ9 b k = σ b k) : Rw σ9 a ws := ⟨by rw [hf a _ (by omega) (by omega)]; exact h.1, h.2.1, fun i hi => by rw [hf _ _ (by omega) (by omega)]; exact h.2.2 i hi⟩
theorem sE_mem {S : st_T} {i : Nat} (h : i < (sE S).length) : (sE S).getD i (0, []) ∈ sE S := by
  rw [List.getD_eq_getElem?_getD, List.getElem?_eq_getElem h]
  exact List.getElem_mem h
theorem RN.fr {σ σ9 : sv_G} {S : st_T} (hS : StOK S) (h : RN σ S) (hf : ∀ b k, (b ≤ 5 ∨ (16 ≤ b ∧ b ≤ 130 ∧ b ≠ 18)) → σ9 b k = σ b k) : RN σ9 S := by
  obtain ⟨h1, h2, h3, h4, h5, h6, h7⟩ := h
  have hl := hS.2.2.2.1.1
  exact ⟨fun g a1 a2 => (h1 g a1 a2).fr (hS.1 g a1 a2) fun b k b1 b2 => hf b k (by omega), h2.fr fun b k _ _ => hf b k (by omega), h3.fr fun b k _ _ => hf b k (by omega), by rw [hf _ _ (by omega)]; exact h4,
    fun i hi => ⟨by rw [hf _ _ (by omega)]; exact (h5 i hi).1, (h5 i hi).2.fr fun b k _ _ => hf b k (by omega)⟩, fun i a1 a2 => by rw [hf _ _ (by omega), hf _ _ (by omega)]; exact h6 i a1 a2, by rw [hf _ _ (by omega)]; exact h7⟩
theorem RN.gr {σ σ9 : sv_G} {S : st_T} {g : Int} {D : gd_T} (hS : StOK S) (h : RN σ S) (hg : 0 ≤ g ∧ g ≤ 3) (hf : frG σ σ9 (23 + 17 * g.toNat)) (hC : RC σ9 (23 + 17 * g.toNat) D) : RN σ9 (uD S g D) := by
  obtain ⟨h1, h2, h3, h4, h5, h6, h7⟩ := h
  have hl := hS.2.2.2.1.1
  refine ⟨fun g' a1 a2 => ?_, h2.fr fun b k _ _ => hf b k (by omega), h3.fr fun b k _ _ => hf b k (by omega), by rw [hf _ _ (by omega)]; exact h4,
    fun i hi => ⟨by rw [hf _ _ (by omega)]; exact (h5 i hi).1, (h5 i hi).2.fr fun b k _ _ => hf b k (by omega)⟩, fun i a1 a2 => by rw [hf _ _ (by omega), hf _ _ (by omega)]; exact h6 i a1 a2, by rw [hf _ _ (by omega)]; exact h7⟩
  show RC σ9 _ (if g' = g then D else sD S g')
  by_cases q : g' = g
  · rw [if_pos q, q]; exact hC
  · rw [if_neg q]; exact (h1 g' a1 a2).fr (hS.1 g' a1 a2) fun b k b1 b2 => hf b k (by omega)
theorem uD_ok {S : st_T} {g : Int} {D : gd_T} (hS : StOK S) (hD : GDok D) : StOK (uD S g D) := by
  refine ⟨fun g' a1 a2 => ?_, hS.2⟩
  show GDok (if g' = g then D else sD S g')
  split
  · exact hD
  · exact hS.1 g' a1 a2
theorem uL_ok {S : st_T} {l : List Int} (hS : StOK S) (hl : wOK l ∧ l.length ≤ 20) : StOK (uL S l) := ⟨hS.1, hl, hS.2.2⟩
theorem uH_ok {S : st_T} {l : List Int} (hS : StOK S) (hl : hOK l ∧ l.length ≤ 20) : StOK (uH S l) := ⟨hS.1, hS.2.1, hl, hS.2.2.2⟩
theorem RN.uL {σ σ9 : sv_G} {S : st_T} {l : List Int} (hS : StOK S) (h : RN σ S) (hf : frR σ σ9 2) (hr : Rw σ9 2 l) : RN σ9 (uL S l) := by
  obtain ⟨h1, h2, h3, h4, h5, h6, h7⟩ := h
  have hl := hS.2.2.2.1.1
  exact ⟨fun g a1 a2 => (h1 g a1 a2).fr (hS.1 g a1 a2) fun b k b1 b2 => hf b k (by omega) (by omega), hr, h3.fr fun b k _ _ => hf b k (by omega) (by omega), by rw [hf _ _ (by omega) (by omega)]; exact h4,
    fun i hi => ⟨by rw [hf _ _ (by omega) (by omega)]; exact (h5 i hi).1, (h5 i hi).2.fr fun b k _ _ => hf b k (by omega) (by omega)⟩, fun i a1 a2 => by rw [hf _ _ (by omega) (by omega), hf _ _ (by omega) (by omega)]; exact h6 i a1 a2, by rw [hf _ _ (by omega) (by omega)]; exact h7⟩
theorem RN.uH {σ σ9 : sv_G} {S : st_T} {l : List Int} (hS : StOK S) (h : RN σ S) (hf : frR σ σ9 4) (hr : Rw σ9 4 l) : RN σ9 (uH S l) := by
  obtain ⟨h1, h2, h3, h4, h5, h6, h7⟩ := h
  have hl := hS.2.2.2.1.1
  exact ⟨fun g a1 a2 => (h1 g a1 a2).fr (hS.1 g a1 a2) fun b k b1 b2 => hf b k (by omega) (by omega), h2.fr fun b k _ _ => hf b k (by omega) (by omega), hr, by rw [hf _ _ (by omega) (by omega)]; exact h4,
    fun i hi => ⟨by rw [hf _ _ (by omega) (by omega)]; exact (h5 i hi).1, (h5 i hi).2.fr fun b k _ _ => hf b k (by omega) (by omega)⟩, fun i a1 a2 => by rw [hf _ _ (by omega) (by omega), hf _ _ (by omega) (by omega)]; exact h6 i a1 a2, by rw [hf _ _ (by omega) (by omega)]; exact h7⟩
theorem frR.C {σ σ9 : sv_G} {a : Nat} (h : frR σ σ9 a) (ha : a ≤ 193) : frC σ σ9 := fun b k q => h b k (by omega) (by omega)
theorem frG.C {σ σ9 : sv_G} {G : Nat} (h : frG σ σ9 G) (hG : G ≤ 74) : frC σ σ9 := fun b k q => h b k (by omega)
-- a grammar's parts changed
theorem RC.at {σ σ9 : sv_G} {G : Nat} {D : gd_T} {x v c : Int} (hD : GDok D) (h : RC σ G D) (h1 : AtOK σ9 (G + 1)) (h2 : AtF σ9 (G + 1) (ftS (gF D) x v)) (h3 : σ9 (G + 1) 2 = c) (hf : ∀ b k, b ≠ G + 1 → b ≠ G + 1 + 1 → b ≠ G + 1 + 2 → σ9 b k = σ b k) : RC σ9 G (dAt D x v c) := by
  obtain ⟨-, -, -, g4, g5, g6, g7, g8, g9, g10, g11⟩ := h
  exact ⟨h1, h2, h3, by rw [hf _ _ (by omega) (by omega) (by omega)]; exact g4, fun i k a1 a2 a3 => by rw [hf _ _ (by omega) (by omega) (by omega)]; exact g5 i k a1 a2 a3,
    g6.fr (fun k => hf _ k (by omega) (by omega) (by omega)) (fun k => hf _ k (by omega) (by omega) (by omega)) (fun k => hf _ k (by omega) (by omega) (by omega)), g7.fr (fun k => hf _ k (by omega) (by omega) (by omega)) (fun k => hf _ k (by omega) (by omega) (by omega)) (fun k => hf _ k (by omega) (by omega) (by omega)) (fun k => hf _ k (by omega) (by omega) (by omega)),
    by rw [hf _ _ (by omega) (by omega) (by omega)]; exact g8, by rw [hf _ _ (by omega) (by omega) (by omega)]; exact g9, by rw [hf _ _ (by omega) (by omega) (by omega)]; exact g10, fun i a1 a2 => by rw [hf _ _ (by omega) (by omega) (by omega), hf _ _ (by omega) (by omega) (by omega), hf _ _ (by omega) (by omega) (by omega)]; exact g11 i a1 a2⟩
theorem RC.fm {σ σ9 : sv_G} {G : Nat} {D : gd_T} {w k v c : Int} (hD : GDok D) (h : RC σ G D) (h1 : FmOK σ9 (G + 5)) (h2 : FmF σ9 (G + 5) (fmS (gP D) w k v)) (h3 : σ9 (G + 5) 3 = c) (hf : ∀ b k, b ≠ G + 5 → b ≠ G + 5 + 1 → b ≠ G + 5 + 2 → b ≠ G + 5 + 3 → σ9 b k = σ b k) : RC σ9 G (dFm D w k v c) := by
  obtain ⟨g1, g2, g3, g4, g5, -, -, -, g9, g10, g11⟩ := h
  exact ⟨g1.fr (fun k => hf _ k (by omega) (by omega) (by omega) (by omega)) (fun k => hf _ k (by omega) (by omega) (by omega) (by omega)), g2.fr (fun k => hf _ k (by omega) (by omega) (by omega) (by omega)) (fun k => hf _ k (by omega) (by omega) (by omega) (by omega)) (fun k => hf _ k (by omega) (by omega) (by omega) (by omega)), by rw [hf _ _ (by omega) (by omega) (by omega) (by omega)]; exact g3, by rw [hf _ _ (by omega) (by omega) (by omega) (by omega)]; exact g4, fun i k a1 a2 a3 => by rw [hf _ _ (by omega) (by omega) (by omega) (by omega)]; exact g5 i k a1 a2 a3,
    h1, h2, h3, by rw [hf _ _ (by omega) (by omega) (by omega) (by omega)]; exact g9, by rw [hf _ _ (by omega) (by omega) (by omega) (by omega)]; exact g10, fun i a1 a2 => by rw [hf _ _ (by omega) (by omega) (by omega) (by omega), hf _ _ (by omega) (by omega) (by omega) (by omega), hf _ _ (by omega) (by omega) (by omega) (by omega)]; exact g11 i a1 a2⟩
theorem RC.bs {σ σ9 : sv_G} {G : Nat} {D : gd_T} {p : Int} {b : Nat → Int} (hD : GDok D) (h : RC σ G D) (hp : 0 ≤ p ∧ p < gC D 1) (h1 : ∀ k : Nat, k < 7 → σ9 (G + 4 + 8 + p.toNat) (k : Int) = b k) (hf : ∀ b k, b ≠ G + 4 + 8 + p.toNat → σ9 b k = σ b k) : RC σ9 G (dBs D p b) := by
  obtain ⟨g1, g2, g3, g4, g5, g6, g7, g8, g9, g10, g11⟩ := h
  have hn := hD.2.2.2.1
  refine ⟨g1.fr (fun k => hf _ k (by omega)) (fun k => hf _ k (by omega)), g2.fr (fun k => hf _ k (by omega)) (fun k => hf _ k (by omega)) (fun k => hf _ k (by omega)), by rw [hf _ _ (by omega)]; exact g3, by rw [hf _ _ (by omega)]; exact g4, fun i k a1 a2 a3 => ?_,
    g6.fr (fun k => hf _ k (by omega)) (fun k => hf _ k (by omega)) (fun k => hf _ k (by omega)), g7.fr (fun k => hf _ k (by omega)) (fun k => hf _ k (by omega)) (fun k => hf _ k (by omega)) (fun k => hf _ k (by omega)), by rw [hf _ _ (by omega)]; exact g8, by rw [hf _ _ (by omega)]; exact g9, by rw [hf _ _ (by omega)]; exact g10, fun i a1 a2 => by rw [hf _ _ (by omega), hf _ _ (by omega), hf _ _ (by omega)]; exact g11 i a1 a2⟩
  show _ = (if i = p then b else gB D i) k
  by_cases q : i = p
  · rw [if_pos q, q]; exact h1 k a3
  · rw [if_neg q, hf _ _ (by omega)]; exact g5 i k a1 a2 a3
theorem RC.od {σ σ9 : sv_G} {G : Nat} {D : gd_T} {v : Int} (hD : GDok D) (h : RC σ G D) (h1 : σ9 = up σ G 4 v) : RC σ9 G (dCs D 3 v) := by
  have hf : ∀ b k, b ≠ G → σ9 b k = σ b k := fun b k q => by rw [h1, up_a q]
  have hk : ∀ k, k ≠ 4 → σ9 G k = σ G k := fun k q => by rw [h1, up_k q]
  obtain ⟨g1, g2, g3, g4, g5, g6, g7, g8, g9, g10, g11⟩ := h
  exact ⟨g1.fr (fun k => hf _ k (by omega)) (fun k => hf _ k (by omega)), g2.fr (fun k => hf _ k (by omega)) (fun k => hf _ k (by omega)) (fun k => hf _ k (by omega)), by rw [hf _ _ (by omega)]; exact g3, by rw [hk _ (by decide)]; exact g4, fun i k a1 a2 a3 => by rw [hf _ _ (by omega)]; exact g5 i k a1 a2 a3,
    g6.fr (fun k => hf _ k (by omega)) (fun k => hf _ k (by omega)) (fun k => hf _ k (by omega)), g7.fr (fun k => hf _ k (by omega)) (fun k => hf _ k (by omega)) (fun k => hf _ k (by omega)) (fun k => hf _ k (by omega)), by rw [hf _ _ (by omega)]; exact g8, by rw [h1, up_s]; rfl, by rw [hk _ (by decide)]; exact g10, fun i a1 a2 => by rw [hf _ _ (by omega), hf _ _ (by omega), hf _ _ (by omega)]; exact g11 i a1 a2⟩
def bU (b : Nat → Int) (k : Nat) (v : Int) : Nat → Int := fun j => if j = k then v else b j
/-- how a call ends: its code, what it tells, what is then -/
abbrev op_T : Type := Int × Int × st_T
def oP (σ σ9 : sv_G) (r : Int) (o : op_T) : Prop := o.1 = 0 ∧ r = o.2.1 ∧ RN σ9 o.2.2 ∧ StOK o.2.2 ∧ frC σ σ9
def px3 (σ : sv_G) (n : Int) (e1 e2 e3 : String) : String → sv_G → Prop := fun En σ9 => σ9 = σ ∧ ((En = e1 ∧ n = 1) ∨ (En = e2 ∧ n = 2) ∨ (En = e3 ∧ n = 3))
def hasR (b : Int → Nat → Int) (x : Int) : Nat → Int
  | 0 => 0
  | i + 1 => if b (i : Int) 0 = x then 1 else hasR b x i
def hb (D : gd_T) (x : Int) : Int := hasR (gB D) x (gC D 1).toNat
theorem hasR_1 {b : Int → Nat → Int} {x : Int} : ∀ {n : Nat} (i : Int), 0 ≤ i → i < n → b i 0 = x → hasR b x n = 1
  | 0, i, h1, h2, _ => by omega
  | n + 1, i, h1, h2, h3 => by
    unfold hasR
    by_cases q : i = n
    · rw [if_pos (by rw [← q]; exact h3)]
    · split
      · rfl
      · exact hasR_1 i h1 (by omega) h3
theorem hasR_0 {b : Int → Nat → Int} {x : Int} : ∀ {n : Nat}, (∀ i : Int, 0 ≤ i → i < n → b i 0 ≠ x) → hasR b x n = 0
  | 0, _ => rfl
  | n + 1, h => by
    unfold hasR
    rw [if_neg (h n (by omega) (by omega))]
    exact hasR_0 fun i h1 h2 => h i h1 (by omega)
def op_atom (S : st_T) (x y z : Int) : op_T := ((if ¬ (0 ≤ x ∧ x ≤ 3 ∧ 0 ≤ z ∧ z ≤ 199) then 1 else if ¬ (0 ≤ y ∧ y ≤ 9999) then 2 else if gF (sD S x) y = -1 ∧ gC (sD S x) 0 = 40 then 3 else 0 : Int), gF (sD S x) y, uD S x (dAt (sD S x) y z (if gF (sD S x) y = -1 then gC (sD S x) 0 + 1 else gC (sD S x) 0)))
def op_dropAtom (S : st_T) (x y : Int) : op_T := ((if ¬ (0 ≤ x ∧ x ≤ 3) then 1 else 0 : Int), gF (sD S x) y, uD S x (dAt (sD S x) y (-1) (if gF (sD S x) y = -1 then gC (sD S x) 0 else gC (sD S x) 0 - 1)))
def op_base (S : st_T) (x y z v w : Int) : op_T := ((if ¬ (0 ≤ x ∧ x ≤ 3 ∧ 0 ≤ z ∧ z ≤ 199) then 1 else if ¬ ((2 ≤ y ∧ y ≤ 5000) ∧ (1 ≤ v ∧ v ≤ 99) ∧ 0 ≤ w ∧ w ≤ 15) then 2 else if hb (sD S x) y = 1 ∨ gC (sD S x) 1 = 5 then 3 else 0 : Int), gC (sD S x) 1, uD S x (dBase (sD S x) (bsN y z v w)))
def op_joint (S : st_T) (x y z : Int) : op_T := ((if ¬ ((0 ≤ x ∧ x ≤ 3 ∧ 0 ≤ y ∧ y < gC (sD S x) 1) ∧ -1 ≤ z ∧ z ≤ 199) then 1 else 0 : Int), gB (sD S x) y 4, uD S x (dBs (sD S x) y (bU (gB (sD S x) y) 4 z)))
def op_less (S : st_T) (x y z v : Int) : op_T := ((if ¬ ((0 ≤ x ∧ x ≤ 3 ∧ 0 ≤ y ∧ y < gC (sD S x) 1) ∧ 0 ≤ v ∧ v ≤ 199) then 1 else if ¬ (0 ≤ z ∧ z ≤ 9) then 2 else 0 : Int), gB (sD S x) y 5, uD S x (dBs (sD S x) y (bU (bU (gB (sD S x) y) 5 z) 6 v)))
def op_form (S : st_T) (x y z v : Int) : op_T := ((if ¬ (0 ≤ x ∧ x ≤ 3 ∧ (0 ≤ y ∧ y ≤ 199) ∧ 0 ≤ v ∧ v ≤ 199) then 1 else if ¬ (0 ≤ z ∧ z ≤ 3) then 2 else if gP (sD S x) y z = -1 ∧ gC (sD S x) 2 = 30 then 3 else 0 : Int), gP (sD S x) y z, uD S x (dFm (sD S x) y z v (if gP (sD S x) y z = -1 then gC (sD S x) 2 + 1 else gC (sD S x) 2)))
def op_ordinal (S : st_T) (x y : Int) : op_T := ((if ¬ ((0 ≤ x ∧ x ≤ 3) ∧ -1 ≤ y ∧ y ≤ 199) then 1 else 0 : Int), gC (sD S x) 3, uD S x (dCs (sD S x) 3 y))
def op_seam (S : st_T) (x y z v : Int) : op_T := ((if ¬ (0 ≤ x ∧ x ≤ 3 ∧ (0 ≤ y ∧ y ≤ 199) ∧ (0 ≤ z ∧ z ≤ 199) ∧ 0 ≤ v ∧ v ≤ 199) then 1 else if gC (sD S x) 4 = 6 then 2 else 0 : Int), gC (sD S x) 4 + 1, uD S x (dSeam (sD S x) y z v))
def op_empty (S : st_T) (x : Int) : op_T := ((if ¬ (0 ≤ x ∧ x ≤ 3) then 1 else 0 : Int), gC (sD S x) 0 + gC (sD S x) 1, uD S x (dClr (sD S x)))
def op_say (S : st_T) (x y z : Int) : op_T := ((if ¬ (0 ≤ x ∧ x ≤ 3 ∧ 0 ≤ z ∧ z ≤ 2) then 1 else if ¬ (0 ≤ y ∧ y ≤ 9999) then 2 else 0 : Int), ((spF (sD S x) y z).length : Int), uL S (spF (sD S x) y z))
def op_sayOrdinal (S : st_T) (x y : Int) : op_T := ((if ¬ (0 ≤ x ∧ x ≤ 3) then 1 else if ¬ (0 ≤ y ∧ y ≤ 9999) then 2 else 0 : Int), ((spF (sD S x) y 3).length : Int), uL S (spF (sD S x) y 3))
def op_sayFraction (S : st_T) (x y z v : Int) : op_T := ((if ¬ (0 ≤ x ∧ x ≤ 3 ∧ 0 ≤ v ∧ v ≤ 2) then 1 else if ¬ ((0 ≤ y ∧ y ≤ 9999) ∧ 1 ≤ z ∧ z ≤ 9999) then 2 else 0 : Int), ((frF (sD S x) y z v).length : Int), uL S (frF (sD S x) y z v))
def op_said (S : st_T) (x : Int) : op_T := ((if ¬ (0 ≤ x ∧ x < (sL S).length) then 1 else 0 : Int), (sL S).getD x.toNat 0, S)
def op_hear (S : st_T) (x : Int) : op_T := ((if ¬ (-1 ≤ x ∧ x ≤ 199) then 1 else if (sH S).length = 20 then 2 else 0 : Int), ((sH S).length : Int) + 1, uH S (sH S ++ [x]))
def op_hearSaid (S : st_T) : op_T := ((0 : Int), ((sL S).length : Int), uH S (sL S))
def op_forget (S : st_T) : op_T := ((0 : Int), ((sH S).length : Int), uH S [])
def okH (l : List Int) : Int := if l ≠ [] ∧ ¬ (-1 : Int) ∈ l then 1 else 0
def op_example (S : st_T) (x : Int) : op_T := ((if ¬ (0 ≤ x ∧ x ≤ 9999) then 1 else if (sE S).length = 20 ∨ okH (sH S) = 0 then 2 else 0 : Int), ((sE S).length : Int) + 1, uE S (sE S ++ [(x, sH S)]))
def op_dropExamples (S : st_T) : op_T := ((0 : Int), ((sE S).length : Int), uE S [])
def op_baseTold (S : st_T) (x y z : Int) : op_T := ((if ¬ (0 ≤ x ∧ x ≤ 3 ∧ 0 ≤ y ∧ y < gC (sD S x) 1) then 1 else if ¬ (0 ≤ z ∧ z ≤ 6) then 2 else 0 : Int), gB (sD S x) y z.toNat, S)
def op_cord (S : st_T) (x y : Int) : op_T := ((if ¬ (0 ≤ x ∧ x ≤ 5) then 1 else if ¬ (2 ≤ y ∧ y ≤ 60) then 2 else 0 : Int), sB S x, uC S (fun i => if i = x then y else sB S i) (fun _ => 0) 0)
def op_knots (S : st_T) (x : Int) : op_T := ((if ¬ (0 ≤ x ∧ x ≤ 5) then 1 else 0 : Int), sT S x, S)
def nx_count (S : st_T) (x : Int) : st_T := uC S (sB S) (fun i => (sT S i + cdC (sB S) (sT S) x i.toNat) % sB S i) (wrL (sZ S + cdC (sB S) (sT S) x 6))
