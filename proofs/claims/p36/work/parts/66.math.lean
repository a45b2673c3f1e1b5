/-! What the property rests on: sayings, numbers that fit, gaps, settings, cords; by numbers and rows alone. -/
theorem fmF_some {D : gd_T} {l : List Int} {c : Int} (hc : c ≠ 3) : ∃ l2, fmF D l c = some l2 := by
  unfold fmF
  split
  · exact ⟨_, rfl⟩
  · rw [if_neg (fun z => hc z.1)]; exact ⟨_, rfl⟩
theorem nfF_none {D : gd_T} {ws : List Int} {n c : Int} (hc : c ≠ 3) : nfF D ws n c = none ↔ ext ws (nm D n) = none := by
  unfold nfF
  cases e : ext ws (nm D n) with
  | none => exact ⟨fun _ => rfl, fun _ => rfl⟩
  | some l =>
    obtain ⟨l2, h⟩ := fmF_some (D := D) (l := l) hc
    refine ⟨fun z => ?_, fun z => by cases z⟩
    have z2 : fmF D l c = none := z
    rw [h] at z2
    cases z2
theorem spF_nil {D : gd_T} (hD : GDok D) {n k : Int} : spF D n k = [] ↔ nfF D [] n k = none :=
  ((endO_ok hD fun l => nfF_ok hD wOK.nil (n := n) (kind := k)).2.2).symm
theorem spF_nil_c {D : gd_T} (hD : GDok D) {n c c2 : Int} (hc : c ≠ 3) (hc2 : c2 ≠ 3) : spF D n c = [] ↔ spF D n c2 = [] := by
  rw [spF_nil hD, spF_nil hD, nfF_none hc, nfF_none hc2]
theorem spF_nil_o {D : gd_T} (hD : GDok D) {n c : Int} (hc : c ≠ 3) (h : spF D n c = []) : spF D n 3 = [] := by
  rw [spF_nil hD, nfF_none hc] at h
  rw [spF_nil hD]
  unfold nfF
  rw [h]
  rfl
theorem frF_nil {D : gd_T} (hD : GDok D) {n m c : Int} (h : spF D n c = []) : frF D n m c = [] := by
  rw [spF_nil hD] at h
  unfold frF
  rw [h]
  rfl
theorem len_0 {l : List Int} : (l.length : Int) = 0 ↔ l = [] := by
  constructor
  · intro h; exact List.eq_nil_of_length_eq_zero (by omega)
  · intro h; rw [h]; rfl
theorem len_pos {l : List Int} : (0 : Int) < l.length ↔ l ≠ [] := by
  constructor
  · intro h q; rw [q] at h; exact absurd h (by decide)
  · intro h
    have h2 : (l.length : Int) ≠ 0 := fun z => h (len_0.mp z)
    omega
theorem wOK_getD {l : List Int} (h : wOK l) {i : Nat} (hi : i < l.length) : 0 ≤ l.getD i 0 ∧ l.getD i 0 ≤ 199 := by
  rw [List.getD_eq_getElem?_getD, List.getElem?_eq_getElem hi]
  exact h _ (List.getElem_mem hi)
theorem wOK_no {l : List Int} (h : wOK l) : ¬ (-1 : Int) ∈ l := fun z => by have := h _ z; omega
-- all was heard: just the numbers that are said so fit
theorem agree_all {ws vs : List Int} (h : wOK vs) : agreeL ws vs ↔ ws = vs := by
  constructor
  · intro ⟨h1, h2⟩
    apply List.ext_getElem h1
    intro i a b
    have g := h2 i a
    have g2 := wOK_getD h b
    rcases g with g | g
    · omega
    · simpa [List.getD_eq_getElem?_getD, a, b] using g.symm
  · intro e
    rw [e]
    exact ⟨rfl, fun i _ => Or.inr rfl⟩
theorem hr_all {D : gd_T} {c : Int} {ws : List Int} {n : Int} (hw : wOK ws) (hne : ws ≠ []) : (hrI D c ws n = 1 ∧ spF D n c = ws) ∨ (hrI D c ws n = 0 ∧ spF D n c ≠ ws) := by
  by_cases h : spF D n c = ws
  · exact Or.inl ⟨hrI_1 (by rw [h]; exact hne) ((agree_all hw).mpr h), h⟩
  · exact Or.inr ⟨hrI_0 (Or.inr fun z => h ((agree_all hw).mp z)), h⟩
theorem hr_nil {D : gd_T} {c n : Int} : hrI D c [] n = 0 := by
  refine hrI_0 ?_
  by_cases h : spF D n c = []
  · exact Or.inl h
  · refine Or.inr fun z => h ?_
    exact List.eq_nil_of_length_eq_zero z.1
theorem ft_le {D : gd_T} {c : Int} {H : List Int} {a : Nat} : ∀ b : Nat, ftN D c H a ≤ ftN D c H (a + b)
  | 0 => Int.le_refl _
  | b + 1 => by
    have ih := ft_le (D := D) (c := c) (H := H) (a := a) b
    have h : ftN D c H (a + (b + 1)) = ftN D c H (a + b) + hrI D c H ((a + b : Nat) : Int) := rfl
    have h2 := hrI_b (D := D) (c := c) (H := H) (n := ((a + b : Nat) : Int))
    omega
theorem ft_le2 {D : gd_T} {c : Int} {H : List Int} {a b : Nat} (h : a ≤ b) : ftN D c H a ≤ ftN D c H b := by
  have := ft_le (D := D) (c := c) (H := H) (a := a) (b - a)
  rwa [show a + (b - a) = b by omega] at this
theorem ft_1 {D : gd_T} {c : Int} {H : List Int} {a : Nat} (h : hrI D c H (a : Int) = 1) : ftN D c H (a + 1) = ftN D c H a + 1 := by
  show ftN D c H a + hrI D c H (a : Int) = _
  rw [h]
theorem ft_z {D : gd_T} {c : Int} {H : List Int} {a : Nat} : ∀ b : Nat, (∀ x : Nat, a ≤ x → x < a + b → hrI D c H (x : Int) = 0) → ftN D c H (a + b) = ftN D c H a
  | 0, _ => rfl
  | b + 1, h => by
    have ih := ft_z (D := D) (c := c) (H := H) (a := a) b fun x h1 h2 => h x h1 (by omega)
    show ftN D c H (a + b) + hrI D c H ((a + b : Nat) : Int) = _
    rw [ih, h (a + b) (by omega) (by omega)]
    omega
theorem ft_nn {D : gd_T} {c : Int} {H : List Int} (a : Nat) : 0 ≤ ftN D c H a := by
  have := ft_le2 (D := D) (c := c) (H := H) (a := 0) (b := a) (Nat.zero_le _)
  exact this
theorem ft_b {D : gd_T} {c : Int} {H : List Int} : ∀ a : Nat, ftN D c H a ≤ a
  | 0 => Int.le_refl _
  | a + 1 => by
    have ih := ft_b (D := D) (c := c) (H := H) a
    have h : ftN D c H (a + 1) = ftN D c H a + hrI D c H (a : Int) := rfl
    have h2 := hrI_b (D := D) (c := c) (H := H) (n := (a : Int))
    omega
theorem fi_at {D : gd_T} {c : Int} {H : List Int} {p : Int} {f : Nat} (h1 : hrI D c H (f : Int) = 1) (h2 : ftN D c H f = p) : ∀ m k : Nat, k ≤ f → f < k + m → fiR D c H p m k = f
  | 0, k, a, b => by omega
  | m + 1, k, a, b => by
    unfold fiR
    by_cases q : k = f
    · rw [q, if_pos ⟨h1, h2⟩]
    · rw [if_neg]
      · exact fi_at h1 h2 m (k + 1) (by omega) (by omega)
      · rintro ⟨g1, g2⟩
        have g3 := ft_1 g1
        have g4 := ft_le2 (D := D) (c := c) (H := H) (a := k + 1) (b := f) (by omega)
        omega
theorem fi_no {D : gd_T} {c : Int} {H : List Int} {p : Int} : ∀ m k : Nat, ftN D c H (k + m) ≤ p → fiR D c H p m k = -1
  | 0, k, _ => rfl
  | m + 1, k, h => by
    unfold fiR
    rw [if_neg]
    · exact fi_no m (k + 1) (by rw [show k + 1 + m = k + (m + 1) by omega]; exact h)
    · rintro ⟨g1, g2⟩
      have g3 := ft_1 g1
      have g4 := ft_le2 (D := D) (c := c) (H := H) (a := k + 1) (b := k + (m + 1)) (by omega)
      omega
/-- the first number that is said so, among the first k; -1 for none -/
def fsI (D : gd_T) (c : Int) (H : List Int) (k f : Int) : Prop := (f = -1 ∧ ftN D c H k.toNat = 0) ∨ (0 ≤ f ∧ f < k ∧ hrI D c H f = 1 ∧ ftN D c H f.toNat = 0)
theorem fsI_end {D : gd_T} {c : Int} {H : List Int} {z k f : Int} (hz : 0 ≤ z) (hk : k = z + 1) (h : fsI D c H k f) : fiR D c H 0 (z + 1).toNat 0 = f := by
  subst hk
  rcases h with ⟨h1, h2⟩ | ⟨h1, h2, h3, h4⟩
  · rw [h1]
    exact fi_no _ _ (by rw [Nat.zero_add, h2]; exact Int.le_refl _)
  · have e : (f.toNat : Int) = f := by omega
    have := fi_at (D := D) (c := c) (H := H) (p := 0) (f := f.toNat) (by rw [e]; exact h3) h4 (z + 1).toNat 0 (by omega) (by omega)
    omega
theorem fsI_0 {D : gd_T} {c : Int} {H : List Int} : fsI D c H 0 (-1) := Or.inl ⟨rfl, rfl⟩
theorem fsI_y {D : gd_T} {c : Int} {H : List Int} {k f f2 : Int} (hk : 0 ≤ k) (h : fsI D c H k f) (h1 : hrI D c H k = 1) (hf : (f < 0 ∧ f2 = k) ∨ (0 ≤ f ∧ f2 = f)) : fsI D c H (k + 1) f2 := by
  rcases h with ⟨g1, g2⟩ | ⟨g1, g2, g3, g4⟩
  · have e : f2 = k := by omega
    rw [e]
    exact Or.inr ⟨hk, by omega, h1, g2⟩
  · have e : f2 = f := by omega
    rw [e]
    exact Or.inr ⟨g1, by omega, g3, g4⟩
theorem fsI_n {D : gd_T} {c : Int} {H : List Int} {k f : Int} (hk : 0 ≤ k) (h : fsI D c H k f) (h1 : hrI D c H k = 0) : fsI D c H (k + 1) f := by
  rcases h with ⟨g1, g2⟩ | ⟨g1, g2, g3, g4⟩
  · exact Or.inl ⟨g1, by rw [ftN_s hk, g2, h1]; rfl⟩
  · exact Or.inr ⟨g1, by omega, g3, g4⟩
theorem fit_none {D : gd_T} {c : Int} {H : List Int} {z p : Int} (h : ftN D c H (z + 1).toNat ≤ p) : fiR D c H p (z + 1).toNat 0 = -1 := fi_no _ _ (by rw [Nat.zero_add]; exact h)
theorem ft_nil {D : gd_T} {c : Int} (m : Nat) : ftN D c [] m = 0 := by
  have := ft_z (D := D) (c := c) (H := []) (a := 0) m fun x _ _ => hr_nil
  rwa [Nat.zero_add] at this
theorem ft_has {D : gd_T} {c : Int} {H : List Int} {z x : Int} (h : 0 ≤ x ∧ x ≤ z) (h1 : hrI D c H x = 1) : 1 ≤ ftN D c H (z + 1).toNat := by
  have e : (x.toNat : Int) = x := by omega
  have g := ft_1 (D := D) (c := c) (H := H) (a := x.toNat) (by rw [e]; exact h1)
  have g2 := ft_nn (D := D) (c := c) (H := H) x.toNat
  have g3 := ft_le2 (D := D) (c := c) (H := H) (a := x.toNat + 1) (b := (z + 1).toNat) (by omega)
  omega
-- which place is asked for
theorem bp_no {H : List Int} {g : Nat → Int} : ∀ n : Nat, (∀ pl : Nat, pl < n → H.getD pl 0 ≠ -1) → bpR H g n = (-1, 0)
  | 0, _ => rfl
  | n + 1, h => by
    unfold bpR
    rw [if_neg (fun z => h n (Nat.lt_succ_self n) z.1)]
    exact bp_no n fun pl hp => h pl (Nat.lt_succ_of_lt hp)
theorem bp_one {H : List Int} {g : Nat → Int} {p : Nat} (hp : H.getD p 0 = -1) : ∀ n : Nat, p < n → (∀ pl : Nat, pl < n → pl ≠ p → H.getD pl 0 ≠ -1) → (bpR H g n).1 = p
  | 0, a, _ => by omega
  | n + 1, a, h => by
    unfold bpR
    by_cases q : n = p
    · have h2 := bp_no (H := H) (g := g) n fun pl hl => h pl (Nat.lt_succ_of_lt hl) (by omega)
      rw [h2, if_pos ⟨by rw [q]; exact hp, Or.inl rfl⟩, q]
    · rw [if_neg (fun z => h n (Nat.lt_succ_self n) q z.1)]
      exact bp_one hp n (by omega) fun pl hl => h pl (Nat.lt_succ_of_lt hl)
theorem ask_all {H : List Int} {g : Nat → Int} {f : Int} (h : wOK H) : (if f < 2 then (-1 : Int) else (bpR H g H.length).1) = -1 := by
  split
  · rfl
  · rw [bp_no H.length fun pl hp => by have := wOK_getD h hp; omega]
-- one word wasn't heard
theorem sgD_p {l : List Int} {p i : Nat} {v : Int} : (l.set p v).getD i 0 = if i = p ∧ p < l.length then v else l.getD i 0 := by
  simp only [List.getD_eq_getElem?_getD]
  by_cases q : i = p
  · rw [q]
    by_cases q2 : p < l.length
    · rw [if_pos ⟨rfl, q2⟩, List.getElem?_set_self q2]; rfl
    · rw [if_neg (fun z => q2 z.2), List.getElem?_eq_none (by simp; omega), List.getElem?_eq_none (by omega)]
  · rw [if_neg (fun z => q z.1), List.getElem?_set_ne (fun z => q z.symm)]
theorem set_no {ws : List Int} {p : Nat} (hp : p < ws.length) : (-1 : Int) ∈ ws.set p (-1) := by
  refine List.mem_of_getElem? (i := p) ?_
  rw [List.getElem?_set_self hp]
theorem hr_more {D : gd_T} {c : Int} {ws : List Int} {p : Nat} (hw : wOK ws) (hne : ws ≠ []) (n : Int) : hrI D c ws n ≤ hrI D c (ws.set p (-1)) n := by
  rcases hr_all (D := D) (c := c) (n := n) hw hne with ⟨h1, h2⟩ | ⟨h1, h2⟩
  · rw [h1, hrI_1 (by rw [h2]; exact hne)]
    · exact Int.le_refl _
    · rw [h2]
      refine ⟨by simp, fun i hi => ?_⟩
      rw [sgD_p]
      split
      · exact Or.inl rfl
      · exact Or.inr rfl
  · rw [h1]
    rcases hrI_b (D := D) (c := c) (H := ws.set p (-1)) (n := n) with q | q <;> omega
theorem ft_more {D : gd_T} {c : Int} {ws : List Int} {p : Nat} (hw : wOK ws) (hne : ws ≠ []) : ∀ m : Nat, ftN D c ws m ≤ ftN D c (ws.set p (-1)) m
  | 0 => Int.le_refl _
  | m + 1 => by
    have ih := ft_more (D := D) (c := c) (p := p) hw hne m
    have h := hr_more (D := D) (c := c) (p := p) hw hne (m : Int)
    show ftN D c ws m + hrI D c ws (m : Int) ≤ ftN D c (ws.set p (-1)) m + hrI D c (ws.set p (-1)) (m : Int)
    omega
theorem ask_one {D : gd_T} {c z : Int} {ws : List Int} {p : Nat} (hw : wOK ws) (hp : p < ws.length) {f : Int} {g : Nat → Int} : (if f < 2 then (-1 : Int) else (bpR (ws.set p (-1)) g (ws.set p (-1)).length).1) = if 1 < f then (p : Int) else -1 := by
  by_cases q : f < 2
  · rw [if_pos q, if_neg (by omega)]
  · rw [if_neg q, if_pos (by omega)]
    refine bp_one ?_ _ (by simp; exact hp) fun pl h1 h2 => ?_
    · rw [sgD_p, if_pos ⟨rfl, hp⟩]
    · rw [sgD_p, if_neg (fun z => h2 z.1)]
      have := wOK_getD hw (i := pl) (by simpa using h1)
      omega
theorem okH_set {ws : List Int} {p : Nat} (hp : p < ws.length) : okH (ws.set p (-1)) = 0 := if_neg fun z => z.2 (set_no hp)
theorem okH_nil : okH [] = 0 := if_neg fun z => z.1 rfl
theorem okH_ok {ws : List Int} (h : wOK ws) (hne : ws ≠ []) : okH ws = 1 := if_pos ⟨hne, wOK_no h⟩
theorem take_s {l : List Int} {k : Nat} (h : k < l.length) : l.take k ++ [l.getD k 0] = l.take (k + 1) := by
  rw [List.take_add_one, List.getD_eq_getElem?_getD, List.getElem?_eq_getElem h]
  rfl
-- gaps and clashes
theorem ga_in {D : gd_T} : ∀ m k : Nat, (gaR D m k = -1 ∨ ((k : Int) ≤ gaR D m k ∧ gaR D m k < k + m ∧ spF D (gaR D m k) 0 = [])) ∧ ∀ x : Int, (k : Int) ≤ x → x < k + m → spF D x 0 = [] → 0 ≤ gaR D m k ∧ gaR D m k ≤ x
  | 0, k => ⟨Or.inl rfl, fun x h1 h2 => by omega⟩
  | m + 1, k => by
    have ih := ga_in (D := D) m (k + 1)
    unfold gaR
    by_cases q : spF D (k : Int) 0 = []
    · rw [if_pos q]
      exact ⟨Or.inr ⟨Int.le_refl _, by omega, q⟩, fun x h1 h2 h3 => by omega⟩
    · rw [if_neg q]
      refine ⟨?_, fun x h1 h2 h3 => ?_⟩
      · rcases ih.1 with h | ⟨h1, h2, h3⟩
        · exact Or.inl h
        · exact Or.inr ⟨by omega, by omega, h3⟩
      · by_cases q2 : x = k
        · rw [q2] at h3; exact absurd h3 q
        · exact ih.2 x (by omega) (by omega) h3
theorem ga_sp {D : gd_T} (hD : GDok D) {z c x : Int} (hz : 0 ≤ z) (hc : c ≠ 3) (hx : 0 ≤ x ∧ x ≤ z) : (spF D x c ≠ [] → gaR D (z + 1).toNat 0 ≠ x) ∧ (spF D x c = [] → 0 ≤ gaR D (z + 1).toNat 0 ∧ gaR D (z + 1).toNat 0 ≤ x) := by
  have h := ga_in (D := D) (z + 1).toNat 0
  refine ⟨fun h1 h2 => h1 ?_, fun h1 => h.2 x (by omega) (by omega) ((spF_nil_c hD (by decide) hc).mpr h1)⟩
  rcases h.1 with q | ⟨q1, q2, q3⟩
  · omega
  · rw [h2] at q3
    exact (spF_nil_c hD hc (by decide)).mpr q3
theorem ga_b {D : gd_T} {z : Int} (hz : 0 ≤ z) : -1 ≤ gaR D (z + 1).toNat 0 ∧ gaR D (z + 1).toNat 0 ≤ z := by
  rcases (ga_in (D := D) (z + 1).toNat 0).1 with q | ⟨q1, q2, q3⟩ <;> omega
theorem cl_in {D : gd_T} {c : Int} : ∀ m k : Nat, clR D c m k = -1 ∨ ((k : Int) ≤ clR D c m k ∧ clR D c m k < k + m ∧ clP D c (clR D c m k) ∧ ∀ x : Int, (k : Int) ≤ x → x < clR D c m k → ¬ clP D c x)
  | 0, k => Or.inl rfl
  | m + 1, k => by
    have ih := cl_in (D := D) (c := c) m (k + 1)
    unfold clR
    by_cases q : clP D c (k : Int)
    · rw [if_pos q]
      exact Or.inr ⟨Int.le_refl _, by omega, q, fun x h1 h2 => by omega⟩
    · rw [if_neg q]
      rcases ih with h | ⟨h1, h2, h3, h4⟩
      · exact Or.inl h
      · refine Or.inr ⟨by omega, by omega, h3, fun x g1 g2 => ?_⟩
        by_cases q2 : x = k
        · rw [q2]; exact q
        · exact h4 x (by omega) g2
theorem cl_sp {D : gd_T} (hD : GDok D) {c z : Int} (hz : 0 ≤ z) : clR D c (z + 1).toNat 0 = -1 ∨ ((0 ≤ clR D c (z + 1).toNat 0 ∧ clR D c (z + 1).toNat 0 ≤ z) ∧ spF D (clR D c (z + 1).toNat 0) c ≠ [] ∧ ftN D c (spF D (clR D c (z + 1).toNat 0) c) (clR D c (z + 1).toNat 0).toNat = 1) := by
  rcases cl_in (D := D) (c := c) (z + 1).toNat 0 with h | ⟨h1, h2, h3, h4⟩
  · exact Or.inl h
  · refine Or.inr ⟨by omega, h3.1, ?_⟩
    generalize hr : clR D c (z + 1).toNat 0 = r at *
    have hwo := (spF_ok hD r c).1
    obtain ⟨hne, j, j1, j2, j3⟩ := h3
    have hr1 : ∀ x : Int, spF D x c = spF D r c → hrI D c (spF D r c) x = 1 := fun x hx => by
      rcases hr_all (D := D) (c := c) (n := x) hwo hne with ⟨a, b⟩ | ⟨a, b⟩
      · exact a
      · exact absurd hx b
    have hr0 : ∀ x : Int, spF D x c ≠ spF D r c → hrI D c (spF D r c) x = 0 := fun x hx => by
      rcases hr_all (D := D) (c := c) (n := x) hwo hne with ⟨a, b⟩ | ⟨a, b⟩
      · exact absurd b hx
      · exact a
    have ej : (j.toNat : Int) = j := by omega
    have g1 := ft_1 (D := D) (c := c) (H := spF D r c) (a := j.toNat) (by rw [ej]; exact hr1 j j3)
    have g0 := ft_z (D := D) (c := c) (H := spF D r c) (a := 0) j.toNat fun x a b => hr0 x fun z => h4 j (by omega) j2 ⟨by rw [j3]; exact hne, x, by omega, by omega, by rw [z, j3]⟩
    have g2 := ft_z (D := D) (c := c) (H := spF D r c) (a := j.toNat + 1) (r.toNat - (j.toNat + 1)) fun x a b => hr0 x fun z => h4 x (by omega) (by omega) ⟨by rw [z]; exact hne, j, j1, by omega, by rw [z, j3]⟩
    rw [Nat.zero_add] at g0
    rw [show j.toNat + 1 + (r.toNat - (j.toNat + 1)) = r.toNat by omega] at g2
    have g3 : ftN D c (spF D r c) 0 = 0 := rfl
    omega
-- settings
theorem fs_nil {D : gd_T} {p j : Int} : ∀ n : Nat, (fsR D p j [] n).length = n
  | 0 => rfl
  | n + 1 => by
    unfold fsR
    rw [if_pos (show meE (dSet D p (n : Int) j) [] from fun e h => absurd h List.not_mem_nil), List.length_append, fs_nil n]
    rfl
theorem fs_b {D : gd_T} {p j : Int} {E : List (Int × List Int)} : (fsL D p j E).length ≤ 32 ∧ ∀ s ∈ fsL D p j E, 0 ≤ s ∧ s < 32 := fsR_in 32
theorem fs_mem {D : gd_T} {p j : Int} {E : List (Int × List Int)} : ∀ (n : Nat) (s : Int), 0 ≤ s → s < n → meE (dSet D p s j) E → s ∈ fsR D p j E n
  | 0, s, h1, h2, _ => by omega
  | n + 1, s, h1, h2, h3 => by
    unfold fsR
    by_cases q : s = n
    · rw [q] at h3 ⊢
      rw [if_pos h3]
      exact List.mem_append.mpr (Or.inr List.mem_cons_self)
    · have ih := fs_mem n s h1 (by omega) h3
      split
      · exact List.mem_append.mpr (Or.inl ih)
      · exact ih
theorem fs_low {D : gd_T} {p j : Int} {E : List (Int × List Int)} : ∀ (n : Nat) (s : Int), s ∈ fsR D p j E n → (fsR D p j E n).getD 0 0 ≤ s
  | 0, s, h => by cases h
  | n + 1, s, h => by
    have hin := fsR_in (D := D) (p := p) (j := j) (E := E) n
    unfold fsR at h ⊢
    by_cases q : meE (dSet D p (n : Int) j) E
    · rw [if_pos q] at h ⊢
      cases e : fsR D p j E n with
      | nil =>
        rw [e] at h
        have hs : s = (n : Int) := by simpa using h
        rw [hs]
        exact Int.le_refl _
      | cons a t =>
        have ih : ∀ s, s ∈ fsR D p j E n → a ≤ s := fun s hs => by have z := fs_low n s hs; rw [e] at z; exact z
        rw [e] at h
        show a ≤ s
        rcases List.mem_append.mp h with h | h
        · exact ih s (by rw [e]; exact h)
        · rw [List.mem_singleton.mp h]
          have := hin.2 a (by rw [e]; exact List.mem_cons_self)
          omega
    · rw [if_neg q] at h ⊢
      exact fs_low n s h
theorem dSet_same {D : gd_T} {p s j : Int} (h3 : s / 2 = gB D p 3) (h4 : (if s % 2 = 1 then j else -1) = gB D p 4) : dSet D p s j = D := by
  have e : setB (gB D p) s j = gB D p := by
    funext k
    unfold setB bU
    by_cases q : k = 4
    · rw [if_pos q, q]; exact h4
    · rw [if_neg q]
      by_cases q2 : k = 3
      · rw [if_pos q2, q2]; exact h3
      · rw [if_neg q2]
  unfold dSet dBs
  rw [e]
  have e2 : (fun i => if i = p then gB D p else gB D i) = gB D := by
    funext i
    by_cases q : i = p
    · rw [if_pos q, q]
    · rw [if_neg q]
  rw [e2]
theorem dSet_3 {D : gd_T} {p s j : Int} : gB (dSet D p s j) p 3 = s / 2 := by
  show (if p = p then setB (gB D p) s j else gB D p) 3 = _
  rw [if_pos rfl]
  rfl
theorem dSet_4 {D : gd_T} {p s j : Int} : gB (dSet D p s j) p 4 = if s % 2 = 1 then j else -1 := by
  show (if p = p then setB (gB D p) s j else gB D p) 4 = _
  rw [if_pos rfl]
  rfl
theorem dSet_2 {D : gd_T} {p s j s2 : Int} : dSet (dSet D p s j) p s2 j = dSet D p s2 j := by
  have e : setB (gB (dSet D p s j) p) s2 j = setB (gB D p) s2 j := by
    funext k
    have e0 : gB (dSet D p s j) p = setB (gB D p) s j := by
      show (if p = p then setB (gB D p) s j else gB D p) = _
      rw [if_pos rfl]
    rw [e0]
    unfold setB bU
    by_cases q : k = 4
    · rw [if_pos q, if_pos q]
    · rw [if_neg q, if_neg q]
      by_cases q2 : k = 3
      · rw [if_pos q2, if_neg q, if_pos q2]
      · simp only [if_neg q2, if_neg q]
  show dBs (dSet D p s j) p (setB (gB (dSet D p s j) p) s2 j) = dBs D p (setB (gB D p) s2 j)
  rw [e]
  unfold dSet dBs
  have e2 : (fun i => if i = p then setB (gB D p) s2 j else (fun i => if i = p then setB (gB D p) s j else gB D i) i) = fun i => if i = p then setB (gB D p) s2 j else gB D i := by
    funext i
    by_cases q : i = p
    · rw [if_pos q, if_pos q]
    · rw [if_neg q, if_neg q]
      show (if i = p then _ else gB D i) = gB D i
      rw [if_neg q]
  show (gF D, (fun i => if i = p then setB (gB D p) s2 j else (fun i => if i = p then setB (gB D p) s j else gB D i) i), gP D, gS D, gC D) = _
  rw [e2]
theorem fs_2 {D : gd_T} {p s j : Int} {E : List (Int × List Int)} : ∀ n : Nat, fsR (dSet D p s j) p j E n = fsR D p j E n
  | 0 => rfl
  | n + 1 => by
    have ih := fs_2 (D := D) (p := p) (s := s) (j := j) (E := E) n
    unfold fsR
    rw [ih, dSet_2]
/-- the setting that a base has -/
theorem fs_now {D : gd_T} {p j : Int} {E : List (Int × List Int)} (hb : bsOK (gB D p)) (hE : meE D E) (hw : gB D p 4 < 0 ∨ gB D p 4 = j) (hj : 0 ≤ j) : fsL D p j E ≠ [] ∧ (fsL D p j E).getD 0 0 ≤ 2 * gB D p 3 + (if 0 ≤ gB D p 4 then 1 else 0) := by
  obtain ⟨-, -, -, b3, b4, -⟩ := hb
  obtain ⟨s, hs⟩ : ∃ s : Int, s = 2 * gB D p 3 + (if 0 ≤ gB D p 4 then 1 else 0) := ⟨_, rfl⟩
  have hd : dSet D p s j = D := by
    refine dSet_same ?_ ?_
    · rw [hs]; split <;> omega
    · by_cases q : 0 ≤ gB D p 4
      · rw [if_pos q] at hs; rw [if_pos (by omega)]; omega
      · rw [if_neg q] at hs; rw [if_neg (by omega)]; omega
  have hm : s ∈ fsL D p j E := fs_mem 32 s (by rw [hs]; split <;> omega) (by rw [hs]; split <;> omega) (by rw [hd]; exact hE)
  rw [← hs]
  refine ⟨fun z => ?_, fs_low 32 s hm⟩
  rw [z] at hm
  cases hm
theorem an_in {D : gd_T} {p j : Int} {F : List Int} : ∀ k : Nat, -1 ≤ (anS D p j F k).1 ∧ (anS D p j F k).1 < k
  | 0 => ⟨Int.le_refl _, (by decide : (-1 : Int) < 0)⟩
  | k + 1 => by
    have ih := an_in (D := D) (p := p) (j := j) (F := F) k
    unfold anS
    split
    · exact ⟨(by omega : (-1 : Int) ≤ (k : Int)), (by omega : (k : Int) < ((k + 1 : Nat) : Int))⟩
    · exact ⟨ih.1, by omega⟩
theorem an_few {D : gd_T} {p j : Int} {F : List Int} (h : F.length ≤ 1) : ∀ k : Nat, anS D p j F k = (-1, (F.length : Int))
  | 0 => rfl
  | k + 1 => by
    have ih := an_few (D := D) (p := p) (j := j) h k
    unfold anS
    rw [ih, if_neg]
    have hl : F.length = 0 ∨ F.length = 1 := by omega
    rcases hl with q | q
    · rw [q]
      show ¬ ((0 : Int) < ((0 : Nat) : Int))
      decide
    · rw [q]
      have hc : ctR (anR D p j F (k : Int)) (anR D p j F (k : Int) 0) 1 = 1 := by
        show (0 : Int) + (if anR D p j F (k : Int) 0 = anR D p j F (k : Int) 0 then 1 else 0) = 1
        rw [if_pos rfl]; rfl
      have hm : mxR (anR D p j F (k : Int)) 1 1 = 1 := by
        show (if (0 : Int) < ctR (anR D p j F (k : Int)) (anR D p j F (k : Int) 0) 1 then ctR (anR D p j F (k : Int)) (anR D p j F (k : Int) 0) 1 else 0) = 1
        rw [hc]; rfl
      rw [hm]
      decide
-- cords
theorem cdW_cg {b b' : Int → Int} : ∀ n : Nat, (∀ i : Int, 0 ≤ i → i < n → b i = b' i) → cdW b n = cdW b' n
  | 0, _ => rfl
  | n + 1, h => by
    show cdW b n * b n = cdW b' n * b' n
    rw [cdW_cg n fun i h1 h2 => h i h1 (by omega), h n (by omega) (by omega)]
theorem cdW_b {b : Int → Int} : ∀ n : Nat, (∀ i : Int, 0 ≤ i → i < n → 2 ≤ b i ∧ b i ≤ 60) → 1 ≤ cdW b n ∧ cdW b n ≤ 60 ^ n
  | 0, _ => ⟨Int.le_refl _, Int.le_refl _⟩
  | n + 1, h => by
    have ih := cdW_b n fun i h1 h2 => h i h1 (by omega)
    have hn := h n (by omega) (by omega)
    show 1 ≤ cdW b n * b n ∧ cdW b n * b n ≤ 60 ^ (n + 1)
    rw [Int.pow_succ]
    constructor
    · have := Int.mul_le_mul ih.1 hn.1 (by decide) (by omega)
      omega
    · exact Int.mul_le_mul ih.2 hn.2 (by omega) (by have z := ih.1; omega)
theorem cdT_b {b t : Int → Int} : ∀ n : Nat, (∀ i : Int, 0 ≤ i → i < n → 2 ≤ b i ∧ b i ≤ 60 ∧ 0 ≤ t i ∧ t i < b i) → 0 ≤ cdT b t n ∧ cdT b t n < cdW b n
  | 0, _ => ⟨Int.le_refl _, (by decide : (0 : Int) < 1)⟩
  | n + 1, h => by
    have ih := cdT_b n fun i h1 h2 => h i h1 (by omega)
    have hn := h n (by omega) (by omega)
    show 0 ≤ cdT b t n + t n * cdW b n ∧ cdT b t n + t n * cdW b n < cdW b n * b n
    have h1 : 0 ≤ t n * cdW b n := Int.mul_nonneg hn.2.2.1 (by omega)
    have h2 : (t n + 1) * cdW b n ≤ b n * cdW b n := Int.mul_le_mul_of_nonneg_right (by omega) (by omega)
    rw [Int.add_mul, Int.one_mul, Int.mul_comm (b n)] at h2
    omega
theorem cd_sum {b t : Int → Int} {c : Int} : ∀ n : Nat, cdT b (fun i => (t i + cdC b t c i.toNat) % b i) n + cdC b t c n * cdW b n = cdT b t n + c
  | 0 => by
    show (0 : Int) + c * 1 = 0 + c
    omega
  | n + 1 => by
    have ih := cd_sum (b := b) (t := t) (c := c) n
    have e := Int.emod_add_mul_ediv (t n + cdC b t c n) (b n)
    show cdT b (fun i => (t i + cdC b t c i.toNat) % b i) n + ((t (n : Int) + cdC b t c (n : Int).toNat) % b (n : Int)) * cdW b n + ((t (n : Int) + cdC b t c n) / b (n : Int)) * (cdW b n * b (n : Int)) = cdT b t n + t (n : Int) * cdW b n + c
    rw [Int.toNat_natCast]
    have e2 : ((t (n : Int) + cdC b t c n) % b (n : Int)) * cdW b n + ((t (n : Int) + cdC b t c n) / b (n : Int)) * (cdW b n * b (n : Int)) = (t (n : Int) + cdC b t c n) * cdW b n := by
      rw [show ((t (n : Int) + cdC b t c n) / b (n : Int)) * (cdW b n * b (n : Int)) = (b (n : Int) * ((t (n : Int) + cdC b t c n) / b (n : Int))) * cdW b n by
        rw [Int.mul_comm (cdW b n), ← Int.mul_assoc, Int.mul_comm (_ / _) (b (n : Int))], ← Int.add_mul, e]
    rw [Int.add_mul] at e2
    omega
theorem cdT_0 {b : Int → Int} : ∀ n : Nat, cdT b (fun _ => 0) n = 0
  | 0 => rfl
  | n + 1 => by
    show cdT b (fun _ => 0) n + 0 * cdW b n = 0
    rw [cdT_0 n, Int.zero_mul]
    rfl
theorem wrL_in {z : Int} (h : -9223372036854775808 ≤ z ∧ z ≤ 9223372036854775807) : wrL z = z := sn_ofL h
