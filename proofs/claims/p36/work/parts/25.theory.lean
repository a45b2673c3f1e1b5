/-! What a grammar says: names, products, sayings. A grammar: words of atoms; bases by place and field; forms by word and kind; seams; counts (atoms, bases, forms), the ordinal word, the count of seams. -/
abbrev gd_T : Type := (Int → Int) × (Int → Nat → Int) × (Int → Int → Int) × (Nat → Int → Int) × (Nat → Int)
abbrev gF (D : gd_T) : Int → Int := D.1
abbrev gB (D : gd_T) : Int → Nat → Int := D.2.1
abbrev gP (D : gd_T) : Int → Int → Int := D.2.2.1
abbrev gS (D : gd_T) : Nat → Int → Int := D.2.2.2.1
abbrev gC (D : gd_T) : Nat → Int := D.2.2.2.2
def bsOK (b : Nat → Int) : Prop := (2 ≤ b 0 ∧ b 0 ≤ 5000) ∧ (0 ≤ b 1 ∧ b 1 ≤ 199) ∧ (1 ≤ b 2 ∧ b 2 ≤ 99) ∧ (0 ≤ b 3 ∧ b 3 ≤ 15) ∧ (-1 ≤ b 4 ∧ b 4 ≤ 199) ∧ (0 ≤ b 5 ∧ b 5 ≤ 9) ∧ (0 ≤ b 6 ∧ b 6 ≤ 199)
def GDok (D : gd_T) : Prop := (∀ x, -1 ≤ gF D x ∧ gF D x ≤ 199) ∧ (∀ x, gF D x ≠ -1 → 0 ≤ x ∧ x ≤ 9999) ∧ (0 ≤ gC D 0 ∧ gC D 0 ≤ 40) ∧ (0 ≤ gC D 1 ∧ gC D 1 ≤ 5) ∧ (0 ≤ gC D 2 ∧ gC D 2 ≤ 30) ∧ (-1 ≤ gC D 3 ∧ gC D 3 ≤ 199) ∧ (0 ≤ gC D 4 ∧ gC D 4 ≤ 6) ∧
  (∀ i, 0 ≤ i → i < gC D 1 → bsOK (gB D i)) ∧ (∀ w k, -1 ≤ gP D w k ∧ gP D w k ≤ 199) ∧ ∀ k i, k < 3 → 0 ≤ i → i < gC D 4 → 0 ≤ gS D k i ∧ gS D k i ≤ 199
/-- the base that counts among the first i, and among all -/
def cntR (b : Int → Nat → Int) (n : Int) : Nat → Int
  | 0 => -1
  | i + 1 => if b (i : Int) 0 ≤ n ∧ (cntR b n i = -1 ∨ b (cntR b n i) 0 < b (i : Int) 0) then (i : Int) else cntR b n i
def cnt (D : gd_T) (n : Int) : Int := cntR (gB D) n (gC D 1).toNat
theorem cntR_in (b : Int → Nat → Int) (n : Int) : ∀ i : Nat, cntR b n i = -1 ∨ (0 ≤ cntR b n i ∧ cntR b n i < i ∧ b (cntR b n i) 0 ≤ n)
  | 0 => Or.inl rfl
  | i + 1 => by
    unfold cntR
    split
    · rename_i h; exact Or.inr ⟨by omega, by omega, h.1⟩
    · rcases cntR_in b n i with h | h
      · exact Or.inl h
      · exact Or.inr ⟨h.1, by omega, h.2.2⟩
theorem cnt_in {D : gd_T} (hD : GDok D) {n : Int} (h : cnt D n ≠ -1) : 0 ≤ cnt D n ∧ cnt D n < gC D 1 ∧ gB D (cnt D n) 0 ≤ n ∧ bsOK (gB D (cnt D n)) := by
  have h2 := hD.2.2.2.1
  rcases cntR_in (gB D) n (gC D 1).toNat with q | q
  · exact absurd q h
  · have h3 : 0 ≤ cnt D n ∧ cnt D n < gC D 1 := ⟨q.1, by unfold cnt; omega⟩
    exact ⟨h3.1, h3.2, q.2.2, hD.2.2.2.2.2.2.2.1 _ h3.1 h3.2⟩
def oap (a b : Option (List Int)) : Option (List Int) := a.bind fun x => b.bind fun y => some (x ++ y)
def prF (D : gd_T) (rec : Int → Option (List Int)) (p m : Int) : Option (List Int) :=
  if gB D p 2 < m then none
  else if m = 1 ∧ landI (gB D p 3) 1 = 0 then some [gB D p 1]
  else if landI (gB D p 3) 2 ≠ 0 then oap (some [gB D p 1]) (rec m)
  else oap (rec m) (some [gB D p 1])
def jnF (D : gd_T) (p : Int) : List Int := if gB D p 4 = -1 then [] else [gB D p 4]
def nmB (D : gd_T) (rec : Int → Option (List Int)) (p q r : Int) : Option (List Int) :=
  if r = 0 then prF D rec p q
  else if gB D p 0 - r ≤ gB D p 5 then oap (oap (rec (gB D p 0 - r)) (some [gB D p 6])) (prF D rec p (q + 1))
  else if landI (gB D p 3) 8 ≠ 0 then oap (oap (rec r) (some (jnF D p))) (prF D rec p (q + 1))
  else if landI (gB D p 3) 4 ≠ 0 then oap (oap (rec r) (some (jnF D p))) (prF D rec p q)
  else oap (oap (prF D rec p q) (some (jnF D p))) (rec r)
def nmU (D : gd_T) (rec : Int → Option (List Int)) (n : Int) : Option (List Int) :=
  if gF D n ≠ -1 then some [gF D n]
  else if cnt D n = -1 then none
  else nmB D rec (cnt D n) (n / gB D (cnt D n) 0) (n % gB D (cnt D n) 0)
def nmF (D : gd_T) : Nat → Int → Option (List Int)
  | 0, _ => none
  | k + 1, n => nmU D (nmF D k) n
def nm (D : gd_T) (n : Int) : Option (List Int) := nmF D 41 n
-- how deep
def lm : Nat → Int
  | 0 => 0
  | k + 1 => if lm k < 10 then lm k + 1 else 2 * lm k - 2
theorem lm_nn : ∀ k, 0 ≤ lm k
  | 0 => Int.le_refl _
  | k + 1 => by
    have := lm_nn k
    unfold lm
    split <;> omega
theorem lm_40 : 9999 < lm 40 := by decide +kernel
/-- what a part of a number is -/
def chd (n c : Int) : Prop := 0 ≤ c ∧ c < n ∧ (c ≤ n / 2 + 1 ∨ c ≤ 9)
theorem chd_lm {n c : Int} {k : Nat} (h : chd n c) (hn : n < lm (k + 1)) : c < lm k := by
  obtain ⟨h1, h2, h3⟩ := h
  have := lm_nn k
  unfold lm at hn
  split at hn
  · omega
  · omega
theorem chd_of {n b : Int} (hb : 2 ≤ b) (hn : b ≤ n) : (chd n (n / b) ∧ 1 ≤ n / b) ∧ (n % b ≠ 0 → chd n (n / b + 1) ∧ chd n (n % b) ∧ 1 ≤ n % b ∧ (b - n % b ≤ 9 → chd n (b - n % b) ∧ 1 ≤ b - n % b)) := by
  have h1 := Int.emod_add_mul_ediv n b
  have h2 := Int.emod_nonneg n (show b ≠ 0 by omega)
  have h3 := Int.emod_lt_of_pos n (show 0 < b by omega)
  have h4 : 1 ≤ n / b := by
    have := Int.ediv_le_ediv (show 0 < b by omega) hn
    rwa [Int.ediv_self (by omega)] at this
  have h5 := Int.mul_le_mul_of_nonneg_right hb (show 0 ≤ n / b by omega)
  have h6 := Int.mul_le_mul_of_nonneg_left h4 (show 0 ≤ b by omega)
  unfold chd
  refine ⟨⟨⟨by omega, by omega, by omega⟩, h4⟩, fun q => ⟨⟨by omega, by omega, by omega⟩, ⟨by omega, by omega, by omega⟩, by omega, fun q2 => ⟨⟨by omega, by omega, by omega⟩, by omega⟩⟩⟩
theorem nmB_congr {D : gd_T} {rec rec' : Int → Option (List Int)} {p q r : Int} (h1 : rec q = rec' q) (h2 : r ≠ 0 → rec (q + 1) = rec' (q + 1) ∧ rec r = rec' r ∧ (gB D p 0 - r ≤ gB D p 5 → rec (gB D p 0 - r) = rec' (gB D p 0 - r))) : nmB D rec p q r = nmB D rec' p q r := by
  unfold nmB
  split
  · unfold prF; rw [h1]
  · rename_i hr
    obtain ⟨g1, g2, g3⟩ := h2 hr
    split
    · rename_i h3; unfold prF; rw [g1, g3 h3]
    · unfold prF; rw [h1, g1, g2]
theorem nmU_congr {D : gd_T} (hD : GDok D) {rec rec' : Int → Option (List Int)} {n : Int} (h : ∀ c, chd n c → rec c = rec' c) : nmU D rec n = nmU D rec' n := by
  unfold nmU
  split
  · rfl
  · split
    · rfl
    · rename_i _ hc
      obtain ⟨h1, h2, h3, h4⟩ := cnt_in hD hc
      have hb := h4.1
      have hl := h4.2.2.2.2.2.1
      have hh := chd_of hb.1 h3
      exact nmB_congr (h _ hh.1.1) fun hr => ⟨h _ (hh.2 hr).1, h _ (hh.2 hr).2.1, fun q => h _ ((hh.2 hr).2.2.2 (by omega)).1⟩
theorem nmF_stab {D : gd_T} (hD : GDok D) : ∀ (k : Nat) (n : Int), n < lm k → 0 ≤ n → nmF D (k + 1) n = nmF D k n
  | 0, n, h, h0 => by unfold lm at h; omega
  | k + 1, n, h, h0 => nmU_congr (rec := nmF D (k + 1)) (rec' := nmF D k) hD fun c hc => nmF_stab hD k c (chd_lm hc h) hc.1
theorem nm_unf {D : gd_T} (hD : GDok D) {n : Int} (h0 : 0 ≤ n) (h : n ≤ 9999) : nm D n = nmU D (nm D) n := by
  have h40 := lm_40
  exact nmU_congr (rec := nmF D 40) (rec' := nm D) hD fun c hc => (nmF_stab hD 40 c (by have := hc.2.1; omega) hc.1).symm
-- appended to what is in a row
def ext (ws : List Int) (o : Option (List Int)) : Option (List Int) := o.bind fun l => if ws.length + l.length ≤ 20 then some (ws ++ l) else none
theorem oap_some {a b : Option (List Int)} {l : List Int} (h : oap a b = some l) : ∃ x y, a = some x ∧ b = some y ∧ l = x ++ y := by
  cases a with
  | none => simp [oap] at h
  | some x => cases b with
    | none => simp [oap] at h
    | some y => exact ⟨x, y, rfl, rfl, by simp [oap] at h; exact h.symm⟩
theorem ext_oap (ws : List Int) (a b : Option (List Int)) : ext ws (oap a b) = (ext ws a).bind fun w => ext w b := by
  cases a with
  | none => rfl
  | some x => cases b with
    | none => simp only [oap, ext, Option.bind_some, Option.bind_none]; split <;> rfl
    | some y =>
      simp only [oap, ext, Option.bind_some, List.length_append]
      by_cases h : ws.length + x.length ≤ 20
      · rw [if_pos h, Option.bind_some, List.length_append, ← Nat.add_assoc, List.append_assoc]
      · rw [if_neg h, if_neg (by omega)]; rfl
theorem ext_one (ws : List Int) (x : Int) : ext ws (some [x]) = if ws.length < 20 then some (ws ++ [x]) else none := by
  show (if ws.length + 1 ≤ 20 then some (ws ++ [x]) else none) = _
  by_cases h : ws.length < 20
  · rw [if_pos h, if_pos (by omega)]
  · rw [if_neg h, if_neg (by omega)]
theorem ext_nil {ws : List Int} (h : ws.length ≤ 20) : ext ws (some []) = some ws := by
  show (if ws.length + 0 ≤ 20 then some (ws ++ []) else none) = _
  rw [if_pos (by omega), List.append_nil]
-- what names are made of
def wOK (l : List Int) : Prop := ∀ w ∈ l, 0 ≤ w ∧ w ≤ 199
theorem wOK.app {a b : List Int} (h1 : wOK a) (h2 : wOK b) : wOK (a ++ b) := fun w h => (List.mem_append.mp h).elim (h1 w) (h2 w)
theorem wOK.one {x : Int} (h : 0 ≤ x ∧ x ≤ 199) : wOK [x] := fun w hw => by rw [List.mem_singleton.mp hw]; exact h
def oOK (o : Option (List Int)) : Prop := ∀ l, o = some l → l ≠ [] ∧ wOK l
theorem oOK.oap {a b : Option (List Int)} (h1 : oOK a) (h2 : ∀ l, b = some l → wOK l) : oOK (oap a b) := by
  intro l h
  obtain ⟨x, y, rfl, rfl, rfl⟩ := oap_some h
  exact ⟨fun q => (h1 x rfl).1 (List.append_eq_nil_iff.mp q).1, (h1 x rfl).2.app (h2 y rfl)⟩
theorem oOK.none : oOK none := fun _ h => by cases h
theorem oOK.one {x : Int} (h : 0 ≤ x ∧ x ≤ 199) : oOK (some [x]) := fun l hl => by cases hl; exact ⟨List.cons_ne_nil _ _, wOK.one h⟩
theorem jn_ok {D : gd_T} {p : Int} (h : bsOK (gB D p)) : wOK (jnF D p) := by
  unfold jnF
  have := h.2.2.2.2.1
  split
  · intro w hw; cases hw
  · exact wOK.one (by omega)
theorem prF_ok {D : gd_T} {rec : Int → Option (List Int)} {p m : Int} (h : bsOK (gB D p)) (hr : oOK (rec m)) : oOK (prF D rec p m) := by
  unfold prF
  split
  · exact oOK.none
  · split
    · exact oOK.one h.2.1
    · split
      · exact (oOK.one h.2.1).oap fun l q => (hr l q).2
      · exact hr.oap fun l q => by cases q; exact wOK.one h.2.1
theorem nmU_ok {D : gd_T} (hD : GDok D) {rec : Int → Option (List Int)} (hr : ∀ m, oOK (rec m)) (n : Int) : oOK (nmU D rec n) := by
  unfold nmU
  split
  · exact oOK.one (by have := hD.1 n; omega)
  · split
    · exact oOK.none
    · rename_i _ hc
      obtain ⟨h1, h2, h3, h4⟩ := cnt_in hD hc
      have hp := fun m => prF_ok (rec := rec) (m := m) h4 (hr m)
      have hj : ∀ l, some (jnF D (cnt D n)) = some l → wOK l := fun l q => by cases q; exact jn_ok h4
      have hl : ∀ l, some [gB D (cnt D n) 6] = some l → wOK l := fun l q => by cases q; exact wOK.one h4.2.2.2.2.2.2
      unfold nmB
      split
      · exact hp _
      · split
        · exact ((hr _).oap hl).oap fun l q => (hp _ l q).2
        · split
          · exact ((hr _).oap hj).oap fun l q => (hp _ l q).2
          · split
            · exact ((hr _).oap hj).oap fun l q => (hp _ l q).2
            · exact ((hp _).oap hj).oap fun l q => (hr _ l q).2
theorem nmF_ok {D : gd_T} (hD : GDok D) : ∀ (k : Nat) (n : Int), oOK (nmF D k n)
  | 0, _ => oOK.none
  | k + 1, n => nmU_ok hD (nmF_ok hD k) n
theorem nm_ok {D : gd_T} (hD : GDok D) (n : Int) : oOK (nm D n) := nmF_ok hD 41 n
-- sayings
def lastW (l : List Int) : Int := l.getD (l.length - 1) 0
def fmF (D : gd_T) (l : List Int) (kind : Int) : Option (List Int) :=
  if gP D (lastW l) kind ≠ -1 then some (l.dropLast ++ [gP D (lastW l) kind])
  else if kind = 3 ∧ gC D 3 ≠ -1 then ext l (some [gC D 3])
  else some l
def nfF (D : gd_T) (ws : List Int) (n kind : Int) : Option (List Int) := (ext ws (nm D n)).bind fun l => fmF D l kind
def mlF (D : gd_T) : Nat → List Int → List Int
  | 0, l => l
  | i + 1, l => meltL (gS D 0 (i : Int)) (gS D 1 (i : Int)) (gS D 2 (i : Int)) (mlF D i l)
def endF (D : gd_T) (l : List Int) : List Int := mlF D (gC D 4).toNat l
def endO (D : gd_T) (o : Option (List Int)) : List Int := match o with
  | some l => endF D l
  | none => []
/-- the saying of a number for a kind; none: no word -/
def spF (D : gd_T) (n kind : Int) : List Int := endO D (nfF D [] n kind)
def frF (D : gd_T) (one other group : Int) : List Int := endO D ((nfF D [] one group).bind fun l => nfF D l other 3)
