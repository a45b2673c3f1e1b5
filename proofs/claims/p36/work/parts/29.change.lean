/-! Changes of a grammar. -/
def dCs (D : gd_T) (k : Nat) (v : Int) : gd_T := (gF D, gB D, gP D, gS D, fun j => if j = k then v else gC D j)
def dBs (D : gd_T) (p : Int) (b : Nat → Int) : gd_T := (gF D, (fun i => if i = p then b else gB D i), gP D, gS D, gC D)
def bsN (x y z v : Int) : Nat → Int
  | 0 => x
  | 1 => y
  | 2 => z
  | 3 => v
  | 4 => -1
  | _ => 0
def dBase (D : gd_T) (b : Nat → Int) : gd_T := dCs (dBs D (gC D 1) b) 1 (gC D 1 + 1)
def dSeam (D : gd_T) (x y z : Int) : gd_T := (gF D, gB D, gP D, (fun k i => if i = gC D 4 then (if k = 0 then x else if k = 1 then y else z) else gS D k i), fun j => if j = 4 then gC D 4 + 1 else gC D j)
def dClr (D : gd_T) : gd_T := ((fun _ => -1), gB D, (fun _ _ => -1), gS D, fun j => if j = 3 then -1 else 0)
def dAt (D : gd_T) (x v c : Int) : gd_T := (ftS (gF D) x v, gB D, gP D, gS D, fun j => if j = 0 then c else gC D j)
def dFm (D : gd_T) (w k v c : Int) : gd_T := (gF D, gB D, fmS (gP D) w k v, gS D, fun j => if j = 2 then c else gC D j)
theorem dBase_ok {D : gd_T} (hD : GDok D) {b : Nat → Int} (hb : bsOK b) (hn : gC D 1 < 5) : GDok (dBase D b) := by
  obtain ⟨h1, h2, h3, h4, h5, h6, h7, h8, h9, h10⟩ := hD
  refine ⟨h1, h2, h3, ?_, h5, h6, h7, ?_, h9, h10⟩
  · show 0 ≤ gC D 1 + 1 ∧ gC D 1 + 1 ≤ 5; omega
  · intro i g1 g2
    have g3 : i < gC D 1 + 1 := g2
    show bsOK (if i = gC D 1 then b else gB D i)
    by_cases q : i = gC D 1
    · rw [if_pos q]; exact hb
    · rw [if_neg q]; exact h8 i g1 (by omega)
theorem dBs_ok {D : gd_T} (hD : GDok D) {p : Int} {b : Nat → Int} (hb : bsOK b) : GDok (dBs D p b) := by
  obtain ⟨h1, h2, h3, h4, h5, h6, h7, h8, h9, h10⟩ := hD
  refine ⟨h1, h2, h3, h4, h5, h6, h7, ?_, h9, h10⟩
  intro i g1 g2
  show bsOK (if i = p then b else gB D i)
  by_cases q : i = p
  · rw [if_pos q]; exact hb
  · rw [if_neg q]; exact h8 i g1 g2
theorem dSeam_ok {D : gd_T} (hD : GDok D) {x y z : Int} (hx : 0 ≤ x ∧ x ≤ 199) (hy : 0 ≤ y ∧ y ≤ 199) (hz : 0 ≤ z ∧ z ≤ 199) (hn : gC D 4 < 6) : GDok (dSeam D x y z) := by
  obtain ⟨h1, h2, h3, h4, h5, h6, h7, h8, h9, h10⟩ := hD
  refine ⟨h1, h2, h3, h4, h5, h6, ?_, h8, h9, ?_⟩
  · show 0 ≤ gC D 4 + 1 ∧ gC D 4 + 1 ≤ 6; omega
  · intro k i g1 g2 g3
    have g4 : i < gC D 4 + 1 := g3
    show 0 ≤ (if i = gC D 4 then (if k = 0 then x else if k = 1 then y else z) else gS D k i) ∧ (if i = gC D 4 then (if k = 0 then x else if k = 1 then y else z) else gS D k i) ≤ 199
    by_cases q : i = gC D 4
    · rw [if_pos q]; split
      · exact hx
      · split
        · exact hy
        · exact hz
    · rw [if_neg q]; exact h10 k i g1 g2 (by omega)
theorem dClr_ok {D : gd_T} (hD : GDok D) : GDok (dClr D) :=
  ⟨fun x => (by decide : (-1 : Int) ≤ -1 ∧ (-1 : Int) ≤ 199), fun x h => absurd rfl h, (by decide : (0 : Int) ≤ 0 ∧ (0 : Int) ≤ 40), (by decide : (0 : Int) ≤ 0 ∧ (0 : Int) ≤ 5), (by decide : (0 : Int) ≤ 0 ∧ (0 : Int) ≤ 30), (by decide : (-1 : Int) ≤ -1 ∧ (-1 : Int) ≤ 199), (by decide : (0 : Int) ≤ 0 ∧ (0 : Int) ≤ 6),
    fun i h1 h2 => absurd h2 (by show ¬ i < 0; omega), fun _ _ => (by decide : (-1 : Int) ≤ -1 ∧ (-1 : Int) ≤ 199), fun k i _ h1 h2 => absurd h2 (by show ¬ i < 0; omega)⟩
theorem dOrd_ok {D : gd_T} (hD : GDok D) {v : Int} (hv : -1 ≤ v ∧ v ≤ 199) : GDok (dCs D 3 v) := by
  obtain ⟨h1, h2, h3, h4, h5, h6, h7, h8, h9, h10⟩ := hD
  exact ⟨h1, h2, h3, h4, h5, hv, h7, h8, h9, h10⟩
theorem dAt_ok {D : gd_T} (hD : GDok D) {x v c : Int} (hx : 0 ≤ x ∧ x ≤ 9999) (hv : -1 ≤ v ∧ v ≤ 199) (hc : 0 ≤ c ∧ c ≤ 40) : GDok (dAt D x v c) := by
  obtain ⟨h1, h2, h3, h4, h5, h6, h7, h8, h9, h10⟩ := hD
  refine ⟨fun y => ?_, fun y hy => ?_, hc, h4, h5, h6, h7, h8, h9, h10⟩
  · show -1 ≤ (if y = x then v else gF D y) ∧ (if y = x then v else gF D y) ≤ 199
    split
    · exact hv
    · exact h1 y
  · have h : (if y = x then v else gF D y) ≠ -1 := hy
    by_cases q : y = x
    · omega
    · rw [if_neg q] at h; exact h2 y h
theorem dDrop_ok {D : gd_T} (hD : GDok D) {x c : Int} (hc : 0 ≤ c ∧ c ≤ 40) : GDok (dAt D x (-1) c) := by
  obtain ⟨h1, h2, h3, h4, h5, h6, h7, h8, h9, h10⟩ := hD
  refine ⟨fun y => ?_, fun y hy => ?_, hc, h4, h5, h6, h7, h8, h9, h10⟩
  · show -1 ≤ (if y = x then -1 else gF D y) ∧ (if y = x then -1 else gF D y) ≤ 199
    split
    · omega
    · exact h1 y
  · have h : (if y = x then -1 else gF D y) ≠ -1 := hy
    by_cases q : y = x
    · rw [if_pos q] at h; omega
    · rw [if_neg q] at h; exact h2 y h
theorem dFm_ok {D : gd_T} (hD : GDok D) {w k v c : Int} (hv : 0 ≤ v ∧ v ≤ 199) (hc : 0 ≤ c ∧ c ≤ 30) : GDok (dFm D w k v c) := by
  obtain ⟨h1, h2, h3, h4, h5, h6, h7, h8, h9, h10⟩ := hD
  refine ⟨h1, h2, h3, h4, hc, h6, h7, h8, fun w' k' => ?_, h10⟩
  show -1 ≤ (if w' = w ∧ k' = k then v else gP D w' k') ∧ (if w' = w ∧ k' = k then v else gP D w' k') ≤ 199
  split
  · omega
  · exact h9 w' k'
/-- the least number of a word, as both sides find it -/
def LW_ (D : gd_T) (x r : Int) : Prop := (r = -1 ∧ (∀ n, gF D n ≠ x) ∧ ∀ i, 0 ≤ i → i < gC D 1 → gB D i 1 ≠ x) ∨
  (((gF D r = x) ∨ ∃ i, 0 ≤ i ∧ i < gC D 1 ∧ gB D i 1 = x ∧ r = gB D i 0) ∧ (∀ n, gF D n = x → r ≤ n) ∧ ∀ i, 0 ≤ i → i < gC D 1 → gB D i 1 = x → r ≤ gB D i 0)
theorem LW_one {D : gd_T} {x r r2 : Int} (h : LW_ D x r) (h2 : LW_ D x r2) : r = r2 := by
  rcases h with ⟨a1, a2, a3⟩ | ⟨a1, a2, a3⟩ <;> rcases h2 with ⟨b1, b2, b3⟩ | ⟨b1, b2, b3⟩
  · omega
  · rcases b1 with q | ⟨i, q1, q2, q3, q4⟩
    · exact absurd q (a2 _)
    · exact absurd q3 (a3 i q1 q2)
  · rcases a1 with q | ⟨i, q1, q2, q3, q4⟩
    · exact absurd q (b2 _)
    · exact absurd q3 (b3 i q1 q2)
  · have g1 : r ≤ r2 := by
      rcases b1 with q | ⟨i, q1, q2, q3, q4⟩
      · exact a2 _ q
      · rw [q4]; exact a3 i q1 q2 q3
    have g2 : r2 ≤ r := by
      rcases a1 with q | ⟨i, q1, q2, q3, q4⟩
      · exact b2 _ q
      · rw [q4]; exact b3 i q1 q2 q3
    omega
def LWm (D : gd_T) (x m l : Int) : Prop := (l = -1 ∧ (∀ n, gF D n ≠ x) ∧ ∀ i, 0 ≤ i → i < m → gB D i 1 ≠ x) ∨ (0 ≤ l ∧ ((gF D l = x) ∨ ∃ i, 0 ≤ i ∧ i < gC D 1 ∧ gB D i 1 = x ∧ l = gB D i 0) ∧ (∀ n, gF D n = x → l ≤ n) ∧ ∀ i, 0 ≤ i → i < m → gB D i 1 = x → l ≤ gB D i 0)
def frG (σ σ9 : sv_G) (G : Nat) : Prop := ∀ b k, b < G ∨ G + 17 ≤ b → σ9 b k = σ b k
set_option maxRecDepth 100000 in
set_option maxHeartbeats 8000000 in
theorem kX4_hasBase {E : sv_E} {σ : sv_G} {G : Nat} {D : gd_T} (hG : shp G = (4, 0)) (hD : GDok D) (hC : RC σ G D) {x : Int} (hx : -2147483648 ≤ x ∧ x ≤ 2147483647) : CT E MX4_hasBase 0 [(vR G), (vI x)] σ (PI fun r σ9 => σ9 = σ ∧ ((r = 1 ∧ ∃ i, 0 ≤ i ∧ i < gC D 1 ∧ gB D i 0 = x) ∨ (r = 0 ∧ ∀ i, 0 ≤ i → i < gC D 1 → gB D i 0 ≠ x))) := by
  refine CT.of (RX4, cX4_hasBase, 3, (some .boolean), [], 0, 0, 0) rfl moX4_hasBase (Nat.le_of_ble_eq_true rfl) (ls0 := [some (vR G), some (vI x), none]) rfl ?_
  intro X Q C hR
  have hC0 := id hC
  obtain ⟨hA, hF, hn0, hn1, hB, hFo, hFf, hn2, ho, hns, hSm⟩ := hC
  have hnb := hD.2.2.2.1
  refine s_iconst C dX4_hasBase_0 ?_
  refine s_istore_n (ls2 := [some (vR G), some (vI x), some (vI 0)]) C dX4_hasBase_1 (by decide) rfl ?_
  have L2 : ∀ (n : Nat) (m : Int), (5 - m).toNat < n → (0 ≤ m ∧ m ≤ gC D 1) → (∀ i, 0 ≤ i → i < m → gB D i 0 ≠ x) → SW X E Q 0 0 2 [some (vR G), some (vI x), some (vI m)] [] σ := by
    intro n
    induction n with
    | zero => intro m hm; exact absurd hm (Nat.not_lt_zero _)
    | succ n ih2 =>
      intro m hm2 i2_0 i2_1
      refine s_iload_n C dX4_hasBase_2 rfl ?_
      refine s_aload_n C dX4_hasBase_3 rfl ?_
      refine s_getI (c := 4) (kz := 2) C fl_4_24 dX4_hasBase_4 hG rfl rfl (fun g4 => ?_)
      refine s_icmp_ge (tgt := 31) C dX4_hasBase_7 (by decide) (by omega) (by omega) (fun c7 => ?_) (fun c7 => ?_)
      · refine s_iconst C dX4_hasBase_31 ?_
        refine s_zret C hR dX4_hasBase_32 rfl (by omega) ⟨_, rfl, ?_⟩ (by decide)
        exact ⟨rfl, Or.inr ⟨rfl, fun i h1 h2 => i2_1 i h1 (by omega)⟩⟩
      · refine s_aload_n C dX4_hasBase_10 rfl ?_
        refine s_getR (c := 4) C fl_4_20 dX4_hasBase_11 hG rfl (rfc_4_1 hG) ?_
        refine s_iload_n C dX4_hasBase_14 rfl ?_
        refine s_aald (t := 4) C dX4_hasBase_15 (shc_4_1 hG) (by decide) (by omega) (rfa_14 (shc_4_1 hG) (show (m).toNat < 5 by omega)) ?_
        refine s_getI (c := 1) (kz := 0) C fl_4_56 dX4_hasBase_16 (sha_14 (shc_4_1 hG) (show (m).toNat < 5 by omega)) rfl rfl (fun g16 => ?_)
        have b0 : σ (G + 4 + 8 + (m).toNat) 0 = gB D m 0 := hB m 0 (by omega) (by omega) (by omega)
        refine s_iload_n C dX4_hasBase_19 rfl ?_
        refine s_icmp_ne (tgt := 25) C dX4_hasBase_20 (by decide) (by omega) (by omega) (fun c20 => ?_) (fun c20 => ?_)
        · obtain ⟨x2_25, ex2_25⟩ : ∃ y : Int, y = m + 1 := ⟨_, rfl⟩
          refine s_iinc (z2 := x2_25) (ls2 := [some (vR G), some (vI x), some (vI x2_25)]) C dX4_hasBase_25 (by decide) rfl ex2_25 rfl ?_
          refine s_goto (tgt := 2) C dX4_hasBase_28 (by decide) ?_
          refine ih2 x2_25 (by omega) (by first | assumption | omega) ?_
          · intro i h1 h2
            rcases Int.lt_or_le i m with q | q
            · exact i2_1 i h1 q
            · rw [show i = m by omega]; omega
        · refine s_iconst C dX4_hasBase_23 ?_
          refine s_zret C hR dX4_hasBase_24 rfl (by omega) ⟨_, rfl, ?_⟩ (by decide)
          exact ⟨rfl, Or.inl ⟨rfl, m, by omega, by omega, by omega⟩⟩
  refine L2 _ 0 (Nat.lt_succ_self _) (by first | assumption | omega) ?_
  · intro i h1 h2; omega
set_option maxRecDepth 100000 in
set_option maxHeartbeats 8000000 in
theorem kX4_addBase {E : sv_E} {σ : sv_G} {G : Nat} {D : gd_T} (hG : shp G = (4, 0)) (hD : GDok D) (hC : RC σ G D) {x y z v : Int} (hx : 2 ≤ x ∧ x ≤ 5000) (hy : 0 ≤ y ∧ y ≤ 199) (hz : 1 ≤ z ∧ z ≤ 99) (hv : 0 ≤ v ∧ v ≤ 15) (hn : gC D 1 < 5) : CT E MX4_addBase 1 [(vR G), (vI x), (vI y), (vI z), (vI v)] σ (PI fun r σ9 => r = gC D 1 ∧ RC σ9 G (dBase D (bsN x y z v)) ∧ frG σ σ9 G) := by
  refine CT.of (RX4, cX4_addBase, 6, (some .int), [], 1, 0, 0) rfl moX4_addBase (Nat.le_of_ble_eq_true rfl) (ls0 := [some (vR G), some (vI x), some (vI y), some (vI z), some (vI v), none]) rfl ?_
  intro X Q C hR
  have hC0 := id hC
  obtain ⟨hA, hF, hn0, hn1, hB, hFo, hFf, hn2, ho, hns, hSm⟩ := hC
  have hnb := hD.2.2.2.1
  refine s_aload_n C dX4_addBase_0 rfl ?_
  refine s_getI (c := 4) (kz := 2) C fl_4_24 dX4_addBase_1 hG rfl rfl (fun g1 => ?_)
  refine s_topI (fun x5_4 ex5_4 => ?_)
  refine s_istore (ls2 := [some (vR G), some (vI x), some (vI y), some (vI z), some (vI v), some (vI x5_4)]) C dX4_addBase_4 (by decide) rfl ?_
  refine s_iload C dX4_addBase_6 rfl ?_
  refine s_iconst C dX4_addBase_8 ?_
  refine s_icmp_ge (tgt := 37) C dX4_addBase_9 (by decide) (by omega) (by omega) (fun c9 => ?_) (fun c9 => ?_)
  · exfalso; omega -- done
  · refine s_aload_n C dX4_addBase_12 rfl ?_
    refine s_getR (c := 4) C fl_4_20 dX4_addBase_13 hG rfl (rfc_4_1 hG) ?_
    refine s_iload C dX4_addBase_16 rfl ?_
    refine s_aald (t := 4) C dX4_addBase_18 (shc_4_1 hG) (by decide) (by omega) (rfa_14 (shc_4_1 hG) (show (x5_4).toNat < 5 by omega)) ?_
    refine s_iload_n C dX4_addBase_19 rfl ?_
    refine s_iload_n C dX4_addBase_20 rfl ?_
    refine s_iload_n C dX4_addBase_21 rfl ?_
    refine s_iload C dX4_addBase_22 rfl ?_
    refine s_cN4v C dX4_addBase_24 lkX4_59 moX1_start mvX1_start (kX1_start (by exact (sha_14 (shc_4_1 hG) (show (x5_4).toNat < 5 by omega))) (by omega) (by omega) (by omega) (by omega)) (sha_14 (shc_4_1 hG) (show (x5_4).toNat < 5 by omega)) ⟨_, _, rfl⟩ (by decide) (Nat.le_of_ble_eq_true rfl) rfl (by decide) (fun σ_24 hp24 => ?_)
    obtain ⟨p0, p1, p2, p3, p4, p5, p6, pf⟩ := hp24
    have ff : ∀ b k, b ≠ G + 4 + 8 + (x5_4).toNat → σ_24 b k = σ b k := fun b k h => pf b k h
    have e24 : σ_24 G 2 = gC D 1 := by rw [ff _ _ (by omega)]; exact hn1
    refine s_aload_n C dX4_addBase_27 rfl ?_
    refine s_dup C dX4_addBase_28 rfl ?_
    refine s_getI (c := 4) (kz := 2) C fl_4_24 dX4_addBase_29 hG rfl rfl (fun g29 => ?_)
    refine s_iconst C dX4_addBase_32 ?_
    refine s_iadd C dX4_addBase_33 ?_
    refine s_putI (c := 4) (kz := 2) C fl_4_24 dX4_addBase_34 hG rfl (fun _ _ h9 => by cases h9; rfl) (by omega) rfl ?_
    refine s_nameG (fun σ_34 hσ_34 => ?_)
    refine s_iload C dX4_addBase_37 rfl ?_
    refine s_iret C hR dX4_addBase_39 rfl ⟨_, rfl, ?_⟩ (by decide)
    have e2 : σ_24 G 2 = gC D 1 := by rw [ff _ _ (by omega)]; exact hn1
    have f3 : ∀ b k, b ≠ G → b ≠ G + 4 + 8 + (x5_4).toNat → σ_34 b k = σ b k := fun b k h1 h2 => by rw [hσ_34, up_a h1, ff b k h2]
    have f4 : ∀ k, k ≠ 2 → σ_34 G k = σ G k := fun k h => by rw [hσ_34, up_k h, ff _ _ (by omega)]
    refine ⟨by omega, ⟨hA.fr (fun k => f3 _ k (by omega) (by omega)) (fun k => f3 _ k (by omega) (by omega)), hF.fr (fun k => f3 _ k (by omega) (by omega)) (fun k => f3 _ k (by omega) (by omega)) (fun k => f3 _ k (by omega) (by omega)), by rw [f3 _ _ (by omega) (by omega)]; exact hn0, ?_, ?_, hFo.fr (fun k => f3 _ k (by omega) (by omega)) (fun k => f3 _ k (by omega) (by omega)) (fun k => f3 _ k (by omega) (by omega)), hFf.fr (fun k => f3 _ k (by omega) (by omega)) (fun k => f3 _ k (by omega) (by omega)) (fun k => f3 _ k (by omega) (by omega)) (fun k => f3 _ k (by omega) (by omega)), by rw [f3 _ _ (by omega) (by omega)]; exact hn2, by rw [f4 _ (by decide)]; exact ho, by rw [f4 _ (by decide)]; exact hns, fun i h1 h2 => by rw [f3 _ _ (by omega) (by omega), f3 _ _ (by omega) (by omega), f3 _ _ (by omega) (by omega)]; exact hSm i h1 h2⟩, fun b k h => f3 b k (by omega) (by omega)⟩
    · rw [hσ_34, up_s, e2]; rfl
    · intro i k h1 h2 h3
      have h4 : i < gC D 1 + 1 := h2
      show _ = (if i = gC D 1 then bsN x y z v else gB D i) k
      by_cases q : i = gC D 1
      · rw [if_pos q, hσ_34, up_a (by omega), q, ← hn1, ← ex5_4]
        match k, h3 with
        | 0, _ => exact p0
        | 1, _ => exact p1
        | 2, _ => exact p2
        | 3, _ => exact p3
        | 4, _ => exact p4
        | 5, _ => exact p5
        | 6, _ => exact p6
      · rw [if_neg q, f3 _ _ (by omega) (by omega)]; exact hB i k h1 (by omega) h3
set_option maxRecDepth 100000 in
set_option maxHeartbeats 8000000 in
theorem kX4_addSeam {E : sv_E} {σ : sv_G} {G : Nat} {D : gd_T} (hG : shp G = (4, 0)) (hD : GDok D) (hC : RC σ G D) {x y z : Int} (hx : 0 ≤ x ∧ x ≤ 199) (hy : 0 ≤ y ∧ y ≤ 199) (hz : 0 ≤ z ∧ z ≤ 199) (hn : gC D 4 < 6) : CT E MX4_addSeam 0 [(vR G), (vI x), (vI y), (vI z)] σ (PV fun σ9 => RC σ9 G (dSeam D x y z) ∧ frG σ σ9 G) := by
  refine CT.of (RX4, cX4_addSeam, 4, none, [], 0, 0, 0) rfl moX4_addSeam (Nat.le_of_ble_eq_true rfl) (ls0 := [some (vR G), some (vI x), some (vI y), some (vI z)]) rfl ?_
  intro X Q C hR
  have hC0 := id hC
  obtain ⟨hA, hF, hn0, hn1, hB, hFo, hFf, hn2, ho, hns, hSm⟩ := hC
  have hnb := hD.2.2.2.1
  have hn4 := hD.2.2.2.2.2.2.1
  refine s_aload_n C dX4_addSeam_0 rfl ?_
  refine s_getI (c := 4) (kz := 8) C fl_4_48 dX4_addSeam_1 hG rfl rfl (fun g1 => ?_)
  refine s_bipush C dX4_addSeam_4 (by decide) ?_
  refine s_icmp_ge (tgt := 49) C dX4_addSeam_6 (by decide) (by omega) (by omega) (fun c6 => ?_) (fun c6 => ?_)
  · exfalso; omega -- done
  · refine s_aload_n C dX4_addSeam_9 rfl ?_
    refine s_getR (c := 4) C fl_4_38 dX4_addSeam_10 hG rfl (rfc_4_5 hG) ?_
    refine s_aload_n C dX4_addSeam_13 rfl ?_
    refine s_getI (c := 4) (kz := 8) C fl_4_48 dX4_addSeam_14 hG rfl rfl (fun g14 => ?_)
    refine s_iload_n C dX4_addSeam_17 rfl ?_
    refine s_iast C dX4_addSeam_18 (shc_4_5 hG) (by omega) (by omega) ?_
    refine s_nameG (fun σ_18 hσ_18 => ?_)
    have z18 : σ_18 G 8 = gC D 4 := by rw [hσ_18, up_a (by omega)]; exact hns
    refine s_aload_n C dX4_addSeam_19 rfl ?_
    refine s_getR (c := 4) C fl_4_42 dX4_addSeam_20 hG rfl (rfc_4_6 hG) ?_
    refine s_aload_n C dX4_addSeam_23 rfl ?_
    refine s_getI (c := 4) (kz := 8) C fl_4_48 dX4_addSeam_24 hG rfl rfl (fun g24 => ?_)
    refine s_iload_n C dX4_addSeam_27 rfl ?_
    refine s_iast C dX4_addSeam_28 (shc_4_6 hG) (by omega) (by omega) ?_
    refine s_nameG (fun σ_28 hσ_28 => ?_)
    have z28 : σ_28 G 8 = gC D 4 := by rw [hσ_28, up_a (by omega)]; exact z18
    refine s_aload_n C dX4_addSeam_29 rfl ?_
    refine s_getR (c := 4) C fl_4_45 dX4_addSeam_30 hG rfl (rfc_4_7 hG) ?_
    refine s_aload_n C dX4_addSeam_33 rfl ?_
    refine s_getI (c := 4) (kz := 8) C fl_4_48 dX4_addSeam_34 hG rfl rfl (fun g34 => ?_)
    refine s_iload_n C dX4_addSeam_37 rfl ?_
    refine s_iast C dX4_addSeam_38 (shc_4_7 hG) (by omega) (by omega) ?_
    refine s_nameG (fun σ_38 hσ_38 => ?_)
    have z38 : σ_38 G 8 = gC D 4 := by rw [hσ_38, up_a (by omega)]; exact z28
    refine s_aload_n C dX4_addSeam_39 rfl ?_
    refine s_dup C dX4_addSeam_40 rfl ?_
    refine s_getI (c := 4) (kz := 8) C fl_4_48 dX4_addSeam_41 hG rfl rfl (fun g41 => ?_)
    refine s_iconst C dX4_addSeam_44 ?_
    refine s_iadd C dX4_addSeam_45 ?_
    refine s_putI (c := 4) (kz := 8) C fl_4_48 dX4_addSeam_46 hG rfl (fun _ _ h9 => by cases h9; rfl) (by omega) rfl ?_
    refine s_nameG (fun σ_46 hσ_46 => ?_)
    refine s_vret C hR dX4_addSeam_49 rfl ⟨rfl, ?_⟩ (by decide)
    rw [hns] at hσ_18
    rw [z18] at hσ_28
    rw [z28] at hσ_38
    rw [z38] at hσ_46
    have f3 : ∀ b k, b ≠ G → b ≠ G + 9 → b ≠ G + 10 → b ≠ G + 11 → σ_46 b k = σ b k := fun b k h1 h2 h3 h4 => by rw [hσ_46, up_a h1, hσ_38, up_a h4, hσ_28, up_a h3, hσ_18, up_a h2]
    have f4 : ∀ k, k ≠ 8 → σ_46 G k = σ G k := fun k h => by rw [hσ_46, up_k h, hσ_38, up_a (by omega), hσ_28, up_a (by omega), hσ_18, up_a (by omega)]
    refine ⟨⟨hA.fr (fun k => f3 _ k (by omega) (by omega) (by omega) (by omega)) (fun k => f3 _ k (by omega) (by omega) (by omega) (by omega)), hF.fr (fun k => f3 _ k (by omega) (by omega) (by omega) (by omega)) (fun k => f3 _ k (by omega) (by omega) (by omega) (by omega)) (fun k => f3 _ k (by omega) (by omega) (by omega) (by omega)), by rw [f3 _ _ (by omega) (by omega) (by omega) (by omega)]; exact hn0, by rw [f4 _ (by decide)]; exact hn1, fun i k h1 h2 h3 => by rw [f3 _ _ (by omega) (by omega) (by omega) (by omega)]; exact hB i k h1 h2 h3, hFo.fr (fun k => f3 _ k (by omega) (by omega) (by omega) (by omega)) (fun k => f3 _ k (by omega) (by omega) (by omega) (by omega)) (fun k => f3 _ k (by omega) (by omega) (by omega) (by omega)), hFf.fr (fun k => f3 _ k (by omega) (by omega) (by omega) (by omega)) (fun k => f3 _ k (by omega) (by omega) (by omega) (by omega)) (fun k => f3 _ k (by omega) (by omega) (by omega) (by omega)) (fun k => f3 _ k (by omega) (by omega) (by omega) (by omega)), by rw [f3 _ _ (by omega) (by omega) (by omega) (by omega)]; exact hn2, by rw [f4 _ (by decide)]; exact ho, ?_, ?_⟩, fun b k h => f3 b k (by omega) (by omega) (by omega) (by omega)⟩
    · rw [hσ_46, up_s]; rfl
    · intro i h1 h2
      have h4 : i < gC D 4 + 1 := h2
      show _ = (if i = gC D 4 then x else gS D 0 i) ∧ _ = (if i = gC D 4 then y else gS D 1 i) ∧ _ = (if i = gC D 4 then z else gS D 2 i)
      rw [hσ_46, up_a (by omega), up_a (by omega), up_a (by omega), hσ_38, up_a (by omega), up_a (by omega), up_i, hσ_28, up_a (by omega), up_i, up_a (by omega), hσ_18, up_i, up_a (by omega), up_a (by omega)]
      by_cases q : i = gC D 4
      · rw [if_pos q, if_pos q, if_pos q, if_pos q, if_pos q, if_pos q]; exact ⟨rfl, rfl, rfl⟩
      · rw [if_neg q, if_neg q, if_neg q, if_neg q, if_neg q, if_neg q]; exact hSm i h1 (by omega)
set_option maxRecDepth 100000 in
set_option maxHeartbeats 8000000 in
theorem kX4_clear {E : sv_E} {σ : sv_G} {G : Nat} {D : gd_T} (hG : shp G = (4, 0)) (hD : GDok D) (hC : RC σ G D) : CT E MX4_clear 0 [(vR G)] σ (PV fun σ9 => RC σ9 G (dClr D) ∧ frG σ σ9 G) := by
  refine CT.of (RX4, cX4_clear, 1, none, [], 0, 0, 0) rfl moX4_clear (Nat.le_of_ble_eq_true rfl) (ls0 := [some (vR G)]) rfl ?_
  intro X Q C hR
  refine s_aload_n C dX4_clear_0 rfl ?_
  refine s_getR (c := 4) C fl_4_12 dX4_clear_1 hG rfl (rfc_4_0 hG) ?_
  refine s_iconst C dX4_clear_4 ?_
  refine s_putI (c := 0) (kz := 2) C fl_4_52 dX4_clear_5 (shc_4_0 hG) rfl (fun _ _ h9 => by cases h9; rfl) (by omega) rfl ?_
  refine s_nameG (fun σ_5 hσ_5 => ?_)
  refine s_aload_n C dX4_clear_8 rfl ?_
  refine s_iconst C dX4_clear_9 ?_
  refine s_putI (c := 4) (kz := 2) C fl_4_24 dX4_clear_10 hG rfl (fun _ _ h9 => by cases h9; rfl) (by omega) rfl ?_
  refine s_nameG (fun σ_10 hσ_10 => ?_)
  refine s_aload_n C dX4_clear_13 rfl ?_
  refine s_getR (c := 4) C fl_4_31 dX4_clear_14 hG rfl (rfc_4_3 hG) ?_
  refine s_iconst C dX4_clear_17 ?_
  refine s_putI (c := 3) (kz := 3) C fl_4_55 dX4_clear_18 (shc_4_3 hG) rfl (fun _ _ h9 => by cases h9; rfl) (by omega) rfl ?_
  refine s_nameG (fun σ_18 hσ_18 => ?_)
  refine s_aload_n C dX4_clear_21 rfl ?_
  refine s_iconst C dX4_clear_22 ?_
  refine s_putI (c := 4) (kz := 4) C fl_4_35 dX4_clear_23 hG rfl (fun _ _ h9 => by cases h9; rfl) (by omega) rfl ?_
  refine s_nameG (fun σ_23 hσ_23 => ?_)
  refine s_aload_n C dX4_clear_26 rfl ?_
  refine s_iconst C dX4_clear_27 ?_
  refine s_putI (c := 4) (kz := 8) C fl_4_48 dX4_clear_28 hG rfl (fun _ _ h9 => by cases h9; rfl) (by omega) rfl ?_
  refine s_nameG (fun σ_28 hσ_28 => ?_)
  refine s_vret C hR dX4_clear_31 rfl ⟨rfl, ?_⟩ (by decide)
  have f3 : ∀ b k, b ≠ G → b ≠ G + 1 → b ≠ G + 5 → σ_28 b k = σ b k := fun b k h1 h2 h3 => by rw [hσ_28, up_a h1, hσ_23, up_a h1, hσ_18, up_a h3, hσ_10, up_a h1, hσ_5, up_a h2]
  have g1 : σ_28 (G + 1) 2 = 0 := by rw [hσ_28, up_a (by omega), hσ_23, up_a (by omega), hσ_18, up_a (by omega), hσ_10, up_a (by omega), hσ_5, up_s]
  have g2 : σ_28 (G + 5) 3 = 0 := by rw [hσ_28, up_a (by omega), hσ_23, up_a (by omega), hσ_18, up_s]
  have g3 : σ_28 G 2 = 0 := by rw [hσ_28, up_k (by decide), hσ_23, up_k (by decide), hσ_18, up_a (by omega), hσ_10, up_s]
  have g4 : σ_28 G 4 = -1 := by rw [hσ_28, up_k (by decide), hσ_23, up_s]
  have g5 : σ_28 G 8 = 0 := by rw [hσ_28, up_s]
  exact ⟨⟨⟨by omega, by omega, fun i j h1 h2 h3 => by omega⟩, ⟨fun i h1 h2 => by omega, fun x q => absurd rfl q⟩, g1, g3, fun i k h1 h2 _ => absurd (show i < 0 from h2) (by omega), ⟨by omega, by omega, fun i j h1 h2 h3 => by omega⟩, ⟨fun i h1 h2 => by omega, fun w k q => absurd rfl q⟩, g2, g4, g5, fun i h1 h2 => absurd (show i < 0 from h2) (by omega)⟩, fun b k h => f3 b k (by omega) (by omega) (by omega)⟩
