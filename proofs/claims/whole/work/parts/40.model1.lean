/-! The model: its grammars. -/
def yn (r : Int) (p : Prop) : Prop := (r = 1 ∧ p) ∨ (r = 0 ∧ ¬ p)
theorem yn.b {r : Int} {p : Prop} (h : yn r p) : r = 0 ∨ r = 1 := h.elim (fun q => Or.inr q.1) (fun q => Or.inl q.1)
theorem yn.y {r : Int} {p : Prop} (h : yn r p) (hr : r ≠ 0) : p := h.elim (fun q => q.2) (fun q => absurd q.1 hr)
theorem yn.n {r : Int} {p : Prop} (h : yn r p) (hr : r = 0) : ¬ p := h.elim (fun q => by omega) (fun q => q.2)
theorem yn.one {p : Prop} (h : p) : yn 1 p := Or.inl ⟨rfl, h⟩
theorem yn.zero {p : Prop} (h : ¬ p) : yn 0 p := Or.inr ⟨rfl, h⟩
def AM (σ : sv_G) (g : Int) (D : gd_T) : Prop := σ 196 g = gC D 0 ∧ (∀ i, 0 ≤ i → i < gC D 0 → gF D (σ 197 (40 * g + i)) = σ 198 (40 * g + i) ∧ 0 ≤ σ 198 (40 * g + i) ∧ σ 198 (40 * g + i) ≤ 199) ∧ (∀ x, gF D x ≠ -1 → ∃ i, 0 ≤ i ∧ i < gC D 0 ∧ σ 197 (40 * g + i) = x) ∧ ∀ i j, 0 ≤ i → i < j → j < gC D 0 → σ 197 (40 * g + i) ≠ σ 197 (40 * g + j)
def BM (σ : sv_G) (g : Int) (D : gd_T) : Prop := σ 199 g = gC D 1 ∧ ∀ (i : Int) (k : Nat), 0 ≤ i → i < gC D 1 → k < 7 → σ (200 + k) (5 * g + i) = gB D i k
def FM (σ : sv_G) (g : Int) (D : gd_T) : Prop := σ 207 g = gC D 2 ∧ (∀ i, 0 ≤ i → i < gC D 2 → gP D (σ 208 (30 * g + i)) (σ 209 (30 * g + i)) = σ 210 (30 * g + i) ∧ 0 ≤ σ 210 (30 * g + i) ∧ σ 210 (30 * g + i) ≤ 199) ∧ (∀ w k, gP D w k ≠ -1 → ∃ i, 0 ≤ i ∧ i < gC D 2 ∧ σ 208 (30 * g + i) = w ∧ σ 209 (30 * g + i) = k) ∧ ∀ i j, 0 ≤ i → i < j → j < gC D 2 → ¬ (σ 208 (30 * g + i) = σ 208 (30 * g + j) ∧ σ 209 (30 * g + i) = σ 209 (30 * g + j))
def SM (σ : sv_G) (g : Int) (D : gd_T) : Prop := σ 211 g = gC D 3 ∧ σ 212 g = gC D 4 ∧ ∀ (i : Int) (k : Nat), 0 ≤ i → i < gC D 4 → k < 3 → σ (213 + k) (6 * g + i) = gS D k i
def RM (σ : sv_G) (g : Int) (D : gd_T) : Prop := AM σ g D ∧ BM σ g D ∧ FM σ g D ∧ SM σ g D
set_option maxRecDepth 100000 in
set_option maxHeartbeats 8000000 in
theorem kX8_thrown {E : sv_E} {σ : sv_G}  : CT E MX8_thrown 0 [(vR 195)] σ (PI fun r σ9 => σ9 = σ ∧ r = σ 195 37) := by
  refine CT.of (RX8, cX8_thrown, 1, (some .int), [], 0, 0, 0) rfl moX8_thrown (Nat.le_of_ble_eq_true rfl) (ls0 := [some (vR 195)]) rfl ?_
  intro X Q C hR
  refine s_aload_n C dX8_thrown_0 rfl ?_
  refine s_getI (c := 8) (kz := 37) C fl_8_106 dX8_thrown_1 sh_195 rfl rfl (fun g1 => ?_)
  refine s_iret C hR dX8_thrown_4 rfl ⟨_, rfl, ?_⟩ (by decide)
  exact ⟨rfl, rfl⟩
set_option maxRecDepth 100000 in
set_option maxHeartbeats 8000000 in
theorem kX8_can {E : sv_E} {σ : sv_G} {x : Int} (hx : 0 ≤ x ∧ x ≤ 3) : CT E MX8_can 0 [(vR 195), (vI x)] σ (PI fun r σ9 => σ9 = up σ 195 37 x ∧ yn r (x = 0)) := by
  refine CT.of (RX8, cX8_can, 2, (some .boolean), [], 0, 0, 0) rfl moX8_can (Nat.le_of_ble_eq_true rfl) (ls0 := [some (vR 195), some (vI x)]) rfl ?_
  intro X Q C hR
  refine s_aload_n C dX8_can_0 rfl ?_
  refine s_iload_n C dX8_can_1 rfl ?_
  refine s_putI (c := 8) (kz := 37) C fl_8_106 dX8_can_2 sh_195 rfl (fun _ _ h9 => by cases h9; rfl) (by omega) rfl ?_
  refine s_nameG (fun σ_2 hσ_2 => ?_)
  refine s_iload_n C dX8_can_5 rfl ?_
  refine s_if_ne (tgt := 13) C dX8_can_6 (by decide) (by omega) (fun c6 => ?_) (fun c6 => ?_)
  · refine s_iconst C dX8_can_13 ?_
    refine s_zret C hR dX8_can_14 rfl (by omega) ⟨_, rfl, ?_⟩ (by decide)
    first
      | exact ⟨hσ_2, yn.one c6⟩
      | exact ⟨hσ_2, yn.zero c6⟩
      | exact ⟨hσ_2, yn.one (by omega)⟩
  · refine s_iconst C dX8_can_9 ?_
    refine s_goto (tgt := 14) C dX8_can_10 (by decide) ?_
    refine s_zret C hR dX8_can_14 rfl (by omega) ⟨_, rfl, ?_⟩ (by decide)
    first
      | exact ⟨hσ_2, yn.one c6⟩
      | exact ⟨hσ_2, yn.zero c6⟩
      | exact ⟨hσ_2, yn.one (by omega)⟩
set_option maxRecDepth 100000 in
set_option maxHeartbeats 8000000 in
theorem kX8_isIn {E : sv_E} {σ : sv_G} {x y z : Int} (hx : -2147483648 ≤ x ∧ x ≤ 2147483647) (hy : -2147483648 ≤ y ∧ y ≤ 2147483647) (hz : -2147483648 ≤ z ∧ z ≤ 2147483647) : CT E MX8_isIn 0 [(vI x), (vI y), (vI z)] σ (PI fun r σ9 => σ9 = σ ∧ yn r (y ≤ x ∧ x ≤ z)) := by
  refine CT.of (RX8, cX8_isIn, 3, (some .boolean), [], 0, 0, 0) rfl moX8_isIn (Nat.le_of_ble_eq_true rfl) (ls0 := [some (vI x), some (vI y), some (vI z)]) rfl ?_
  intro X Q C hR
  refine s_iload_n C dX8_isIn_0 rfl ?_
  refine s_iload_n C dX8_isIn_1 rfl ?_
  have J15 : ∀ (w : Int), (yn w (y ≤ x ∧ x ≤ z)) → SW X E Q 0 0 15 [some (vI x), some (vI y), some (vI z)] [(vI w)] σ := by
    intro w j15_0
    refine s_zret C hR dX8_isIn_15 rfl (by exact j15_0.b) ⟨_, rfl, ?_⟩ (by decide)
    exact ⟨rfl, j15_0⟩
  have J14 : (¬ (y ≤ x ∧ x ≤ z)) → SW X E Q 0 0 14 [some (vI x), some (vI y), some (vI z)] [] σ := by
    intro  j14_0
    refine s_iconst C dX8_isIn_14 ?_
    refine J15 0 ?_
    · exact yn.zero j14_0
  refine s_icmp_lt (tgt := 14) C dX8_isIn_2 (by decide) (by omega) (by omega) (fun c2 => ?_) (fun c2 => ?_)
  · exact J14 (by first | assumption | omega)
  · refine s_iload_n C dX8_isIn_5 rfl ?_
    refine s_iload_n C dX8_isIn_6 rfl ?_
    refine s_icmp_gt (tgt := 14) C dX8_isIn_7 (by decide) (by omega) (by omega) (fun c7 => ?_) (fun c7 => ?_)
    · exact J14 (by first | assumption | omega)
    · refine s_iconst C dX8_isIn_10 ?_
      refine s_goto (tgt := 15) C dX8_isIn_11 (by decide) ?_
      refine J15 1 ?_
      · exact yn.one (by omega)
set_option maxRecDepth 100000 in
set_option maxHeartbeats 8000000 in
theorem kX8_isGrammar {E : sv_E} {σ : sv_G} {x : Int} (hx : -2147483648 ≤ x ∧ x ≤ 2147483647) : CT E MX8_isGrammar 1 [(vI x)] σ (PI fun r σ9 => σ9 = σ ∧ yn r (0 ≤ x ∧ x ≤ 3)) := by
  refine CT.of (RX8, cX8_isGrammar, 1, (some .boolean), [], 1, 0, 0) rfl moX8_isGrammar (Nat.le_of_ble_eq_true rfl) (ls0 := [some (vI x)]) rfl ?_
  intro X Q C hR
  refine s_iload_n C dX8_isGrammar_0 rfl ?_
  refine s_iconst C dX8_isGrammar_1 ?_
  refine s_iconst C dX8_isGrammar_2 ?_
  refine s_cS3i C dX8_isGrammar_3 lkX8_110 moX8_isIn mvX8_isIn (kX8_isIn (by omega) (by decide) (by decide)) (by decide) (Nat.le_of_ble_eq_true rfl) rfl (by decide) (kpI (fun r3 hp3 => ?_))
  refine s_zret C hR dX8_isGrammar_6 rfl (by exact hp3.b) ⟨_, rfl, ?_⟩ (by decide)
  exact ⟨rfl, hp3⟩
set_option maxRecDepth 100000 in
set_option maxHeartbeats 8000000 in
theorem kX8_isWord {E : sv_E} {σ : sv_G} {x : Int} (hx : -2147483648 ≤ x ∧ x ≤ 2147483647) : CT E MX8_isWord 1 [(vI x)] σ (PI fun r σ9 => σ9 = σ ∧ yn r (0 ≤ x ∧ x ≤ 199)) := by
  refine CT.of (RX8, cX8_isWord, 1, (some .boolean), [], 1, 0, 0) rfl moX8_isWord (Nat.le_of_ble_eq_true rfl) (ls0 := [some (vI x)]) rfl ?_
  intro X Q C hR
  refine s_iload_n C dX8_isWord_0 rfl ?_
  refine s_iconst C dX8_isWord_1 ?_
  refine s_sipush C dX8_isWord_2 (by decide) ?_
  refine s_cS3i C dX8_isWord_5 lkX8_110 moX8_isIn mvX8_isIn (kX8_isIn (by omega) (by decide) (by decide)) (by decide) (Nat.le_of_ble_eq_true rfl) rfl (by decide) (kpI (fun r5 hp5 => ?_))
  refine s_zret C hR dX8_isWord_8 rfl (by exact hp5.b) ⟨_, rfl, ?_⟩ (by decide)
  exact ⟨rfl, hp5⟩
set_option maxRecDepth 100000 in
set_option maxHeartbeats 8000000 in
theorem kX8_isWordOrNone {E : sv_E} {σ : sv_G} {x : Int} (hx : -2147483648 ≤ x ∧ x ≤ 2147483647) : CT E MX8_isWordOrNone 1 [(vI x)] σ (PI fun r σ9 => σ9 = σ ∧ yn r (-1 ≤ x ∧ x ≤ 199)) := by
  refine CT.of (RX8, cX8_isWordOrNone, 1, (some .boolean), [], 1, 0, 0) rfl moX8_isWordOrNone (Nat.le_of_ble_eq_true rfl) (ls0 := [some (vI x)]) rfl ?_
  intro X Q C hR
  refine s_iload_n C dX8_isWordOrNone_0 rfl ?_
  refine s_iconst C dX8_isWordOrNone_1 ?_
  refine s_sipush C dX8_isWordOrNone_2 (by decide) ?_
  refine s_cS3i C dX8_isWordOrNone_5 lkX8_110 moX8_isIn mvX8_isIn (kX8_isIn (by omega) (by decide) (by decide)) (by decide) (Nat.le_of_ble_eq_true rfl) rfl (by decide) (kpI (fun r5 hp5 => ?_))
  refine s_zret C hR dX8_isWordOrNone_8 rfl (by exact hp5.b) ⟨_, rfl, ?_⟩ (by decide)
  exact ⟨rfl, hp5⟩
set_option maxRecDepth 100000 in
set_option maxHeartbeats 8000000 in
theorem kX8_isNumber {E : sv_E} {σ : sv_G} {x : Int} (hx : -2147483648 ≤ x ∧ x ≤ 2147483647) : CT E MX8_isNumber 1 [(vI x)] σ (PI fun r σ9 => σ9 = σ ∧ yn r (0 ≤ x ∧ x ≤ 9999)) := by
  refine CT.of (RX8, cX8_isNumber, 1, (some .boolean), [], 1, 0, 0) rfl moX8_isNumber (Nat.le_of_ble_eq_true rfl) (ls0 := [some (vI x)]) rfl ?_
  intro X Q C hR
  refine s_iload_n C dX8_isNumber_0 rfl ?_
  refine s_iconst C dX8_isNumber_1 ?_
  refine s_sipush C dX8_isNumber_2 (by decide) ?_
  refine s_cS3i C dX8_isNumber_5 lkX8_110 moX8_isIn mvX8_isIn (kX8_isIn (by omega) (by decide) (by decide)) (by decide) (Nat.le_of_ble_eq_true rfl) rfl (by decide) (kpI (fun r5 hp5 => ?_))
  refine s_zret C hR dX8_isNumber_8 rfl (by exact hp5.b) ⟨_, rfl, ?_⟩ (by decide)
  exact ⟨rfl, hp5⟩
set_option maxRecDepth 100000 in
set_option maxHeartbeats 8000000 in
theorem kX8_isClass {E : sv_E} {σ : sv_G} {x : Int} (hx : -2147483648 ≤ x ∧ x ≤ 2147483647) : CT E MX8_isClass 1 [(vI x)] σ (PI fun r σ9 => σ9 = σ ∧ yn r (0 ≤ x ∧ x ≤ 2)) := by
  refine CT.of (RX8, cX8_isClass, 1, (some .boolean), [], 1, 0, 0) rfl moX8_isClass (Nat.le_of_ble_eq_true rfl) (ls0 := [some (vI x)]) rfl ?_
  intro X Q C hR
  refine s_iload_n C dX8_isClass_0 rfl ?_
  refine s_iconst C dX8_isClass_1 ?_
  refine s_iconst C dX8_isClass_2 ?_
  refine s_cS3i C dX8_isClass_3 lkX8_110 moX8_isIn mvX8_isIn (kX8_isIn (by omega) (by decide) (by decide)) (by decide) (Nat.le_of_ble_eq_true rfl) rfl (by decide) (kpI (fun r3 hp3 => ?_))
  refine s_zret C hR dX8_isClass_6 rfl (by exact hp3.b) ⟨_, rfl, ?_⟩ (by decide)
  exact ⟨rfl, hp3⟩
set_option maxRecDepth 100000 in
set_option maxHeartbeats 8000000 in
theorem kX8_isCord {E : sv_E} {σ : sv_G} {x : Int} (hx : -2147483648 ≤ x ∧ x ≤ 2147483647) : CT E MX8_isCord 1 [(vI x)] σ (PI fun r σ9 => σ9 = σ ∧ yn r (0 ≤ x ∧ x ≤ 5)) := by
  refine CT.of (RX8, cX8_isCord, 1, (some .boolean), [], 1, 0, 0) rfl moX8_isCord (Nat.le_of_ble_eq_true rfl) (ls0 := [some (vI x)]) rfl ?_
  intro X Q C hR
  refine s_iload_n C dX8_isCord_0 rfl ?_
  refine s_iconst C dX8_isCord_1 ?_
  refine s_iconst C dX8_isCord_2 ?_
  refine s_cS3i C dX8_isCord_3 lkX8_110 moX8_isIn mvX8_isIn (kX8_isIn (by omega) (by decide) (by decide)) (by decide) (Nat.le_of_ble_eq_true rfl) rfl (by decide) (kpI (fun r3 hp3 => ?_))
  refine s_zret C hR dX8_isCord_6 rfl (by exact hp3.b) ⟨_, rfl, ?_⟩ (by decide)
  exact ⟨rfl, hp3⟩
set_option maxRecDepth 100000 in
set_option maxHeartbeats 8000000 in
theorem kX8_isBase {E : sv_E} {σ : sv_G} {N9 : Int → gd_T} {x y : Int} (hn9 : (∀ g, 0 ≤ g → g ≤ 3 → σ 199 g = gC (N9 g) 1 ∧ 0 ≤ gC (N9 g) 1 ∧ gC (N9 g) 1 ≤ 5)) (hx : -2147483648 ≤ x ∧ x ≤ 2147483647) (hy : -2147483648 ≤ y ∧ y ≤ 2147483647) : CT E MX8_isBase 2 [(vR 195), (vI x), (vI y)] σ (PI fun r σ9 => σ9 = σ ∧ yn r ((0 ≤ x ∧ x ≤ 3) ∧ 0 ≤ y ∧ y < gC (N9 x) 1)) := by
  refine CT.of (RX8, cX8_isBase, 3, (some .boolean), [], 2, 0, 0) rfl moX8_isBase (Nat.le_of_ble_eq_true rfl) (ls0 := [some (vR 195), some (vI x), some (vI y)]) rfl ?_
  intro X Q C hR
  refine s_iload_n C dX8_isBase_0 rfl ?_
  refine s_cS1i C dX8_isBase_1 lkX8_114 moX8_isGrammar mvX8_isGrammar (kX8_isGrammar (by omega)) (by decide) (Nat.le_of_ble_eq_true rfl) rfl (by decide) (kpI (fun r1 hp1 => ?_))
  have hb1 := hp1.b
  have J28 : ∀ (w : Int), (yn w ((0 ≤ x ∧ x ≤ 3) ∧ 0 ≤ y ∧ y < gC (N9 x) 1)) → SW X E Q 0 0 28 [some (vR 195), some (vI x), some (vI y)] [(vI w)] σ := by
    intro w j28_0
    refine s_zret C hR dX8_isBase_28 rfl (by exact j28_0.b) ⟨_, rfl, ?_⟩ (by decide)
    exact ⟨rfl, j28_0⟩
  have J27 : (¬ ((0 ≤ x ∧ x ≤ 3) ∧ 0 ≤ y ∧ y < gC (N9 x) 1)) → SW X E Q 0 0 27 [some (vR 195), some (vI x), some (vI y)] [] σ := by
    intro  j27_0
    refine s_iconst C dX8_isBase_27 ?_
    refine J28 0 ?_
    · exact yn.zero j27_0
  refine s_if_eq (tgt := 27) C dX8_isBase_4 (by decide) (by omega) (fun c4 => ?_) (fun c4 => ?_)
  · refine J27 ?_
    · have hg := hp1.n c4
      omega
  · have hg := hp1.y c4
    have hn := hn9 x hg.1 hg.2
    refine s_iload_n C dX8_isBase_7 rfl ?_
    refine s_iconst C dX8_isBase_8 ?_
    refine s_aload_n C dX8_isBase_9 rfl ?_
    refine s_getR (c := 8) C fl_8_19 dX8_isBase_10 sh_195 rfl rf_195_3 ?_
    refine s_iload_n C dX8_isBase_13 rfl ?_
    refine s_iald C dX8_isBase_14 sh_199 (by omega) (fun g14 => ?_)
    refine s_iconst C dX8_isBase_15 ?_
    refine s_isub C dX8_isBase_16 ?_
    refine s_cS3i C dX8_isBase_17 lkX8_110 moX8_isIn mvX8_isIn (kX8_isIn (by omega) (by omega) (by omega)) (by decide) (Nat.le_of_ble_eq_true rfl) rfl (by decide) (kpI (fun r17 hp17 => ?_))
    have hb17 := hp17.b
    refine s_if_eq (tgt := 27) C dX8_isBase_20 (by decide) (by omega) (fun c20 => ?_) (fun c20 => ?_)
    · refine J27 ?_
      · have hg2 := hp17.n c20
        omega
    · refine s_iconst C dX8_isBase_23 ?_
      refine s_goto (tgt := 28) C dX8_isBase_24 (by decide) ?_
      refine J28 1 ?_
      · have hg2 := hp17.y c20
        exact yn.one (by omega)
set_option maxRecDepth 100000 in
set_option maxHeartbeats 8000000 in
theorem kX8_atomAt {E : sv_E} {σ : sv_G} {D : gd_T} {g : Int} (hD : GDok D) (hg : 0 ≤ g ∧ g ≤ 3) (hA : AM σ g D) {x : Int} (hx : -2147483648 ≤ x ∧ x ≤ 2147483647) : CT E MX8_atomAt 0 [(vR 195), (vI g), (vI x)] σ (PI fun r σ9 => σ9 = σ ∧ ((r = -1 ∧ gF D x = -1) ∨ ((40 * g ≤ r ∧ r < 40 * g + gC D 0) ∧ σ 197 r = x ∧ σ 198 r = gF D x ∧ gF D x ≠ -1))) := by
  refine CT.of (RX8, cX8_atomAt, 5, (some .int), [], 0, 0, 0) rfl moX8_atomAt (Nat.le_of_ble_eq_true rfl) (ls0 := [some (vR 195), some (vI g), some (vI x), none, none]) rfl ?_
  intro X Q C hR
  obtain ⟨hA1, hA2, hA3, hA4⟩ := hA
  have hn0 := hD.2.2.1
  refine s_iconst C dX8_atomAt_0 ?_
  refine s_istore_n (ls2 := [some (vR 195), some (vI g), some (vI x), some (vI (-1)), none]) C dX8_atomAt_1 (by decide) rfl ?_
  refine s_bipush C dX8_atomAt_2 (by decide) ?_
  refine s_iload_n C dX8_atomAt_4 rfl ?_
  refine s_imul C dX8_atomAt_5 ?_
  refine s_topI (fun x4_6 ex4_6 => ?_)
  refine s_istore (ls2 := [some (vR 195), some (vI g), some (vI x), some (vI (-1)), some (vI x4_6)]) C dX8_atomAt_6 (by decide) rfl ?_
  have L8 : ∀ (n : Nat) (r : Int) (m : Int), (40 * g + gC D 0 - m).toNat < n → (40 * g ≤ m ∧ m ≤ 40 * g + gC D 0) → ((r = -1 ∧ ∀ i, 0 ≤ i → 40 * g + i < m → σ 197 (40 * g + i) ≠ x) ∨ ((40 * g ≤ r ∧ r < m) ∧ σ 197 r = x)) → (-1 ≤ r ∧ r ≤ 40 * g + gC D 0) → SW X E Q 0 0 8 [some (vR 195), some (vI g), some (vI x), some (vI r), some (vI m)] [] σ := by
    intro n
    induction n with
    | zero => intro r m hm; exact absurd hm (Nat.not_lt_zero _)
    | succ n ih8 =>
      intro r m hm8 i8_0 i8_1 i8_2
      refine s_iload C dX8_atomAt_8 rfl ?_
      refine s_bipush C dX8_atomAt_10 (by decide) ?_
      refine s_iload_n C dX8_atomAt_12 rfl ?_
      refine s_imul C dX8_atomAt_13 ?_
      refine s_aload_n C dX8_atomAt_14 rfl ?_
      refine s_getR (c := 8) C fl_8_7 dX8_atomAt_15 sh_195 rfl rf_195_0 ?_
      refine s_iload_n C dX8_atomAt_18 rfl ?_
      refine s_iald C dX8_atomAt_19 sh_196 (by omega) (fun g19 => ?_)
      refine s_iadd C dX8_atomAt_20 ?_
      refine s_icmp_ge (tgt := 48) C dX8_atomAt_21 (by decide) (by omega) (by omega) (fun c21 => ?_) (fun c21 => ?_)
      · refine s_iload_n C dX8_atomAt_48 rfl ?_
        refine s_iret C hR dX8_atomAt_49 rfl ⟨_, rfl, ?_⟩ (by decide)
        refine ⟨rfl, ?_⟩
        rcases i8_1 with ⟨q1, q2⟩ | ⟨q1, q2⟩
        · refine Or.inl ⟨q1, Classical.byContradiction fun q => ?_⟩
          obtain ⟨i, z1, z2, z3⟩ := hA3 x q
          exact q2 i z1 (by omega) z3
        · have h9 := hA2 (r - 40 * g) (by omega) (by omega)
          rw [show 40 * g + (r - 40 * g) = r by omega, q2] at h9
          exact Or.inr ⟨by omega, q2, h9.1.symm, by omega⟩
      · refine s_aload_n C dX8_atomAt_24 rfl ?_
        refine s_getR (c := 8) C fl_8_13 dX8_atomAt_25 sh_195 rfl rf_195_1 ?_
        refine s_iload C dX8_atomAt_28 rfl ?_
        refine s_iald C dX8_atomAt_30 sh_197 (by omega) (fun g30 => ?_)
        refine s_iload_n C dX8_atomAt_31 rfl ?_
        have J41 : ∀ (w : Int), ((w = -1 ∧ ∀ i, 0 ≤ i → 40 * g + i < m + 1 → σ 197 (40 * g + i) ≠ x) ∨ ((40 * g ≤ w ∧ w < m + 1) ∧ σ 197 w = x)) → (-1 ≤ w ∧ w ≤ 40 * g + gC D 0) → SW X E Q 0 0 41 [some (vR 195), some (vI g), some (vI x), some (vI r), some (vI m)] [(vI w)] σ := by
          intro w j41_0 j41_1
          refine s_istore_n (ls2 := [some (vR 195), some (vI g), some (vI x), some (vI w), some (vI m)]) C dX8_atomAt_41 (by decide) rfl ?_
          obtain ⟨x4_42, ex4_42⟩ : ∃ y : Int, y = m + 1 := ⟨_, rfl⟩
          refine s_iinc (z2 := x4_42) (ls2 := [some (vR 195), some (vI g), some (vI x), some (vI w), some (vI x4_42)]) C dX8_atomAt_42 (by decide) rfl ex4_42 rfl ?_
          refine s_goto (tgt := 8) C dX8_atomAt_45 (by decide) ?_
          refine ih8 w x4_42 (by omega) (by first | assumption | omega) ?_ (by first | assumption | omega)
          · rw [show x4_42 = m + 1 from ex4_42]; exact j41_0
        refine s_icmp_ne (tgt := 40) C dX8_atomAt_32 (by decide) (by omega) (by omega) (fun c32 => ?_) (fun c32 => ?_)
        · refine s_iload_n C dX8_atomAt_40 rfl ?_
          refine J41 r ?_ (by first | assumption | omega)
          · rcases i8_1 with ⟨q1, q2⟩ | ⟨q1, q2⟩
            · refine Or.inl ⟨q1, fun i h1 h2 => ?_⟩
              by_cases q : 40 * g + i = m
              · rw [q]; exact c32
              · exact q2 i h1 (by omega)
            · exact Or.inr ⟨by omega, q2⟩
        · refine s_iload C dX8_atomAt_35 rfl ?_
          refine s_goto (tgt := 41) C dX8_atomAt_37 (by decide) ?_
          refine J41 m ?_ (by first | assumption | omega)
          · exact Or.inr ⟨by omega, by omega⟩
  refine L8 _ (-1) x4_6 (Nat.lt_succ_self _) (by first | assumption | omega) ?_ (by first | assumption | omega)
  · exact Or.inl ⟨rfl, fun i h1 h2 => by omega⟩
set_option maxRecDepth 100000 in
set_option maxHeartbeats 8000000 in
theorem kX8_formAt {E : sv_E} {σ : sv_G} {D : gd_T} {g : Int} (hD : GDok D) (hg : 0 ≤ g ∧ g ≤ 3) (hA : FM σ g D) {x k : Int} (hx : -2147483648 ≤ x ∧ x ≤ 2147483647) (hk : -2147483648 ≤ k ∧ k ≤ 2147483647) : CT E MX8_formAt 0 [(vR 195), (vI g), (vI x), (vI k)] σ (PI fun r σ9 => σ9 = σ ∧ ((r = -1 ∧ gP D x k = -1) ∨ ((30 * g ≤ r ∧ r < 30 * g + gC D 2) ∧ σ 208 r = x ∧ σ 209 r = k ∧ σ 210 r = gP D x k ∧ gP D x k ≠ -1))) := by
  refine CT.of (RX8, cX8_formAt, 6, (some .int), [], 0, 0, 0) rfl moX8_formAt (Nat.le_of_ble_eq_true rfl) (ls0 := [some (vR 195), some (vI g), some (vI x), some (vI k), none, none]) rfl ?_
  intro X Q C hR
  obtain ⟨hA1, hA2, hA3, hA4⟩ := hA
  have hn0 := hD.2.2.2.2.1
  refine s_iconst C dX8_formAt_0 ?_
  refine s_istore (ls2 := [some (vR 195), some (vI g), some (vI x), some (vI k), some (vI (-1)), none]) C dX8_formAt_1 (by decide) rfl ?_
  refine s_bipush C dX8_formAt_3 (by decide) ?_
  refine s_iload_n C dX8_formAt_5 rfl ?_
  refine s_imul C dX8_formAt_6 ?_
  refine s_topI (fun x5_7 ex5_7 => ?_)
  refine s_istore (ls2 := [some (vR 195), some (vI g), some (vI x), some (vI k), some (vI (-1)), some (vI x5_7)]) C dX8_formAt_7 (by decide) rfl ?_
  have L9 : ∀ (n : Nat) (r : Int) (m : Int), (30 * g + gC D 2 - m).toNat < n → (30 * g ≤ m ∧ m ≤ 30 * g + gC D 2) → ((r = -1 ∧ ∀ i, 0 ≤ i → 30 * g + i < m → ¬ (σ 208 (30 * g + i) = x ∧ σ 209 (30 * g + i) = k)) ∨ ((30 * g ≤ r ∧ r < m) ∧ σ 208 r = x ∧ σ 209 r = k)) → (-1 ≤ r ∧ r ≤ 30 * g + gC D 2) → SW X E Q 0 0 9 [some (vR 195), some (vI g), some (vI x), some (vI k), some (vI r), some (vI m)] [] σ := by
    intro n
    induction n with
    | zero => intro r m hm; exact absurd hm (Nat.not_lt_zero _)
    | succ n ih9 =>
      intro r m hm9 i9_0 i9_1 i9_2
      refine s_iload C dX8_formAt_9 rfl ?_
      refine s_bipush C dX8_formAt_11 (by decide) ?_
      refine s_iload_n C dX8_formAt_13 rfl ?_
      refine s_imul C dX8_formAt_14 ?_
      refine s_aload_n C dX8_formAt_15 rfl ?_
      refine s_getR (c := 8) C fl_8_43 dX8_formAt_16 sh_195 rfl rf_195_11 ?_
      refine s_iload_n C dX8_formAt_19 rfl ?_
      refine s_iald C dX8_formAt_20 sh_207 (by omega) (fun g20 => ?_)
      refine s_iadd C dX8_formAt_21 ?_
      refine s_icmp_ge (tgt := 62) C dX8_formAt_22 (by decide) (by omega) (by omega) (fun c22 => ?_) (fun c22 => ?_)
      · refine s_iload C dX8_formAt_62 rfl ?_
        refine s_iret C hR dX8_formAt_64 rfl ⟨_, rfl, ?_⟩ (by decide)
        refine ⟨rfl, ?_⟩
        rcases i9_1 with ⟨q1, q2⟩ | ⟨q1, q2, q3⟩
        · refine Or.inl ⟨q1, Classical.byContradiction fun q => ?_⟩
          obtain ⟨i, z1, z2, z3⟩ := hA3 x k q
          exact q2 i z1 (by omega) z3
        · have h9 := hA2 (r - 30 * g) (by omega) (by omega)
          rw [show 30 * g + (r - 30 * g) = r by omega, q2, q3] at h9
          exact Or.inr ⟨by omega, q2, q3, h9.1.symm, by omega⟩
      · refine s_aload_n C dX8_formAt_25 rfl ?_
        refine s_getR (c := 8) C fl_8_46 dX8_formAt_26 sh_195 rfl rf_195_12 ?_
        refine s_iload C dX8_formAt_29 rfl ?_
        refine s_iald C dX8_formAt_31 sh_208 (by omega) (fun g31 => ?_)
        refine s_iload_n C dX8_formAt_32 rfl ?_
        have J54 : ∀ (w : Int), ((w = -1 ∧ ∀ i, 0 ≤ i → 30 * g + i < m + 1 → ¬ (σ 208 (30 * g + i) = x ∧ σ 209 (30 * g + i) = k)) ∨ ((30 * g ≤ w ∧ w < m + 1) ∧ σ 208 w = x ∧ σ 209 w = k)) → (-1 ≤ w ∧ w ≤ 30 * g + gC D 2) → SW X E Q 0 0 54 [some (vR 195), some (vI g), some (vI x), some (vI k), some (vI r), some (vI m)] [(vI w)] σ := by
          intro w j54_0 j54_1
          refine s_istore (ls2 := [some (vR 195), some (vI g), some (vI x), some (vI k), some (vI w), some (vI m)]) C dX8_formAt_54 (by decide) rfl ?_
          obtain ⟨x5_56, ex5_56⟩ : ∃ y : Int, y = m + 1 := ⟨_, rfl⟩
          refine s_iinc (z2 := x5_56) (ls2 := [some (vR 195), some (vI g), some (vI x), some (vI k), some (vI w), some (vI x5_56)]) C dX8_formAt_56 (by decide) rfl ex5_56 rfl ?_
          refine s_goto (tgt := 9) C dX8_formAt_59 (by decide) ?_
          refine ih9 w x5_56 (by omega) (by first | assumption | omega) ?_ (by first | assumption | omega)
          · rw [show x5_56 = m + 1 from ex5_56]; exact j54_0
        have J52 : (¬ (σ 208 m = x ∧ σ 209 m = k)) → SW X E Q 0 0 52 [some (vR 195), some (vI g), some (vI x), some (vI k), some (vI r), some (vI m)] [] σ := by
          intro  j52_0
          refine s_iload C dX8_formAt_52 rfl ?_
          refine J54 r ?_ (by first | assumption | omega)
          · rcases i9_1 with ⟨q1, q2⟩ | ⟨q1, q2⟩
            · refine Or.inl ⟨q1, fun i h1 h2 => ?_⟩
              by_cases q : 30 * g + i = m
              · rw [q]; exact j52_0
              · exact q2 i h1 (by omega)
            · exact Or.inr ⟨by omega, q2⟩
        refine s_icmp_ne (tgt := 52) C dX8_formAt_33 (by decide) (by omega) (by omega) (fun c33 => ?_) (fun c33 => ?_)
        · refine J52 ?_
          · exact fun q => c33 q.1
        · refine s_aload_n C dX8_formAt_36 rfl ?_
          refine s_getR (c := 8) C fl_8_49 dX8_formAt_37 sh_195 rfl rf_195_13 ?_
          refine s_iload C dX8_formAt_40 rfl ?_
          refine s_iald C dX8_formAt_42 sh_209 (by omega) (fun g42 => ?_)
          refine s_iload_n C dX8_formAt_43 rfl ?_
          refine s_icmp_ne (tgt := 52) C dX8_formAt_44 (by decide) (by omega) (by omega) (fun c44 => ?_) (fun c44 => ?_)
          · refine J52 ?_
            · exact fun q => c44 q.2
          · refine s_iload C dX8_formAt_47 rfl ?_
            refine s_goto (tgt := 54) C dX8_formAt_49 (by decide) ?_
            refine J54 m ?_ (by first | assumption | omega)
            · exact Or.inr ⟨by omega, by omega, by omega⟩
  refine L9 _ (-1) x5_7 (Nat.lt_succ_self _) (by first | assumption | omega) ?_ (by first | assumption | omega)
  · exact Or.inl ⟨rfl, fun i h1 h2 => by omega⟩
set_option maxRecDepth 100000 in
set_option maxHeartbeats 8000000 in
theorem kX8_counts {E : sv_E} {σ : sv_G} {D : gd_T} {g : Int} (hD : GDok D) (hg : 0 ≤ g ∧ g ≤ 3) (hB9 : BM σ g D) {x : Int} (hx : -2147483648 ≤ x ∧ x ≤ 2147483647) : CT E MX8_counts 0 [(vR 195), (vI g), (vI x)] σ (PI fun r σ9 => σ9 = σ ∧ ((r = -1 ∧ cnt D x = -1) ∨ (cnt D x ≠ -1 ∧ r = 5 * g + cnt D x))) := by
  refine CT.of (RX8, cX8_counts, 5, (some .int), [], 0, 0, 0) rfl moX8_counts (Nat.le_of_ble_eq_true rfl) (ls0 := [some (vR 195), some (vI g), some (vI x), none, none]) rfl ?_
  intro X Q C hR
  obtain ⟨hB1, hB2⟩ := hB9
  have hn0 := hD.2.2.2.1
  have hB0 : ∀ i, 0 ≤ i → i < gC D 1 → σ 200 (5 * g + i) = gB D i 0 := fun i h1 h2 => hB2 i 0 h1 h2 (by decide)
  refine s_iconst C dX8_counts_0 ?_
  refine s_istore_n (ls2 := [some (vR 195), some (vI g), some (vI x), some (vI (-1)), none]) C dX8_counts_1 (by decide) rfl ?_
  refine s_iconst C dX8_counts_2 ?_
  refine s_iload_n C dX8_counts_3 rfl ?_
  refine s_imul C dX8_counts_4 ?_
  refine s_topI (fun x4_5 ex4_5 => ?_)
  refine s_istore (ls2 := [some (vR 195), some (vI g), some (vI x), some (vI (-1)), some (vI x4_5)]) C dX8_counts_5 (by decide) rfl ?_
  have L7 : ∀ (n : Nat) (r : Int) (m : Int), (5 * g + gC D 1 - m).toNat < n → (5 * g ≤ m ∧ m ≤ 5 * g + gC D 1) → ((r = -1 ∧ cntR (gB D) x (m - 5 * g).toNat = -1) ∨ (cntR (gB D) x (m - 5 * g).toNat ≠ -1 ∧ r = 5 * g + cntR (gB D) x (m - 5 * g).toNat)) → (-1 ≤ r ∧ r ≤ 5 * g + gC D 1) → SW X E Q 0 0 7 [some (vR 195), some (vI g), some (vI x), some (vI r), some (vI m)] [] σ := by
    intro n
    induction n with
    | zero => intro r m hm; exact absurd hm (Nat.not_lt_zero _)
    | succ n ih7 =>
      intro r m hm7 i7_0 i7_1 i7_2
      have hci := cntR_in (gB D) x (m - 5 * g).toNat
      refine s_iload C dX8_counts_7 rfl ?_
      refine s_iconst C dX8_counts_9 ?_
      refine s_iload_n C dX8_counts_10 rfl ?_
      refine s_imul C dX8_counts_11 ?_
      refine s_aload_n C dX8_counts_12 rfl ?_
      refine s_getR (c := 8) C fl_8_19 dX8_counts_13 sh_195 rfl rf_195_3 ?_
      refine s_iload_n C dX8_counts_16 rfl ?_
      refine s_iald C dX8_counts_17 sh_199 (by omega) (fun g17 => ?_)
      refine s_iadd C dX8_counts_18 ?_
      refine s_icmp_ge (tgt := 67) C dX8_counts_19 (by decide) (by omega) (by omega) (fun c19 => ?_) (fun c19 => ?_)
      · refine s_iload_n C dX8_counts_67 rfl ?_
        refine s_iret C hR dX8_counts_68 rfl ⟨_, rfl, ?_⟩ (by decide)
        refine ⟨rfl, ?_⟩
        rw [show (m - 5 * g).toNat = (gC D 1).toNat by omega] at i7_1
        exact i7_1
      · refine s_aload_n C dX8_counts_22 rfl ?_
        refine s_getR (c := 8) C fl_8_22 dX8_counts_23 sh_195 rfl rf_195_4 ?_
        refine s_iload C dX8_counts_26 rfl ?_
        refine s_iald C dX8_counts_28 sh_200 (by omega) (fun g28 => ?_)
        have bm := hB0 (m - 5 * g) (by omega) (by omega)
        rw [show 5 * g + (m - 5 * g) = m by omega] at bm
        have hst : cntR (gB D) x ((m - 5 * g).toNat + 1) = if gB D (m - 5 * g) 0 ≤ x ∧ (cntR (gB D) x (m - 5 * g).toNat = -1 ∨ gB D (cntR (gB D) x (m - 5 * g).toNat) 0 < gB D (m - 5 * g) 0) then m - 5 * g else cntR (gB D) x (m - 5 * g).toNat := by
          have e : ((m - 5 * g).toNat : Int) = m - 5 * g := by omega
          conv => lhs; unfold cntR
          rw [e]
        refine s_iload_n C dX8_counts_29 rfl ?_
        have J60 : ∀ (w : Int), ((w = -1 ∧ cntR (gB D) x ((m - 5 * g).toNat + 1) = -1) ∨ (cntR (gB D) x ((m - 5 * g).toNat + 1) ≠ -1 ∧ w = 5 * g + cntR (gB D) x ((m - 5 * g).toNat + 1))) → (-1 ≤ w ∧ w ≤ 5 * g + gC D 1) → SW X E Q 0 0 60 [some (vR 195), some (vI g), some (vI x), some (vI r), some (vI m)] [(vI w)] σ := by
          intro w j60_0 j60_1
          refine s_istore_n (ls2 := [some (vR 195), some (vI g), some (vI x), some (vI w), some (vI m)]) C dX8_counts_60 (by decide) rfl ?_
          obtain ⟨x4_61, ex4_61⟩ : ∃ y : Int, y = m + 1 := ⟨_, rfl⟩
          refine s_iinc (z2 := x4_61) (ls2 := [some (vR 195), some (vI g), some (vI x), some (vI w), some (vI x4_61)]) C dX8_counts_61 (by decide) rfl ex4_61 rfl ?_
          refine s_goto (tgt := 7) C dX8_counts_64 (by decide) ?_
          refine ih7 w x4_61 (by omega) (by first | assumption | omega) ?_ (by first | assumption | omega)
          · rw [show (x4_61 - 5 * g).toNat = (m - 5 * g).toNat + 1 by omega]; exact j60_0
        have J59 : (¬ (gB D (m - 5 * g) 0 ≤ x ∧ (cntR (gB D) x (m - 5 * g).toNat = -1 ∨ gB D (cntR (gB D) x (m - 5 * g).toNat) 0 < gB D (m - 5 * g) 0))) → SW X E Q 0 0 59 [some (vR 195), some (vI g), some (vI x), some (vI r), some (vI m)] [] σ := by
          intro  j59_0
          refine s_iload_n C dX8_counts_59 rfl ?_
          refine J60 r ?_ (by first | assumption | omega)
          · rw [hst, if_neg j59_0]; exact i7_1
        refine s_icmp_gt (tgt := 59) C dX8_counts_30 (by decide) (by omega) (by omega) (fun c30 => ?_) (fun c30 => ?_)
        · exact J59 (by first | assumption | omega)
        · refine s_iload_n C dX8_counts_33 rfl ?_
          refine s_iconst C dX8_counts_34 ?_
          have J54 : (cntR (gB D) x (m - 5 * g).toNat = -1 ∨ gB D (cntR (gB D) x (m - 5 * g).toNat) 0 < gB D (m - 5 * g) 0) → SW X E Q 0 0 54 [some (vR 195), some (vI g), some (vI x), some (vI r), some (vI m)] [] σ := by
            intro  j54_0
            refine s_iload C dX8_counts_54 rfl ?_
            refine s_goto (tgt := 60) C dX8_counts_56 (by decide) ?_
            refine J60 m ?_ (by first | assumption | omega)
            · rw [hst, if_pos ⟨by omega, j54_0⟩]; exact Or.inr ⟨by omega, by omega⟩
          refine s_icmp_eq (tgt := 54) C dX8_counts_35 (by decide) (by omega) (by omega) (fun c35 => ?_) (fun c35 => ?_)
          · exact J54 (by first | assumption | omega)
          · refine s_aload_n C dX8_counts_38 rfl ?_
            refine s_getR (c := 8) C fl_8_22 dX8_counts_39 sh_195 rfl rf_195_4 ?_
            refine s_iload C dX8_counts_42 rfl ?_
            refine s_iald C dX8_counts_44 sh_200 (by omega) (fun g44 => ?_)
            refine s_aload_n C dX8_counts_45 rfl ?_
            refine s_getR (c := 8) C fl_8_22 dX8_counts_46 sh_195 rfl rf_195_4 ?_
            refine s_iload_n C dX8_counts_49 rfl ?_
            refine s_iald C dX8_counts_50 sh_200 (by omega) (fun g50 => ?_)
            have bc := hB0 (cntR (gB D) x (m - 5 * g).toNat) (by omega) (by omega)
            rw [show 5 * g + cntR (gB D) x (m - 5 * g).toNat = r by omega] at bc
            refine s_icmp_le (tgt := 59) C dX8_counts_51 (by decide) (by omega) (by omega) (fun c51 => ?_) (fun c51 => ?_)
            · exact J59 (by first | assumption | omega)
            · exact J54 (by first | assumption | omega)
  refine L7 _ (-1) x4_5 (Nat.lt_succ_self _) (by first | assumption | omega) ?_ (by first | assumption | omega)
  · rw [show (x4_5 - 5 * g).toNat = 0 by omega]; exact Or.inl ⟨rfl, rfl⟩
