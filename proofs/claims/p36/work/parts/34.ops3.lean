/-! What is heard: which numbers fit. -/
theorem zo1 {r : Int} {p q : Prop} (h : (r = 1 ∧ p) ∨ (r = 0 ∧ q)) : r = 0 ∨ r = 1 := h.elim (fun z => Or.inr z.1) (fun z => Or.inl z.1)
noncomputable def hrI (D : gd_T) (c : Int) (H : List Int) (n : Int) : Int := @ite Int (spF D n c ≠ [] ∧ agreeL (spF D n c) H) (Classical.propDecidable _) 1 0
theorem hrI_1 {D : gd_T} {c : Int} {H : List Int} {n : Int} (h1 : spF D n c ≠ []) (h2 : agreeL (spF D n c) H) : hrI D c H n = 1 := if_pos ⟨h1, h2⟩
theorem hrI_0 {D : gd_T} {c : Int} {H : List Int} {n : Int} (h : spF D n c = [] ∨ ¬ agreeL (spF D n c) H) : hrI D c H n = 0 := if_neg fun q => h.elim (fun z => q.1 z) (fun z => z q.2)
theorem hrI_b {D : gd_T} {c : Int} {H : List Int} {n : Int} : hrI D c H n = 0 ∨ hrI D c H n = 1 := by
  by_cases h : spF D n c ≠ [] ∧ agreeL (spF D n c) H
  · exact Or.inr (hrI_1 h.1 h.2)
  · exact Or.inl (if_neg h)
noncomputable def ftN (D : gd_T) (c : Int) (H : List Int) : Nat → Int
  | 0 => 0
  | k + 1 => ftN D c H k + hrI D c H (k : Int)
noncomputable def fiR (D : gd_T) (c : Int) (H : List Int) (p : Int) : Nat → Nat → Int
  | 0, _ => -1
  | m + 1, k => if hrI D c H (k : Int) = 1 ∧ ftN D c H k = p then (k : Int) else fiR D c H p m (k + 1)
def gaR (D : gd_T) : Nat → Nat → Int
  | 0, _ => -1
  | m + 1, k => if spF D (k : Int) 0 = [] then (k : Int) else gaR D m (k + 1)
theorem ftN_s {D : gd_T} {c : Int} {H : List Int} {m : Int} (h : 0 ≤ m) : ftN D c H (m + 1).toNat = ftN D c H m.toNat + hrI D c H m := by
  rw [show (m + 1).toNat = m.toNat + 1 by omega]
  show ftN D c H m.toNat + hrI D c H (m.toNat : Int) = _
  rw [show (m.toNat : Int) = m by omega]
theorem fiR_s {D : gd_T} {c : Int} {H : List Int} {p m z : Int} (h : 0 ≤ m ∧ m ≤ z) : fiR D c H p (z + 1 - m).toNat m.toNat = if hrI D c H m = 1 ∧ ftN D c H m.toNat = p then m else fiR D c H p (z + 1 - (m + 1)).toNat (m + 1).toNat := by
  rw [show (z + 1 - m).toNat = (z + 1 - (m + 1)).toNat + 1 by omega, show (m + 1).toNat = m.toNat + 1 by omega]
  show (if hrI D c H (m.toNat : Int) = 1 ∧ ftN D c H m.toNat = p then (m.toNat : Int) else _) = _
  rw [show (m.toNat : Int) = m by omega]
theorem gaR_s {D : gd_T} {m z : Int} (h : 0 ≤ m ∧ m ≤ z) : gaR D (z + 1 - m).toNat m.toNat = if spF D m 0 = [] then m else gaR D (z + 1 - (m + 1)).toNat (m + 1).toNat := by
  rw [show (z + 1 - m).toNat = (z + 1 - (m + 1)).toNat + 1 by omega, show (m + 1).toNat = m.toNat + 1 by omega]
  show (if spF D (m.toNat : Int) 0 = [] then (m.toNat : Int) else _) = _
  rw [show (m.toNat : Int) = m by omega]
theorem RN.sp {σ σ9 : sv_G} {S : st_T} (hS : StOK S) (h : RN σ S) (hf : frR σ σ9 6) : RN σ9 S := h.fr hS fun b k q => hf b k (by omega) (by omega)
theorem oP.sp {σ σ9 : sv_G} {S : st_T} {c v r : Int} (hS : StOK S) (hN : RN σ S) (hf : frR σ σ9 6) (hc : c = 0) (hr : r = v) : oP σ σ9 r (c, v, S) := ⟨hc, hr, hN.sp hS hf, hS, hf.C (by decide)⟩
noncomputable def op_fits (S : st_T) (x y z : Int) : op_T := ((if ¬ (0 ≤ x ∧ x ≤ 3 ∧ 0 ≤ y ∧ y ≤ 2) then 1 else if ¬ (0 ≤ z ∧ z ≤ 999) then 2 else 0 : Int), ftN (sD S x) y (sH S) (z + 1).toNat, S)
noncomputable def op_fit (S : st_T) (x y z v : Int) : op_T := ((if ¬ (0 ≤ x ∧ x ≤ 3 ∧ 0 ≤ y ∧ y ≤ 2) then 1 else if ¬ ((0 ≤ z ∧ z ≤ 999) ∧ 0 ≤ v) then 2 else 0 : Int), fiR (sD S x) y (sH S) v (z + 1).toNat 0, S)
noncomputable def op_gap (S : st_T) (x y : Int) : op_T := ((if ¬ (0 ≤ x ∧ x ≤ 3) then 1 else if ¬ (0 ≤ y ∧ y ≤ 999) then 2 else 0 : Int), gaR (sD S x) (y + 1).toNat 0, S)
set_option maxRecDepth 100000 in
set_option maxHeartbeats 8000000 in
theorem kX7_isHeard {E : sv_E} {σ : sv_G} {S : st_T} {G : Nat} {D : gd_T} (hS : StOK S) (hG : shp G = (4, 0)) (hD : GDok D) (hC : RC σ G D) (hH : Rw σ 4 (sH S)) {n c : Int} (hn : 0 ≤ n ∧ n ≤ 9999) (hc : -2147483648 ≤ c ∧ c ≤ 2147483647) : CT E MX7_isHeard 88 [(vR 0), (vR G), (vI n), (vI c)] σ (PI fun r σ9 => frR σ σ9 6 ∧ Rw σ9 6 (spF D n c) ∧ r = hrI D c (sH S) n) := by
  refine CT.of (RX7, cX7_isHeard, 4, (some .boolean), [], 88, 0, 0) rfl moX7_isHeard (Nat.le_of_ble_eq_true rfl) (ls0 := [some (vR 0), some (vR G), some (vI n), some (vI c)]) rfl ?_
  intro X Q C hR
  refine s_aload_n C dX7_isHeard_0 rfl ?_
  refine s_iload_n C dX7_isHeard_1 rfl ?_
  refine s_iload_n C dX7_isHeard_2 rfl ?_
  refine s_aload_n C dX7_isHeard_3 rfl ?_
  refine s_getR (c := 7) C fl_7_25 dX7_isHeard_4 sh_0 rfl rf_0_3 ?_
  refine s_cN3i C dX7_isHeard_7 lkX7_176 moX4_speak mvX4_speak (kX4_speak (by exact hG) (by exact hD) (by exact hC) (by omega) (by omega) (by exact sh_6)) hG ⟨_, _, rfl⟩ (by decide) (Nat.le_of_ble_eq_true rfl) rfl (by decide) (fun r7 σ_7 hp7 => ?_)
  have hb7 : r7 = 0 ∨ r7 = 1 := zo1 hp7.2.2
  have hH2 : Rw σ_7 4 (sH S) := hH.fr fun b k h1 h2 => hp7.1 b k (by omega) (by omega)
  have J32 : ∀ (w : Int), (w = hrI D c (sH S) n) → SW X E Q 0 0 32 [some (vR 0), some (vR G), some (vI n), some (vI c)] [(vI w)] σ_7 := by
    intro w j32_0
    refine s_zret C hR dX7_isHeard_32 rfl (by rw [j32_0]; exact hrI_b) ⟨_, rfl, ?_⟩ (by decide)
    exact ⟨hp7.1, hp7.2.1, j32_0⟩
  have J31 : (hrI D c (sH S) n = 0) → SW X E Q 0 0 31 [some (vR 0), some (vR G), some (vI n), some (vI c)] [] σ_7 := by
    intro  j31_0
    refine s_iconst C dX7_isHeard_31 ?_
    refine J32 0 ?_
    · exact j31_0.symm
  refine s_if_eq (tgt := 31) C dX7_isHeard_10 (by decide) (by omega) (fun c10 => ?_) (fun c10 => ?_)
  · refine J31 ?_
    · rcases hp7.2.2 with q | q
      · exfalso; omega
      · exact hrI_0 (Or.inl q.2)
  · refine s_aload_n C dX7_isHeard_13 rfl ?_
    refine s_getR (c := 7) C fl_7_25 dX7_isHeard_14 sh_0 rfl rf_0_3 ?_
    refine s_aload_n C dX7_isHeard_17 rfl ?_
    refine s_getR (c := 7) C fl_7_22 dX7_isHeard_18 sh_0 rfl rf_0_2 ?_
    refine s_cN1i C dX7_isHeard_21 lkX7_311 moX6_agrees mvX6_agrees (kX6_agrees (by exact sh_6) (by exact sh_4) (by exact hp7.2.1) (by exact hH2)) sh_6 ⟨_, _, rfl⟩ (by decide) (Nat.le_of_ble_eq_true rfl) rfl (by decide) (kpI (fun r21 hp21 => ?_))
    have hb21 : r21 = 0 ∨ r21 = 1 := zo1 hp21
    refine s_if_eq (tgt := 31) C dX7_isHeard_24 (by decide) (by omega) (fun c24 => ?_) (fun c24 => ?_)
    · refine J31 ?_
      · rcases hp21 with q | q
        · exfalso; omega
        · exact hrI_0 (Or.inr q.2)
    · refine s_iconst C dX7_isHeard_27 ?_
      refine s_goto (tgt := 32) C dX7_isHeard_28 (by decide) ?_
      refine J32 1 ?_
      · rcases hp7.2.2 with q | q
        · rcases hp21 with q2 | q2
          · exact (hrI_1 q.2 q2.2).symm
          · exfalso; omega
        · exfalso; omega

set_option maxRecDepth 100000 in
set_option maxHeartbeats 8000000 in
theorem kX7_fits {E : sv_E} {σ : sv_G} {S : st_T} (hS : StOK S) (hN : RN σ S) {x : Int} (hx : -2147483648 ≤ x ∧ x ≤ 2147483647) {y : Int} (hy : -2147483648 ≤ y ∧ y ≤ 2147483647) {z : Int} (hz : -2147483648 ≤ z ∧ z ≤ 2147483647) : CX E MX7_fits 89 [(vR 0), (vI x), (vI y), (vI z)] σ (PI fun r σ9 => oP σ σ9 r (op_fits S x y z)) (px3 σ (op_fits S x y z).1 xI xA "") := by
  refine CX.of (RX7, cX7_fits, 7, (some .int), [], 89, 3, 18) rfl moX7_fits (by decide +kernel) (Nat.le_of_ble_eq_true rfl) (ls0 := [some (vR 0), some (vI x), some (vI y), some (vI z), none, none, none]) rfl ?_
  intro X Q C hR hT
  refine s_aload_n C dX7_fits_0 rfl ?_
  refine s_iload_n C dX7_fits_1 rfl ?_
  refine s_iload_n C dX7_fits_2 rfl ?_
  refine s_iload_n C dX7_fits_3 rfl ?_
  refine sx_cV3r (u2 := 3) (w2 := 18) C dX7_fits_4 lkX7_203 moX7_grammarToHear mvX7_grammarToHear (kX7_grammarToHear (by omega) (by omega) (by omega)) sh_0 ⟨_, _, rfl⟩ (by decide) (Nat.le_of_ble_eq_true rfl) (by decide) (by decide) hT rfl (by decide) (fun En σ9 h => ⟨h.1, h.2.elim (fun q => Or.inl ⟨q.1, by have h3 := q.2; unfold op_fits; dsimp only; (repeat' split) <;> omega⟩) (fun q => Or.inr (Or.inl ⟨q.1, by have h3 := q.2; unfold op_fits; dsimp only; (repeat' split) <;> omega⟩))⟩) (kpI (fun r4 hp4 => ?_))
  have hr := hp4.2.1
  have hsh := hp4.2.2
  have hD := hS.1 x (by omega) (by omega)
  have hC : RC σ r4 (sD S x) := by rw [hr]; exact hN.1 x (by omega) (by omega)
  have hnb := hD.2.2.2.1
  have hn1 : σ r4 2 = gC (sD S x) 1 := hC.2.2.2.1
  refine s_astore (ls2 := [some (vR 0), some (vI x), some (vI y), some (vI z), some (vR r4), none, none]) C dX7_fits_7 (by decide) rfl ?_
  refine s_iconst C dX7_fits_9 ?_
  refine s_istore (ls2 := [some (vR 0), some (vI x), some (vI y), some (vI z), some (vR r4), some (vI 0), none]) C dX7_fits_10 (by decide) rfl ?_
  refine s_iconst C dX7_fits_12 ?_
  refine s_istore (ls2 := [some (vR 0), some (vI x), some (vI y), some (vI z), some (vR r4), some (vI 0), some (vI 0)]) C dX7_fits_13 (by decide) rfl ?_
  have L15 : ∀ (n : Nat) (f : Int) (m : Int) (τ : sv_G), (1000 - m).toNat < n → (0 ≤ m ∧ m ≤ z + 1) → (f = ftN (sD S x) y (sH S) m.toNat) → (0 ≤ f ∧ f ≤ m) → (frR σ τ 6) → SW X E Q 3 18 15 [some (vR 0), some (vI x), some (vI y), some (vI z), some (vR r4), some (vI f), some (vI m)] [] τ := by
    intro n
    induction n with
    | zero => intro f m τ hm; exact absurd hm (Nat.not_lt_zero _)
    | succ n ih15 =>
      intro f m τ hm15 i15_0 i15_1 i15_2 i15_3
      have hNt := hN.sp hS i15_3
      have hCt : RC τ r4 (sD S x) := by rw [hr]; exact hNt.1 x (by omega) (by omega)
      have hHt := hNt.2.2.1
      refine s_iload C dX7_fits_15 rfl ?_
      refine s_iload_n C dX7_fits_17 rfl ?_
      refine s_icmp_gt (tgt := 42) C dX7_fits_18 (by decide) (by omega) (by omega) (fun c18 => ?_) (fun c18 => ?_)
      · refine s_iload C dX7_fits_42 rfl ?_
        refine s_iret C hR dX7_fits_44 rfl ⟨_, rfl, ?_⟩ (by decide)
        exact oP.sp hS hN i15_3 (by (repeat' split) <;> omega) (by rw [i15_1, show m.toNat = (z + 1).toNat by omega])
      · refine s_aload_n C dX7_fits_21 rfl ?_
        refine s_aload C dX7_fits_22 rfl ?_
        refine s_iload C dX7_fits_24 rfl ?_
        refine s_iload_n C dX7_fits_26 rfl ?_
        refine s_cV3i C dX7_fits_27 lkX7_207 moX7_isHeard mvX7_isHeard (kX7_isHeard (by exact hS) (by exact hsh) (by exact hD) (by exact hCt) (by exact hHt) (by omega) (by omega)) sh_0 ⟨_, _, rfl⟩ (by decide) (Nat.le_of_ble_eq_true rfl) rfl (by decide) (fun r27 σ_27 hp27 => ?_)
        have hb27 := hrI_b (D := sD S x) (c := y) (H := sH S) (n := m)
        have hs27 := ftN_s (D := sD S x) (c := y) (H := sH S) (m := m) (by omega)
        have J36 : ∀ (f2 : Int), (f2 = ftN (sD S x) y (sH S) (m + 1).toNat) → (0 ≤ f2 ∧ f2 ≤ m + 1) → SW X E Q 3 18 36 [some (vR 0), some (vI x), some (vI y), some (vI z), some (vR r4), some (vI f2), some (vI m)] [] σ_27 := by
          intro f2 j36_0 j36_1
          obtain ⟨x6_36, ex6_36⟩ : ∃ y : Int, y = m + 1 := ⟨_, rfl⟩
          refine s_iinc (z2 := x6_36) (ls2 := [some (vR 0), some (vI x), some (vI y), some (vI z), some (vR r4), some (vI f2), some (vI x6_36)]) C dX7_fits_36 (by decide) rfl ex6_36 rfl ?_
          refine s_goto (tgt := 15) C dX7_fits_39 (by decide) ?_
          refine ih15 f2 x6_36 σ_27 (by omega) (by first | assumption | omega) ?_ (by first | assumption | omega) ?_
          · rw [show x6_36 = m + 1 from ex6_36]; exact j36_0
          · exact i15_3.tr hp27.1
        have hh27 := hp27.2.2
        refine s_if_eq (tgt := 36) C dX7_fits_30 (by decide) (by omega) (fun c30 => ?_) (fun c30 => ?_)
        · refine J36 f ?_ (by first | assumption | omega)
          · rw [hs27]; have := hp27.2.2; omega
        · obtain ⟨x5_33, ex5_33⟩ : ∃ y : Int, y = f + 1 := ⟨_, rfl⟩
          refine s_iinc (z2 := x5_33) (ls2 := [some (vR 0), some (vI x), some (vI y), some (vI z), some (vR r4), some (vI x5_33), some (vI m)]) C dX7_fits_33 (by decide) rfl ex5_33 rfl ?_
          refine J36 x5_33 ?_ (by first | assumption | omega)
          · rw [hs27]; have := hp27.2.2; omega
  refine L15 _ 0 0 σ (Nat.lt_succ_self _) (by first | assumption | omega) ?_ (by first | assumption | omega) ?_
  · rfl
  · exact fun _ _ _ _ => rfl

set_option maxRecDepth 100000 in
set_option maxHeartbeats 8000000 in
theorem kX7_fit {E : sv_E} {σ : sv_G} {S : st_T} (hS : StOK S) (hN : RN σ S) {x : Int} (hx : -2147483648 ≤ x ∧ x ≤ 2147483647) {y : Int} (hy : -2147483648 ≤ y ∧ y ≤ 2147483647) {z : Int} (hz : -2147483648 ≤ z ∧ z ≤ 2147483647) {v : Int} (hv : -2147483648 ≤ v ∧ v ≤ 2147483647) : CX E MX7_fit 89 [(vR 0), (vI x), (vI y), (vI z), (vI v)] σ (PI fun r σ9 => oP σ σ9 r (op_fit S x y z v)) (px3 σ (op_fit S x y z v).1 xI xA "") := by
  refine CX.of (RX7, cX7_fit, 8, (some .int), [], 89, 4, 24) rfl moX7_fit (by decide +kernel) (Nat.le_of_ble_eq_true rfl) (ls0 := [some (vR 0), some (vI x), some (vI y), some (vI z), some (vI v), none, none, none]) rfl ?_
  intro X Q C hR hT
  refine s_aload_n C dX7_fit_0 rfl ?_
  refine s_iload_n C dX7_fit_1 rfl ?_
  refine s_iload_n C dX7_fit_2 rfl ?_
  refine s_iload_n C dX7_fit_3 rfl ?_
  refine sx_cV3r (u2 := 3) (w2 := 18) C dX7_fit_4 lkX7_203 moX7_grammarToHear mvX7_grammarToHear (kX7_grammarToHear (by omega) (by omega) (by omega)) sh_0 ⟨_, _, rfl⟩ (by decide) (Nat.le_of_ble_eq_true rfl) (by decide) (by decide) hT rfl (by decide) (fun En σ9 h => ⟨h.1, h.2.elim (fun q => Or.inl ⟨q.1, by have h3 := q.2; unfold op_fit; dsimp only; (repeat' split) <;> omega⟩) (fun q => Or.inr (Or.inl ⟨q.1, by have h3 := q.2; unfold op_fit; dsimp only; (repeat' split) <;> omega⟩))⟩) (kpI (fun r4 hp4 => ?_))
  have hr := hp4.2.1
  have hsh := hp4.2.2
  have hD := hS.1 x (by omega) (by omega)
  have hC : RC σ r4 (sD S x) := by rw [hr]; exact hN.1 x (by omega) (by omega)
  have hnb := hD.2.2.2.1
  have hn1 : σ r4 2 = gC (sD S x) 1 := hC.2.2.2.1
  refine s_astore (ls2 := [some (vR 0), some (vI x), some (vI y), some (vI z), some (vI v), some (vR r4), none, none]) C dX7_fit_7 (by decide) rfl ?_
  refine s_iload C dX7_fit_9 rfl ?_
  refine s_if_ge (tgt := 24) C dX7_fit_11 (by decide) (by omega) (fun c11 => ?_) (fun c11 => ?_)
  · refine s_iconst C dX7_fit_24 ?_
    refine s_istore (ls2 := [some (vR 0), some (vI x), some (vI y), some (vI z), some (vI v), some (vR r4), some (vI 0), none]) C dX7_fit_25 (by decide) rfl ?_
    refine s_iconst C dX7_fit_27 ?_
    refine s_istore (ls2 := [some (vR 0), some (vI x), some (vI y), some (vI z), some (vI v), some (vR r4), some (vI 0), some (vI 0)]) C dX7_fit_28 (by decide) rfl ?_
    have L30 : ∀ (n : Nat) (f : Int) (m : Int) (τ : sv_G), (1000 - m).toNat < n → (0 ≤ m ∧ m ≤ z + 1) → (f = ftN (sD S x) y (sH S) m.toNat) → (0 ≤ f ∧ f ≤ m) → (frR σ τ 6) → (fiR (sD S x) y (sH S) v (z + 1).toNat 0 = fiR (sD S x) y (sH S) v (z + 1 - m).toNat m.toNat) → SW X E Q 3 18 30 [some (vR 0), some (vI x), some (vI y), some (vI z), some (vI v), some (vR r4), some (vI f), some (vI m)] [] τ := by
      intro n
      induction n with
      | zero => intro f m τ hm; exact absurd hm (Nat.not_lt_zero _)
      | succ n ih30 =>
        intro f m τ hm30 i30_0 i30_1 i30_2 i30_3 i30_4
        have hNt := hN.sp hS i30_3
        have hCt : RC τ r4 (sD S x) := by rw [hr]; exact hNt.1 x (by omega) (by omega)
        have hHt := hNt.2.2.1
        refine s_iload C dX7_fit_30 rfl ?_
        refine s_iload_n C dX7_fit_32 rfl ?_
        refine s_icmp_gt (tgt := 67) C dX7_fit_33 (by decide) (by omega) (by omega) (fun c33 => ?_) (fun c33 => ?_)
        · refine s_iconst C dX7_fit_67 ?_
          refine s_iret C hR dX7_fit_68 rfl ⟨_, rfl, ?_⟩ (by decide)
          exact oP.sp hS hN i30_3 (by (repeat' split) <;> omega) (by rw [i30_4, show (z + 1 - m).toNat = 0 by omega]; rfl)
        · refine s_aload_n C dX7_fit_36 rfl ?_
          refine s_aload C dX7_fit_37 rfl ?_
          refine s_iload C dX7_fit_39 rfl ?_
          refine s_iload_n C dX7_fit_41 rfl ?_
          refine s_cV3i C dX7_fit_42 lkX7_207 moX7_isHeard mvX7_isHeard (kX7_isHeard (by exact hS) (by exact hsh) (by exact hD) (by exact hCt) (by exact hHt) (by omega) (by omega)) sh_0 ⟨_, _, rfl⟩ (by decide) (Nat.le_of_ble_eq_true rfl) rfl (by decide) (fun r42 σ_42 hp42 => ?_)
          have hb42 := hrI_b (D := sD S x) (c := y) (H := sH S) (n := m)
          have hs42 := ftN_s (D := sD S x) (c := y) (H := sH S) (m := m) (by omega)
          have hf42 := fiR_s (D := sD S x) (c := y) (H := sH S) (p := v) (m := m) (z := z) (by omega)
          have J61 : ∀ (f2 : Int), (f2 = ftN (sD S x) y (sH S) (m + 1).toNat) → (0 ≤ f2 ∧ f2 ≤ m + 1) → (fiR (sD S x) y (sH S) v (z + 1).toNat 0 = fiR (sD S x) y (sH S) v (z + 1 - (m + 1)).toNat (m + 1).toNat) → SW X E Q 3 18 61 [some (vR 0), some (vI x), some (vI y), some (vI z), some (vI v), some (vR r4), some (vI f2), some (vI m)] [] σ_42 := by
            intro f2 j61_0 j61_1 j61_2
            obtain ⟨x7_61, ex7_61⟩ : ∃ y : Int, y = m + 1 := ⟨_, rfl⟩
            refine s_iinc (z2 := x7_61) (ls2 := [some (vR 0), some (vI x), some (vI y), some (vI z), some (vI v), some (vR r4), some (vI f2), some (vI x7_61)]) C dX7_fit_61 (by decide) rfl ex7_61 rfl ?_
            refine s_goto (tgt := 30) C dX7_fit_64 (by decide) ?_
            refine ih30 f2 x7_61 σ_42 (by omega) (by first | assumption | omega) ?_ (by first | assumption | omega) ?_ ?_
            · rw [show x7_61 = m + 1 from ex7_61]; exact j61_0
            · exact i30_3.tr hp42.1
            · rw [show x7_61 = m + 1 from ex7_61]; exact j61_2
          have hh42 := hp42.2.2
          refine s_if_eq (tgt := 61) C dX7_fit_45 (by decide) (by omega) (fun c45 => ?_) (fun c45 => ?_)
          · refine J61 f ?_ (by first | assumption | omega) ?_
            · rw [hs42]; have := hp42.2.2; omega
            · rw [i30_4, hf42, if_neg (by omega)]
          · refine s_iload C dX7_fit_48 rfl ?_
            refine s_iload C dX7_fit_50 rfl ?_
            refine s_icmp_ne (tgt := 58) C dX7_fit_52 (by decide) (by omega) (by omega) (fun c52 => ?_) (fun c52 => ?_)
            · obtain ⟨x6_58, ex6_58⟩ : ∃ y : Int, y = f + 1 := ⟨_, rfl⟩
              refine s_iinc (z2 := x6_58) (ls2 := [some (vR 0), some (vI x), some (vI y), some (vI z), some (vI v), some (vR r4), some (vI x6_58), some (vI m)]) C dX7_fit_58 (by decide) rfl ex6_58 rfl ?_
              refine J61 x6_58 ?_ (by first | assumption | omega) ?_
              · rw [hs42]; have := hp42.2.2; omega
              · rw [i30_4, hf42, if_neg (by omega)]
            · refine s_iload C dX7_fit_55 rfl ?_
              refine s_iret C hR dX7_fit_57 rfl ⟨_, rfl, ?_⟩ (by decide)
              exact oP.sp hS hN (i30_3.tr hp42.1) (by (repeat' split) <;> omega) (by rw [i30_4, hf42, if_pos (by omega)])
    refine L30 _ 0 0 σ (Nat.lt_succ_self _) (by first | assumption | omega) ?_ (by first | assumption | omega) ?_ ?_
    · rfl
    · exact fun _ _ _ _ => rfl
    · rw [show (z + 1 - 0).toNat = (z + 1).toNat by omega]; rfl
  · exact s_throwG (sa := 0) (ik := 211) (is := 213) (ic := 215) C hT atX7_215 lcX7_211 lsX7_213 rfl (by exact ⟨rfl, Or.inr (Or.inl ⟨rfl, by unfold op_fit; dsimp only; (repeat' split) <;> omega⟩)⟩) (by decide) (by decide) (by decide) (Nat.le_of_ble_eq_true rfl) false dX7_fit_14 dX7_fit_17 ⟨dX7_fit_18, dX7_fit_20, dX7_fit_23⟩

set_option maxRecDepth 100000 in
set_option maxHeartbeats 8000000 in
theorem kX7_gap {E : sv_E} {σ : sv_G} {S : st_T} (hS : StOK S) (hN : RN σ S) {x : Int} (hx : -2147483648 ≤ x ∧ x ≤ 2147483647) {y : Int} (hy : -2147483648 ≤ y ∧ y ≤ 2147483647) : CX E MX7_gap 88 [(vR 0), (vI x), (vI y)] σ (PI fun r σ9 => oP σ σ9 r (op_gap S x y)) (px3 σ (op_gap S x y).1 xI xA "") := by
  refine CX.of (RX7, cX7_gap, 5, (some .int), [], 88, 2, 12) rfl moX7_gap (by decide +kernel) (Nat.le_of_ble_eq_true rfl) (ls0 := [some (vR 0), some (vI x), some (vI y), none, none]) rfl ?_
  intro X Q C hR hT
  refine s_aload_n C dX7_gap_0 rfl ?_
  refine s_iload_n C dX7_gap_1 rfl ?_
  refine sx_cV1r (u2 := 1) (w2 := 6) C dX7_gap_2 lkX7_70 moX7_grammarAt mvX7_grammarAt (kX7_grammarAt (by omega)) sh_0 ⟨_, _, rfl⟩ (by decide) (Nat.le_of_ble_eq_true rfl) (by decide) (by decide) hT rfl (by decide) (fun En σ9 h => ⟨h.1, Or.inl ⟨h.2.1, by have h3 := h.2.2; unfold op_gap; dsimp only; (repeat' split) <;> omega⟩⟩) (kpI (fun r2 hp2 => ?_))
  have hr := hp2.2.1
  have hsh := hp2.2.2
  have hD := hS.1 x (by omega) (by omega)
  have hC : RC σ r2 (sD S x) := by rw [hr]; exact hN.1 x (by omega) (by omega)
  have hnb := hD.2.2.2.1
  have hn1 : σ r2 2 = gC (sD S x) 1 := hC.2.2.2.1
  refine s_astore_n (ls2 := [some (vR 0), some (vI x), some (vI y), some (vR r2), none]) C dX7_gap_5 (by decide) rfl ?_
  refine s_iload_n C dX7_gap_6 rfl ?_
  refine s_iconst C dX7_gap_7 ?_
  refine s_sipush C dX7_gap_8 (by decide) ?_
  refine sx_cS3v (u2 := 2) (w2 := 12) C dX7_gap_11 lkX7_82 moX7_needRange mvX7_needRange (kX7_needRange (by omega) (by decide) (by decide)) (by decide) (Nat.le_of_ble_eq_true rfl) (by decide) (by decide) hT rfl (by decide) (fun En σ9 h => ⟨h.1, Or.inr (Or.inl ⟨h.2.1, by have h3 := h.2.2; unfold op_gap; dsimp only; (repeat' split) <;> omega⟩)⟩) (kpV (fun hp11 => ?_))
  refine s_iconst C dX7_gap_14 ?_
  refine s_istore (ls2 := [some (vR 0), some (vI x), some (vI y), some (vR r2), some (vI 0)]) C dX7_gap_15 (by decide) rfl ?_
  have L17 : ∀ (n : Nat) (m : Int) (τ : sv_G), (1000 - m).toNat < n → (0 ≤ m ∧ m ≤ y + 1) → (frR σ τ 6) → (gaR (sD S x) (y + 1).toNat 0 = gaR (sD S x) (y + 1 - m).toNat m.toNat) → SW X E Q 2 12 17 [some (vR 0), some (vI x), some (vI y), some (vR r2), some (vI m)] [] τ := by
    intro n
    induction n with
    | zero => intro m τ hm; exact absurd hm (Nat.not_lt_zero _)
    | succ n ih17 =>
      intro m τ hm17 i17_0 i17_1 i17_2
      have hNt := hN.sp hS i17_1
      have hCt : RC τ r2 (sD S x) := by rw [hr]; exact hNt.1 x (by omega) (by omega)
      have hHt := hNt.2.2.1
      refine s_iload C dX7_gap_17 rfl ?_
      refine s_iload_n C dX7_gap_19 rfl ?_
      refine s_icmp_gt (tgt := 46) C dX7_gap_20 (by decide) (by omega) (by omega) (fun c20 => ?_) (fun c20 => ?_)
      · refine s_iconst C dX7_gap_46 ?_
        refine s_iret C hR dX7_gap_47 rfl ⟨_, rfl, ?_⟩ (by decide)
        exact oP.sp hS hN i17_1 (by (repeat' split) <;> omega) (by rw [i17_2, show (y + 1 - m).toNat = 0 by omega]; rfl)
      · refine s_aload_n C dX7_gap_23 rfl ?_
        refine s_iload C dX7_gap_24 rfl ?_
        refine s_iconst C dX7_gap_26 ?_
        refine s_aload_n C dX7_gap_27 rfl ?_
        refine s_getR (c := 7) C fl_7_25 dX7_gap_28 sh_0 rfl rf_0_3 ?_
        refine s_cN3i C dX7_gap_31 lkX7_176 moX4_speak mvX4_speak (kX4_speak (by exact hsh) (by exact hD) (by exact hCt) (by omega) (by decide) (by exact sh_6)) hp2.2.2 ⟨_, _, rfl⟩ (by decide) (Nat.le_of_ble_eq_true rfl) rfl (by decide) (fun r31 σ_31 hp31 => ?_)
        have hb31 : r31 = 0 ∨ r31 = 1 := zo1 hp31.2.2
        have hs31 := gaR_s (D := sD S x) (m := m) (z := y) (by omega)
        refine s_if_ne (tgt := 40) C dX7_gap_34 (by decide) (by omega) (fun c34 => ?_) (fun c34 => ?_)
        · obtain ⟨x4_40, ex4_40⟩ : ∃ y : Int, y = m + 1 := ⟨_, rfl⟩
          refine s_iinc (z2 := x4_40) (ls2 := [some (vR 0), some (vI x), some (vI y), some (vR r2), some (vI x4_40)]) C dX7_gap_40 (by decide) rfl ex4_40 rfl ?_
          refine s_goto (tgt := 17) C dX7_gap_43 (by decide) ?_
          refine ih17 x4_40 σ_31 (by omega) (by first | assumption | omega) ?_ ?_
          · exact i17_1.tr hp31.1
          · rcases hp31.2.2 with q | q
            · rw [i17_2, hs31, if_neg q.2, show x4_40 = m + 1 from ex4_40]
            · exfalso; omega
        · refine s_iload C dX7_gap_37 rfl ?_
          refine s_iret C hR dX7_gap_39 rfl ⟨_, rfl, ?_⟩ (by decide)
          rcases hp31.2.2 with q | q
          · exfalso; omega
          · exact oP.sp hS hN (i17_1.tr hp31.1) (by (repeat' split) <;> omega) (by rw [i17_2, hs31, if_pos q.2])
  refine L17 _ 0 σ (Nat.lt_succ_self _) (by first | assumption | omega) ?_ ?_
  · exact fun _ _ _ _ => rfl
  · rw [show (y + 1 - 0).toNat = (y + 1).toNat by omega]; rfl
