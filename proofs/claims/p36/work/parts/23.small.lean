/-- forms of a grammar: no word and kind twice -/
def FmOK (σ : sv_G) (a : Nat) : Prop := 0 ≤ σ a 3 ∧ σ a 3 ≤ 30 ∧ ∀ i j, 0 ≤ i → i < j → j < σ a 3 → ¬ (σ (a + 1) i = σ (a + 1) j ∧ σ (a + 2) i = σ (a + 2) j)
/-- the forms by word and kind: φ; -1 for none -/
def FmF (σ : sv_G) (a : Nat) (φ : Int → Int → Int) : Prop := (∀ i, 0 ≤ i → i < σ a 3 → φ (σ (a + 1) i) (σ (a + 2) i) = σ (a + 3) i ∧ 0 ≤ σ (a + 3) i ∧ σ (a + 3) i ≤ 199) ∧ ∀ w k, φ w k ≠ -1 → ∃ i, 0 ≤ i ∧ i < σ a 3 ∧ σ (a + 1) i = w ∧ σ (a + 2) i = k
def fmS (φ : Int → Int → Int) (w k v : Int) : Int → Int → Int := fun w' k' => if w' = w ∧ k' = k then v else φ w' k'
theorem FmF.none {σ : sv_G} {a : Nat} {φ : Int → Int → Int} {w k : Int} (h : FmF σ a φ) (hn : ∀ i, 0 ≤ i → i < σ a 3 → ¬ (σ (a + 1) i = w ∧ σ (a + 2) i = k)) : φ w k = -1 := by
  apply Classical.byContradiction
  intro q
  obtain ⟨i, h1, h2, h3, h4⟩ := h.2 w k q
  exact hn i h1 h2 ⟨h3, h4⟩
theorem FmF.set {σ σ' : sv_G} {a : Nat} {φ : Int → Int → Int} {w k v r : Int} (hA : FmOK σ a) (hF : FmF σ a φ) (hr : 0 ≤ r ∧ r < σ a 3) (h1 : σ (a + 1) r = w ∧ σ (a + 2) r = k) (hv : 0 ≤ v ∧ v ≤ 199) (hs : σ' a 3 = σ a 3) (e1 : ∀ i, σ' (a + 1) i = σ (a + 1) i) (e2 : ∀ i, σ' (a + 2) i = σ (a + 2) i) (e3 : ∀ i, σ' (a + 3) i = if i = r then v else σ (a + 3) i) : FmOK σ' a ∧ FmF σ' a (fmS φ w k v) := by
  refine ⟨⟨by rw [hs]; exact hA.1, by rw [hs]; exact hA.2.1, fun i j g1 g2 g3 => by rw [e1, e1, e2, e2]; exact hA.2.2 i j g1 g2 (by omega)⟩, fun i g1 g2 => ?_, fun w' k' hq => ?_⟩
  · rw [hs] at g2
    rw [e1, e2, e3]
    unfold fmS
    by_cases q : i = r
    · rw [q, if_pos h1, if_pos rfl]; exact ⟨rfl, hv⟩
    · rw [if_neg q, if_neg]
      · exact hF.1 i g1 g2
      · rintro ⟨q1, q2⟩
        rcases Int.lt_or_lt_of_ne q with q3 | q3
        · exact hA.2.2 i r g1 q3 hr.2 ⟨by omega, by omega⟩
        · exact hA.2.2 r i hr.1 q3 g2 ⟨by omega, by omega⟩
  · unfold fmS at hq
    by_cases q : w' = w ∧ k' = k
    · exact ⟨r, hr.1, by omega, by rw [e1]; omega, by rw [e2]; omega⟩
    · rw [if_neg q] at hq
      obtain ⟨i, g1, g2, g3, g4⟩ := hF.2 w' k' hq
      exact ⟨i, g1, by omega, by rw [e1]; exact g3, by rw [e2]; exact g4⟩
theorem FmF.add {σ σ' : sv_G} {a : Nat} {φ : Int → Int → Int} {w k v : Int} (hA : FmOK σ a) (hF : FmF σ a φ) (hn : ∀ i, 0 ≤ i → i < σ a 3 → ¬ (σ (a + 1) i = w ∧ σ (a + 2) i = k)) (hv : 0 ≤ v ∧ v ≤ 199) (h9 : σ a 3 < 30) (hs : σ' a 3 = σ a 3 + 1)
    (e1 : ∀ i, σ' (a + 1) i = if i = σ a 3 then w else σ (a + 1) i) (e2 : ∀ i, σ' (a + 2) i = if i = σ a 3 then k else σ (a + 2) i) (e3 : ∀ i, σ' (a + 3) i = if i = σ a 3 then v else σ (a + 3) i) : FmOK σ' a ∧ FmF σ' a (fmS φ w k v) := by
  have hA1 := hA.1
  refine ⟨⟨by omega, by omega, fun i j g1 g2 g3 => ?_⟩, fun i g1 g2 => ?_, fun w' k' hq => ?_⟩
  · rw [e1, e1, e2, e2, if_neg (by omega : ¬ i = σ a 3), if_neg (by omega : ¬ i = σ a 3)]
    by_cases q : j = σ a 3
    · rw [if_pos q, if_pos q]; exact hn i g1 (by omega)
    · rw [if_neg q, if_neg q]; exact hA.2.2 i j g1 g2 (by omega)
  · rw [e1, e2, e3]
    unfold fmS
    by_cases q : i = σ a 3
    · rw [if_pos q, if_pos q, if_pos q, if_pos ⟨rfl, rfl⟩]; exact ⟨rfl, hv⟩
    · rw [if_neg q, if_neg q, if_neg q, if_neg (hn i g1 (by omega))]; exact hF.1 i g1 (by omega)
  · unfold fmS at hq
    by_cases q : w' = w ∧ k' = k
    · exact ⟨σ a 3, hA1, by omega, by rw [e1, if_pos rfl, q.1], by rw [e2, if_pos rfl, q.2]⟩
    · rw [if_neg q] at hq
      obtain ⟨i, g1, g2, g3, g4⟩ := hF.2 w' k' hq
      exact ⟨i, g1, by omega, by rw [e1, if_neg (by omega)]; exact g3, by rw [e2, if_neg (by omega)]; exact g4⟩
set_option maxRecDepth 100000 in
set_option maxHeartbeats 8000000 in
theorem kX3_isFull {E : sv_E} {σ : sv_G} {a : Nat} (ha : shp a = (3, 0)) : CT E MX3_isFull 0 [(vR a)] σ (PI fun r σ9 => σ9 = σ ∧ ((r = 1 ∧ 30 ≤ σ a 3) ∨ (r = 0 ∧ σ a 3 < 30))) := by
  refine CT.of (RX3, cX3_isFull, 1, (some .boolean), [], 0, 0, 0) rfl moX3_isFull (Nat.le_of_ble_eq_true rfl) (ls0 := [some (vR a)]) rfl ?_
  intro X Q C hR
  refine s_aload_n C dX3_isFull_0 rfl ?_
  refine s_getI (c := 3) (kz := 3) C fl_3_21 dX3_isFull_1 ha rfl rfl (fun g1 => ?_)
  refine s_bipush C dX3_isFull_4 (by decide) ?_
  refine s_icmp_lt (tgt := 13) C dX3_isFull_6 (by decide) (by omega) (by omega) (fun c6 => ?_) (fun c6 => ?_)
  · refine s_iconst C dX3_isFull_13 ?_
    refine s_zret C hR dX3_isFull_14 rfl (by omega) ⟨_, rfl, ?_⟩ (by decide)
    exact ⟨rfl, by omega⟩
  · refine s_iconst C dX3_isFull_9 ?_
    refine s_goto (tgt := 14) C dX3_isFull_10 (by decide) ?_
    refine s_zret C hR dX3_isFull_14 rfl (by omega) ⟨_, rfl, ?_⟩ (by decide)
    exact ⟨rfl, by omega⟩
set_option maxRecDepth 100000 in
set_option maxHeartbeats 8000000 in
theorem kX3_placeOf {E : sv_E} {σ : sv_G} {a : Nat} {x k : Int} (ha : shp a = (3, 0)) (hx : -2147483648 ≤ x ∧ x ≤ 2147483647) (hk : -2147483648 ≤ k ∧ k ≤ 2147483647) (hA : FmOK σ a) : CT E MX3_placeOf 0 [(vR a), (vI x), (vI k)] σ (PI fun r σ9 => σ9 = σ ∧ ((r = -1 ∧ ∀ i, 0 ≤ i → i < σ a 3 → ¬ (σ (a + 1) i = x ∧ σ (a + 2) i = k)) ∨ (0 ≤ r ∧ r < σ a 3 ∧ σ (a + 1) r = x ∧ σ (a + 2) r = k))) := by
  refine CT.of (RX3, cX3_placeOf, 4, (some .int), [], 0, 0, 0) rfl moX3_placeOf (Nat.le_of_ble_eq_true rfl) (ls0 := [some (vR a), some (vI x), some (vI k), none]) rfl ?_
  intro X Q C hR
  obtain ⟨hA1, hA2, hA3⟩ := hA
  refine s_iconst C dX3_placeOf_0 ?_
  refine s_istore_n (ls2 := [some (vR a), some (vI x), some (vI k), some (vI 0)]) C dX3_placeOf_1 (by decide) rfl ?_
  have L2 : ∀ (n : Nat) (m : Int), (30 - m).toNat < n → (0 ≤ m ∧ m ≤ σ a 3) → (∀ i, 0 ≤ i → i < m → ¬ (σ (a + 1) i = x ∧ σ (a + 2) i = k)) → SW X E Q 0 0 2 [some (vR a), some (vI x), some (vI k), some (vI m)] [] σ := by
    intro n
    induction n with
    | zero => intro m hm; exact absurd hm (Nat.not_lt_zero _)
    | succ n ih2 =>
      intro m hm2 i2_0 i2_1
      refine s_iload_n C dX3_placeOf_2 rfl ?_
      refine s_aload_n C dX3_placeOf_3 rfl ?_
      refine s_getI (c := 3) (kz := 3) C fl_3_21 dX3_placeOf_4 ha rfl rfl (fun g4 => ?_)
      refine s_icmp_ge (tgt := 38) C dX3_placeOf_7 (by decide) (by omega) (by omega) (fun c7 => ?_) (fun c7 => ?_)
      · refine s_iconst C dX3_placeOf_38 ?_
        refine s_iret C hR dX3_placeOf_39 rfl ⟨_, rfl, ?_⟩ (by decide)
        exact ⟨rfl, Or.inl ⟨rfl, fun i h1 h2 => i2_1 i h1 (by omega)⟩⟩
      · refine s_aload_n C dX3_placeOf_10 rfl ?_
        refine s_getR (c := 3) C fl_3_9 dX3_placeOf_11 ha rfl (rfc_3_0 ha) ?_
        refine s_iload_n C dX3_placeOf_14 rfl ?_
        refine s_iald C dX3_placeOf_15 (shc_3_0 ha) (by omega) (fun g15 => ?_)
        refine s_iload_n C dX3_placeOf_16 rfl ?_
        have J32 : (¬ (σ (a + 1) m = x ∧ σ (a + 2) m = k)) → SW X E Q 0 0 32 [some (vR a), some (vI x), some (vI k), some (vI m)] [] σ := by
          intro  j32_0
          obtain ⟨x3_32, ex3_32⟩ : ∃ y : Int, y = m + 1 := ⟨_, rfl⟩
          refine s_iinc (z2 := x3_32) (ls2 := [some (vR a), some (vI x), some (vI k), some (vI x3_32)]) C dX3_placeOf_32 (by decide) rfl ex3_32 rfl ?_
          refine s_goto (tgt := 2) C dX3_placeOf_35 (by decide) ?_
          refine ih2 x3_32 (by omega) (by first | assumption | omega) ?_
          · intro i h1 h2
            rcases Int.lt_or_le i m with q | q
            · exact i2_1 i h1 q
            · rw [show i = m by omega]; exact j32_0
        refine s_icmp_ne (tgt := 32) C dX3_placeOf_17 (by decide) (by omega) (by omega) (fun c17 => ?_) (fun c17 => ?_)
        · exact J32 (by omega)
        · refine s_aload_n C dX3_placeOf_20 rfl ?_
          refine s_getR (c := 3) C fl_3_15 dX3_placeOf_21 ha rfl (rfc_3_1 ha) ?_
          refine s_iload_n C dX3_placeOf_24 rfl ?_
          refine s_iald C dX3_placeOf_25 (shc_3_1 ha) (by omega) (fun g25 => ?_)
          refine s_iload_n C dX3_placeOf_26 rfl ?_
          refine s_icmp_ne (tgt := 32) C dX3_placeOf_27 (by decide) (by omega) (by omega) (fun c27 => ?_) (fun c27 => ?_)
          · exact J32 (by omega)
          · refine s_iload_n C dX3_placeOf_30 rfl ?_
            refine s_iret C hR dX3_placeOf_31 rfl ⟨_, rfl, ?_⟩ (by decide)
            exact ⟨rfl, Or.inr ⟨by omega, by omega, by omega, by omega⟩⟩
  refine L2 _ 0 (Nat.lt_succ_self _) (by first | assumption | omega) ?_
  · intro i h1 h2; omega
set_option maxRecDepth 100000 in
set_option maxHeartbeats 8000000 in
theorem kX3_formOf {E : sv_E} {σ : sv_G} {a : Nat} {x k : Int} (ha : shp a = (3, 0)) (hx : -2147483648 ≤ x ∧ x ≤ 2147483647) (hk : -2147483648 ≤ k ∧ k ≤ 2147483647) {φ : Int → Int → Int} (hA : FmOK σ a) (hF : FmF σ a φ) : CT E MX3_formOf 1 [(vR a), (vI x), (vI k)] σ (PI fun r σ9 => σ9 = σ ∧ r = φ x k ∧ -1 ≤ r ∧ r ≤ 199) := by
  refine CT.of (RX3, cX3_formOf, 4, (some .int), [], 1, 0, 0) rfl moX3_formOf (Nat.le_of_ble_eq_true rfl) (ls0 := [some (vR a), some (vI x), some (vI k), none]) rfl ?_
  intro X Q C hR
  refine s_aload_n C dX3_formOf_0 rfl ?_
  refine s_iload_n C dX3_formOf_1 rfl ?_
  refine s_iload_n C dX3_formOf_2 rfl ?_
  refine s_cV2i C dX3_formOf_3 lkX3_25 moX3_placeOf mvX3_placeOf (kX3_placeOf ha (by omega) (by omega) (by assumption)) ha ⟨_, _, rfl⟩ (by decide) (Nat.le_of_ble_eq_true rfl) rfl (by decide) (kpI (fun r3 hp3 => ?_))
  refine s_istore_n (ls2 := [some (vR a), some (vI x), some (vI k), some (vI r3)]) C dX3_formOf_6 (by decide) rfl ?_
  refine s_iload_n C dX3_formOf_7 rfl ?_
  refine s_iconst C dX3_formOf_8 ?_
  have hA0 := id hA
  obtain ⟨hA1, hA2, hA3⟩ := hA
  refine s_icmp_ne (tgt := 16) C dX3_formOf_9 (by decide) (by omega) (by omega) (fun c9 => ?_) (fun c9 => ?_)
  · refine s_aload_n C dX3_formOf_16 rfl ?_
    refine s_getR (c := 3) C fl_3_18 dX3_formOf_17 ha rfl (rfc_3_2 ha) ?_
    refine s_iload_n C dX3_formOf_20 rfl ?_
    refine s_iald C dX3_formOf_21 (shc_3_2 ha) (by omega) (fun g21 => ?_)
    refine s_iret C hR dX3_formOf_22 rfl ⟨_, rfl, ?_⟩ (by decide)
    rcases hp3 with ⟨q1, q2⟩ | ⟨q1, q2, q3, q4⟩
    · first
      | (exfalso; omega)
      | exact ⟨rfl, by rw [hF.none q2], by omega, by omega⟩
    · have h9 := hF.1 r3 q1 q2
      rw [q3, q4] at h9
      exact ⟨rfl, by omega, by omega, by omega⟩
  · refine s_iconst C dX3_formOf_12 ?_
    refine s_goto (tgt := 22) C dX3_formOf_13 (by decide) ?_
    refine s_iret C hR dX3_formOf_22 rfl ⟨_, rfl, ?_⟩ (by decide)
    rcases hp3 with ⟨q1, q2⟩ | ⟨q1, q2, q3, q4⟩
    · first
      | (exfalso; omega)
      | exact ⟨rfl, by rw [hF.none q2], by omega, by omega⟩
    · have h9 := hF.1 r3 q1 q2
      rw [q3, q4] at h9
      exact ⟨rfl, by omega, by omega, by omega⟩
set_option maxRecDepth 100000 in
set_option maxHeartbeats 8000000 in
theorem kX3_put {E : sv_E} {σ : sv_G} {a : Nat} {x k v : Int} (ha : shp a = (3, 0)) (hx : -2147483648 ≤ x ∧ x ≤ 2147483647) (hk : -2147483648 ≤ k ∧ k ≤ 2147483647) (hv : 0 ≤ v ∧ v ≤ 199) {φ : Int → Int → Int} (hA : FmOK σ a) (hF : FmF σ a φ) (hs : φ x k = -1 → σ a 3 < 30) : CT E MX3_put 1 [(vR a), (vI x), (vI k), (vI v)] σ (PV fun σ9 => FmOK σ9 a ∧ FmF σ9 a (fmS φ x k v) ∧ σ9 a 3 = (if φ x k = -1 then σ a 3 + 1 else σ a 3) ∧ ∀ b j, b ≠ a → b ≠ a + 1 → b ≠ a + 2 → b ≠ a + 3 → σ9 b j = σ b j) := by
  refine CT.of (RX3, cX3_put, 5, none, [], 1, 0, 0) rfl moX3_put (Nat.le_of_ble_eq_true rfl) (ls0 := [some (vR a), some (vI x), some (vI k), some (vI v), none]) rfl ?_
  intro X Q C hR
  refine s_aload_n C dX3_put_0 rfl ?_
  refine s_iload_n C dX3_put_1 rfl ?_
  refine s_iload_n C dX3_put_2 rfl ?_
  refine s_cV2i C dX3_put_3 lkX3_25 moX3_placeOf mvX3_placeOf (kX3_placeOf ha (by omega) (by omega) (by assumption)) ha ⟨_, _, rfl⟩ (by decide) (Nat.le_of_ble_eq_true rfl) rfl (by decide) (kpI (fun r3 hp3 => ?_))
  refine s_istore (ls2 := [some (vR a), some (vI x), some (vI k), some (vI v), some (vI r3)]) C dX3_put_6 (by decide) rfl ?_
  have hA0 := id hA
  obtain ⟨hA1, hA2, hA3⟩ := hA
  have hph : (r3 = -1 ∧ φ x k = -1 ∧ σ a 3 < 30) ∨ (0 ≤ r3 ∧ r3 < σ a 3 ∧ φ x k ≠ -1) := by
    rcases hp3 with ⟨q1, q2⟩ | ⟨q1, q2, q3, q4⟩
    · exact Or.inl ⟨q1, hF.none q2, hs (hF.none q2)⟩
    · have h9 := hF.1 r3 q1 q2
      rw [q3, q4] at h9
      exact Or.inr ⟨q1, q2, by omega⟩
  refine s_iload C dX3_put_8 rfl ?_
  refine s_iconst C dX3_put_10 ?_
  refine s_icmp_eq (tgt := 25) C dX3_put_11 (by decide) (by omega) (by omega) (fun c11 => ?_) (fun c11 => ?_)
  · refine s_aload_n C dX3_put_25 rfl ?_
    refine s_getI (c := 3) (kz := 3) C fl_3_21 dX3_put_26 ha rfl rfl (fun g26 => ?_)
    refine s_bipush C dX3_put_29 (by decide) ?_
    refine s_icmp_ge (tgt := 74) C dX3_put_31 (by decide) (by omega) (by omega) (fun c31 => ?_) (fun c31 => ?_)
    · exfalso; omega -- done
    · refine s_aload_n C dX3_put_34 rfl ?_
      refine s_getR (c := 3) C fl_3_9 dX3_put_35 ha rfl (rfc_3_0 ha) ?_
      refine s_aload_n C dX3_put_38 rfl ?_
      refine s_getI (c := 3) (kz := 3) C fl_3_21 dX3_put_39 ha rfl rfl (fun g39 => ?_)
      
      refine s_iload_n C dX3_put_42 rfl ?_
      refine s_iast C dX3_put_43 (shc_3_0 ha) (by omega) (by omega) ?_
      refine s_nameG (fun σ_43 hσ_43 => ?_)
      have z43 : σ_43 a 3 = σ a 3 := by rw [hσ_43, up_a (by omega)]
      refine s_aload_n C dX3_put_44 rfl ?_
      refine s_getR (c := 3) C fl_3_15 dX3_put_45 ha rfl (rfc_3_1 ha) ?_
      refine s_aload_n C dX3_put_48 rfl ?_
      refine s_getI (c := 3) (kz := 3) C fl_3_21 dX3_put_49 ha rfl rfl (fun g49 => ?_)
      refine s_iload_n C dX3_put_52 rfl ?_
      refine s_iast C dX3_put_53 (shc_3_1 ha) (by omega) (by omega) ?_
      refine s_nameG (fun σ_53 hσ_53 => ?_)
      have z53 : σ_53 a 3 = σ a 3 := by rw [hσ_53, up_a (by omega), z43]
      refine s_aload_n C dX3_put_54 rfl ?_
      refine s_getR (c := 3) C fl_3_18 dX3_put_55 ha rfl (rfc_3_2 ha) ?_
      refine s_aload_n C dX3_put_58 rfl ?_
      refine s_getI (c := 3) (kz := 3) C fl_3_21 dX3_put_59 ha rfl rfl (fun g59 => ?_)
      refine s_iload_n C dX3_put_62 rfl ?_
      refine s_iast C dX3_put_63 (shc_3_2 ha) (by omega) (by omega) ?_
      refine s_nameG (fun σ_63 hσ_63 => ?_)
      have z63 : σ_63 a 3 = σ a 3 := by rw [hσ_63, up_a (by omega), z53]
      refine s_aload_n C dX3_put_64 rfl ?_
      refine s_dup C dX3_put_65 rfl ?_
      refine s_getI (c := 3) (kz := 3) C fl_3_21 dX3_put_66 ha rfl rfl (fun g66 => ?_)
      refine s_iconst C dX3_put_69 ?_
      refine s_iadd C dX3_put_70 ?_
      refine s_putI (c := 3) (kz := 3) C fl_3_21 dX3_put_71 ha rfl (fun _ _ h9 => by cases h9; rfl) (by omega) rfl ?_
      refine s_nameG (fun σ_71 hσ_71 => ?_)
      refine s_vret C hR dX3_put_74 rfl ⟨rfl, ?_⟩ (by decide)
      first
        | (rcases hp3 with ⟨q1, q2⟩ | ⟨q1, q2, q3, q4⟩
           · exfalso; omega
           · have h := FmF.set (σ' := σ_21) (v := v) hA0 hF (r := r3) ⟨q1, q2⟩ (w := x) (k := k) ⟨q3, q4⟩ hv (by rw [hσ_21, up_a (by omega)]) (fun i => by rw [hσ_21, up_a (by omega)]) (fun i => by rw [hσ_21, up_a (by omega)]) (fun i => by rw [hσ_21, up_i])
             exact ⟨h.1, h.2, by rw [if_neg (by omega), hσ_21, up_a (by omega)], fun b j h1 h2 h3 h4 => by rw [hσ_21, up_a h4]⟩)
        | (rcases hp3 with ⟨q1, q2⟩ | ⟨q1, q2, q3, q4⟩
           · have h := FmF.add (σ' := σ_71) (v := v) hA0 hF q2 hv (by omega) (by rw [hσ_71, up_s, z63]) (fun i => by rw [hσ_71, up_a (by omega), hσ_63, up_a (by omega), hσ_53, up_a (by omega), hσ_43, up_i]) (fun i => by rw [hσ_71, up_a (by omega), hσ_63, up_a (by omega), hσ_53, up_i, z43, hσ_43, up_a (by omega)]) (fun i => by rw [hσ_71, up_a (by omega), hσ_63, up_i, z53, hσ_53, up_a (by omega), hσ_43, up_a (by omega)])
             exact ⟨h.1, h.2, by rw [if_pos (by omega), hσ_71, up_s, z63], fun b j h1 h2 h3 h4 => by rw [hσ_71, up_a h1, hσ_63, up_a h4, hσ_53, up_a h3, hσ_43, up_a h2]⟩
           · exfalso; omega)
  · refine s_aload_n C dX3_put_14 rfl ?_
    refine s_getR (c := 3) C fl_3_18 dX3_put_15 ha rfl (rfc_3_2 ha) ?_
    refine s_iload C dX3_put_18 rfl ?_
    refine s_iload_n C dX3_put_20 rfl ?_
    refine s_iast C dX3_put_21 (shc_3_2 ha) (by omega) (by omega) ?_
    refine s_nameG (fun σ_21 hσ_21 => ?_)
    refine s_goto (tgt := 74) C dX3_put_22 (by decide) ?_
    refine s_vret C hR dX3_put_74 rfl ⟨rfl, ?_⟩ (by decide)
    first
      | (rcases hp3 with ⟨q1, q2⟩ | ⟨q1, q2, q3, q4⟩
         · exfalso; omega
         · have h := FmF.set (σ' := σ_21) (v := v) hA0 hF (r := r3) ⟨q1, q2⟩ (w := x) (k := k) ⟨q3, q4⟩ hv (by rw [hσ_21, up_a (by omega)]) (fun i => by rw [hσ_21, up_a (by omega)]) (fun i => by rw [hσ_21, up_a (by omega)]) (fun i => by rw [hσ_21, up_i])
           exact ⟨h.1, h.2, by rw [if_neg (by omega), hσ_21, up_a (by omega)], fun b j h1 h2 h3 h4 => by rw [hσ_21, up_a h4]⟩)
      | (rcases hp3 with ⟨q1, q2⟩ | ⟨q1, q2, q3, q4⟩
         · have h := FmF.add (σ' := σ_71) (v := v) hA0 hF q2 hv (by omega) (by rw [hσ_71, up_s, z63]) (fun i => by rw [hσ_71, up_a (by omega), hσ_63, up_a (by omega), hσ_53, up_a (by omega), hσ_43, up_i]) (fun i => by rw [hσ_71, up_a (by omega), hσ_63, up_a (by omega), hσ_53, up_i, z43, hσ_43, up_a (by omega)]) (fun i => by rw [hσ_71, up_a (by omega), hσ_63, up_i, z53, hσ_53, up_a (by omega), hσ_43, up_a (by omega)])
           exact ⟨h.1, h.2, by rw [if_pos (by omega), hσ_71, up_s, z63], fun b j h1 h2 h3 h4 => by rw [hσ_71, up_a h1, hσ_63, up_a h4, hσ_53, up_a h3, hσ_43, up_a h2]⟩
         · exfalso; omega)
set_option maxRecDepth 100000 in
set_option maxHeartbeats 8000000 in
theorem kX1_start {E : sv_E} {σ : sv_G} {a : Nat} {x y z v : Int} (ha : shp a = (1, 0)) (hx : -2147483648 ≤ x ∧ x ≤ 2147483647) (hy : -2147483648 ≤ y ∧ y ≤ 2147483647) (hz : -2147483648 ≤ z ∧ z ≤ 2147483647) (hv : -2147483648 ≤ v ∧ v ≤ 2147483647) : CT E MX1_start 0 [(vR a), (vI x), (vI y), (vI z), (vI v)] σ (PV fun σ9 => σ9 a 0 = x ∧ σ9 a 1 = y ∧ σ9 a 2 = z ∧ σ9 a 3 = v ∧ σ9 a 4 = -1 ∧ σ9 a 5 = 0 ∧ σ9 a 6 = 0 ∧ ∀ b k, b ≠ a → σ9 b k = σ b k) := by
  refine CT.of (RX1, cX1_start, 5, none, [], 0, 0, 0) rfl moX1_start (Nat.le_of_ble_eq_true rfl) (ls0 := [some (vR a), some (vI x), some (vI y), some (vI z), some (vI v)]) rfl ?_
  intro X Q C hR
  refine s_aload_n C dX1_start_0 rfl ?_
  refine s_iload_n C dX1_start_1 rfl ?_
  refine s_putI (c := 1) (kz := 0) C fl_1_9 dX1_start_2 ha rfl (fun _ _ h9 => by cases h9; rfl) (by omega) rfl ?_
  refine s_nameG (fun σ_2 hσ_2 => ?_)
  refine s_aload_n C dX1_start_5 rfl ?_
  refine s_iload_n C dX1_start_6 rfl ?_
  refine s_putI (c := 1) (kz := 1) C fl_1_15 dX1_start_7 ha rfl (fun _ _ h9 => by cases h9; rfl) (by omega) rfl ?_
  refine s_nameG (fun σ_7 hσ_7 => ?_)
  refine s_aload_n C dX1_start_10 rfl ?_
  refine s_iload_n C dX1_start_11 rfl ?_
  refine s_putI (c := 1) (kz := 2) C fl_1_18 dX1_start_12 ha rfl (fun _ _ h9 => by cases h9; rfl) (by omega) rfl ?_
  refine s_nameG (fun σ_12 hσ_12 => ?_)
  refine s_aload_n C dX1_start_15 rfl ?_
  refine s_iload C dX1_start_16 rfl ?_
  refine s_putI (c := 1) (kz := 3) C fl_1_21 dX1_start_18 ha rfl (fun _ _ h9 => by cases h9; rfl) (by omega) rfl ?_
  refine s_nameG (fun σ_18 hσ_18 => ?_)
  refine s_aload_n C dX1_start_21 rfl ?_
  refine s_iconst C dX1_start_22 ?_
  refine s_putI (c := 1) (kz := 4) C fl_1_24 dX1_start_23 ha rfl (fun _ _ h9 => by cases h9; rfl) (by omega) rfl ?_
  refine s_nameG (fun σ_23 hσ_23 => ?_)
  refine s_aload_n C dX1_start_26 rfl ?_
  refine s_iconst C dX1_start_27 ?_
  refine s_putI (c := 1) (kz := 5) C fl_1_27 dX1_start_28 ha rfl (fun _ _ h9 => by cases h9; rfl) (by omega) rfl ?_
  refine s_nameG (fun σ_28 hσ_28 => ?_)
  refine s_aload_n C dX1_start_31 rfl ?_
  refine s_iconst C dX1_start_32 ?_
  refine s_putI (c := 1) (kz := 6) C fl_1_30 dX1_start_33 ha rfl (fun _ _ h9 => by cases h9; rfl) (by omega) rfl ?_
  refine s_nameG (fun σ_33 hσ_33 => ?_)
  refine s_vret C hR dX1_start_36 rfl ⟨rfl, ?_⟩ (by decide)
  subst hσ_2 hσ_7 hσ_12 hσ_18 hσ_23 hσ_28 hσ_33
  refine ⟨?_, ?_, ?_, ?_, ?_, ?_, ?_, fun b k h => by simp only [up_a h]⟩ <;> simp [up]
set_option maxRecDepth 100000 in
set_option maxHeartbeats 8000000 in
theorem kX1_set {E : sv_E} {σ : sv_G} {a : Nat} {x y : Int} (ha : shp a = (1, 0)) (hx : 0 ≤ x ∧ x ≤ 31) (hy : -1 ≤ y ∧ y ≤ 199) : CT E MX1_set 0 [(vR a), (vI x), (vI y)] σ (PV fun σ9 => σ9 = up (up σ a 3 (x / 2)) a 4 (if x % 2 = 1 then y else -1)) := by
  refine CT.of (RX1, cX1_set, 3, none, [], 0, 0, 0) rfl moX1_set (Nat.le_of_ble_eq_true rfl) (ls0 := [some (vR a), some (vI x), some (vI y)]) rfl ?_
  intro X Q C hR
  refine s_aload_n C dX1_set_0 rfl ?_
  refine s_iload_n C dX1_set_1 rfl ?_
  refine s_iconst C dX1_set_2 ?_
  refine s_idiv C dX1_set_3 (by omega) (by omega) ?_
  refine s_putI (c := 1) (kz := 3) C fl_1_21 dX1_set_4 ha rfl (fun _ _ h9 => by cases h9; rfl) (by omega) rfl ?_
  refine s_nameG (fun σ_4 hσ_4 => ?_)
  refine s_aload_n C dX1_set_7 rfl ?_
  refine s_iload_n C dX1_set_8 rfl ?_
  refine s_iconst C dX1_set_9 ?_
  refine s_irem C dX1_set_10 (by omega) (by omega) ?_
  refine s_iconst C dX1_set_11 ?_
  have J20 : ∀ (jt : Int), (jt = if x % 2 = 1 then y else -1) → (-1 ≤ jt ∧ jt ≤ 199) → SW X E Q 0 0 20 [some (vR a), some (vI x), some (vI y)] [(vI jt), (vR a)] σ_4 := by
    intro jt j20_0 j20_1
    refine s_putI (c := 1) (kz := 4) C fl_1_24 dX1_set_20 ha rfl (fun _ _ h9 => by cases h9; rfl) (by omega) rfl ?_
    refine s_nameG (fun σ_20 hσ_20 => ?_)
    refine s_vret C hR dX1_set_23 rfl ⟨rfl, ?_⟩ (by decide)
    rw [hσ_20, hσ_4, j20_0]
  refine s_icmp_ne (tgt := 19) C dX1_set_12 (by decide) (by omega) (by omega) (fun c12 => ?_) (fun c12 => ?_)
  · refine s_iconst C dX1_set_19 ?_
    refine J20 (-1) ?_ (by first | assumption | omega)
    · rw [if_neg (by omega)]
  · refine s_iload_n C dX1_set_15 rfl ?_
    refine s_goto (tgt := 20) C dX1_set_16 (by decide) ?_
    refine J20 y ?_ (by first | assumption | omega)
    · rw [if_pos (by omega)]
theorem landI_rng (x y : Int) : -2147483648 ≤ landI x y ∧ landI x y ≤ 2147483647 := by
  have h1 := Int32.le_toInt (Int32.ofInt x &&& Int32.ofInt y)
  have h2 := Int32.toInt_lt (Int32.ofInt x &&& Int32.ofInt y)
  unfold landI
  omega
set_option maxRecDepth 100000 in
set_option maxHeartbeats 8000000 in
theorem kX1_has {E : sv_E} {σ : sv_G} {a : Nat} {x : Int} (ha : shp a = (1, 0)) : CT E MX1_has 0 [(vR a), (vI x)] σ (PI fun r σ9 => σ9 = σ ∧ ((r = 1 ∧ landI (σ a 3) x ≠ 0) ∨ (r = 0 ∧ landI (σ a 3) x = 0))) := by
  refine CT.of (RX1, cX1_has, 2, (some .boolean), [], 0, 0, 0) rfl moX1_has (Nat.le_of_ble_eq_true rfl) (ls0 := [some (vR a), some (vI x)]) rfl ?_
  intro X Q C hR
  refine s_aload_n C dX1_has_0 rfl ?_
  refine s_getI (c := 1) (kz := 3) C fl_1_21 dX1_has_1 ha rfl rfl (fun g1 => ?_)
  refine s_iload_n C dX1_has_4 rfl ?_
  refine s_iand C dX1_has_5 ?_
  refine s_if_eq (tgt := 13) C dX1_has_6 (by decide) (by exact landI_rng _ _) (fun c6 => ?_) (fun c6 => ?_)
  · refine s_iconst C dX1_has_13 ?_
    refine s_zret C hR dX1_has_14 rfl (by omega) ⟨_, rfl, ?_⟩ (by decide)
    exact ⟨rfl, by omega⟩
  · refine s_iconst C dX1_has_9 ?_
    refine s_goto (tgt := 14) C dX1_has_10 (by decide) ?_
    refine s_zret C hR dX1_has_14 rfl (by omega) ⟨_, rfl, ?_⟩ (by decide)
    exact ⟨rfl, by omega⟩
def wrL (z : Int) : Int := (Int64.ofInt z).toInt
theorem wrL_rng (z : Int) : -9223372036854775808 ≤ wrL z ∧ wrL z ≤ 9223372036854775807 := by
  have h1 := Int64.le_toInt (Int64.ofInt z)
  have h2 := Int64.toInt_lt (Int64.ofInt z)
  unfold wrL
  omega
theorem wrL_ofInt (z : Int) : Int64.ofInt z = Int64.ofInt (wrL z) := (Int64.ofInt_toInt _).symm
/-- what is carried on to cord i -/
def cdC (b t : Int → Int) (c : Int) : Nat → Int
  | 0 => c
  | i + 1 => (t i + cdC b t c i) / b i
def CdOK (σ : sv_G) (ab at_ : Nat) : Prop := ∀ i, 0 ≤ i → i < 6 → 2 ≤ σ ab i ∧ σ ab i ≤ 60 ∧ 0 ≤ σ at_ i ∧ σ at_ i < σ ab i
theorem dm_add {t c b : Int} (h0 : 0 ≤ t) (h1 : t < b) : (t + c % b < b → (t + c) / b = c / b ∧ (t + c) % b = t + c % b) ∧ (b ≤ t + c % b → (t + c) / b = c / b + 1 ∧ (t + c) % b = t + c % b - b) := by
  have h2 := Int.emod_nonneg c (show b ≠ 0 by omega)
  have h3 := Int.emod_lt_of_pos c (show 0 < b by omega)
  have h4 := Int.emod_add_mul_ediv c b
  refine ⟨fun q => (Int.ediv_emod_unique (by omega)).mpr ⟨by omega, by omega, q⟩, fun q => (Int.ediv_emod_unique (by omega)).mpr ⟨?_, by omega, by omega⟩⟩
  rw [Int.mul_add, Int.mul_one]
  omega
theorem cd_rng {t c b : Int} (h0 : 0 ≤ t) (h1 : t < b) (h2 : 2 ≤ b) (hc : -9223372036854775808 ≤ c ∧ c ≤ 9223372036854775807) : -9223372036854775808 ≤ (t + c) / b ∧ (t + c) / b ≤ 9223372036854775807 := by
  have h3 := Int.emod_add_mul_ediv (t + c) b
  have h4 := Int.emod_nonneg (t + c) (show b ≠ 0 by omega)
  have h5 := Int.emod_lt_of_pos (t + c) (show 0 < b by omega)
  have h6 : b * ((t + c) / b) = (t + c) / b * b := Int.mul_comm _ _
  constructor
  · rcases Int.lt_or_le ((t + c) / b) (-1) with q | q
    · have := Int.mul_le_mul_of_nonneg_right h2 (show 0 ≤ -((t + c) / b + 1) by omega)
      rw [Int.mul_neg, Int.mul_neg, Int.mul_add, Int.mul_add] at this
      omega
    · omega
  · rcases Int.lt_or_le 1 ((t + c) / b) with q | q
    · have := Int.mul_le_mul_of_nonneg_right h2 (show 0 ≤ (t + c) / b - 1 by omega)
      rw [Int.mul_sub, Int.mul_sub] at this
      omega
    · omega
set_option maxRecDepth 100000 in
set_option maxHeartbeats 8000000 in
theorem kX2_clear {E : sv_E} {σ : sv_G}  : CT E MX2_clear 0 [(vR 20)] σ (PV fun σ9 => (∀ i, 0 ≤ i → i < 6 → σ9 22 i = 0) ∧ σ9 20 2 = 0 ∧ ∀ b k, b ≠ 22 → (b ≠ 20 ∨ k ≠ 2) → σ9 b k = σ b k) := by
  refine CT.of (RX2, cX2_clear, 2, none, [], 0, 0, 0) rfl moX2_clear (Nat.le_of_ble_eq_true rfl) (ls0 := [some (vR 20), none]) rfl ?_
  intro X Q C hR
  refine s_iconst C dX2_clear_0 ?_
  refine s_istore_n (ls2 := [some (vR 20), some (vI 0)]) C dX2_clear_1 (by decide) rfl ?_
  have L2 : ∀ (n : Nat) (m : Int) (τ : sv_G), (6 - m).toNat < n → (0 ≤ m ∧ m ≤ 6) → (∀ b k, b ≠ 22 → τ b k = σ b k) → (∀ i, 0 ≤ i → i < m → τ 22 i = 0) → SW X E Q 0 0 2 [some (vR 20), some (vI m)] [] τ := by
    intro n
    induction n with
    | zero => intro m τ hm; exact absurd hm (Nat.not_lt_zero _)
    | succ n ih2 =>
      intro m τ hm2 i2_0 i2_1 i2_2
      refine s_iload_n C dX2_clear_2 rfl ?_
      refine s_bipush C dX2_clear_3 (by decide) ?_
      refine s_icmp_ge (tgt := 21) C dX2_clear_5 (by decide) (by omega) (by omega) (fun c5 => ?_) (fun c5 => ?_)
      · refine s_aload_n C dX2_clear_21 rfl ?_
        refine s_lconst C dX2_clear_22 ?_
        refine s_putL (c := 2) (kz := 2) C fl_2_18 dX2_clear_23 sh_20 rfl (fun _ _ h9 => by cases h9; rfl) (by omega) rfl ?_
        refine s_nameG (fun σ_23 hσ_23 => ?_)
        refine s_vret C hR dX2_clear_26 rfl ⟨rfl, ?_⟩ (by decide)
        rw [hσ_23]
        exact ⟨fun i h1 h2 => by rw [up_a (by omega)]; exact i2_2 i h1 (by omega), up_s _ _ _ _, fun b k h1 h2 => by rw [up_n h2]; exact i2_1 b k h1⟩
      · refine s_aload_n C dX2_clear_8 rfl ?_
        refine s_getR (c := 2) C fl_2_15 dX2_clear_9 sh_20 rfl rf_20_1 ?_
        refine s_iload_n C dX2_clear_12 rfl ?_
        refine s_iconst C dX2_clear_13 ?_
        refine s_iast C dX2_clear_14 sh_22 (by omega) (by omega) ?_
        refine s_nameG (fun σ_14 hσ_14 => ?_)
        obtain ⟨x1_15, ex1_15⟩ : ∃ y : Int, y = m + 1 := ⟨_, rfl⟩
        refine s_iinc (z2 := x1_15) (ls2 := [some (vR 20), some (vI x1_15)]) C dX2_clear_15 (by decide) rfl ex1_15 rfl ?_
        refine s_goto (tgt := 2) C dX2_clear_18 (by decide) ?_
        refine ih2 x1_15 σ_14 (by omega) (by first | assumption | omega) ?_ ?_
        · intro b k h; rw [hσ_14, up_a h]; exact i2_1 b k h
        · intro i h1 h2
          rw [hσ_14, up_i]
          by_cases q : i = m
          · rw [if_pos q]
          · rw [if_neg q]; exact i2_2 i h1 (by omega)
  refine L2 _ 0 σ (Nat.lt_succ_self _) (by first | assumption | omega) ?_ ?_
  · intro b k _; rfl
  · intro i h1 h2; omega
set_option maxRecDepth 100000 in
set_option maxHeartbeats 8000000 in
theorem kX2_add {E : sv_E} {σ : sv_G} {c : Int} (hc : -9223372036854775808 ≤ c ∧ c ≤ 9223372036854775807) (hA : CdOK σ 21 22) : CT E MX2_add 1 [(vR 20), (vL c)] σ (PL fun r σ9 => r = cdC (σ 21) (σ 22) c 6 ∧ (-9223372036854775808 ≤ r ∧ r ≤ 9223372036854775807) ∧ (∀ i : Nat, i < 6 → σ9 22 i = (σ 22 i + cdC (σ 21) (σ 22) c i) % σ 21 i) ∧ σ9 20 2 = wrL (σ 20 2 + r) ∧ ∀ b k, b ≠ 22 → (b ≠ 20 ∨ k ≠ 2) → σ9 b k = σ b k) := by
  refine CT.of (RX2, cX2_add, 9, (some .long), [], 1, 0, 0) rfl moX2_add (Nat.le_of_ble_eq_true rfl) (ls0 := [some (vR 20), some (vL c), none, none, none, none, none, none, none]) rfl ?_
  intro X Q C hR
  refine s_lload_n C dX2_add_0 rfl ?_
  refine s_lstore_n (ls2 := [some (vR 20), some (vL c), none, some (vL c), none, none, none, none, none]) C dX2_add_1 (by decide) rfl ?_
  refine s_iconst C dX2_add_2 ?_
  refine s_istore (ls2 := [some (vR 20), some (vL c), none, some (vL c), none, some (vI 0), none, none, none]) C dX2_add_3 (by decide) rfl ?_
  have L5 : ∀ (n : Nat) (d : Int) (m : Int) (τ : sv_G), (6 - m).toNat < n → (0 ≤ m ∧ m ≤ 6) → (-9223372036854775808 ≤ d ∧ d ≤ 9223372036854775807) → (d = cdC (σ 21) (σ 22) c m.toNat) → (∀ b k, b ≠ 22 → τ b k = σ b k) → (∀ i : Nat, (i : Int) < m → τ 22 i = (σ 22 i + cdC (σ 21) (σ 22) c i) % σ 21 i) → (∀ i, m ≤ i → i < 6 → τ 22 i = σ 22 i) → SW X E Q 0 0 5 [some (vR 20), some (vL c), none, some (vL d), none, some (vI m), none, none, none] [] τ := by
    intro n
    induction n with
    | zero => intro d m τ hm; exact absurd hm (Nat.not_lt_zero _)
    | succ n ih5 =>
      intro d m τ hm5 i5_0 i5_1 i5_2 i5_3 i5_4 i5_5
      refine s_iload C dX2_add_5 rfl ?_
      refine s_bipush C dX2_add_7 (by decide) ?_
      refine s_icmp_ge (tgt := 88) C dX2_add_9 (by decide) (by omega) (by omega) (fun c9 => ?_) (fun c9 => ?_)
      · refine s_aload_n C dX2_add_88 rfl ?_
        refine s_dup C dX2_add_89 rfl ?_
        refine s_getL (c := 2) (kz := 2) C fl_2_18 dX2_add_90 sh_20 rfl rfl (fun g90 => ?_)
        refine s_lload_n C dX2_add_93 rfl ?_
        refine s_ladd C dX2_add_94 ?_
        refine s_asL (wrL_ofInt _) ?_
        refine s_putL (c := 2) (kz := 2) C fl_2_18 dX2_add_95 sh_20 rfl (fun _ _ h9 => by cases h9; rfl) (by exact wrL_rng _) rfl ?_
        refine s_nameG (fun σ_95 hσ_95 => ?_)
        refine s_lload_n C dX2_add_98 rfl ?_
        refine s_lret C hR dX2_add_99 rfl ⟨_, rfl, ?_⟩ (by decide)
        have e6 : d = cdC (σ 21) (σ 22) c 6 := by rw [i5_2, show m.toNat = 6 by omega]
        refine ⟨e6, i5_1, fun i h => ?_, ?_, fun b k h1 h2 => by rw [hσ_95, up_n h2]; exact i5_3 b k h1⟩
        · rw [hσ_95, up_a (by omega)]; exact i5_4 i (by omega)
        · rw [hσ_95, up_s, i5_3 20 2 (by omega)]
      · have hb := hA m (by omega) (by omega)
        have e21 : τ 21 m = σ 21 m := i5_3 21 m (by omega)
        have e22 : τ 22 m = σ 22 m := i5_5 m (by omega) (by omega)
        have dm := dm_add (c := d) hb.2.2.1 hb.2.2.2
        refine s_aload_n C dX2_add_12 rfl ?_
        refine s_getR (c := 2) C fl_2_9 dX2_add_13 sh_20 rfl rf_20_0 ?_
        refine s_iload C dX2_add_16 rfl ?_
        refine s_iald C dX2_add_18 sh_21 (by omega) (fun g18 => ?_)
        refine s_iconst C dX2_add_19 ?_
        refine s_cS2i C dX2_add_20 lkX2_22 moJ9_max_7cf53 mvJ9_max_7cf53 (kJ9_max_7cf53 (by omega) (by omega)) (by decide) (Nat.le_of_ble_eq_true rfl) rfl (by decide) (kpI (fun r20 hp20 => ?_))
        refine s_istore (ls2 := [some (vR 20), some (vL c), none, some (vL d), none, some (vI m), some (vI r20), none, none]) C dX2_add_23 (by decide) rfl ?_
        have e6 : r20 = σ 21 m := by omega
        have h3 := Int.emod_nonneg d (show r20 ≠ 0 by omega)
        have h4 := Int.emod_lt_of_pos d (show 0 < r20 by omega)
        refine s_aload_n C dX2_add_25 rfl ?_
        refine s_getR (c := 2) C fl_2_15 dX2_add_26 sh_20 rfl rf_20_1 ?_
        refine s_iload C dX2_add_29 rfl ?_
        refine s_iald C dX2_add_31 sh_22 (by omega) (fun g31 => ?_)
        refine s_i2l C dX2_add_32 (by omega) ?_
        refine s_lload_n C dX2_add_33 rfl ?_
        refine s_iload C dX2_add_34 rfl ?_
        refine s_i2l C dX2_add_36 (by omega) ?_
        refine s_cS2l C dX2_add_37 lkX2_28 moJ9_floorMod_f86c9 mvJ9_floorMod_f86c9 (kJ9_floorMod_f86c9 (by omega) (by omega)) (by decide) (Nat.le_of_ble_eq_true rfl) rfl (by decide) (kpI (fun r37 hp37 => ?_))
        refine s_ladd C dX2_add_40 ?_
        refine s_topL (fun x7_41 ex7_41 => ?_)
        refine s_lstore (ls2 := [some (vR 20), some (vL c), none, some (vL d), none, some (vI m), some (vI r20), some (vL x7_41), none]) C dX2_add_41 (by decide) rfl ?_
        refine s_lload_n C dX2_add_43 rfl ?_
        refine s_iload C dX2_add_44 rfl ?_
        refine s_i2l C dX2_add_46 (by omega) ?_
        refine s_cS2l C dX2_add_47 lkX2_32 moJ9_floorDiv_f86c9 mvJ9_floorDiv_f86c9 (kJ9_floorDiv_f86c9 (by omega) (by omega)) (by decide) (Nat.le_of_ble_eq_true rfl) rfl (by decide) (kpI (fun r47 hp47 => ?_))
        refine s_lstore_n (ls2 := [some (vR 20), some (vL c), none, some (vL r47), none, some (vI m), some (vI r20), some (vL x7_41), none]) C dX2_add_50 (by decide) rfl ?_
        refine s_lload C dX2_add_51 rfl ?_
        refine s_iload C dX2_add_53 rfl ?_
        refine s_i2l C dX2_add_55 (by omega) ?_
        refine s_lcmp C dX2_add_56 (by omega) (by omega) ?_
        have J72 : ∀ (d2 : Int) (kn : Int), (d2 = (σ 22 m + d) / σ 21 m) → (kn = (σ 22 m + d) % σ 21 m) → (0 ≤ kn ∧ kn < σ 21 m) → SW X E Q 0 0 72 [some (vR 20), some (vL c), none, some (vL d2), none, some (vI m), some (vI r20), some (vL kn), none] [] τ := by
          intro d2 kn j72_0 j72_1 j72_2
          
          refine s_aload_n C dX2_add_72 rfl ?_
          refine s_getR (c := 2) C fl_2_15 dX2_add_73 sh_20 rfl rf_20_1 ?_
          refine s_iload C dX2_add_76 rfl ?_
          refine s_lload C dX2_add_78 rfl ?_
          refine s_l2i C dX2_add_80 ?_
          refine s_iast C dX2_add_81 sh_22 (by omega) (by omega) ?_
          refine s_nameG (fun σ_81 hσ_81 => ?_)
          obtain ⟨x5_82, ex5_82⟩ : ∃ y : Int, y = m + 1 := ⟨_, rfl⟩
          refine s_iinc (z2 := x5_82) (ls2 := [some (vR 20), some (vL c), none, some (vL d2), none, some (vI x5_82), some (vI r20), some (vL kn), none]) C dX2_add_82 (by decide) rfl ex5_82 rfl ?_
          refine s_goto (tgt := 5) C dX2_add_85 (by decide) ?_
          refine s_weak (ls2 := [some (vR 20), some (vL c), none, some (vL d2), none, some (vI x5_82), none, none, none]) (sv_wk_c (sv_wk_c (sv_wk_n (sv_wk_c (sv_wk_n (sv_wk_c (sv_wk_n (sv_wk_n (sv_wk_n sv_wk_0))))))))) ?_
          refine ih5 d2 x5_82 σ_81 (by omega) (by first | assumption | omega) ?_ ?_ ?_ ?_ ?_
          · rw [j72_0]; exact cd_rng hb.2.2.1 hb.2.2.2 hb.1 i5_1
          · rw [j72_0, i5_2, show x5_82.toNat = m.toNat + 1 by omega]
            show _ = (σ 22 (m.toNat : Int) + cdC (σ 21) (σ 22) c m.toNat) / σ 21 (m.toNat : Int)
            rw [show (m.toNat : Int) = m by omega]
          · intro b k h; rw [hσ_81, up_a h]; exact i5_3 b k h
          · intro i h
            rw [hσ_81, up_i]
            by_cases q : (i : Int) = m
            · rw [if_pos q, j72_1, ← q, i5_2, show m.toNat = i by omega]
            · rw [if_neg q]; exact i5_4 i (by omega)
          · intro i h1 h2; rw [hσ_81, up_k (by omega)]; exact i5_5 i (by omega) h2
        rw [← e6] at dm
        refine s_if_lt (tgt := 72) C dX2_add_57 (by decide) (by exact cmpL_rng) (fun c57 => ?_) (fun c57 => ?_)
        · refine J72 r47 x7_41 ?_ ?_ ?_
          · have c57b : ¬ r20 ≤ x7_41 := fun z => absurd (cmpL_ge.mpr z) (by omega)
            rw [← e6, (dm.1 (by omega)).1]; omega
          · have c57b : ¬ r20 ≤ x7_41 := fun z => absurd (cmpL_ge.mpr z) (by omega)
            rw [← e6, (dm.1 (by omega)).2]; omega
          · have c57b : ¬ r20 ≤ x7_41 := fun z => absurd (cmpL_ge.mpr z) (by omega)
            omega
        · refine s_lload C dX2_add_60 rfl ?_
          refine s_iload C dX2_add_62 rfl ?_
          refine s_i2l C dX2_add_64 (by omega) ?_
          refine s_lsub C dX2_add_65 ?_
          refine s_topL (fun x7_66 ex7_66 => ?_)
          refine s_lstore (ls2 := [some (vR 20), some (vL c), none, some (vL r47), none, some (vI m), some (vI r20), some (vL x7_66), none]) C dX2_add_66 (by decide) rfl ?_
          refine s_lload_n C dX2_add_68 rfl ?_
          refine s_lconst C dX2_add_69 ?_
          refine s_ladd C dX2_add_70 ?_
          refine s_topL (fun x3_71 ex3_71 => ?_)
          refine s_lstore_n (ls2 := [some (vR 20), some (vL c), none, some (vL x3_71), none, some (vI m), some (vI r20), some (vL x7_66), none]) C dX2_add_71 (by decide) rfl ?_
          refine J72 x3_71 x7_66 ?_ ?_ ?_
          · have c57b : r20 ≤ x7_41 := cmpL_ge.mp (by omega)
            rw [← e6, (dm.2 (by omega)).1]; omega
          · have c57b : r20 ≤ x7_41 := cmpL_ge.mp (by omega)
            rw [← e6, (dm.2 (by omega)).2]; omega
          · have c57b : r20 ≤ x7_41 := cmpL_ge.mp (by omega)
            omega
  refine L5 _ c 0 σ (Nat.lt_succ_self _) (by first | assumption | omega) (by first | assumption | omega) ?_ ?_ ?_ ?_
  · rfl
  · intro b k _; rfl
  · intro i h; omega
  · intro i _ _; rfl
