def toF (D : gd_T) (l : List Int) : List Int := if gP D (lastW l) 3 ≠ -1 then l.dropLast ++ [gP D (lastW l) 3] else if gC D 3 ≠ -1 then l ++ [gC D 3] else l
def enL (D : gd_T) (z : Int) (l : List Int) : List Int := if z = 1 ∧ l.length ≤ 20 then endF D l else []
theorem SR.nil {σ σ9 : sv_G} (e : σ9 = up σ 195 20 0) : SR σ9 [] := ⟨by rw [e, up_s]; rfl, fun i hi => absurd hi (Nat.not_lt_zero i)⟩
theorem tfF_len {D : gd_T} {l : List Int} {k : Int} (h : l ≠ []) : (tfF D l k).length = l.length := by
  unfold tfF
  split
  · obtain ⟨l', x, rfl⟩ := lst_split l h
    rw [dropL_app, List.length_append, List.length_append]; rfl
  · rfl
theorem fm_tf {D : gd_T} {l : List Int} {k : Int} (h : k ≠ 3) : fmF D l k = some (tfF D l k) := by
  unfold fmF tfF
  by_cases q : gP D (lastW l) k ≠ -1
  · rw [if_pos q, if_pos q]
  · rw [if_neg q, if_neg q, if_neg (fun z => h z.1)]
theorem frL.N {σ σ9 : sv_G} (h : frL σ σ9) : frN σ σ9 := fun b k q1 q2 _ => h b k (by omega) q2
set_option maxRecDepth 100000 in
set_option maxHeartbeats 8000000 in
theorem kX8_takesOrdinal {E : sv_E} {σ : sv_G} {D : gd_T} {g : Int} (hD : GDok D) (hg : 0 ≤ g ∧ g ≤ 3) (hF9 : FM σ g D) (hS9 : SM σ g D) {l : List Int} (hl9 : SR σ l) (hne : l ≠ []) (hlen : l.length ≤ 40) : CT E MX8_takesOrdinal 1 [(vR 195), (vI g)] σ (PV fun σ9 => SR σ9 (toF D l) ∧ frL σ σ9) := by
  refine CT.of (RX8, cX8_takesOrdinal, 3, none, [], 1, 0, 0) rfl moX8_takesOrdinal (Nat.le_of_ble_eq_true rfl) (ls0 := [some (vR 195), some (vI g), none]) rfl ?_
  intro X Q C hR
  have h20 := hl9.1
  have hpos : 1 ≤ l.length := by
    cases l with
    | nil => exact absurd rfl hne
    | cons => simp
  have hla := (hl9.last (v := 0) hne rfl).2
  have hn0 := hD.2.2.2.2.1
  have h211 := hS9.1
  refine s_aload_n C dX8_takesOrdinal_0 rfl ?_
  refine s_iload_n C dX8_takesOrdinal_1 rfl ?_
  refine s_aload_n C dX8_takesOrdinal_2 rfl ?_
  refine s_getR (c := 8) C fl_8_70 dX8_takesOrdinal_3 sh_195 rfl rf_195_21 ?_
  refine s_aload_n C dX8_takesOrdinal_6 rfl ?_
  refine s_getI (c := 8) (kz := 20) C fl_8_158 dX8_takesOrdinal_7 sh_195 rfl rfl (fun g7 => ?_)
  refine s_iconst C dX8_takesOrdinal_10 ?_
  refine s_isub C dX8_takesOrdinal_11 ?_
  refine s_iald C dX8_takesOrdinal_12 sh_216 (by omega) (fun g12 => ?_)
  refine s_iconst C dX8_takesOrdinal_13 ?_
  refine s_cV3i C dX8_takesOrdinal_14 lkX8_138 moX8_formAt mvX8_formAt (kX8_formAt (by exact hD) (by exact hg) (by exact hF9) (by omega) (by decide)) sh_195 ⟨_, _, rfl⟩ (by decide) (Nat.le_of_ble_eq_true rfl) rfl (by decide) (kpI (fun r14 hp14 => ?_))
  rw [hla] at hp14
  have hr14 : (r14 = -1 ∧ gP D (lastW l) 3 = -1) ∨ ((30 * g ≤ r14 ∧ r14 < 30 * g + gC D 2) ∧ σ 210 r14 = gP D (lastW l) 3 ∧ gP D (lastW l) 3 ≠ -1) := hp14.imp id fun q => ⟨q.1, q.2.2.2⟩
  refine s_istore_n (ls2 := [some (vR 195), some (vI g), some (vI r14)]) C dX8_takesOrdinal_17 (by decide) rfl ?_
  refine s_iload_n C dX8_takesOrdinal_18 rfl ?_
  refine s_iconst C dX8_takesOrdinal_19 ?_
  have J78 : ∀ (τ : sv_G), (SR τ (toF D l)) → (frL σ τ) → SW X E Q 0 0 78 [some (vR 195), some (vI g), some (vI r14)] [] τ := by
    intro τ j78_0 j78_1
    refine s_vret C hR dX8_takesOrdinal_78 rfl ⟨rfl, ?_⟩ (by decide)
    exact ⟨j78_0, j78_1⟩
  refine s_icmp_eq (tgt := 43) C dX8_takesOrdinal_20 (by decide) (by omega) (by omega) (fun c20 => ?_) (fun c20 => ?_)
  · refine s_aload_n C dX8_takesOrdinal_43 rfl ?_
    refine s_getR (c := 8) C fl_8_55 dX8_takesOrdinal_44 sh_195 rfl rf_195_15 ?_
    refine s_iload_n C dX8_takesOrdinal_47 rfl ?_
    refine s_iald C dX8_takesOrdinal_48 sh_211 (by omega) (fun g48 => ?_)
    refine s_iconst C dX8_takesOrdinal_49 ?_
    refine s_icmp_eq (tgt := 78) C dX8_takesOrdinal_50 (by decide) (by omega) (by omega) (fun c50 => ?_) (fun c50 => ?_)
    · refine J78 σ ?_ ?_
      · unfold toF
        rw [if_neg (by omega), if_neg (by omega)]; exact hl9
      · exact fun _ _ _ _ => rfl
    · refine s_aload_n C dX8_takesOrdinal_53 rfl ?_
      refine s_getR (c := 8) C fl_8_70 dX8_takesOrdinal_54 sh_195 rfl rf_195_21 ?_
      refine s_aload_n C dX8_takesOrdinal_57 rfl ?_
      refine s_getI (c := 8) (kz := 20) C fl_8_158 dX8_takesOrdinal_58 sh_195 rfl rfl (fun g58 => ?_)
      refine s_aload_n C dX8_takesOrdinal_61 rfl ?_
      refine s_getR (c := 8) C fl_8_55 dX8_takesOrdinal_62 sh_195 rfl rf_195_15 ?_
      refine s_iload_n C dX8_takesOrdinal_65 rfl ?_
      refine s_iald C dX8_takesOrdinal_66 sh_211 (by omega) (fun g66 => ?_)
      refine s_iast C dX8_takesOrdinal_67 sh_216 (by omega) (by omega) ?_
      refine s_nameG (fun σ_67 hσ_67 => ?_)
      have e67 : σ_67 195 20 = σ 195 20 := by rw [hσ_67, up_a (by decide)]
      refine s_aload_n C dX8_takesOrdinal_68 rfl ?_
      refine s_dup C dX8_takesOrdinal_69 rfl ?_
      refine s_getI (c := 8) (kz := 20) C fl_8_158 dX8_takesOrdinal_70 sh_195 rfl rfl (fun g70 => ?_)
      refine s_iconst C dX8_takesOrdinal_73 ?_
      refine s_iadd C dX8_takesOrdinal_74 ?_
      refine s_putI (c := 8) (kz := 20) C fl_8_158 dX8_takesOrdinal_75 sh_195 rfl (fun _ _ h9 => by cases h9; rfl) (by omega) rfl ?_
      refine s_nameG (fun σ_75 hσ_75 => ?_)
      refine J78 σ_75 ?_ ?_
      · have h9 := hl9.push (x := σ 211 g) (σ9 := σ_75) (by rw [hσ_75, e67, hσ_67])
        unfold toF
        rw [if_neg (by omega), if_pos (by omega), ← h211]; exact h9
      · exact fun b k q1 q2 => by rw [hσ_75, up_n q1, hσ_67, up_a q2]
  · refine s_aload_n C dX8_takesOrdinal_23 rfl ?_
    refine s_getR (c := 8) C fl_8_70 dX8_takesOrdinal_24 sh_195 rfl rf_195_21 ?_
    refine s_aload_n C dX8_takesOrdinal_27 rfl ?_
    refine s_getI (c := 8) (kz := 20) C fl_8_158 dX8_takesOrdinal_28 sh_195 rfl rfl (fun g28 => ?_)
    refine s_iconst C dX8_takesOrdinal_31 ?_
    refine s_isub C dX8_takesOrdinal_32 ?_
    refine s_aload_n C dX8_takesOrdinal_33 rfl ?_
    refine s_getR (c := 8) C fl_8_52 dX8_takesOrdinal_34 sh_195 rfl rf_195_14 ?_
    refine s_iload_n C dX8_takesOrdinal_37 rfl ?_
    refine s_iald C dX8_takesOrdinal_38 sh_210 (by omega) (fun g38 => ?_)
    refine s_iast C dX8_takesOrdinal_39 sh_216 (by omega) (by omega) ?_
    refine s_nameG (fun σ_39 hσ_39 => ?_)
    refine s_goto (tgt := 78) C dX8_takesOrdinal_40 (by decide) ?_
    refine J78 σ_39 ?_ ?_
    · have h9 := (hl9.last hne hσ_39).1
      unfold toF
      rw [if_pos (by omega)]
      rw [show σ 210 r14 = gP D (lastW l) 3 by omega] at h9
      exact h9
    · exact fun b k q1 q2 => by rw [hσ_39, up_a q2]
set_option maxRecDepth 100000 in
set_option maxHeartbeats 8000000 in
theorem kX8_ends {E : sv_E} {σ : sv_G} {D : gd_T} {g : Int} (hD : GDok D) (hg : 0 ≤ g ∧ g ≤ 3) (hS9 : SM σ g D) {z : Int} (hz : z = 0 ∨ z = 1) {l : List Int} (hl9 : z = 1 → SR σ l) (hlen : l.length ≤ 100) : CT E MX8_ends 1 [(vR 195), (vI g), (vI z)] σ (PI fun r σ9 => frL σ σ9 ∧ SR σ9 (enL D z l) ∧ r = (enL D z l).length) := by
  refine CT.of (RX8, cX8_ends, 3, (some .int), [], 1, 0, 0) rfl moX8_ends (Nat.le_of_ble_eq_true rfl) (ls0 := [some (vR 195), some (vI g), some (vI z)]) rfl ?_
  intro X Q C hR
  refine s_iload_n C dX8_ends_0 rfl ?_
  have J13 : (¬ (z = 1 ∧ l.length ≤ 20)) → SW X E Q 0 0 13 [some (vR 195), some (vI g), some (vI z)] [] σ := by
    intro  j13_0
    refine s_aload_n C dX8_ends_13 rfl ?_
    refine s_iconst C dX8_ends_14 ?_
    refine s_putI (c := 8) (kz := 20) C fl_8_158 dX8_ends_15 sh_195 rfl (fun _ _ h9 => by cases h9; rfl) (by omega) rfl ?_
    refine s_nameG (fun σ_15 hσ_15 => ?_)
    refine s_iconst C dX8_ends_18 ?_
    refine s_iret C hR dX8_ends_19 rfl ⟨_, rfl, ?_⟩ (by decide)
    have e : enL D z l = [] := if_neg j13_0
    rw [e]
    exact ⟨fun b k q1 q2 => by rw [hσ_15, up_n q1], SR.nil hσ_15, rfl⟩
  refine s_if_eq (tgt := 13) C dX8_ends_1 (by decide) (by omega) (fun c1 => ?_) (fun c1 => ?_)
  · exact J13 (by first | assumption | omega)
  · have h20 := (hl9 (by omega)).1
    refine s_aload_n C dX8_ends_4 rfl ?_
    refine s_getI (c := 8) (kz := 20) C fl_8_158 dX8_ends_5 sh_195 rfl rfl (fun g5 => ?_)
    refine s_bipush C dX8_ends_8 (by decide) ?_
    refine s_icmp_le (tgt := 20) C dX8_ends_10 (by decide) (by omega) (by omega) (fun c10 => ?_) (fun c10 => ?_)
    · refine s_aload_n C dX8_ends_20 rfl ?_
      refine s_iload_n C dX8_ends_21 rfl ?_
      refine s_cV1v C dX8_ends_22 lkX8_168 moX8_melts mvX8_melts (kX8_melts (by exact hD) (by exact hg) (by exact hS9) (by exact hl9 (by omega)) (by omega)) sh_195 ⟨_, _, rfl⟩ (by decide) (Nat.le_of_ble_eq_true rfl) rfl (by decide) (fun σ_22 hp22 => ?_)
      refine s_aload_n C dX8_ends_25 rfl ?_
      refine s_getI (c := 8) (kz := 20) C fl_8_158 dX8_ends_26 sh_195 rfl rfl (fun g26 => ?_)
      refine s_iret C hR dX8_ends_29 rfl ⟨_, rfl, ?_⟩ (by decide)
      have e : enL D z l = endF D l := if_pos ⟨by omega, by omega⟩
      rw [e]
      exact ⟨hp22.2, hp22.1, hp22.1.1⟩
    · exact J13 (by first | assumption | omega)
set_option maxRecDepth 100000 in
set_option maxHeartbeats 8000000 in
theorem kX8_finds {E : sv_E} {σ : sv_G} {D : gd_T} {g : Int} (hD : GDok D) (hg : 0 ≤ g ∧ g ≤ 3) (hM9 : RM σ g D) {x k : Int} (hx : 0 ≤ x ∧ x ≤ 9999) (hk : 0 ≤ k ∧ k ≤ 2) : CT E MX8_finds 4 [(vR 195), (vI g), (vI x), (vI k)] σ (PI fun r σ9 => frN σ σ9 ∧ SR σ9 (spF D x k) ∧ r = (spF D x k).length) := by
  refine CT.of (RX8, cX8_finds, 5, (some .int), [], 4, 0, 0) rfl moX8_finds (Nat.le_of_ble_eq_true rfl) (ls0 := [some (vR 195), some (vI g), some (vI x), some (vI k), none]) rfl ?_
  intro X Q C hR
  refine s_aload_n C dX8_finds_0 rfl ?_
  refine s_iconst C dX8_finds_1 ?_
  refine s_putI (c := 8) (kz := 20) C fl_8_158 dX8_finds_2 sh_195 rfl (fun _ _ h9 => by cases h9; rfl) (by omega) rfl ?_
  refine s_nameG (fun σ_2 hσ_2 => ?_)
  have f2 : frN σ σ_2 := fun b i q1 q2 q3 => by rw [hσ_2, up_n (by omega)]
  have hM2 := hM9.fr fun b i q1 q2 => f2 b i (by omega) (by omega) (by omega)
  refine s_aload_n C dX8_finds_5 rfl ?_
  refine s_iload_n C dX8_finds_6 rfl ?_
  refine s_iload_n C dX8_finds_7 rfl ?_
  refine s_cV2i C dX8_finds_8 lkX8_171 moX8_names mvX8_names (kX8_names (by exact hD) (by exact hg) (by exact hM2.1) (by exact hM2.2.1) (by exact hx) (by exact SR.nil hσ_2) (by exact Nat.zero_le _)) sh_195 ⟨_, _, rfl⟩ (by decide) (Nat.le_of_ble_eq_true rfl) rfl (by decide) (fun r8 σ_8 hp8 => ?_)
  have hb8 : r8 = 0 ∨ r8 = 1 := hp8.2.elim (fun q => Or.inr q.1) (fun q => Or.inl q.1)
  have f8 := f2.tr hp8.1
  have hM8 := hM9.fr fun b i q1 q2 => f8 b i (by omega) (by omega) (by omega)
  refine s_istore (ls2 := [some (vR 195), some (vI g), some (vI x), some (vI k), some (vI r8)]) C dX8_finds_11 (by decide) rfl ?_
  refine s_iload C dX8_finds_13 rfl ?_
  have J24 : ∀ (τ : sv_G) (l2 : List Int), (frN σ τ) → (r8 = 1 → SR τ l2) → (l2.length ≤ 20) → (spF D x k = enL D r8 l2) → SW X E Q 0 0 24 [some (vR 195), some (vI g), some (vI x), some (vI k), some (vI r8)] [] τ := by
    intro τ l2 j24_0 j24_1 j24_2 j24_3
    have hMt := hM9.fr fun b i q1 q2 => j24_0 b i (by omega) (by omega) (by omega)
    refine s_aload_n C dX8_finds_24 rfl ?_
    refine s_iload_n C dX8_finds_25 rfl ?_
    refine s_iload C dX8_finds_26 rfl ?_
    refine s_cV2i C dX8_finds_28 lkX8_177 moX8_ends mvX8_ends (kX8_ends (by exact hD) (by exact hg) (by exact hMt.2.2.2) (by exact hb8) (by exact j24_1) (by omega)) sh_195 ⟨_, _, rfl⟩ (by decide) (Nat.le_of_ble_eq_true rfl) rfl (by decide) (fun r28 σ_28 hp28 => ?_)
    refine s_iret C hR dX8_finds_31 rfl ⟨_, rfl, ?_⟩ (by decide)
    rw [j24_3]
    exact ⟨j24_0.tr hp28.1.N, hp28.2.1, hp28.2.2⟩
  refine s_if_eq (tgt := 24) C dX8_finds_15 (by decide) (by omega) (fun c15 => ?_) (fun c15 => ?_)
  · refine J24 σ_8 [] ?_ ?_ ?_ ?_
    · exact f8
    · intro q; omega
    · decide
    · have e : ext [] (nm D x) = none := by
        cases h9 : nm D x with
        | none => rfl
        | some l =>
          have h8 := hp8.2.elim (fun q => absurd q.1 (by omega)) (fun q => q.2 l h9)
          show (if 0 + l.length ≤ 20 then some ([] ++ l) else none) = none
          rw [if_neg (by omega)]
      unfold spF nfF enL
      rw [e, if_neg (by omega)]; rfl
  · have hps := hp8.2.elim (fun q => q.2) (fun q => absurd q.1 c15)
    obtain ⟨l, hl1, hl2, hl3⟩ := hps
    have hlo := nm_ok hD x l hl1
    refine s_aload_n C dX8_finds_18 rfl ?_
    refine s_iload_n C dX8_finds_19 rfl ?_
    refine s_iload_n C dX8_finds_20 rfl ?_
    refine s_cV2v C dX8_finds_21 lkX8_174 moX8_takesForm mvX8_takesForm (kX8_takesForm (by exact hD) (by exact hg) (by exact hM8.2.2.1) (by exact hl3) (by exact hlo.1) (by show l.length ≤ 40; omega) (by omega)) sh_195 ⟨_, _, rfl⟩ (by decide) (Nat.le_of_ble_eq_true rfl) rfl (by decide) (fun σ_21 hp21 => ?_)
    refine J24 σ_21 (tfF D l k) ?_ ?_ ?_ ?_
    · exact f8.tr fun b i q1 q2 q3 => hp21.2 b i q2
    · exact fun _ => hp21.1
    · rw [tfF_len hlo.1]; exact hl2
    · have e : ext [] (nm D x) = some l := by
        rw [hl1]
        show (if 0 + l.length ≤ 20 then some ([] ++ l) else none) = some l
        rw [if_pos (by omega)]; rfl
      unfold spF nfF enL
      rw [e, if_pos ⟨by omega, by rw [tfF_len hlo.1]; exact hl2⟩]
      show endO D (fmF D l k) = _
      rw [fm_tf (by omega)]; rfl
