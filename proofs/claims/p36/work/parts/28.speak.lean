theorem ext_some {ws l : List Int} {o : Option (List Int)} (h : ext ws o = some l) : ∃ x, o = some x ∧ l = ws ++ x ∧ l.length ≤ 20 := by
  cases o with
  | none => simp [ext] at h
  | some x =>
    have h2 : (if ws.length + x.length ≤ 20 then some (ws ++ x) else none) = some l := h
    by_cases q : ws.length + x.length ≤ 20
    · rw [if_pos q] at h2
      exact ⟨x, rfl, (Option.some.inj h2).symm, by rw [← Option.some.inj h2, List.length_append]; exact q⟩
    · rw [if_neg q] at h2; cases h2
theorem nm_ext {D : gd_T} (hD : GDok D) {ws l : List Int} {n : Int} (hw : wOK ws) (h : ext ws (nm D n) = some l) : l ≠ [] ∧ wOK l ∧ l.length ≤ 20 := by
  obtain ⟨x, h1, rfl, h3⟩ := ext_some h
  have h4 := nm_ok hD n x h1
  exact ⟨fun q => h4.1 (List.append_eq_nil_iff.mp q).2, hw.app h4.2, h3⟩
theorem wOK.drop {l : List Int} (h : wOK l) : wOK l.dropLast := fun w q => h w (List.dropLast_subset l q)
theorem fmF_ok {D : gd_T} (hD : GDok D) {l l2 : List Int} {kind : Int} (h : l ≠ [] ∧ wOK l ∧ l.length ≤ 20) (e : fmF D l kind = some l2) : l2 ≠ [] ∧ wOK l2 ∧ l2.length ≤ 20 := by
  obtain ⟨h1, h2, h3⟩ := h
  have h4 := hD.2.2.2.2.2.2.2.2.1 (lastW l) kind
  unfold fmF at e
  by_cases q : gP D (lastW l) kind ≠ -1
  · rw [if_pos q] at e
    cases e
    exact ⟨fun z => by simp at z, h2.drop.app (wOK.one (by omega)), by simp; omega⟩
  · rw [if_neg q] at e
    by_cases q2 : kind = 3 ∧ gC D 3 ≠ -1
    · rw [if_pos q2] at e
      obtain ⟨x, g1, rfl, g3⟩ := ext_some e
      cases g1
      exact ⟨fun z => by simp at z, h2.app (wOK.one (by have := hD.2.2.2.2.2.1; omega)), g3⟩
    · rw [if_neg q2] at e
      cases e
      exact ⟨h1, h2, h3⟩
theorem nfF_ok {D : gd_T} (hD : GDok D) {ws l : List Int} {n kind : Int} (hw : wOK ws) (h : nfF D ws n kind = some l) : l ≠ [] ∧ wOK l ∧ l.length ≤ 20 := by
  unfold nfF at h
  cases e : ext ws (nm D n) with
  | none => rw [e] at h; cases h
  | some x => rw [e] at h; exact fmF_ok hD (nm_ext hD hw e) h
theorem meltL_ok {x y z : Int} (hz : 0 ≤ z ∧ z ≤ 199) : ∀ l : List Int, (l ≠ [] ∧ wOK l ∧ l.length ≤ 20) → (meltL x y z l ≠ [] ∧ wOK (meltL x y z l) ∧ (meltL x y z l).length ≤ 20)
  | [], h => h
  | [a], h => h
  | a :: b :: t, h => by
    have ha := h.2.1 a List.mem_cons_self
    have hb : wOK (b :: t) := fun w q => h.2.1 w (List.mem_cons_of_mem _ q)
    have ht : wOK t := fun w q => hb w (List.mem_cons_of_mem _ q)
    have hl := h.2.2
    simp only [List.length_cons] at hl
    have hlen : ∀ (n : Nat) (l : List Int), l.length ≤ n → (meltL x y z l).length ≤ l.length := by
      intro n
      induction n with
      | zero => intro l h9; rw [List.eq_nil_of_length_eq_zero (Nat.le_zero.mp h9)]; exact Nat.le_refl _
      | succ n ih =>
        intro l h9
        match l, h9 with
        | [], _ => exact Nat.le_refl _
        | [c], _ => exact Nat.le_refl _
        | c :: d :: t, h9 =>
          simp only [List.length_cons] at h9
          unfold meltL
          split
          · have := ih t (by omega); simp only [List.length_cons]; omega
          · have := ih (d :: t) (by simp only [List.length_cons]; omega); simp only [List.length_cons] at this ⊢; omega
    have hwk : ∀ (n : Nat) (l : List Int), l.length ≤ n → wOK l → wOK (meltL x y z l) := by
      intro n
      induction n with
      | zero => intro l h9 h8; rw [List.eq_nil_of_length_eq_zero (Nat.le_zero.mp h9)]; intro w q; cases q
      | succ n ih =>
        intro l h9 h8
        match l, h9, h8 with
        | [], _, h8 => exact h8
        | [c], _, h8 => exact h8
        | c :: d :: t, h9, h8 =>
          simp only [List.length_cons] at h9
          have h7 : wOK (d :: t) := fun w q => h8 w (List.mem_cons_of_mem _ q)
          unfold meltL
          split
          · exact (wOK.one hz).app (ih t (by omega) fun w q => h7 w (List.mem_cons_of_mem _ q))
          · exact (wOK.one (h8 c List.mem_cons_self)).app (ih (d :: t) (by simp only [List.length_cons]; omega) h7)
    refine ⟨?_, hwk _ _ (Nat.le_refl _) h.2.1, Nat.le_trans (hlen _ _ (Nat.le_refl _)) h.2.2⟩
    unfold meltL
    split
    · exact List.cons_ne_nil _ _
    · exact List.cons_ne_nil _ _
theorem mlF_ok {D : gd_T} (hD : GDok D) {l : List Int} (h : l ≠ [] ∧ wOK l ∧ l.length ≤ 20) : ∀ i : Nat, (i : Int) ≤ gC D 4 → (mlF D i l ≠ [] ∧ wOK (mlF D i l) ∧ (mlF D i l).length ≤ 20)
  | 0, _ => h
  | i + 1, hi => meltL_ok (hD.2.2.2.2.2.2.2.2.2 2 i (by decide) (by omega) (by omega)) _ (mlF_ok hD h i (by omega))
theorem endF_ok {D : gd_T} (hD : GDok D) {l : List Int} (h : l ≠ [] ∧ wOK l ∧ l.length ≤ 20) : endF D l ≠ [] ∧ wOK (endF D l) ∧ (endF D l).length ≤ 20 :=
  mlF_ok hD h _ (by have := hD.2.2.2.2.2.2.1; omega)
theorem wOK.nil : wOK [] := fun _ h => by cases h
theorem endO_ok {D : gd_T} (hD : GDok D) {o : Option (List Int)} (h : ∀ l, o = some l → l ≠ [] ∧ wOK l ∧ l.length ≤ 20) : wOK (endO D o) ∧ (endO D o).length ≤ 20 ∧ (o = none ↔ endO D o = []) := by
  cases o with
  | none => exact ⟨wOK.nil, Nat.zero_le _, fun _ => rfl, fun _ => rfl⟩
  | some l =>
    have := endF_ok hD (h l rfl)
    exact ⟨this.2.1, this.2.2, (fun q => by cases q), fun q => absurd q this.1⟩
theorem spF_ok {D : gd_T} (hD : GDok D) (n kind : Int) : wOK (spF D n kind) ∧ (spF D n kind).length ≤ 20 :=
  have h := endO_ok hD fun l => nfF_ok hD wOK.nil (n := n) (kind := kind)
  ⟨h.1, h.2.1⟩
theorem frF_in {D : gd_T} (hD : GDok D) {one other group : Int} {l : List Int} (h : ((nfF D [] one group).bind fun l => nfF D l other 3) = some l) : l ≠ [] ∧ wOK l ∧ l.length ≤ 20 := by
  cases e : nfF D [] one group with
  | none => rw [e] at h; cases h
  | some x => rw [e] at h; exact nfF_ok hD (nfF_ok hD wOK.nil e).2.1 h
theorem frF_ok {D : gd_T} (hD : GDok D) (one other group : Int) : wOK (frF D one other group) ∧ (frF D one other group).length ≤ 20 :=
  have h := endO_ok hD fun l => frF_in hD (one := one) (other := other) (group := group)
  ⟨h.1, h.2.1⟩
theorem fm_ord {D : gd_T} {l : List Int} {kind : Int} (hl : l.length ≤ 20) (h1 : gP D (lastW l) kind = -1) (h2 : kind = 3) : fmF D l kind = ext l (jnO (gC D 3)) := by
  unfold fmF
  rw [if_neg (by omega)]
  unfold jnO
  by_cases q : gC D 3 = -1
  · rw [if_pos q, if_neg (by omega), ext_nil hl]
  · rw [if_neg q, if_pos ⟨h2, q⟩]
set_option maxRecDepth 100000 in
set_option maxHeartbeats 8000000 in
theorem kX4_addNameFor {E : sv_E} {σ : sv_G} {G : Nat} {D : gd_T} (hG : shp G = (4, 0)) (hD : GDok D) (hC : RC σ G D) {x kind : Int} (hx : 0 ≤ x ∧ x ≤ 9999) (hk : -2147483648 ≤ kind ∧ kind ≤ 2147483647) {a : Nat} (ha : shp a = (6, 0)) {ws : List Int} (hw : Rw σ a ws) (hwo : wOK ws) : CT E MX4_addNameFor 86 [(vR G), (vI x), (vI kind), (vR a)] σ (PI fun r σ9 => xtP σ σ9 a r (nfF D ws x kind)) := by
  refine CT.of (RX4, cX4_addNameFor, 5, (some .boolean), [], 86, 0, 0) rfl moX4_addNameFor (Nat.le_of_ble_eq_true rfl) (ls0 := [some (vR G), some (vI x), some (vI kind), some (vR a), none]) rfl ?_
  intro X Q C hR
  have hC0 := id hC
  obtain ⟨hA, hF, hn0, hn1, hB, hFo, hFf, hn2, ho, hns, hSm⟩ := hC
  have hnb := hD.2.2.2.1
  refine s_aload_n C dX4_addNameFor_0 rfl ?_
  refine s_iload_n C dX4_addNameFor_1 rfl ?_
  refine s_aload_n C dX4_addNameFor_2 rfl ?_
  refine s_iconst C dX4_addNameFor_3 ?_
  refine s_cV3i C dX4_addNameFor_4 lkX4_87 moX4_addName mvX4_addName (kX4_addName (by exact hG) (by exact ha) (by exact hD) (by omega) (by exact hC0) (by exact hw)) hG ⟨_, _, rfl⟩ (by decide) (Nat.le_of_ble_eq_true rfl) rfl (by decide) (fun r4 σ_4 hp4 => ?_)
  have b4 := hp4.b
  refine s_if_ne (tgt := 12) C dX4_addNameFor_7 (by decide) (by omega) (fun c7 => ?_) (fun c7 => ?_)
  · obtain ⟨l, e1, hl⟩ := hp4.one c7
    have hC1 := hC0.row hD hG ha hp4.1
    have hlo := nm_ext hD hwo e1
    have e0 : nfF D ws x kind = fmF D l kind := by unfold nfF; rw [e1]; rfl
    refine s_aload_n C dX4_addNameFor_12 rfl ?_
    refine s_getR (c := 4) C fl_4_31 dX4_addNameFor_13 hG rfl (rfc_4_3 hG) ?_
    refine s_aload_n C dX4_addNameFor_16 rfl ?_
    refine s_cN0i C dX4_addNameFor_17 lkX4_91 moX6_last mvX6_last (kX6_last (by exact ha) (by exact hl)) ha ⟨_, _, rfl⟩ (by decide) (Nat.le_of_ble_eq_true rfl) rfl (by decide) (kpI (fun r17 hp17 => ?_))
    have hlast : r17 = lastW l := by
      rw [hp17.2, if_neg (fun z => hlo.1 (List.eq_nil_of_length_eq_zero z))]; rfl
    refine s_iload_n C dX4_addNameFor_20 rfl ?_
    refine s_cN2i C dX4_addNameFor_21 lkX4_95 moX3_formOf mvX3_formOf (kX3_formOf (by exact shc_4_3 hG) (by omega) (by omega) (by exact hC1.2.2.2.2.2.1) (by exact hC1.2.2.2.2.2.2.1)) (shc_4_3 hG) ⟨_, _, rfl⟩ (by decide) (Nat.le_of_ble_eq_true rfl) rfl (by decide) (kpI (fun r21 hp21 => ?_))
    rw [hlast] at hp21
    refine s_istore (ls2 := [some (vR G), some (vI x), some (vI kind), some (vR a), some (vI r21)]) C dX4_addNameFor_24 (by decide) rfl ?_
    refine s_iload C dX4_addNameFor_26 rfl ?_
    refine s_iconst C dX4_addNameFor_28 ?_
    refine s_icmp_eq (tgt := 40) C dX4_addNameFor_29 (by decide) (by omega) (by omega) (fun c29 => ?_) (fun c29 => ?_)
    · refine s_iload_n C dX4_addNameFor_40 rfl ?_
      refine s_iconst C dX4_addNameFor_41 ?_
      have J61 : ∀ (z : Int) (τ : sv_G), (xtP σ τ a z (nfF D ws x kind)) → SW X E Q 0 0 61 [some (vR G), some (vI x), some (vI kind), some (vR a), some (vI r21)] [(vI z)] τ := by
        intro z τ j61_0
        refine s_zret C hR dX4_addNameFor_61 rfl (by exact j61_0.b) ⟨_, rfl, ?_⟩ (by decide)
        exact j61_0
      have J56 : ∀ (τ : sv_G), (xtP σ τ a 1 (nfF D ws x kind)) → SW X E Q 0 0 56 [some (vR G), some (vI x), some (vI kind), some (vR a), some (vI r21)] [] τ := by
        intro τ j56_0
        refine s_iconst C dX4_addNameFor_56 ?_
        refine s_goto (tgt := 61) C dX4_addNameFor_57 (by decide) ?_
        refine J61 1 τ ?_
        · exact j56_0
      refine s_icmp_ne (tgt := 56) C dX4_addNameFor_42 (by decide) (by omega) (by omega) (fun c42 => ?_) (fun c42 => ?_)
      · have e2 : fmF D l kind = some l := by
          unfold fmF
          rw [if_neg (by omega), if_neg (by omega)]
        rw [e2] at e0
        refine J56 σ_4 ?_
        · rw [e0]; exact xt_yes hp4.1 hl
      · rw [fm_ord hlo.2.2 (by omega) c42] at e0
        have ho1 : σ_4 G 4 = gC D 3 := hC1.2.2.2.2.2.2.2.2.1
        have ho2 := hD.2.2.2.2.2.1
        refine s_aload_n C dX4_addNameFor_45 rfl ?_
        have ho1 : σ_4 G 4 = gC D 3 := hC1.2.2.2.2.2.2.2.2.1
        have ho2 := hD.2.2.2.2.2.1
        refine s_getI (c := 4) (kz := 4) C fl_4_35 dX4_addNameFor_46 hG rfl rfl (fun g46 => ?_)
        refine s_aload_n C dX4_addNameFor_49 rfl ?_
        refine s_cS2i C dX4_addNameFor_50 lkX4_103 moX4_addUnlessNone mvX4_addUnlessNone (kX4_addUnlessNone (by exact ha) (by omega) (by exact hl)) (by decide) (Nat.le_of_ble_eq_true rfl) rfl (by decide) (fun r50 σ_50 hp50 => ?_)
        rw [ho1] at hp50
        have b50 := hp50.b
        refine s_if_eq (tgt := 60) C dX4_addNameFor_53 (by decide) (by omega) (fun c53 => ?_) (fun c53 => ?_)
        · refine s_iconst C dX4_addNameFor_60 ?_
          refine J61 0 σ_50 ?_
          · rw [e0]; exact ⟨hp4.1.tr hp50.1, Or.inr ⟨rfl, hp50.zero c53⟩⟩
        · refine J56 σ_50 ?_
          · rw [e0]; exact ⟨hp4.1.tr hp50.1, Or.inl ⟨rfl, hp50.one c53⟩⟩
    · have e2 : fmF D l kind = some (l.dropLast ++ [r21]) := by
        unfold fmF
        rw [if_pos (by omega), hp21.1]
      rw [e2] at e0
      refine s_aload_n C dX4_addNameFor_32 rfl ?_
      refine s_iload C dX4_addNameFor_33 rfl ?_
      refine s_cN1v C dX4_addNameFor_35 lkX4_99 moX6_setLast mvX6_setLast (kX6_setLast (by exact ha) (by omega) (by exact hl) (by exact hlo.1)) ha ⟨_, _, rfl⟩ (by decide) (Nat.le_of_ble_eq_true rfl) rfl (by decide) (fun σ_35 hp35 => ?_)
      refine s_iconst C dX4_addNameFor_38 ?_
      refine s_zret C hR dX4_addNameFor_39 rfl (by omega) ⟨_, rfl, ?_⟩ (by decide)
      rw [e0]; exact xt_yes (fun b k h1 h2 => (hp35.2 b k h2).trans (hp4.1 b k h1 h2)) hp35.1
  · obtain ⟨g1, l0, g2⟩ := hp4.zero c7
    have e0 : nfF D ws x kind = none := by unfold nfF; rw [g1]; rfl
    refine s_iconst C dX4_addNameFor_10 ?_
    refine s_zret C hR dX4_addNameFor_11 rfl (by omega) ⟨_, rfl, ?_⟩ (by decide)
    rw [e0]; exact xt_no hp4.1 g2
set_option maxRecDepth 100000 in
set_option maxHeartbeats 8000000 in
theorem kX4_endSaying {E : sv_E} {σ : sv_G} {G : Nat} {D : gd_T} (hG : shp G = (4, 0)) (hD : GDok D) (hC : RC σ G D) {σ0 : sv_G} {z : Int} {o : Option (List Int)} {a : Nat} (ha : shp a = (6, 0)) (hx : xtP σ0 σ a z o) : CT E MX4_endSaying 1 [(vR G), (vI z), (vR a)] σ (PI fun r σ9 => frR σ σ9 a ∧ Rw σ9 a (endO D o) ∧ ((r = 1 ∧ o ≠ none) ∨ (r = 0 ∧ o = none))) := by
  refine CT.of (RX4, cX4_endSaying, 4, (some .boolean), [], 1, 0, 0) rfl moX4_endSaying (Nat.le_of_ble_eq_true rfl) (ls0 := [some (vR G), some (vI z), some (vR a), none]) rfl ?_
  intro X Q C hR
  have hC0 := id hC
  have hz := hx.b
  have hns := hD.2.2.2.2.2.2.1
  refine s_iload_n C dX4_endSaying_0 rfl ?_
  refine s_if_ne (tgt := 10) C dX4_endSaying_1 (by decide) (by omega) (fun c1 => ?_) (fun c1 => ?_)
  · obtain ⟨l, e1, hl⟩ := hx.one c1
    refine s_iconst C dX4_endSaying_10 ?_
    refine s_istore_n (ls2 := [some (vR G), some (vI z), some (vR a), some (vI 0)]) C dX4_endSaying_11 (by decide) rfl ?_
    have L12 : ∀ (n : Nat) (m : Int) (τ : sv_G), (6 - m).toNat < n → (0 ≤ m ∧ m ≤ gC D 4) → (frR σ τ a) → (Rw τ a (mlF D m.toNat l)) → SW X E Q 0 0 12 [some (vR G), some (vI z), some (vR a), some (vI m)] [] τ := by
      intro n
      induction n with
      | zero => intro m τ hm; exact absurd hm (Nat.not_lt_zero _)
      | succ n ih12 =>
        intro m τ hm12 i12_0 i12_1 i12_2
        have hCt := hC0.row hD hG ha i12_1
        have nst : τ G 8 = gC D 4 := hCt.2.2.2.2.2.2.2.2.2.1
        have smt := hCt.2.2.2.2.2.2.2.2.2.2 m
        refine s_iload_n C dX4_endSaying_12 rfl ?_
        refine s_aload_n C dX4_endSaying_13 rfl ?_
        refine s_getI (c := 4) (kz := 8) C fl_4_48 dX4_endSaying_14 hG rfl rfl (fun g14 => ?_)
        refine s_icmp_ge (tgt := 48) C dX4_endSaying_17 (by decide) (by omega) (by omega) (fun c17 => ?_) (fun c17 => ?_)
        · refine s_iconst C dX4_endSaying_48 ?_
          refine s_zret C hR dX4_endSaying_49 rfl (by omega) ⟨_, rfl, ?_⟩ (by decide)
          rw [e1]
          refine ⟨i12_1, ?_, Or.inl ⟨rfl, fun q => by cases q⟩⟩
          show Rw τ a (mlF D (gC D 4).toNat l)
          rw [show (gC D 4).toNat = m.toNat by omega]
          exact i12_2
        · refine s_aload_n C dX4_endSaying_20 rfl ?_
          refine s_aload_n C dX4_endSaying_21 rfl ?_
          refine s_getR (c := 4) C fl_4_38 dX4_endSaying_22 hG rfl (rfc_4_5 hG) ?_
          refine s_iload_n C dX4_endSaying_25 rfl ?_
          refine s_iald C dX4_endSaying_26 (shc_4_5 hG) (by omega) (fun g26 => ?_)
          refine s_aload_n C dX4_endSaying_27 rfl ?_
          refine s_getR (c := 4) C fl_4_42 dX4_endSaying_28 hG rfl (rfc_4_6 hG) ?_
          refine s_iload_n C dX4_endSaying_31 rfl ?_
          refine s_iald C dX4_endSaying_32 (shc_4_6 hG) (by omega) (fun g32 => ?_)
          refine s_aload_n C dX4_endSaying_33 rfl ?_
          refine s_getR (c := 4) C fl_4_45 dX4_endSaying_34 hG rfl (rfc_4_7 hG) ?_
          refine s_iload_n C dX4_endSaying_37 rfl ?_
          refine s_iald C dX4_endSaying_38 (shc_4_7 hG) (by omega) (fun g38 => ?_)
          have sm := smt (by omega) (by omega)
          refine s_cN3v C dX4_endSaying_39 lkX4_83 moX6_melt mvX6_melt (kX6_melt ha (by omega) (by omega) (by omega) (by assumption)) ha ⟨_, _, rfl⟩ (by decide) (Nat.le_of_ble_eq_true rfl) rfl (by decide) (fun σ_39 hp39 => ?_)
          obtain ⟨x3_42, ex3_42⟩ : ∃ y : Int, y = m + 1 := ⟨_, rfl⟩
          refine s_iinc (z2 := x3_42) (ls2 := [some (vR G), some (vI z), some (vR a), some (vI x3_42)]) C dX4_endSaying_42 (by decide) rfl ex3_42 rfl ?_
          refine s_goto (tgt := 12) C dX4_endSaying_45 (by decide) ?_
          refine ih12 x3_42 σ_39 (by omega) (by first | assumption | omega) ?_ ?_
          · exact i12_1.tr hp39.2
          · rw [show x3_42.toNat = m.toNat + 1 by omega]
            show Rw σ_39 a (meltL (gS D 0 (m.toNat : Int)) (gS D 1 (m.toNat : Int)) (gS D 2 (m.toNat : Int)) (mlF D m.toNat l))
            rw [show (m.toNat : Int) = m by omega, ← sm.1, ← sm.2.1, ← sm.2.2]
            exact hp39.1
    refine L12 _ 0 σ (Nat.lt_succ_self _) (by first | assumption | omega) ?_ ?_
    · exact frR.rf
    · exact hl
  · obtain ⟨g1, l0, g2⟩ := hx.zero c1
    refine s_aload_n C dX4_endSaying_4 rfl ?_
    refine s_cN0v C dX4_endSaying_5 lkX4_70 moX6_clear mvX6_clear (kX6_clear ha) ha ⟨_, _, rfl⟩ (by decide) (Nat.le_of_ble_eq_true rfl) rfl (by decide) (fun σ_5 hp5 => ?_)
    refine s_iconst C dX4_endSaying_8 ?_
    refine s_zret C hR dX4_endSaying_9 rfl (by omega) ⟨_, rfl, ?_⟩ (by decide)
    rw [g1]; exact ⟨fun b k h1 _ => hp5.2 b k h1, hp5.1, Or.inr ⟨rfl, rfl⟩⟩
set_option maxRecDepth 100000 in
set_option maxHeartbeats 8000000 in
theorem kX4_speak {E : sv_E} {σ : sv_G} {G : Nat} {D : gd_T} (hG : shp G = (4, 0)) (hD : GDok D) (hC : RC σ G D) {x kind : Int} (hx : 0 ≤ x ∧ x ≤ 9999) (hk : -2147483648 ≤ kind ∧ kind ≤ 2147483647) {a : Nat} (ha : shp a = (6, 0)) : CT E MX4_speak 87 [(vR G), (vI x), (vI kind), (vR a)] σ (PI fun r σ9 => frR σ σ9 a ∧ Rw σ9 a (spF D x kind) ∧ ((r = 1 ∧ spF D x kind ≠ []) ∨ (r = 0 ∧ spF D x kind = []))) := by
  refine CT.of (RX4, cX4_speak, 4, (some .boolean), [], 87, 0, 0) rfl moX4_speak (Nat.le_of_ble_eq_true rfl) (ls0 := [some (vR G), some (vI x), some (vI kind), some (vR a)]) rfl ?_
  intro X Q C hR
  refine s_aload_n C dX4_speak_0 rfl ?_
  refine s_cN0v C dX4_speak_1 lkX4_70 moX6_clear mvX6_clear (kX6_clear (by exact ha)) ha ⟨_, _, rfl⟩ (by decide) (Nat.le_of_ble_eq_true rfl) rfl (by decide) (fun σ_1 hp1 => ?_)
  have f1 : frR σ σ_1 a := fun b k h1 _ => hp1.2 b k h1
  have hC1 := hC.row hD hG ha f1
  refine s_aload_n C dX4_speak_4 rfl ?_
  refine s_aload_n C dX4_speak_5 rfl ?_
  refine s_iload_n C dX4_speak_6 rfl ?_
  refine s_iload_n C dX4_speak_7 rfl ?_
  refine s_aload_n C dX4_speak_8 rfl ?_
  refine s_cV3i C dX4_speak_9 lkX4_75 moX4_addNameFor mvX4_addNameFor (kX4_addNameFor (by exact hG) (by exact hD) (by exact hC1) (by omega) (by omega) (by exact ha) (by exact hp1.1) (by exact wOK.nil)) hG ⟨_, _, rfl⟩ (by decide) (Nat.le_of_ble_eq_true rfl) rfl (by decide) (fun r9 σ_9 hp9 => ?_)
  have b9 := hp9.b
  have hC2 := hC1.row hD hG ha hp9.1
  refine s_aload_n C dX4_speak_12 rfl ?_
  refine s_cV2i C dX4_speak_13 lkX4_79 moX4_endSaying mvX4_endSaying (kX4_endSaying (by exact hG) (by exact hD) (by exact hC2) (by exact ha) (by exact hp9)) hG ⟨_, _, rfl⟩ (by decide) (Nat.le_of_ble_eq_true rfl) rfl (by decide) (fun r13 σ_13 hp13 => ?_)
  refine s_zret C hR dX4_speak_16 rfl (by rcases hp13.2.2 with q | q <;> omega) ⟨_, rfl, ?_⟩ (by decide)
  have he := endO_ok hD fun l => nfF_ok hD wOK.nil (n := x) (kind := kind)
  exact ⟨(f1.tr hp9.1).tr hp13.1, hp13.2.1, hp13.2.2.imp (fun q => ⟨q.1, fun z => q.2 (he.2.2.mpr z)⟩) (fun q => ⟨q.1, he.2.2.mp q.2⟩)⟩
set_option maxRecDepth 100000 in
set_option maxHeartbeats 8000000 in
theorem kX4_speakFraction {E : sv_E} {σ : sv_G} {G : Nat} {D : gd_T} (hG : shp G = (4, 0)) (hD : GDok D) (hC : RC σ G D) {x y kind : Int} (hx : 0 ≤ x ∧ x ≤ 9999) (hy : 0 ≤ y ∧ y ≤ 9999) (hk : -2147483648 ≤ kind ∧ kind ≤ 2147483647) {a : Nat} (ha : shp a = (6, 0)) : CT E MX4_speakFraction 87 [(vR G), (vI x), (vI y), (vI kind), (vR a)] σ (PI fun r σ9 => frR σ σ9 a ∧ Rw σ9 a (frF D x y kind)) := by
  refine CT.of (RX4, cX4_speakFraction, 6, (some .boolean), [], 87, 0, 0) rfl moX4_speakFraction (Nat.le_of_ble_eq_true rfl) (ls0 := [some (vR G), some (vI x), some (vI y), some (vI kind), some (vR a), none]) rfl ?_
  intro X Q C hR
  refine s_aload C dX4_speakFraction_0 rfl ?_
  refine s_cN0v C dX4_speakFraction_2 lkX4_70 moX6_clear mvX6_clear (kX6_clear (by exact ha)) ha ⟨_, _, rfl⟩ (by decide) (Nat.le_of_ble_eq_true rfl) rfl (by decide) (fun σ_2 hp2 => ?_)
  have f1 : frR σ σ_2 a := fun b k h1 _ => hp2.2 b k h1
  have hC1 := hC.row hD hG ha f1
  refine s_aload_n C dX4_speakFraction_5 rfl ?_
  refine s_iload_n C dX4_speakFraction_6 rfl ?_
  refine s_iload_n C dX4_speakFraction_7 rfl ?_
  refine s_aload C dX4_speakFraction_8 rfl ?_
  refine s_cV3i C dX4_speakFraction_10 lkX4_75 moX4_addNameFor mvX4_addNameFor (kX4_addNameFor (by exact hG) (by exact hD) (by exact hC1) (by omega) (by omega) (by exact ha) (by exact hp2.1) (by exact wOK.nil)) hG ⟨_, _, rfl⟩ (by decide) (Nat.le_of_ble_eq_true rfl) rfl (by decide) (fun r10 σ_10 hp10 => ?_)
  have b10 := hp10.b
  have hC2 := hC1.row hD hG ha hp10.1
  have J32 : ∀ (z : Int) (τ : sv_G), (xtP σ_2 τ a z (((nfF D [] x kind).bind fun l => nfF D l y 3))) → SW X E Q 0 0 32 [some (vR G), some (vI x), some (vI y), some (vI kind), some (vR a), none] [(vI z)] τ := by
    intro z τ j32_0
    have hC3 := hC1.row hD hG ha j32_0.1
    refine s_istore (ls2 := [some (vR G), some (vI x), some (vI y), some (vI kind), some (vR a), some (vI z)]) C dX4_speakFraction_32 (by decide) rfl ?_
    refine s_aload_n C dX4_speakFraction_34 rfl ?_
    refine s_iload C dX4_speakFraction_35 rfl ?_
    refine s_aload C dX4_speakFraction_37 rfl ?_
    refine s_cV2i C dX4_speakFraction_39 lkX4_79 moX4_endSaying mvX4_endSaying (kX4_endSaying (by exact hG) (by exact hD) (by exact hC3) (by exact ha) (by exact j32_0)) hG ⟨_, _, rfl⟩ (by decide) (Nat.le_of_ble_eq_true rfl) rfl (by decide) (fun r39 σ_39 hp39 => ?_)
    
    refine s_zret C hR dX4_speakFraction_42 rfl (by rcases hp39.2.2 with q | q <;> omega) ⟨_, rfl, ?_⟩ (by decide)
    exact ⟨(f1.tr j32_0.1).tr hp39.1, hp39.2.1⟩
  have J31 : ∀ (τ : sv_G), (xtP σ_2 τ a 0 (((nfF D [] x kind).bind fun l => nfF D l y 3))) → SW X E Q 0 0 31 [some (vR G), some (vI x), some (vI y), some (vI kind), some (vR a), none] [] τ := by
    intro τ j31_0
    refine s_iconst C dX4_speakFraction_31 ?_
    refine J32 0 τ ?_
    · exact j31_0
  refine s_if_eq (tgt := 31) C dX4_speakFraction_13 (by decide) (by omega) (fun c13 => ?_) (fun c13 => ?_)
  · obtain ⟨g1, l0, g2⟩ := hp10.zero c13
    have e0 : ((nfF D [] x kind).bind fun l => nfF D l y 3) = none := by rw [g1]; rfl
    refine J31 σ_10 ?_
    · rw [e0]; exact xt_no hp10.1 g2
  · obtain ⟨l, e1, hl⟩ := hp10.one c13
    have hlo := nfF_ok hD wOK.nil e1
    have e0 : ((nfF D [] x kind).bind fun l => nfF D l y 3) = nfF D l y 3 := by rw [e1]; rfl
    refine s_aload_n C dX4_speakFraction_16 rfl ?_
    refine s_iload_n C dX4_speakFraction_17 rfl ?_
    refine s_iconst C dX4_speakFraction_18 ?_
    refine s_aload C dX4_speakFraction_19 rfl ?_
    refine s_cV3i C dX4_speakFraction_21 lkX4_75 moX4_addNameFor mvX4_addNameFor (kX4_addNameFor (by exact hG) (by exact hD) (by exact hC2) (by omega) (by decide) (by exact ha) (by exact hl) (by exact hlo.2.1)) hG ⟨_, _, rfl⟩ (by decide) (Nat.le_of_ble_eq_true rfl) rfl (by decide) (fun r21 σ_21 hp21 => ?_)
    have b21 := hp21.b
    refine s_if_eq (tgt := 31) C dX4_speakFraction_24 (by decide) (by omega) (fun c24 => ?_) (fun c24 => ?_)
    · refine J31 σ_21 ?_
      · rw [e0]; exact ⟨hp10.1.tr hp21.1, Or.inr ⟨rfl, hp21.zero c24⟩⟩
    · refine s_iconst C dX4_speakFraction_27 ?_
      refine s_goto (tgt := 32) C dX4_speakFraction_28 (by decide) ?_
      refine J32 1 σ_21 ?_
      · rw [e0]; exact ⟨hp10.1.tr hp21.1, Or.inl ⟨rfl, hp21.one c24⟩⟩
