theorem lst_split : ∀ S : List Int, S ≠ [] → ∃ S' x, S = S' ++ [x]
  | [], h => absurd rfl h
  | [a], _ => ⟨[], a, rfl⟩
  | a :: b :: t, _ => by
    obtain ⟨S', x, h⟩ := lst_split (b :: t) (List.cons_ne_nil _ _)
    exact ⟨a :: S', x, by rw [h]; rfl⟩
theorem AM.fr {σ σ9 : sv_G} {g : Int} {D : gd_T} (h : AM σ g D) (hf : ∀ b k, 196 ≤ b → b ≤ 215 → σ9 b k = σ b k) : AM σ9 g D := by
  obtain ⟨h1, h2, h3, h4⟩ := h
  refine ⟨by rw [hf _ _ (by decide) (by decide)]; exact h1, fun i a b => by rw [hf _ _ (by decide) (by decide), hf _ _ (by decide) (by decide)]; exact h2 i a b, fun x q => ?_, fun i j a b c => by rw [hf _ _ (by decide) (by decide), hf _ _ (by decide) (by decide)]; exact h4 i j a b c⟩
  obtain ⟨i, a, b, c⟩ := h3 x q
  exact ⟨i, a, b, by rw [hf _ _ (by decide) (by decide)]; exact c⟩
theorem BM.fr {σ σ9 : sv_G} {g : Int} {D : gd_T} (h : BM σ g D) (hf : ∀ b k, 196 ≤ b → b ≤ 215 → σ9 b k = σ b k) : BM σ9 g D := ⟨by rw [hf _ _ (by decide) (by decide)]; exact h.1, fun i k a b c => by rw [hf _ _ (by omega) (by omega)]; exact h.2 i k a b c⟩
def SR (σ : sv_G) (ws : List Int) : Prop := σ 195 20 = ws.length ∧ Sg σ 216 0 ws
def frN (σ σ9 : sv_G) : Prop := ∀ b k, (b ≠ 195 ∨ (k ≠ 20 ∧ k ≠ 24)) → b ≠ 216 → b ≠ 218 → σ9 b k = σ b k
theorem frN.tr {σ σ1 σ2 : sv_G} (h : frN σ σ1) (h2 : frN σ1 σ2) : frN σ σ2 := fun b k q1 q2 q3 => (h2 b k q1 q2 q3).trans (h b k q1 q2 q3)
theorem frK.N {σ σ9 : sv_G} (h : frK σ σ9) : frN σ σ9 := fun b k q1 _ q3 => h b k (by omega) q3
theorem SR.fr {σ σ9 : sv_G} {ws : List Int} (h : SR σ ws) (hf : ∀ b k, (b = 195 ∧ k = 20) ∨ b = 216 → σ9 b k = σ b k) : SR σ9 ws := ⟨by rw [hf _ _ (Or.inl ⟨rfl, rfl⟩)]; exact h.1, fun i hi => by rw [hf _ _ (Or.inr rfl)]; exact h.2 i hi⟩
theorem SR.K {σ σ9 : sv_G} {ws : List Int} (h : SR σ ws) (hf : frK σ σ9) : SR σ9 ws := h.fr fun b k q => hf b k (by omega) (by omega)
theorem SR.push {σ σ9 : sv_G} {ws : List Int} {x : Int} (h : SR σ ws) (e : σ9 = up (up σ 216 (σ 195 20) x) 195 20 (σ 195 20 + 1)) : SR σ9 (ws ++ [x]) := by
  refine ⟨?_, fun i hi => ?_⟩
  · rw [e, up_s, h.1, List.length_append]; simp
  · rw [List.length_append] at hi
    have hi2 : i < ws.length + 1 := hi
    rw [e, up_a (by decide), up_i, h.1, List.getD_eq_getElem?_getD]
    by_cases q : i = ws.length
    · rw [if_pos (by omega), q, List.getElem?_append_right (Nat.le_refl _), Nat.sub_self]; rfl
    · rw [if_neg (by omega), List.getElem?_append_left (by omega), ← List.getD_eq_getElem?_getD]
      exact h.2 i (by omega)
theorem SK.pop {σ σ9 : sv_G} {S : List Int} {x : Int} (h : SK σ (S ++ [x])) (e : σ9 = up σ 195 24 (σ 195 24 - 1)) : SK σ9 S ∧ σ9 218 (σ9 195 24) = x ∧ frK σ σ9 := by
  have h1 := h.1
  rw [List.length_append] at h1
  have h2 : σ 195 24 = (S.length : Int) + 1 := by rw [h1]; simp
  refine ⟨⟨by rw [e, up_s]; omega, fun i hi => ?_⟩, ?_, fun b k q1 q2 => by rw [e, up_n q1]⟩
  · have h3 := h.2 i (by rw [List.length_append]; simp; omega)
    rw [e, up_a (by decide), h3, List.getD_eq_getElem?_getD, List.getElem?_append_left hi, ← List.getD_eq_getElem?_getD]
  · have h3 := h.2 S.length (by rw [List.length_append]; simp)
    rw [List.getD_eq_getElem?_getD, List.getElem?_append_right (Nat.le_refl _), Nat.sub_self] at h3
    rw [e, up_s, up_a (by decide), h2, show (S.length : Int) + 1 - 1 = 0 + (S.length : Int) by omega]
    exact h3
set_option maxRecDepth 100000 in
set_option maxHeartbeats 8000000 in
theorem kX8_names {E : sv_E} {σ : sv_G} {D : gd_T} {g : Int} (hD : GDok D) (hg : 0 ≤ g ∧ g ≤ 3) (hAM : AM σ g D) (hBM : BM σ g D) {n9 : Int} (hn9 : 0 ≤ n9 ∧ n9 ≤ 9999) {w0 : List Int} (hW0 : SR σ w0) (hl : w0.length ≤ 20) : CT E MX8_names 3 [(vR 195), (vI g), (vI n9)] σ (PI fun r σ9 => frN σ σ9 ∧ ((r = 1 ∧ ∃ l, nm D n9 = some l ∧ l.length ≤ 20 ∧ SR σ9 (w0 ++ l)) ∨ (r = 0 ∧ ∀ l, nm D n9 = some l → 20 < l.length))) := by
  refine CT.of (RX8, cX8_names, 5, (some .boolean), [], 3, 0, 0) rfl moX8_names (Nat.le_of_ble_eq_true rfl) (ls0 := [some (vR 195), some (vI g), some (vI n9), none, none]) rfl ?_
  intro X Q C hR
  have h20 := hW0.1
  have hin := it_n (D := D) (g := g) hn9
  refine s_aload_n C dX8_names_0 rfl ?_
  refine s_getI (c := 8) (kz := 20) C fl_8_158 dX8_names_1 sh_195 rfl rfl (fun g1 => ?_)
  refine s_topI (fun x3_4 ex3_4 => ?_)
  refine s_istore_n (ls2 := [some (vR 195), some (vI g), some (vI n9), some (vI x3_4), none]) C dX8_names_4 (by decide) rfl ?_
  refine s_aload_n C dX8_names_5 rfl ?_
  refine s_iconst C dX8_names_6 ?_
  refine s_putI (c := 8) (kz := 24) C fl_8_142 dX8_names_7 sh_195 rfl (fun _ _ h9 => by cases h9; rfl) (by omega) rfl ?_
  refine s_nameG (fun σ_7 hσ_7 => ?_)
  have hS7 : SK σ_7 [] := ⟨by rw [hσ_7, up_s]; rfl, fun i hi => absurd hi (Nat.not_lt_zero i)⟩
  have f7 : frK σ σ_7 := fun b k q1 q2 => by rw [hσ_7, up_n q1]
  refine s_aload_n C dX8_names_10 rfl ?_
  refine s_sipush C dX8_names_11 (by decide) ?_
  refine s_iload_n C dX8_names_14 rfl ?_
  refine s_iadd C dX8_names_15 ?_
  refine s_cV1v C dX8_names_16 lkX8_145 moX8_waits mvX8_waits (kX8_waits (by exact hS7) (by omega) (by decide)) sh_195 ⟨_, _, rfl⟩ (by decide) (Nat.le_of_ble_eq_true rfl) rfl (by decide) (fun σ_16 hp16 => ?_)
  have L19 : ∀ (n : Nat) (τ : sv_G) (ws S : List Int), stM S < n → (SK τ S) → (SR τ (w0 ++ ws)) → (frN σ τ) → (itsOK D g S) → (oap (some ws) (stD D g S) = nm D n9) → (ws.length + S.length ≤ 20) → SW X E Q 0 0 19 [some (vR 195), some (vI g), some (vI n9), some (vI x3_4), none] [] τ := by
    intro n
    induction n with
    | zero => intro τ ws S hm; exact absurd hm (Nat.not_lt_zero _)
    | succ n ih19 =>
      intro τ ws S hm19 i19_0 i19_1 i19_2 i19_3 i19_4 i19_5
      have h24 := i19_0.1
      refine s_aload_n C dX8_names_19 rfl ?_
      refine s_getI (c := 8) (kz := 24) C fl_8_142 dX8_names_20 sh_195 rfl rfl (fun g20 => ?_)
      refine s_if_le (tgt := 146) C dX8_names_23 (by decide) (by omega) (fun c23 => ?_) (fun c23 => ?_)
      · refine s_iconst C dX8_names_146 ?_
        refine s_zret C hR dX8_names_147 rfl (by omega) ⟨_, rfl, ?_⟩ (by decide)
        have hS : S = [] := List.eq_nil_of_length_eq_zero (by omega)
        have h9 : nm D n9 = some ws := by rw [← i19_4, hS]; exact oap_nil_r _
        exact ⟨i19_2, Or.inl ⟨rfl, ws, h9, by omega, i19_1⟩⟩
      · have hSne : S ≠ [] := fun q => by rw [q] at h24; exact absurd h24 (by show ¬ τ 195 24 = 0; omega)
        obtain ⟨S', x, hSe⟩ := lst_split S hSne
        subst hSe
        have hio : itOK D g x := i19_3 x (List.mem_append.mpr (Or.inr List.mem_cons_self))
        have hio2 : itsOK D g S' := fun w hw => i19_3 w (List.mem_append.mpr (Or.inl hw))
        have hto : oap (some ws) (oap (itD D g x) (stD D g S')) = nm D n9 := by
          have h := i19_4
          rw [stD_app, stD_one] at h
          exact h
        have hle := i19_5
        rw [List.length_append] at hle
        have hle2 : ws.length + (S'.length + 1) ≤ 20 := hle
        have hms : stM (S' ++ [x]) = stM S' + itM x := by rw [stM_app]; rfl
        have hxp := itM_pos x
        refine s_aload_n C dX8_names_26 rfl ?_
        refine s_dup C dX8_names_27 rfl ?_
        refine s_getI (c := 8) (kz := 24) C fl_8_142 dX8_names_28 sh_195 rfl rfl (fun g28 => ?_)
        refine s_iconst C dX8_names_31 ?_
        refine s_isub C dX8_names_32 ?_
        refine s_putI (c := 8) (kz := 24) C fl_8_142 dX8_names_33 sh_195 rfl (fun _ _ h9 => by cases h9; rfl) (by omega) rfl ?_
        refine s_nameG (fun σ_33 hσ_33 => ?_)
        have hpo := i19_0.pop hσ_33
        have hw33 := i19_1.K hpo.2.2
        have f33 : frN σ σ_33 := i19_2.tr hpo.2.2.N
        have hA33 : AM σ_33 g D := hAM.fr fun b k q1 q2 => f33 b k (by omega) (by omega) (by omega)
        have hB33 : BM σ_33 g D := hBM.fr fun b k q1 q2 => f33 b k (by omega) (by omega) (by omega)
        have h33l := hw33.1
        rw [List.length_append] at h33l
        have h33s := hpo.1.1
        refine s_aload_n C dX8_names_36 rfl ?_
        refine s_getR (c := 8) C fl_8_76 dX8_names_37 sh_195 rfl rf_195_25 ?_
        refine s_aload_n C dX8_names_40 rfl ?_
        refine s_getI (c := 8) (kz := 24) C fl_8_142 dX8_names_41 sh_195 rfl rfl (fun g41 => ?_)
        refine s_iald C dX8_names_44 sh_218 (by omega) (fun g44 => ?_)
        refine s_topI (fun x4_45 ex4_45 => ?_)
        refine s_istore (ls2 := [some (vR 195), some (vI g), some (vI n9), some (vI x3_4), some (vI x4_45)]) C dX8_names_45 (by decide) rfl ?_
        rw [hpo.2.1] at ex4_45
        subst ex4_45
        refine s_iload C dX8_names_47 rfl ?_
        refine s_sipush C dX8_names_49 (by decide) ?_
        have J125 : ∀ (τ2 : sv_G) (ws1 S1 : List Int), (SK τ2 S1) → (SR τ2 (w0 ++ ws1)) → (frN σ τ2) → (itsOK D g S1) → (oap (some ws1) (stD D g S1) = nm D n9) → (ws1.length + S1.length ≤ 23) → (stM S1 < stM S' + itM x4_45) → SW X E Q 0 0 125 [some (vR 195), some (vI g), some (vI n9), some (vI x3_4), none] [] τ2 := by
          intro τ2 ws1 S1 j125_0 j125_1 j125_2 j125_3 j125_4 j125_5 j125_6
          have h20t := j125_1.1
          rw [List.length_append] at h20t
          have h24t := j125_0.1
          refine s_aload_n C dX8_names_125 rfl ?_
          refine s_getI (c := 8) (kz := 20) C fl_8_158 dX8_names_126 sh_195 rfl rfl (fun g126 => ?_)
          refine s_iload_n C dX8_names_129 rfl ?_
          refine s_isub C dX8_names_130 ?_
          refine s_aload_n C dX8_names_131 rfl ?_
          refine s_getI (c := 8) (kz := 24) C fl_8_142 dX8_names_132 sh_195 rfl rfl (fun g132 => ?_)
          refine s_iadd C dX8_names_135 ?_
          refine s_bipush C dX8_names_136 (by decide) ?_
          refine s_icmp_le (tgt := 143) C dX8_names_138 (by decide) (by omega) (by omega) (fun c138 => ?_) (fun c138 => ?_)
          · refine s_goto (tgt := 19) C dX8_names_143 (by decide) ?_
            exact ih19 τ2 ws1 S1 (by omega) (by first | assumption | omega) (by first | assumption | omega) (by first | assumption | omega) (by first | assumption | omega) (by first | assumption | omega) (by first | assumption | omega)
          · refine s_iconst C dX8_names_141 ?_
            refine s_zret C hR dX8_names_142 rfl (by omega) ⟨_, rfl, ?_⟩ (by decide)
            refine ⟨j125_2, Or.inr ⟨rfl, fun l hl => ?_⟩⟩
            rw [← j125_4] at hl
            obtain ⟨a, b, e1, e2, rfl⟩ := oap_some hl
            cases e1
            have h9 := st_len hD j125_3 e2
            rw [List.length_append]; omega
        refine s_icmp_ge (tgt := 79) C dX8_names_52 (by decide) (by omega) (by omega) (fun c52 => ?_) (fun c52 => ?_)
        · refine s_iload C dX8_names_79 rfl ?_
          refine s_sipush C dX8_names_81 (by decide) ?_
          refine s_icmp_ge (tgt := 103) C dX8_names_84 (by decide) (by omega) (by omega) (fun c84 => ?_) (fun c84 => ?_)
          · have hx3 : (20000 ≤ x4_45 ∧ x4_45 ≤ 30000) ∧ (0 ≤ (x4_45 - 20000) / 100 - 5 * g ∧ (x4_45 - 20000) / 100 - 5 * g < gC D 1) ∧ 1 ≤ (x4_45 - 20000) % 100 ∧ (x4_45 - 20000) % 100 ≤ gB D ((x4_45 - 20000) / 100 - 5 * g) 2 := by
              rcases hio with q | q | q
              · omega
              · omega
              · exact q
            have hiD : itD D g x4_45 = prF D (nm D) ((x4_45 - 20000) / 100 - 5 * g) ((x4_45 - 20000) % 100) := by unfold itD; rw [if_neg (by omega), if_neg (by omega)]
            have hiM : itM x4_45 = 4 ^ (((x4_45 - 20000) % 100).toNat + 1) + 2 := by unfold itM; rw [if_neg (by omega), if_neg (by omega)]
            refine s_aload_n C dX8_names_103 rfl ?_
            refine s_iload C dX8_names_104 rfl ?_
            refine s_sipush C dX8_names_106 (by decide) ?_
            refine s_isub C dX8_names_109 ?_
            refine s_bipush C dX8_names_110 (by decide) ?_
            refine s_idiv C dX8_names_112 (by omega) (by omega) ?_
            refine s_iload C dX8_names_113 rfl ?_
            refine s_sipush C dX8_names_115 (by decide) ?_
            refine s_isub C dX8_names_118 ?_
            refine s_bipush C dX8_names_119 (by decide) ?_
            refine s_irem C dX8_names_121 (by omega) (by omega) ?_
            refine s_cV2v C dX8_names_122 lkX8_164 moX8_product mvX8_product (kX8_product hD hg hB33 (p := (x4_45 - 20000) / 100 - 5 * g) hx3.2.1 (by omega) hx3.2.2 hpo.1 (by omega)) sh_195 ⟨_, _, rfl⟩ (by decide) (Nat.le_of_ble_eq_true rfl) rfl (by decide) (fun σ_122 hp122 => ?_)
            obtain ⟨hfk, T, hT1, hT2, hT3, hT4, hT5⟩ := hp122
            refine s_weak (ls2 := [some (vR 195), some (vI g), some (vI n9), some (vI x3_4), none]) (sv_wk_c (sv_wk_c (sv_wk_c (sv_wk_c (sv_wk_n sv_wk_0))))) ?_
            refine J125 σ_122 ws (S' ++ T) ?_ ?_ ?_ ?_ ?_ ?_ ?_
            · exact hT1
            · exact hw33.K hfk
            · exact f33.tr hfk.N
            · exact hio2.app hT3
            · rw [stD_app, hT4, ← hiD]; exact hto
            · rw [List.length_append]; omega
            · rw [stM_app, hiM]; omega
          · have hx2 : 1000 ≤ x4_45 ∧ x4_45 ≤ 10999 := by
              rcases hio with q | q | q
              · omega
              · exact q
              · omega
            have hiD : itD D g x4_45 = nm D (x4_45 - 1000) := by unfold itD; rw [if_neg (by omega), if_pos (by omega)]
            have hiM : itM x4_45 = 4 ^ ((x4_45 - 1000).toNat + 1) := by unfold itM; rw [if_neg (by omega), if_pos (by omega)]
            refine s_aload_n C dX8_names_87 rfl ?_
            refine s_iload_n C dX8_names_88 rfl ?_
            refine s_iload C dX8_names_89 rfl ?_
            refine s_sipush C dX8_names_91 (by decide) ?_
            refine s_isub C dX8_names_94 ?_
            refine s_cV2i C dX8_names_95 lkX8_161 moX8_parts mvX8_parts (kX8_parts (by exact hD) (by exact hg) (by exact hA33) (by exact hB33) (by omega) (by exact hpo.1) (by omega)) sh_195 ⟨_, _, rfl⟩ (by decide) (Nat.le_of_ble_eq_true rfl) rfl (by decide) (fun r95 σ_95 hp95 => ?_)
            have hb95 : r95 = 0 ∨ r95 = 1 := hp95.2.elim (fun q => Or.inr q.1) (fun q => Or.inl q.1)
            refine s_if_ne (tgt := 125) C dX8_names_98 (by decide) (by omega) (fun c98 => ?_) (fun c98 => ?_)
            · have hps := hp95.2.elim (fun q => q.2) (fun q => absurd q.1 c98)
              obtain ⟨hfk, T, hT1, hT2, hT3, hT4, hT5⟩ := hps
              refine s_weak (ls2 := [some (vR 195), some (vI g), some (vI n9), some (vI x3_4), none]) (sv_wk_c (sv_wk_c (sv_wk_c (sv_wk_c (sv_wk_n sv_wk_0))))) ?_
              refine J125 σ_95 ws (S' ++ T) ?_ ?_ ?_ ?_ ?_ ?_ ?_
              · exact hT1
              · exact hw33.K hfk
              · exact f33.tr hfk.N
              · exact hio2.app hT3
              · rw [stD_app, hT4, ← hiD]; exact hto
              · rw [List.length_append]; omega
              · rw [stM_app, hiM]; omega
            · refine s_iconst C dX8_names_101 ?_
              refine s_zret C hR dX8_names_102 rfl (by omega) ⟨_, rfl, ?_⟩ (by decide)
              rcases hp95.2 with q | q
              · exfalso; omega
              · refine ⟨f33.tr hp95.1.N, Or.inr ⟨rfl, fun l hl => ?_⟩⟩
                rw [hiD, q.2] at hto
                have h9 : oap (some ws) (oap none (stD D g S')) = none := rfl
                rw [h9] at hto
                rw [← hto] at hl
                cases hl
        · refine s_aload_n C dX8_names_55 rfl ?_
          refine s_getR (c := 8) C fl_8_70 dX8_names_56 sh_195 rfl rf_195_21 ?_
          refine s_aload_n C dX8_names_59 rfl ?_
          refine s_getI (c := 8) (kz := 20) C fl_8_158 dX8_names_60 sh_195 rfl rfl (fun g60 => ?_)
          refine s_iload C dX8_names_63 rfl ?_
          refine s_iast C dX8_names_65 sh_216 (by omega) (by omega) ?_
          refine s_nameG (fun σ_65 hσ_65 => ?_)
          have e65 : σ_65 195 20 = σ_33 195 20 := by rw [hσ_65, up_a (by decide)]
          refine s_aload_n C dX8_names_66 rfl ?_
          refine s_dup C dX8_names_67 rfl ?_
          refine s_getI (c := 8) (kz := 20) C fl_8_158 dX8_names_68 sh_195 rfl rfl (fun g68 => ?_)
          refine s_iconst C dX8_names_71 ?_
          refine s_iadd C dX8_names_72 ?_
          refine s_putI (c := 8) (kz := 20) C fl_8_158 dX8_names_73 sh_195 rfl (fun _ _ h9 => by cases h9; rfl) (by omega) rfl ?_
          refine s_nameG (fun σ_73 hσ_73 => ?_)
          have hx1 : 0 ≤ x4_45 ∧ x4_45 ≤ 199 := by
            rcases hio with q | q | q
            · exact q
            · omega
            · omega
          have hiw := it_w (D := D) (g := g) hx1
          have hsr := hw33.push (x := x4_45) (σ9 := σ_73) (by rw [hσ_73, e65, hσ_65])
          rw [List.append_assoc] at hsr
          have hsk : SK σ_73 S' := ⟨by rw [hσ_73, up_k (by decide), hσ_65, up_a (by decide)]; exact hpo.1.1, fun i hi => by rw [hσ_73, up_a (by decide), hσ_65, up_a (by decide)]; exact hpo.1.2 i hi⟩
          have f73 : frN σ σ_73 := f33.tr fun b k q1 q2 q3 => by rw [hσ_73, up_n (by omega), hσ_65, up_a q2]
          refine s_goto (tgt := 125) C dX8_names_76 (by decide) ?_
          refine s_weak (ls2 := [some (vR 195), some (vI g), some (vI n9), some (vI x3_4), none]) (sv_wk_c (sv_wk_c (sv_wk_c (sv_wk_c (sv_wk_n sv_wk_0))))) ?_
          refine J125 σ_73 (ws ++ [x4_45]) S' ?_ ?_ ?_ ?_ ?_ ?_ ?_
          · exact hsk
          · exact hsr
          · exact f73
          · exact hio2
          · rw [← hto, hiw.1, ← oap_assoc]; rfl
          · rw [List.length_append]; show ws.length + 1 + _ ≤ 23; omega
          · omega
  refine L19 _ σ_16 [] [1000 + n9] (Nat.lt_succ_self _) ?_ ?_ ?_ ?_ ?_ ?_
  · exact hp16.1
  · rw [List.append_nil]; exact (hW0.K f7).K hp16.2
  · exact (f7.tr hp16.2).N
  · exact itsOK.one hin.2.1
  · rw [stD_one, hin.1]; exact oap_nil_l _
  · show 0 + 1 ≤ 20; decide
