theorem lastW_app (l : List Int) (x : Int) : lastW (l ++ [x]) = x := by
  unfold lastW
  rw [List.getD_eq_getElem?_getD, List.length_append, List.getElem?_append_right (by simp)]
  simp
theorem dropL_app (l : List Int) (x : Int) : (l ++ [x]).dropLast = l := by simp
theorem SR.last {σ σ9 : sv_G} {l : List Int} {v : Int} (h : SR σ l) (hne : l ≠ []) (e : σ9 = up σ 216 (σ 195 20 - 1) v) : SR σ9 (l.dropLast ++ [v]) ∧ σ 216 (σ 195 20 - 1) = lastW l := by
  obtain ⟨l', x, rfl⟩ := lst_split l hne
  rw [dropL_app, lastW_app]
  have h1 := h.1
  rw [List.length_append] at h1
  have h2 : σ 195 20 = (l'.length : Int) + 1 := by rw [h1]; simp
  have h3 := h.2 l'.length (by rw [List.length_append]; simp)
  rw [List.getD_eq_getElem?_getD, List.getElem?_append_right (Nat.le_refl _), Nat.sub_self, show (0 : Int) + (l'.length : Int) = σ 195 20 - 1 by omega] at h3
  refine ⟨⟨by rw [e, up_a (by decide), h2, List.length_append]; simp, fun i hi => ?_⟩, h3⟩
  rw [List.length_append] at hi
  have hi2 : i < l'.length + 1 := hi
  rw [e, up_i, List.getD_eq_getElem?_getD]
  by_cases q : i = l'.length
  · rw [if_pos (by omega), q, List.getElem?_append_right (Nat.le_refl _), Nat.sub_self]; rfl
  · rw [if_neg (by omega), List.getElem?_append_left (by omega), h.2 i (by rw [List.length_append]; simp; omega), List.getD_eq_getElem?_getD, List.getElem?_append_left (by omega)]
theorem last_eq {l : List Int} (hne : l ≠ []) : l.dropLast ++ [lastW l] = l := by
  obtain ⟨l', x, rfl⟩ := lst_split l hne
  rw [dropL_app, lastW_app]
theorem FM.fr {σ σ9 : sv_G} {g : Int} {D : gd_T} (h : FM σ g D) (hf : ∀ b k, 196 ≤ b → b ≤ 215 → σ9 b k = σ b k) : FM σ9 g D := by
  obtain ⟨h1, h2, h3, h4⟩ := h
  refine ⟨by rw [hf _ _ (by decide) (by decide)]; exact h1, fun i a b => by rw [hf _ _ (by decide) (by decide), hf _ _ (by decide) (by decide), hf _ _ (by decide) (by decide)]; exact h2 i a b, fun x k q => ?_, fun i j a b c => by rw [hf _ _ (by decide) (by decide), hf _ _ (by decide) (by decide), hf _ _ (by decide) (by decide), hf _ _ (by decide) (by decide)]; exact h4 i j a b c⟩
  obtain ⟨i, a, b, c, d⟩ := h3 x k q
  exact ⟨i, a, b, by rw [hf _ _ (by decide) (by decide)]; exact c, by rw [hf _ _ (by decide) (by decide)]; exact d⟩
theorem SM.fr {σ σ9 : sv_G} {g : Int} {D : gd_T} (h : SM σ g D) (hf : ∀ b k, 196 ≤ b → b ≤ 215 → σ9 b k = σ b k) : SM σ9 g D := ⟨by rw [hf _ _ (by decide) (by decide)]; exact h.1, by rw [hf _ _ (by decide) (by decide)]; exact h.2.1, fun i k a b c => by rw [hf _ _ (by omega) (by omega)]; exact h.2.2 i k a b c⟩
theorem RM.fr {σ σ9 : sv_G} {g : Int} {D : gd_T} (h : RM σ g D) (hf : ∀ b k, 196 ≤ b → b ≤ 215 → σ9 b k = σ b k) : RM σ9 g D := ⟨h.1.fr hf, h.2.1.fr hf, h.2.2.1.fr hf, h.2.2.2.fr hf⟩
/-- what becomes of the row's last word -/
def tfF (D : gd_T) (l : List Int) (kind : Int) : List Int := if gP D (lastW l) kind ≠ -1 then l.dropLast ++ [gP D (lastW l) kind] else l
set_option maxRecDepth 100000 in
set_option maxHeartbeats 8000000 in
theorem kX8_takesForm {E : sv_E} {σ : sv_G} {D : gd_T} {g : Int} (hD : GDok D) (hg : 0 ≤ g ∧ g ≤ 3) (hF9 : FM σ g D) {l : List Int} (hl9 : SR σ l) (hne : l ≠ []) (hlen : l.length ≤ 40) {k : Int} (hk : -2147483648 ≤ k ∧ k ≤ 2147483647) : CT E MX8_takesForm 1 [(vR 195), (vI g), (vI k)] σ (PV fun σ9 => SR σ9 (tfF D l k) ∧ ∀ b i, b ≠ 216 → σ9 b i = σ b i) := by
  refine CT.of (RX8, cX8_takesForm, 4, none, [], 1, 0, 0) rfl moX8_takesForm (Nat.le_of_ble_eq_true rfl) (ls0 := [some (vR 195), some (vI g), some (vI k), none]) rfl ?_
  intro X Q C hR
  have h20 := hl9.1
  have hpos : 1 ≤ l.length := by
    cases l with
    | nil => exact absurd rfl hne
    | cons => simp
  have hla := (hl9.last (v := 0) hne rfl).2
  have hn0 := hD.2.2.2.2.1
  refine s_aload_n C dX8_takesForm_0 rfl ?_
  refine s_iload_n C dX8_takesForm_1 rfl ?_
  refine s_aload_n C dX8_takesForm_2 rfl ?_
  refine s_getR (c := 8) C fl_8_70 dX8_takesForm_3 sh_195 rfl rf_195_21 ?_
  refine s_aload_n C dX8_takesForm_6 rfl ?_
  refine s_getI (c := 8) (kz := 20) C fl_8_158 dX8_takesForm_7 sh_195 rfl rfl (fun g7 => ?_)
  refine s_iconst C dX8_takesForm_10 ?_
  refine s_isub C dX8_takesForm_11 ?_
  refine s_iald C dX8_takesForm_12 sh_216 (by omega) (fun g12 => ?_)
  refine s_iload_n C dX8_takesForm_13 rfl ?_
  refine s_cV3i C dX8_takesForm_14 lkX8_138 moX8_formAt mvX8_formAt (kX8_formAt (by exact hD) (by exact hg) (by exact hF9) (by omega) (by omega)) sh_195 ⟨_, _, rfl⟩ (by decide) (Nat.le_of_ble_eq_true rfl) rfl (by decide) (kpI (fun r14 hp14 => ?_))
  rw [hla] at hp14
  have hr14 : (r14 = -1 ∧ gP D (lastW l) k = -1) ∨ ((30 * g ≤ r14 ∧ r14 < 30 * g + gC D 2) ∧ σ 210 r14 = gP D (lastW l) k ∧ gP D (lastW l) k ≠ -1) := hp14.imp id fun q => ⟨q.1, q.2.2.2⟩
  refine s_istore_n (ls2 := [some (vR 195), some (vI g), some (vI k), some (vI r14)]) C dX8_takesForm_17 (by decide) rfl ?_
  refine s_aload_n C dX8_takesForm_18 rfl ?_
  refine s_getR (c := 8) C fl_8_70 dX8_takesForm_19 sh_195 rfl rf_195_21 ?_
  refine s_aload_n C dX8_takesForm_22 rfl ?_
  refine s_getI (c := 8) (kz := 20) C fl_8_158 dX8_takesForm_23 sh_195 rfl rfl (fun g23 => ?_)
  refine s_iconst C dX8_takesForm_26 ?_
  refine s_isub C dX8_takesForm_27 ?_
  refine s_iload_n C dX8_takesForm_28 rfl ?_
  refine s_iconst C dX8_takesForm_29 ?_
  have J53 : ∀ (v : Int), (v = if gP D (lastW l) k ≠ -1 then gP D (lastW l) k else lastW l) → (-2147483648 ≤ v ∧ v ≤ 2147483647) → SW X E Q 0 0 53 [some (vR 195), some (vI g), some (vI k), some (vI r14)] [(vI v), (vI ((σ 195 20) - 1)), (vR 216)] σ := by
    intro v j53_0 j53_1
    refine s_iast C dX8_takesForm_53 sh_216 (by omega) (by omega) ?_
    refine s_nameG (fun σ_53 hσ_53 => ?_)
    refine s_vret C hR dX8_takesForm_54 rfl ⟨rfl, ?_⟩ (by decide)
    have h9 := (hl9.last hne hσ_53).1
    refine ⟨?_, fun b i h => by rw [hσ_53, up_a h]⟩
    unfold tfF
    by_cases q : gP D (lastW l) k ≠ -1
    · rw [if_pos q]; rw [j53_0, if_pos q] at h9; exact h9
    · rw [if_neg q]; rw [j53_0, if_neg q, last_eq hne] at h9; exact h9
  refine s_icmp_ne (tgt := 47) C dX8_takesForm_30 (by decide) (by omega) (by omega) (fun c30 => ?_) (fun c30 => ?_)
  · refine s_aload_n C dX8_takesForm_47 rfl ?_
    refine s_getR (c := 8) C fl_8_52 dX8_takesForm_48 sh_195 rfl rf_195_14 ?_
    refine s_iload_n C dX8_takesForm_51 rfl ?_
    refine s_iald C dX8_takesForm_52 sh_210 (by omega) (fun g52 => ?_)
    refine J53 (σ 210 r14) ?_ (by first | assumption | omega)
    · rw [if_pos (by omega)]; omega
  · refine s_aload_n C dX8_takesForm_33 rfl ?_
    refine s_getR (c := 8) C fl_8_70 dX8_takesForm_34 sh_195 rfl rf_195_21 ?_
    refine s_aload_n C dX8_takesForm_37 rfl ?_
    refine s_getI (c := 8) (kz := 20) C fl_8_158 dX8_takesForm_38 sh_195 rfl rfl (fun g38 => ?_)
    refine s_iconst C dX8_takesForm_41 ?_
    refine s_isub C dX8_takesForm_42 ?_
    refine s_iald C dX8_takesForm_43 sh_216 (by omega) (fun g43 => ?_)
    refine s_goto (tgt := 53) C dX8_takesForm_44 (by decide) ?_
    refine J53 (σ 216 ((σ 195 20) - 1)) ?_ (by first | assumption | omega)
    · rw [if_neg (by omega)]; exact hla
