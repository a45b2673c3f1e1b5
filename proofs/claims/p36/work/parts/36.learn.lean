/-! Settings that are learnt. -/
def setB (b : Nat → Int) (s j : Int) : Nat → Int := bU (bU b 3 (s / 2)) 4 (if s % 2 = 1 then j else -1)
def dSet (D : gd_T) (p s j : Int) : gd_T := dBs D p (setB (gB D p) s j)
theorem setB_ok {b : Nat → Int} {s j : Int} (h : bsOK b) (hs : 0 ≤ s ∧ s ≤ 31) (hj : 0 ≤ j ∧ j ≤ 199) : bsOK (setB b s j) := by
  obtain ⟨s0, s1, s2, s3, s4, s5, s6⟩ := h
  exact ⟨s0, s1, s2, (show 0 ≤ s / 2 ∧ s / 2 ≤ 15 by omega), (show -1 ≤ (if s % 2 = 1 then j else -1) ∧ (if s % 2 = 1 then j else -1) ≤ 199 by split <;> omega), s5, s6⟩
def meE (D : gd_T) (E : List (Int × List Int)) : Prop := ∀ e ∈ E, spF D e.1 0 = e.2
noncomputable def fsR (D : gd_T) (p j : Int) (E : List (Int × List Int)) : Nat → List Int
  | 0 => []
  | n + 1 => @ite (List Int) (meE (dSet D p (n : Int) j) E) (Classical.propDecidable _) (fsR D p j E n ++ [(n : Int)]) (fsR D p j E n)
theorem fsR_y {D : gd_T} {p j m : Int} {E : List (Int × List Int)} (h : 0 ≤ m) (q : meE (dSet D p m j) E) : fsR D p j E (m + 1).toNat = fsR D p j E m.toNat ++ [m] := by
  have e : (m.toNat : Int) = m := by omega
  rw [show (m + 1).toNat = m.toNat + 1 by omega]
  conv => lhs; unfold fsR
  rw [e, if_pos q]
theorem fsR_n {D : gd_T} {p j m : Int} {E : List (Int × List Int)} (h : 0 ≤ m) (q : ¬ meE (dSet D p m j) E) : fsR D p j E (m + 1).toNat = fsR D p j E m.toNat := by
  have e : (m.toNat : Int) = m := by omega
  rw [show (m + 1).toNat = m.toNat + 1 by omega]
  conv => lhs; unfold fsR
  rw [e, if_neg q]
theorem fsR_in {D : gd_T} {p j : Int} {E : List (Int × List Int)} : ∀ n : Nat, (fsR D p j E n).length ≤ n ∧ ∀ s ∈ fsR D p j E n, 0 ≤ s ∧ s < n
  | 0 => ⟨Nat.le_refl _, fun s h => by cases h⟩
  | n + 1 => by
    have ih := fsR_in (D := D) (p := p) (j := j) (E := E) n
    unfold fsR
    by_cases q : meE (dSet D p (n : Int) j) E
    · rw [if_pos q]
      refine ⟨by rw [List.length_append]; simp; omega, fun s h => ?_⟩
      rcases List.mem_append.mp h with h | h
      · have := ih.2 s h; omega
      · rw [List.mem_singleton.mp h]; omega
    · rw [if_neg q]
      exact ⟨by omega, fun s h => by have := ih.2 s h; omega⟩
noncomputable def fsL (D : gd_T) (p j : Int) (E : List (Int × List Int)) : List Int := fsR D p j E 32
def EXs (σ : sv_G) (E : List (Int × List Int)) : Prop := σ 0 10 = E.length ∧ ∀ i : Nat, i < E.length → σ 16 i = (E.getD i (0, [])).1 ∧ Rw σ (91 + 2 * i) (E.getD i (0, [])).2
theorem EXs.fr {σ σ9 : sv_G} {E : List (Int × List Int)} (h : EXs σ E) (hl : E.length ≤ 20) (hf : ∀ b k, (b = 0 ∧ k = 10) ∨ b = 16 ∨ (91 ≤ b ∧ b ≤ 130) → σ9 b k = σ b k) : EXs σ9 E := ⟨by rw [hf _ _ (by omega)]; exact h.1, fun i hi => ⟨by rw [hf _ _ (by omega)]; exact (h.2 i hi).1, (h.2 i hi).2.fr fun b k _ _ => hf b k (by omega)⟩⟩
theorem getD_mem2 {α : Type} {l : List α} {d : α} {i : Nat} (h : i < l.length) : l.getD i d ∈ l := by
  rw [List.getD_eq_getElem?_getD, List.getElem?_eq_getElem h]
  exact List.getElem_mem h
theorem mem_getD2 {α : Type} {l : List α} {d x : α} (h : x ∈ l) : ∃ i, i < l.length ∧ l.getD i d = x := by
  obtain ⟨i, h1, h2⟩ := List.getElem_of_mem h
  exact ⟨i, h1, by rw [List.getD_eq_getElem?_getD, List.getElem?_eq_getElem h1]; exact h2⟩
theorem RC.bs2 {σ σ9 : sv_G} {G : Nat} {D : gd_T} {p : Int} {b : Nat → Int} (hD : GDok D) (hD2 : GDok (dBs D p b)) (h : RC σ G D) (hp : 0 ≤ p ∧ p < gC D 1) (h1 : ∀ k : Nat, k < 7 → σ9 (G + 4 + 8 + p.toNat) (k : Int) = b k) (hf : ∀ b k, G ≤ b → b < G + 17 → b ≠ G + 4 + 8 + p.toNat → σ9 b k = σ b k) : RC σ9 G (dBs D p b) := by
  have hn := hD.2.2.2.1
  have h2 : RC (fun b k => if G ≤ b ∧ b < G + 17 then σ9 b k else σ b k) G (dBs D p b) := by
    refine RC.bs hD h hp (fun k hk => ?_) (fun b k q => ?_)
    · show (if _ then _ else _) = _
      rw [if_pos (by omega)]; exact h1 k hk
    · show (if _ then _ else _) = _
      split
      · rename_i q2; exact hf b k q2.1 q2.2 q
      · rfl
  refine h2.fr hD2 fun b k g1 g2 => ?_
  show _ = (if _ then _ else _)
  rw [if_pos ⟨g1, g2⟩]
def frT (σ σ9 : sv_G) : Prop := ∀ b k, b ≠ 6 → b ≠ 7 → b ≠ 18 → σ9 b k = σ b k
def px4 (σ : sv_G) (S : st_T) (n : Int) (e1 e2 : String) : String → sv_G → Prop := fun En σ9 => (RN σ9 S ∧ frC σ σ9) ∧ ((En = e1 ∧ n = 1) ∨ (En = e2 ∧ n = 2))
set_option maxRecDepth 100000 in
set_option maxHeartbeats 8000000 in
theorem kX7_meetsExamples {E : sv_E} {σ : sv_G} {G : Nat} {D : gd_T} (hG : shp G = (4, 0)) (hD : GDok D) (hC : RC σ G D) {E9 : List (Int × List Int)} (hE : EXs σ E9) (hl : E9.length ≤ 20) (ho : ∀ e ∈ E9, eOK e) : CT E MX7_meetsExamples 88 [(vR 0), (vR G)] σ (PI fun r σ9 => frR σ σ9 6 ∧ ((r = 1 ∧ meE D E9) ∨ (r = 0 ∧ ¬ meE D E9))) := by
  refine CT.of (RX7, cX7_meetsExamples, 3, (some .boolean), [], 88, 0, 0) rfl moX7_meetsExamples (Nat.le_of_ble_eq_true rfl) (ls0 := [some (vR 0), some (vR G), none]) rfl ?_
  intro X Q C hR
  refine s_iconst C dX7_meetsExamples_0 ?_
  refine s_istore_n (ls2 := [some (vR 0), some (vR G), some (vI 0)]) C dX7_meetsExamples_1 (by decide) rfl ?_
  have L2 : ∀ (n : Nat) (m : Int) (τ : sv_G), (20 - m).toNat < n → (0 ≤ m ∧ m ≤ E9.length) → (frR σ τ 6) → (∀ i : Nat, (i : Int) < m → spF D (E9.getD i (0, [])).1 0 = (E9.getD i (0, [])).2) → SW X E Q 0 0 2 [some (vR 0), some (vR G), some (vI m)] [] τ := by
    intro n
    induction n with
    | zero => intro m τ hm; exact absurd hm (Nat.not_lt_zero _)
    | succ n ih2 =>
      intro m τ hm2 i2_0 i2_1 i2_2
      have hCt := hC.row hD hG sh_6 i2_1
      have hEt : EXs τ E9 := hE.fr hl fun b k h => i2_1 b k (by omega) (by omega)
      have hec := hEt.1
      refine s_iload_n C dX7_meetsExamples_2 rfl ?_
      refine s_aload_n C dX7_meetsExamples_3 rfl ?_
      refine s_getI (c := 7) (kz := 10) C fl_7_52 dX7_meetsExamples_4 sh_0 rfl rfl (fun g4 => ?_)
      refine s_icmp_ge (tgt := 52) C dX7_meetsExamples_7 (by decide) (by omega) (by omega) (fun c7 => ?_) (fun c7 => ?_)
      · refine s_iconst C dX7_meetsExamples_52 ?_
        refine s_zret C hR dX7_meetsExamples_53 rfl (by omega) ⟨_, rfl, ?_⟩ (by decide)
        refine ⟨i2_1, Or.inl ⟨rfl, fun e he => ?_⟩⟩
        obtain ⟨i, h1, h2⟩ := mem_getD2 (d := (0, [])) he
        have h9 := i2_2 i (by omega)
        rw [h2] at h9
        exact h9
      · have hem := ho _ (getD_mem2 (l := E9) (d := (0, [])) (i := m.toNat) (by omega))
        have het := hEt.2 m.toNat (by omega)
        rw [show (m.toNat : Int) = m by omega] at het
        have het1 := het.1
        have hr1 := hem.1
        refine s_aload_n C dX7_meetsExamples_10 rfl ?_
        refine s_aload_n C dX7_meetsExamples_11 rfl ?_
        refine s_getR (c := 7) C fl_7_45 dX7_meetsExamples_12 sh_0 rfl rf_0_8 ?_
        refine s_iload_n C dX7_meetsExamples_15 rfl ?_
        refine s_iald C dX7_meetsExamples_16 sh_16 (by omega) (fun g16 => ?_)
        refine s_iconst C dX7_meetsExamples_17 ?_
        refine s_aload_n C dX7_meetsExamples_18 rfl ?_
        refine s_getR (c := 7) C fl_7_25 dX7_meetsExamples_19 sh_0 rfl rf_0_3 ?_
        refine s_cN3i C dX7_meetsExamples_22 lkX7_176 moX4_speak mvX4_speak (kX4_speak (by exact hG) (by exact hD) (by exact hCt) (by rw [het1]; exact hr1) (by decide) (by exact sh_6)) hG ⟨_, _, rfl⟩ (by decide) (Nat.le_of_ble_eq_true rfl) rfl (by decide) (fun r22 σ_22 hp22 => ?_)
        rw [het1] at hp22
        have hb22 := zo1 hp22.2.2
        have hw9 : Rw σ_22 (91 + 2 * (m).toNat) (E9.getD m.toNat (0, [])).2 := het.2.fr fun b k h1 h2 => hp22.1 b k (by omega) (by omega)
        have J44 : (¬ meE D E9) → SW X E Q 0 0 44 [some (vR 0), some (vR G), some (vI m)] [] σ_22 := by
          intro  j44_0
          refine s_iconst C dX7_meetsExamples_44 ?_
          refine s_zret C hR dX7_meetsExamples_45 rfl (by omega) ⟨_, rfl, ?_⟩ (by decide)
          exact ⟨i2_1.tr hp22.1, Or.inr ⟨rfl, j44_0⟩⟩
        refine s_if_eq (tgt := 44) C dX7_meetsExamples_25 (by decide) (by omega) (fun c25 => ?_) (fun c25 => ?_)
        · refine J44 ?_
          · rcases hp22.2.2 with q | q
            · exfalso; omega
            · intro h
              have h9 := h _ (getD_mem2 (l := E9) (d := (0, [])) (i := m.toNat) (by omega))
              rw [q.2] at h9
              exact hem.2.2.1 h9.symm
        · refine s_aload_n C dX7_meetsExamples_28 rfl ?_
          refine s_getR (c := 7) C fl_7_25 dX7_meetsExamples_29 sh_0 rfl rf_0_3 ?_
          refine s_aload_n C dX7_meetsExamples_32 rfl ?_
          refine s_getR (c := 7) C fl_7_48 dX7_meetsExamples_33 sh_0 rfl rf_0_9 ?_
          refine s_iload_n C dX7_meetsExamples_36 rfl ?_
          refine s_aald (t := 3) C dX7_meetsExamples_37 sh_17 (by decide) (by omega) (rfa_17 (show (m).toNat < 20 by omega)) ?_
          refine s_cN1i C dX7_meetsExamples_38 lkX7_326 moX6_same mvX6_same (kX6_same (by exact sh_6) (by exact (sha_17 (show (m).toNat < 20 by omega))) (by exact hp22.2.1) (by exact hw9)) sh_6 ⟨_, _, rfl⟩ (by decide) (Nat.le_of_ble_eq_true rfl) rfl (by decide) (kpI (fun r38 hp38 => ?_))
          have hb38 := zo1 hp38
          refine s_if_ne (tgt := 46) C dX7_meetsExamples_41 (by decide) (by omega) (fun c41 => ?_) (fun c41 => ?_)
          · obtain ⟨x2_46, ex2_46⟩ : ∃ y : Int, y = m + 1 := ⟨_, rfl⟩
            refine s_iinc (z2 := x2_46) (ls2 := [some (vR 0), some (vR G), some (vI x2_46)]) C dX7_meetsExamples_46 (by decide) rfl ex2_46 rfl ?_
            refine s_goto (tgt := 2) C dX7_meetsExamples_49 (by decide) ?_
            refine ih2 x2_46 σ_22 (by omega) (by first | assumption | omega) ?_ ?_
            · exact i2_1.tr hp22.1
            · intro i h
              by_cases q : i = m.toNat
              · rw [q]
                rcases hp38 with z | z
                · exact z.2
                · exfalso; omega
              · exact i2_2 i (by omega)
          · refine J44 ?_
            · rcases hp38 with q | q
              · exfalso; omega
              · intro h
                exact q.2 (h _ (getD_mem2 (l := E9) (d := (0, [])) (i := m.toNat) (by omega)))
  refine L2 _ 0 σ (Nat.lt_succ_self _) (by first | assumption | omega) ?_ ?_
  · exact frR.rf
  · intro i h; omega
set_option maxRecDepth 100000 in
set_option maxHeartbeats 8000000 in
theorem kX7_findSettings {E : sv_E} {σ : sv_G} {G : Nat} {D : gd_T} (hG : shp G = (4, 0)) (hD : GDok D) (hC : RC σ G D) {E9 : List (Int × List Int)} (hE : EXs σ E9) (hl : E9.length ≤ 20) (ho : ∀ e ∈ E9, eOK e) {p z : Int} (hp : 0 ≤ p ∧ p < gC D 1) (hz : 0 ≤ z ∧ z ≤ 199) : CT E MX7_findSettings 89 [(vR 0), (vR G), (vR (G + 4 + 8 + (p).toNat)), (vI z)] σ (PI fun r σ9 => r = (fsL D p z E9).length ∧ frT σ σ9 ∧ ∀ i : Nat, i < (fsL D p z E9).length → σ9 18 i = (fsL D p z E9).getD i 0) := by
  refine CT.of (RX7, cX7_findSettings, 8, (some .int), [], 89, 0, 0) rfl moX7_findSettings (Nat.le_of_ble_eq_true rfl) (ls0 := [some (vR 0), some (vR G), some (vR (G + 4 + 8 + (p).toNat)), some (vI z), none, none, none, none]) rfl ?_
  intro X Q C hR
  have hnb := hD.2.2.2.1
  have hGb := shG hG
  have hbo := hD.2.2.2.2.2.2.2.1 p hp.1 hp.2
  have hbf : ∀ k : Nat, k < 7 → σ (G + 4 + 8 + (p).toNat) (k : Int) = gB D p k := fun k hk => hC.2.2.2.2.1 p k hp.1 hp.2 hk
  refine s_aload_n C dX7_findSettings_0 rfl ?_
  refine s_getI (c := 1) (kz := 3) C fl_7_267 dX7_findSettings_1 (sha_14 (shc_4_1 hG) (show (p).toNat < 5 by omega)) rfl rfl (fun g1 => ?_)
  refine s_topI (fun x4_4 ex4_4 => ?_)
  refine s_istore (ls2 := [some (vR 0), some (vR G), some (vR (G + 4 + 8 + (p).toNat)), some (vI z), some (vI x4_4), none, none, none]) C dX7_findSettings_4 (by decide) rfl ?_
  refine s_aload_n C dX7_findSettings_6 rfl ?_
  refine s_getI (c := 1) (kz := 4) C fl_7_130 dX7_findSettings_7 (sha_14 (shc_4_1 hG) (show (p).toNat < 5 by omega)) rfl rfl (fun g7 => ?_)
  refine s_topI (fun x5_10 ex5_10 => ?_)
  refine s_istore (ls2 := [some (vR 0), some (vR G), some (vR (G + 4 + 8 + (p).toNat)), some (vI z), some (vI x4_4), some (vI x5_10), none, none]) C dX7_findSettings_10 (by decide) rfl ?_
  refine s_iconst C dX7_findSettings_12 ?_
  refine s_istore (ls2 := [some (vR 0), some (vR G), some (vR (G + 4 + 8 + (p).toNat)), some (vI z), some (vI x4_4), some (vI x5_10), some (vI 0), none]) C dX7_findSettings_13 (by decide) rfl ?_
  refine s_iconst C dX7_findSettings_15 ?_
  refine s_istore (ls2 := [some (vR 0), some (vR G), some (vR (G + 4 + 8 + (p).toNat)), some (vI z), some (vI x4_4), some (vI x5_10), some (vI 0), some (vI 0)]) C dX7_findSettings_16 (by decide) rfl ?_
  have L18 : ∀ (n : Nat) (f : Int) (m : Int) (τ : sv_G), (32 - m).toNat < n → (0 ≤ m ∧ m ≤ 32) → (f = (fsR D p z E9 m.toNat).length) → (∀ b k, b ≠ 6 → b ≠ 7 → b ≠ 18 → (b ≠ G + 4 + 8 + (p).toNat ∨ (k ≠ 3 ∧ k ≠ 4)) → τ b k = σ b k) → (∀ i : Nat, i < (fsR D p z E9 m.toNat).length → τ 18 i = (fsR D p z E9 m.toNat).getD i 0) → SW X E Q 0 0 18 [some (vR 0), some (vR G), some (vR (G + 4 + 8 + (p).toNat)), some (vI z), some (vI x4_4), some (vI x5_10), some (vI f), some (vI m)] [] τ := by
    intro n
    induction n with
    | zero => intro f m τ hm; exact absurd hm (Nat.not_lt_zero _)
    | succ n ih18 =>
      intro f m τ hm18 i18_0 i18_1 i18_2 i18_3
      have hfi := fsR_in (D := D) (p := p) (j := z) (E := E9) m.toNat
      refine s_iload C dX7_findSettings_18 rfl ?_
      refine s_bipush C dX7_findSettings_20 (by decide) ?_
      refine s_icmp_ge (tgt := 58) C dX7_findSettings_22 (by decide) (by omega) (by omega) (fun c22 => ?_) (fun c22 => ?_)
      · refine s_aload_n C dX7_findSettings_58 rfl ?_
        refine s_iload C dX7_findSettings_59 rfl ?_
        refine s_putI (c := 1) (kz := 3) C fl_7_267 dX7_findSettings_61 (sha_14 (shc_4_1 hG) (show (p).toNat < 5 by omega)) rfl (fun _ _ h9 => by cases h9; rfl) (by omega) rfl ?_
        refine s_nameG (fun σ_61 hσ_61 => ?_)
        refine s_aload_n C dX7_findSettings_64 rfl ?_
        refine s_iload C dX7_findSettings_65 rfl ?_
        refine s_putI (c := 1) (kz := 4) C fl_7_130 dX7_findSettings_67 (sha_14 (shc_4_1 hG) (show (p).toNat < 5 by omega)) rfl (fun _ _ h9 => by cases h9; rfl) (by omega) rfl ?_
        refine s_nameG (fun σ_67 hσ_67 => ?_)
        refine s_iload C dX7_findSettings_70 rfl ?_
        refine s_iret C hR dX7_findSettings_72 rfl ⟨_, rfl, ?_⟩ (by decide)
        have hm : m.toNat = 32 := by omega
        rw [hm] at i18_1 i18_3
        refine ⟨i18_1, fun b k h1 h2 h3 => ?_, fun i hi => by rw [hσ_67, up_a (by omega), hσ_61, up_a (by omega)]; exact i18_3 i hi⟩
        rw [hσ_67, hσ_61]
        by_cases q : b = G + 4 + 8 + (p).toNat
        · by_cases q4 : k = 4
          · rw [q, q4, up_s]; exact ex5_10
          · rw [up_k q4]
            by_cases q3 : k = 3
            · rw [q, q3, up_s]; exact ex4_4
            · rw [up_k q3]; exact i18_2 b k h1 h2 h3 (Or.inr ⟨q3, q4⟩)
        · rw [up_a q, up_a q]; exact i18_2 b k h1 h2 h3 (Or.inl q)
      · refine s_aload_n C dX7_findSettings_25 rfl ?_
        refine s_iload C dX7_findSettings_26 rfl ?_
        refine s_iload_n C dX7_findSettings_28 rfl ?_
        refine s_cN2v C dX7_findSettings_29 lkX7_248 moX1_set mvX1_set (kX1_set (by exact (sha_14 (shc_4_1 hG) (show (p).toNat < 5 by omega))) (by omega) (by omega)) (sha_14 (shc_4_1 hG) (show (p).toNat < 5 by omega)) ⟨_, _, rfl⟩ (by decide) (Nat.le_of_ble_eq_true rfl) rfl (by decide) (fun σ_29 hp29 => ?_)
        have hDs : GDok (dSet D p m z) := dBs_ok hD (setB_ok hbo (by omega) hz)
        have f29 : ∀ b k, b ≠ 6 → b ≠ 7 → b ≠ 18 → (b ≠ G + 4 + 8 + (p).toNat ∨ (k ≠ 3 ∧ k ≠ 4)) → σ_29 b k = σ b k := fun b k h1 h2 h3 h4 => by
          rw [hp29, up_n (by omega), up_n (by omega)]; exact i18_2 b k h1 h2 h3 h4
        have hCs : RC σ_29 G (dSet D p m z) := by
          refine RC.bs2 hD hDs hC hp (fun k hk => ?_) (fun b k g1 g2 g3 => f29 b k (by omega) (by omega) (by omega) (Or.inl g3))
          show _ = (if k = 4 then (if m % 2 = 1 then z else -1) else if k = 3 then m / 2 else gB D p k)
          rw [hp29]
          by_cases q : k = 4
          · rw [if_pos q, q]; exact up_s _ _ _ _
          · rw [if_neg q, up_k (by omega)]
            by_cases q2 : k = 3
            · rw [if_pos q2, q2]; exact up_s _ _ _ _
            · rw [if_neg q2, up_k (by omega), i18_2 _ _ (by omega) (by omega) (by omega) (by omega)]; exact hbf k hk
        have hEs : EXs σ_29 E9 := hE.fr hl fun b k h => f29 b k (by omega) (by omega) (by omega) (by omega)
        refine s_aload_n C dX7_findSettings_32 rfl ?_
        refine s_aload_n C dX7_findSettings_33 rfl ?_
        refine s_cV1i C dX7_findSettings_34 lkX7_332 moX7_meetsExamples mvX7_meetsExamples (kX7_meetsExamples (by exact hG) (by exact hDs) (by exact hCs) (by exact hEs) (by exact hl) (by exact ho)) sh_0 ⟨_, _, rfl⟩ (by decide) (Nat.le_of_ble_eq_true rfl) rfl (by decide) (fun r34 σ_34 hp34 => ?_)
        have hb34 := zo1 hp34.2
        have f34 : ∀ b k, b ≠ 6 → b ≠ 7 → b ≠ 18 → (b ≠ G + 4 + 8 + (p).toNat ∨ (k ≠ 3 ∧ k ≠ 4)) → σ_34 b k = σ b k := fun b k h1 h2 h3 h4 => (hp34.1 b k h1 h2).trans (f29 b k h1 h2 h3 h4)
        have g34 : ∀ i : Nat, i < (fsR D p z E9 m.toNat).length → σ_34 18 i = (fsR D p z E9 m.toNat).getD i 0 := fun i hi => by rw [hp34.1 _ _ (by decide) (by decide), hp29, up_a (by omega), up_a (by omega)]; exact i18_3 i hi
        have J52 : ∀ (f2 : Int) (τ2 : sv_G), (f2 = (fsR D p z E9 (m + 1).toNat).length) → (∀ b k, b ≠ 6 → b ≠ 7 → b ≠ 18 → (b ≠ G + 4 + 8 + (p).toNat ∨ (k ≠ 3 ∧ k ≠ 4)) → τ2 b k = σ b k) → (∀ i : Nat, i < (fsR D p z E9 (m + 1).toNat).length → τ2 18 i = (fsR D p z E9 (m + 1).toNat).getD i 0) → SW X E Q 0 0 52 [some (vR 0), some (vR G), some (vR (G + 4 + 8 + (p).toNat)), some (vI z), some (vI x4_4), some (vI x5_10), some (vI f2), some (vI m)] [] τ2 := by
          intro f2 τ2 j52_0 j52_1 j52_2
          obtain ⟨x7_52, ex7_52⟩ : ∃ y : Int, y = m + 1 := ⟨_, rfl⟩
          refine s_iinc (z2 := x7_52) (ls2 := [some (vR 0), some (vR G), some (vR (G + 4 + 8 + (p).toNat)), some (vI z), some (vI x4_4), some (vI x5_10), some (vI f2), some (vI x7_52)]) C dX7_findSettings_52 (by decide) rfl ex7_52 rfl ?_
          refine s_goto (tgt := 18) C dX7_findSettings_55 (by decide) ?_
          refine ih18 f2 x7_52 τ2 (by omega) (by first | assumption | omega) ?_ ?_ ?_
          · rw [show x7_52 = m + 1 from ex7_52]; exact j52_0
          · exact j52_1
          · rw [show x7_52 = m + 1 from ex7_52]; exact j52_2
        refine s_if_eq (tgt := 52) C dX7_findSettings_37 (by decide) (by omega) (fun c37 => ?_) (fun c37 => ?_)
        · refine J52 f σ_34 ?_ ?_ ?_
          · rcases hp34.2 with q | q
            · exfalso; omega
            · rw [fsR_n (by omega) q.2]; exact i18_1
          · exact f34
          · rcases hp34.2 with q | q
            · exfalso; omega
            · rw [fsR_n (by omega) q.2]; exact g34
        · refine s_aload_n C dX7_findSettings_40 rfl ?_
          refine s_getR (c := 7) C fl_7_56 dX7_findSettings_41 sh_0 rfl rf_0_11 ?_
          refine s_iload C dX7_findSettings_44 rfl ?_
          refine s_iload C dX7_findSettings_46 rfl ?_
          refine s_iast C dX7_findSettings_48 sh_18 (by omega) (by omega) ?_
          refine s_nameG (fun σ_48 hσ_48 => ?_)
          obtain ⟨x6_49, ex6_49⟩ : ∃ y : Int, y = f + 1 := ⟨_, rfl⟩
          refine s_iinc (z2 := x6_49) (ls2 := [some (vR 0), some (vR G), some (vR (G + 4 + 8 + (p).toNat)), some (vI z), some (vI x4_4), some (vI x5_10), some (vI x6_49), some (vI m)]) C dX7_findSettings_49 (by decide) rfl ex6_49 rfl ?_
          refine J52 x6_49 σ_48 ?_ ?_ ?_
          · rcases hp34.2 with q | q
            · rw [fsR_y (by omega) q.2, List.length_append]; simp; omega
            · exfalso; omega
          · exact fun b k h1 h2 h3 h4 => by rw [hσ_48, up_a h3]; exact f34 b k h1 h2 h3 h4
          · rcases hp34.2 with q | q
            · rw [fsR_y (by omega) q.2]
              intro i hi
              rw [List.length_append] at hi
              have hi2 : i < (fsR D p z E9 m.toNat).length + 1 := hi
              rw [hσ_48, up_i, List.getD_eq_getElem?_getD]
              by_cases q3 : i = (fsR D p z E9 m.toNat).length
              · rw [if_pos (by omega), q3, List.getElem?_append_right (Nat.le_refl _), Nat.sub_self]; rfl
              · rw [if_neg (by omega), List.getElem?_append_left (by omega), ← List.getD_eq_getElem?_getD]; exact g34 i (by omega)
            · exfalso; omega
  refine L18 _ 0 0 σ (Nat.lt_succ_self _) (by first | assumption | omega) ?_ ?_ ?_
  · rfl
  · exact fun _ _ _ _ _ _ => rfl
  · exact fun i h => absurd h (Nat.not_lt_zero i)
