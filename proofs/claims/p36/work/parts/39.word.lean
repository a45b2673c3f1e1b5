/-! The word that tells most. -/
noncomputable def tcR (D : gd_T) (c : Int) (H : List Int) (pl : Nat) (w : Int) : Nat → Int
  | 0 => 0
  | n + 1 => tcR D c H pl w n + (if hrI D c H (n : Int) = 1 ∧ (spF D (n : Int) c).getD pl 0 = w then 1 else 0)
noncomputable def gtR (D : gd_T) (c : Int) (H : List Int) (pl : Nat) : Nat → Int
  | 0 => 0
  | n + 1 => if hrI D c H (n : Int) = 1 ∧ gtR D c H pl n < tcR D c H pl ((spF D (n : Int) c).getD pl 0) (n + 1) then tcR D c H pl ((spF D (n : Int) c).getD pl 0) (n + 1) else gtR D c H pl n
def bpR (H : List Int) (g : Nat → Int) : Nat → Int × Int
  | 0 => (-1, 0)
  | pl + 1 => if H.getD pl 0 = -1 ∧ ((bpR H g pl).1 = -1 ∨ g pl < (bpR H g pl).2) then ((pl : Int), g pl) else bpR H g pl
theorem tcR_s {D : gd_T} {c : Int} {H : List Int} {pl : Nat} {w m : Int} (h : 0 ≤ m) (q : hrI D c H m = 1) : tcR D c H pl w (m + 1).toNat = tcR D c H pl w m.toNat + (if (spF D m c).getD pl 0 = w then 1 else 0) := by
  have e : (m.toNat : Int) = m := by omega
  rw [show (m + 1).toNat = m.toNat + 1 by omega]
  conv => lhs; unfold tcR
  rw [e, q]
  by_cases z : (spF D m c).getD pl 0 = w
  · rw [if_pos ⟨rfl, z⟩, if_pos z]
  · rw [if_neg (fun y => z y.2), if_neg z]
theorem tcR_n {D : gd_T} {c : Int} {H : List Int} {pl : Nat} {w m : Int} (h : 0 ≤ m) (q : hrI D c H m = 0) : tcR D c H pl w (m + 1).toNat = tcR D c H pl w m.toNat := by
  have e : (m.toNat : Int) = m := by omega
  rw [show (m + 1).toNat = m.toNat + 1 by omega]
  conv => lhs; unfold tcR
  rw [e, q, if_neg (fun y => by cases y.1)]; omega
theorem tcR_b {D : gd_T} {c : Int} {H : List Int} {pl : Nat} {w : Int} : ∀ n : Nat, 0 ≤ tcR D c H pl w n ∧ tcR D c H pl w n ≤ n
  | 0 => ⟨Int.le_refl _, Int.le_refl _⟩
  | n + 1 => by
    have ih := tcR_b (D := D) (c := c) (H := H) (pl := pl) (w := w) n
    unfold tcR
    split <;> omega
theorem gtR_s {D : gd_T} {c : Int} {H : List Int} {pl : Nat} {m : Int} (h : 0 ≤ m) (q : hrI D c H m = 1) : gtR D c H pl (m + 1).toNat = if gtR D c H pl m.toNat < tcR D c H pl ((spF D m c).getD pl 0) (m + 1).toNat then tcR D c H pl ((spF D m c).getD pl 0) (m + 1).toNat else gtR D c H pl m.toNat := by
  have e : (m.toNat : Int) = m := by omega
  rw [show (m + 1).toNat = m.toNat + 1 by omega]
  conv => lhs; unfold gtR
  rw [e, q]
  by_cases z : gtR D c H pl m.toNat < tcR D c H pl ((spF D m c).getD pl 0) (m.toNat + 1)
  · rw [if_pos ⟨rfl, z⟩, if_pos z]
  · rw [if_neg (fun y => z y.2), if_neg z]
theorem gtR_n {D : gd_T} {c : Int} {H : List Int} {pl : Nat} {m : Int} (h : 0 ≤ m) (q : hrI D c H m = 0) : gtR D c H pl (m + 1).toNat = gtR D c H pl m.toNat := by
  have e : (m.toNat : Int) = m := by omega
  rw [show (m + 1).toNat = m.toNat + 1 by omega]
  conv => lhs; unfold gtR
  rw [e, q, if_neg (fun y => by cases y.1)]
theorem bpR_s {H : List Int} {g : Nat → Int} {m : Int} (h : 0 ≤ m) : bpR H g (m + 1).toNat = if H.getD m.toNat 0 = -1 ∧ ((bpR H g m.toNat).1 = -1 ∨ g m.toNat < (bpR H g m.toNat).2) then (m, g m.toNat) else bpR H g m.toNat := by
  have e : (m.toNat : Int) = m := by omega
  rw [show (m + 1).toNat = m.toNat + 1 by omega]
  conv => lhs; unfold bpR
  rw [e]
theorem bpR_b {H : List Int} {g : Nat → Int} : ∀ k : Nat, -1 ≤ (bpR H g k).1 ∧ (bpR H g k).1 < k
  | 0 => ⟨Int.le_refl _, by show (-1 : Int) < ((0 : Nat) : Int); decide⟩
  | k + 1 => by
    have ih := bpR_b (H := H) (g := g) k
    unfold bpR
    split
    · exact ⟨by show -1 ≤ (k : Int); omega, by show (k : Int) < ((k + 1 : Nat) : Int); omega⟩
    · exact ⟨ih.1, by omega⟩
def TE (σ : sv_G) (D : gd_T) (c : Int) (H : List Int) (pl n : Nat) : Prop := (∀ w, 0 ≤ w → w < 200 → σ 10 ((pl : Int) * 200 + w) = tcR D c H pl w n) ∧ σ 11 pl = gtR D c H pl n
theorem TE.fr {σ σ9 : sv_G} {D : gd_T} {c : Int} {H : List Int} {pl n : Nat} (h : TE σ D c H pl n) (hf : ∀ b k, b = 10 ∨ b = 11 → σ9 b k = σ b k) : TE σ9 D c H pl n := ⟨fun w h1 h2 => by rw [hf _ _ (Or.inl rfl)]; exact h.1 w h1 h2, by rw [hf _ _ (Or.inr rfl)]; exact h.2⟩
def TL (σ : sv_G) (D : gd_T) (c : Int) (H : List Int) (n : Int) : Prop := ∀ pl : Nat, pl < H.length → H.getD pl 0 = -1 → TE σ D c H pl n.toNat
theorem TL.no {σ : sv_G} {D : gd_T} {c : Int} {H : List Int} {n : Int} (h : TL σ D c H n) (hn : 0 ≤ n) (q : hrI D c H n = 0) : TL σ D c H (n + 1) := fun pl h1 h2 => ⟨fun w h3 h4 => by rw [tcR_n hn q]; exact (h pl h1 h2).1 w h3 h4, by rw [gtR_n hn q]; exact (h pl h1 h2).2⟩
theorem hrI_in {D : gd_T} {c : Int} {H : List Int} {n : Int} (h : hrI D c H n = 1) : spF D n c ≠ [] ∧ (spF D n c).length = H.length := by
  unfold hrI at h
  by_cases q : spF D n c ≠ [] ∧ agreeL (spF D n c) H
  · exact ⟨q.1, q.2.1⟩
  · rw [if_neg q] at h; cases h
set_option maxRecDepth 100000 in
set_option maxHeartbeats 8000000 in
theorem kX7_tallySpoken {E : sv_E} {σ : sv_G} {D : gd_T} (hD : GDok D) {c k : Int} {H : List Int} (hk9 : 0 ≤ k ∧ k ≤ 999) (hH : Rw σ 4 H) (hw : Rw σ 6 (spF D k c)) (hr9 : hrI D c H k = 1) (hT9 : TL σ D c H k) : CT E MX7_tallySpoken 1 [(vR 0)] σ (PV fun σ9 => (∀ b i, b ≠ 10 → b ≠ 11 → σ9 b i = σ b i) ∧ TL σ9 D c H (k + 1)) := by
  refine CT.of (RX7, cX7_tallySpoken, 4, none, [], 1, 0, 0) rfl moX7_tallySpoken (Nat.le_of_ble_eq_true rfl) (ls0 := [some (vR 0), none, none, none]) rfl ?_
  intro X Q C hR
  have hk := hk9.1
  have hin := (hrI_in hr9).2
  have hsp := spF_ok hD k c
  have hHl := hH.2.1
  refine s_iconst C dX7_tallySpoken_0 ?_
  refine s_istore_n (ls2 := [some (vR 0), some (vI 0), none, none]) C dX7_tallySpoken_1 (by decide) rfl ?_
  have L2 : ∀ (n : Nat) (m : Int) (τ : sv_G), (20 - m).toNat < n → (0 ≤ m ∧ m ≤ H.length) → (∀ b i, b ≠ 10 → b ≠ 11 → τ b i = σ b i) → (∀ pl : Nat, pl < H.length → (pl : Int) < m → H.getD pl 0 = -1 → TE τ D c H pl (k + 1).toNat) → (∀ pl : Nat, pl < H.length → m ≤ (pl : Int) → H.getD pl 0 = -1 → TE τ D c H pl k.toNat) → SW X E Q 0 0 2 [some (vR 0), some (vI m), none, none] [] τ := by
    intro n
    induction n with
    | zero => intro m τ hm; exact absurd hm (Nat.not_lt_zero _)
    | succ n ih2 =>
      intro m τ hm2 i2_0 i2_1 i2_2 i2_3
      have hHt : Rw τ 4 H := hH.fr fun b i h1 h2 => i2_1 b i (by omega) (by omega)
      have hwt : Rw τ 6 (spF D k c) := hw.fr fun b i h1 h2 => i2_1 b i (by omega) (by omega)
      have hh4 := hHt.1
      refine s_iload_n C dX7_tallySpoken_2 rfl ?_
      refine s_aload_n C dX7_tallySpoken_3 rfl ?_
      refine s_getR (c := 7) C fl_7_22 dX7_tallySpoken_4 sh_0 rfl rf_0_2 ?_
      refine s_getI (c := 6) (kz := 1) C fl_7_180 dX7_tallySpoken_7 sh_4 rfl rfl (fun g7 => ?_)
      refine s_icmp_ge (tgt := 90) C dX7_tallySpoken_10 (by decide) (by omega) (by omega) (fun c10 => ?_) (fun c10 => ?_)
      · refine s_vret C hR dX7_tallySpoken_90 rfl ⟨rfl, ?_⟩ (by decide)
        exact ⟨i2_1, fun pl h1 h3 => i2_2 pl h1 (by omega) h3⟩
      · refine s_aload_n C dX7_tallySpoken_13 rfl ?_
        refine s_getR (c := 7) C fl_7_25 dX7_tallySpoken_14 sh_0 rfl rf_0_3 ?_
        refine s_iload_n C dX7_tallySpoken_17 rfl ?_
        refine s_cN1i C dX7_tallySpoken_18 lkX7_190 moX6_wordAt mvX6_wordAt (kX6_wordAt (by exact sh_6) (by omega) (by exact hwt)) sh_6 ⟨_, _, rfl⟩ (by decide) (Nat.le_of_ble_eq_true rfl) rfl (by decide) (kpI (fun r18 hp18 => ?_))
        have e18 : r18 = (spF D k c).getD m.toNat 0 := by rw [hp18.2, if_pos (by omega)]
        have hwr := hsp.1 _ (getD_mem2 (l := spF D k c) (d := 0) (i := m.toNat) (by omega))
        rw [← e18] at hwr
        refine s_istore_n (ls2 := [some (vR 0), some (vI m), some (vI r18), none]) C dX7_tallySpoken_21 (by decide) rfl ?_
        refine s_iload_n C dX7_tallySpoken_22 rfl ?_
        have J84 : ∀ (τ2 : sv_G), (∀ b i, b ≠ 10 → b ≠ 11 → τ2 b i = σ b i) → (∀ pl : Nat, pl < H.length → (pl : Int) < (m + 1) → H.getD pl 0 = -1 → TE τ2 D c H pl (k + 1).toNat) → (∀ pl : Nat, pl < H.length → (m + 1) ≤ (pl : Int) → H.getD pl 0 = -1 → TE τ2 D c H pl k.toNat) → SW X E Q 0 0 84 [some (vR 0), some (vI m), none, none] [] τ2 := by
          intro τ2 j84_0 j84_1 j84_2
          obtain ⟨x1_84, ex1_84⟩ : ∃ y : Int, y = m + 1 := ⟨_, rfl⟩
          refine s_iinc (z2 := x1_84) (ls2 := [some (vR 0), some (vI x1_84), none, none]) C dX7_tallySpoken_84 (by decide) rfl ex1_84 rfl ?_
          refine s_goto (tgt := 2) C dX7_tallySpoken_87 (by decide) ?_
          refine ih2 x1_84 τ2 (by omega) (by first | assumption | omega) ?_ ?_ ?_
          · exact j84_0
          · rw [show x1_84 = m + 1 from ex1_84]; exact j84_1
          · rw [show x1_84 = m + 1 from ex1_84]; exact j84_2
        refine s_if_lt (tgt := 84) C dX7_tallySpoken_23 (by decide) (by omega) (fun c23 => ?_) (fun c23 => ?_)
        · exfalso; omega -- done
        · refine s_iload_n C dX7_tallySpoken_26 rfl ?_
          refine s_sipush C dX7_tallySpoken_27 (by decide) ?_
          refine s_icmp_ge (tgt := 84) C dX7_tallySpoken_30 (by decide) (by omega) (by omega) (fun c30 => ?_) (fun c30 => ?_)
          · exfalso; omega -- done
          · refine s_aload_n C dX7_tallySpoken_33 rfl ?_
            refine s_getR (c := 7) C fl_7_22 dX7_tallySpoken_34 sh_0 rfl rf_0_2 ?_
            refine s_iload_n C dX7_tallySpoken_37 rfl ?_
            refine s_cN1i C dX7_tallySpoken_38 lkX7_190 moX6_wordAt mvX6_wordAt (kX6_wordAt (by exact sh_4) (by omega) (by exact hHt)) sh_4 ⟨_, _, rfl⟩ (by decide) (Nat.le_of_ble_eq_true rfl) rfl (by decide) (kpI (fun r38 hp38 => ?_))
            have e38 : r38 = H.getD m.toNat 0 := by rw [hp38.2, if_pos (by omega)]
            refine s_iconst C dX7_tallySpoken_41 ?_
            refine s_icmp_ne (tgt := 84) C dX7_tallySpoken_42 (by decide) (by omega) (by omega) (fun c42 => ?_) (fun c42 => ?_)
            · refine s_weak (ls2 := [some (vR 0), some (vI m), none, none]) (sv_wk_c (sv_wk_c (sv_wk_n (sv_wk_n sv_wk_0)))) ?_
              refine J84 τ ?_ ?_ ?_
              · exact i2_1
              · intro pl h1 h2 h3
                by_cases q : pl = m.toNat
                · rw [q, ← e38] at h3; exact absurd h3 c42
                · exact i2_2 pl h1 (by omega) h3
              · exact fun pl h1 h2 h3 => i2_3 pl h1 (by omega) h3
            · have hte := i2_3 m.toNat (by omega) (by omega) (by omega)
              have ht1 := hte.1 r18 hwr.1 (by omega)
              have ht2 := hte.2
              rw [show (m.toNat : Int) = m by omega] at ht1 ht2
              have hs1 := fun w => tcR_s (D := D) (c := c) (H := H) (pl := m.toNat) (w := w) hk hr9
              have hs2 := gtR_s (D := D) (c := c) (H := H) (pl := m.toNat) hk hr9
              rw [← e18] at hs2
              have hs3 := hs1 r18
              rw [← e18, if_pos rfl] at hs3
              have htb := tcR_b (D := D) (c := c) (H := H) (pl := m.toNat) (w := r18) k.toNat
              refine s_iload_n C dX7_tallySpoken_45 rfl ?_
              refine s_sipush C dX7_tallySpoken_46 (by decide) ?_
              refine s_imul C dX7_tallySpoken_49 ?_
              refine s_iload_n C dX7_tallySpoken_50 rfl ?_
              refine s_iadd C dX7_tallySpoken_51 ?_
              refine s_topI (fun x3_52 ex3_52 => ?_)
              refine s_istore_n (ls2 := [some (vR 0), some (vI m), some (vI r18), some (vI x3_52)]) C dX7_tallySpoken_52 (by decide) rfl ?_
              rw [← ex3_52] at ht1
              refine s_aload_n C dX7_tallySpoken_53 rfl ?_
              refine s_getR (c := 7) C fl_7_31 dX7_tallySpoken_54 sh_0 rfl rf_0_5 ?_
              refine s_iload_n C dX7_tallySpoken_57 rfl ?_
              refine s_dup2 C dX7_tallySpoken_58 rfl rfl ?_
              refine s_iald C dX7_tallySpoken_59 sh_10 (by omega) (fun g59 => ?_)
              refine s_iconst C dX7_tallySpoken_60 ?_
              refine s_iadd C dX7_tallySpoken_61 ?_
              refine s_iast C dX7_tallySpoken_62 sh_10 (by omega) (by omega) ?_
              refine s_nameG (fun σ_62 hσ_62 => ?_)
              have g62 : σ_62 11 m = τ 11 m := by rw [hσ_62, up_a (by decide)]
              have k62 : σ_62 10 x3_52 = τ 10 x3_52 + 1 := by rw [hσ_62, up_s]
              refine s_aload_n C dX7_tallySpoken_63 rfl ?_
              refine s_getR (c := 7) C fl_7_35 dX7_tallySpoken_64 sh_0 rfl rf_0_6 ?_
              refine s_iload_n C dX7_tallySpoken_67 rfl ?_
              refine s_aload_n C dX7_tallySpoken_68 rfl ?_
              refine s_getR (c := 7) C fl_7_35 dX7_tallySpoken_69 sh_0 rfl rf_0_6 ?_
              refine s_iload_n C dX7_tallySpoken_72 rfl ?_
              refine s_iald C dX7_tallySpoken_73 sh_11 (by omega) (fun g73 => ?_)
              refine s_aload_n C dX7_tallySpoken_74 rfl ?_
              refine s_getR (c := 7) C fl_7_31 dX7_tallySpoken_75 sh_0 rfl rf_0_5 ?_
              refine s_iload_n C dX7_tallySpoken_78 rfl ?_
              refine s_iald C dX7_tallySpoken_79 sh_10 (by omega) (fun g79 => ?_)
              refine s_cS2i C dX7_tallySpoken_80 lkX7_315 moJ9_max_7cf53 mvJ9_max_7cf53 (kJ9_max_7cf53 (by omega) (by omega)) (by decide) (Nat.le_of_ble_eq_true rfl) rfl (by decide) (kpI (fun r80 hp80 => ?_))
              refine s_iast C dX7_tallySpoken_83 sh_11 (by omega) (by omega) ?_
              refine s_nameG (fun σ_83 hσ_83 => ?_)
              refine s_weak (ls2 := [some (vR 0), some (vI m), none, none]) (sv_wk_c (sv_wk_c (sv_wk_n (sv_wk_n sv_wk_0)))) ?_
              refine J84 σ_83 ?_ ?_ ?_
              · exact fun b i h1 h2 => by rw [hσ_83, up_a h2, hσ_62, up_a h1]; exact i2_1 b i h1 h2
              · intro pl h1 h2 h3
                by_cases q : pl = m.toNat
                · refine ⟨fun w h4 h5 => ?_, ?_⟩
                  · rw [hσ_83, up_a (by decide), hσ_62, up_i, q, hs1 w, ← e18]
                    by_cases q2 : r18 = w
                    · rw [if_pos q2, if_pos (by omega), ← q2]; omega
                    · rw [if_neg q2, if_neg (by omega)]
                      have := hte.1 w h4 h5
                      omega
                  · rw [hσ_83, up_i, if_pos (by omega), q, hs2]
                    split <;> omega
                · have ht := i2_2 pl h1 (by omega) h3
                  refine ⟨fun w h4 h5 => ?_, ?_⟩
                  · rw [hσ_83, up_a (by decide), hσ_62, up_k (by omega)]; exact ht.1 w h4 h5
                  · rw [hσ_83, up_k (by omega), hσ_62, up_a (by decide)]; exact ht.2
              · intro pl h1 h2 h3
                have ht := i2_3 pl h1 (by omega) h3
                refine ⟨fun w h4 h5 => ?_, ?_⟩
                · rw [hσ_83, up_a (by decide), hσ_62, up_k (by omega)]; exact ht.1 w h4 h5
                · rw [hσ_83, up_k (by omega), hσ_62, up_a (by decide)]; exact ht.2
  refine L2 _ 0 σ (Nat.lt_succ_self _) (by first | assumption | omega) ?_ ?_ ?_
  · exact fun _ _ _ _ => rfl
  · intro pl h1 h2; omega
  · exact fun pl h1 _ h3 => hT9 pl h1 h3
set_option maxRecDepth 100000 in
set_option maxHeartbeats 8000000 in
theorem kX7_placeOfLeastTally {E : sv_E} {σ : sv_G} {D : gd_T} {c k : Int} {H : List Int} (hH : Rw σ 4 H) (hT9 : TL σ D c H k) : CT E MX7_placeOfLeastTally 1 [(vR 0)] σ (PI fun r σ9 => σ9 = σ ∧ r = (bpR H (fun pl => gtR D c H pl k.toNat) H.length).1) := by
  refine CT.of (RX7, cX7_placeOfLeastTally, 4, (some .int), [], 1, 0, 0) rfl moX7_placeOfLeastTally (Nat.le_of_ble_eq_true rfl) (ls0 := [some (vR 0), none, none, none]) rfl ?_
  intro X Q C hR
  have hHl := hH.2.1
  have hh4 := hH.1
  refine s_iconst C dX7_placeOfLeastTally_0 ?_
  refine s_istore_n (ls2 := [some (vR 0), some (vI (-1)), none, none]) C dX7_placeOfLeastTally_1 (by decide) rfl ?_
  refine s_iconst C dX7_placeOfLeastTally_2 ?_
  refine s_istore_n (ls2 := [some (vR 0), some (vI (-1)), some (vI 0), none]) C dX7_placeOfLeastTally_3 (by decide) rfl ?_
  refine s_iconst C dX7_placeOfLeastTally_4 ?_
  refine s_istore_n (ls2 := [some (vR 0), some (vI (-1)), some (vI 0), some (vI 0)]) C dX7_placeOfLeastTally_5 (by decide) rfl ?_
  have L6 : ∀ (n : Nat) (bst : Int) (few : Int) (m : Int), (20 - m).toNat < n → (0 ≤ m ∧ m ≤ H.length) → (bst = (bpR H (fun pl => gtR D c H pl k.toNat) m.toNat).1) → (few = (bpR H (fun pl => gtR D c H pl k.toNat) m.toNat).2) → (-2147483648 ≤ few ∧ few ≤ 2147483647) → SW X E Q 0 0 6 [some (vR 0), some (vI bst), some (vI few), some (vI m)] [] σ := by
    intro n
    induction n with
    | zero => intro bst few m hm; exact absurd hm (Nat.not_lt_zero _)
    | succ n ih6 =>
      intro bst few m hm6 i6_0 i6_1 i6_2 i6_3
      have hbb := bpR_b (H := H) (g := fun pl => gtR D c H pl k.toNat) m.toNat
      have hst := bpR_s (H := H) (g := fun pl => gtR D c H pl k.toNat) (m := m) (by omega)
      refine s_iload_n C dX7_placeOfLeastTally_6 rfl ?_
      refine s_aload_n C dX7_placeOfLeastTally_7 rfl ?_
      refine s_getR (c := 7) C fl_7_22 dX7_placeOfLeastTally_8 sh_0 rfl rf_0_2 ?_
      refine s_getI (c := 6) (kz := 1) C fl_7_180 dX7_placeOfLeastTally_11 sh_4 rfl rfl (fun g11 => ?_)
      refine s_icmp_ge (tgt := 59) C dX7_placeOfLeastTally_14 (by decide) (by omega) (by omega) (fun c14 => ?_) (fun c14 => ?_)
      · refine s_iload_n C dX7_placeOfLeastTally_59 rfl ?_
        refine s_iret C hR dX7_placeOfLeastTally_60 rfl ⟨_, rfl, ?_⟩ (by decide)
        refine ⟨rfl, ?_⟩
        rw [i6_1, show m.toNat = H.length by omega]
      · refine s_aload_n C dX7_placeOfLeastTally_17 rfl ?_
        refine s_getR (c := 7) C fl_7_22 dX7_placeOfLeastTally_18 sh_0 rfl rf_0_2 ?_
        refine s_iload_n C dX7_placeOfLeastTally_21 rfl ?_
        refine s_cN1i C dX7_placeOfLeastTally_22 lkX7_190 moX6_wordAt mvX6_wordAt (kX6_wordAt (by exact sh_4) (by omega) (by exact hH)) sh_4 ⟨_, _, rfl⟩ (by decide) (Nat.le_of_ble_eq_true rfl) rfl (by decide) (kpI (fun r22 hp22 => ?_))
        have e21 : r22 = H.getD m.toNat 0 := by rw [hp22.2, if_pos (by omega)]
        refine s_iconst C dX7_placeOfLeastTally_25 ?_
        have J53 : ∀ (b2 : Int) (f2 : Int), (b2 = (bpR H (fun pl => gtR D c H pl k.toNat) (m + 1).toNat).1) → (f2 = (bpR H (fun pl => gtR D c H pl k.toNat) (m + 1).toNat).2) → (-2147483648 ≤ f2 ∧ f2 ≤ 2147483647) → SW X E Q 0 0 53 [some (vR 0), some (vI b2), some (vI f2), some (vI m)] [] σ := by
          intro b2 f2 j53_0 j53_1 j53_2
          obtain ⟨x3_53, ex3_53⟩ : ∃ y : Int, y = m + 1 := ⟨_, rfl⟩
          refine s_iinc (z2 := x3_53) (ls2 := [some (vR 0), some (vI b2), some (vI f2), some (vI x3_53)]) C dX7_placeOfLeastTally_53 (by decide) rfl ex3_53 rfl ?_
          refine s_goto (tgt := 6) C dX7_placeOfLeastTally_56 (by decide) ?_
          refine ih6 b2 f2 x3_53 (by omega) (by first | assumption | omega) ?_ ?_ (by first | assumption | omega)
          · rw [show x3_53 = m + 1 from ex3_53]; exact j53_0
          · rw [show x3_53 = m + 1 from ex3_53]; exact j53_1
        refine s_icmp_ne (tgt := 53) C dX7_placeOfLeastTally_26 (by decide) (by omega) (by omega) (fun c26 => ?_) (fun c26 => ?_)
        · refine J53 bst few ?_ ?_ (by first | assumption | omega)
          · rw [hst, if_neg (by omega)]; exact i6_1
          · rw [hst, if_neg (by omega)]; exact i6_2
        · have ht2 := (hT9 m.toNat (by omega) (by omega)).2
          rw [show (m.toNat : Int) = m by omega] at ht2
          refine s_iload_n C dX7_placeOfLeastTally_29 rfl ?_
          refine s_iconst C dX7_placeOfLeastTally_30 ?_
          have J44 : (bst = -1 ∨ gtR D c H m.toNat k.toNat < few) → SW X E Q 0 0 44 [some (vR 0), some (vI bst), some (vI few), some (vI m)] [] σ := by
            intro  j44_0
            refine s_aload_n C dX7_placeOfLeastTally_44 rfl ?_
            refine s_getR (c := 7) C fl_7_35 dX7_placeOfLeastTally_45 sh_0 rfl rf_0_6 ?_
            refine s_iload_n C dX7_placeOfLeastTally_48 rfl ?_
            refine s_iald C dX7_placeOfLeastTally_49 sh_11 (by omega) (fun g49 => ?_)
            refine s_topI (fun x2_50 ex2_50 => ?_)
            refine s_istore_n (ls2 := [some (vR 0), some (vI bst), some (vI x2_50), some (vI m)]) C dX7_placeOfLeastTally_50 (by decide) rfl ?_
            refine s_iload_n C dX7_placeOfLeastTally_51 rfl ?_
            refine s_istore_n (ls2 := [some (vR 0), some (vI m), some (vI x2_50), some (vI m)]) C dX7_placeOfLeastTally_52 (by decide) rfl ?_
            refine J53 m x2_50 ?_ ?_ (by first | assumption | omega)
            · rw [hst, if_pos (by omega)]
            · rw [hst, if_pos (by omega)]; omega
          refine s_icmp_eq (tgt := 44) C dX7_placeOfLeastTally_31 (by decide) (by omega) (by omega) (fun c31 => ?_) (fun c31 => ?_)
          · exact J44 (by first | assumption | omega)
          · refine s_aload_n C dX7_placeOfLeastTally_34 rfl ?_
            refine s_getR (c := 7) C fl_7_35 dX7_placeOfLeastTally_35 sh_0 rfl rf_0_6 ?_
            refine s_iload_n C dX7_placeOfLeastTally_38 rfl ?_
            refine s_iald C dX7_placeOfLeastTally_39 sh_11 (by omega) (fun g39 => ?_)
            refine s_iload_n C dX7_placeOfLeastTally_40 rfl ?_
            refine s_icmp_ge (tgt := 53) C dX7_placeOfLeastTally_41 (by decide) (by omega) (by omega) (fun c41 => ?_) (fun c41 => ?_)
            · refine J53 bst few ?_ ?_ (by first | assumption | omega)
              · rw [hst, if_neg (by omega)]; exact i6_1
              · rw [hst, if_neg (by omega)]; exact i6_2
            · exact J44 (by first | assumption | omega)
  refine L6 _ (-1) 0 0 (Nat.lt_succ_self _) (by first | assumption | omega) ?_ ?_ (by first | assumption | omega)
  · rfl
  · rfl
noncomputable def op_askWord (S : st_T) (x y z : Int) : op_T := ((if ¬ (0 ≤ x ∧ x ≤ 3 ∧ 0 ≤ y ∧ y ≤ 2) then 1 else if ¬ (0 ≤ z ∧ z ≤ 999) then 2 else 0 : Int), if ftN (sD S x) y (sH S) (z + 1).toNat < 2 then -1 else (bpR (sH S) (fun pl => gtR (sD S x) y (sH S) pl (z + 1).toNat) (sH S).length).1, S)

set_option maxRecDepth 100000 in
set_option maxHeartbeats 8000000 in
theorem kX7_askWord {E : sv_E} {σ : sv_G} {S : st_T} (hS : StOK S) (hN : RN σ S) {x : Int} (hx : -2147483648 ≤ x ∧ x ≤ 2147483647) {y : Int} (hy : -2147483648 ≤ y ∧ y ≤ 2147483647) {z : Int} (hz : -2147483648 ≤ z ∧ z ≤ 2147483647) : CX E MX7_askWord 90 [(vR 0), (vI x), (vI y), (vI z)] σ (PI fun r σ9 => oP σ σ9 r (op_askWord S x y z)) (px3 σ (op_askWord S x y z).1 xI xA "") := by
  refine CX.of (RX7, cX7_askWord, 7, (some .int), [], 90, 3, 18) rfl moX7_askWord (by decide +kernel) (Nat.le_of_ble_eq_true rfl) (ls0 := [some (vR 0), some (vI x), some (vI y), some (vI z), none, none, none]) rfl ?_
  intro X Q C hR hT
  refine s_aload_n C dX7_askWord_0 rfl ?_
  refine s_iload_n C dX7_askWord_1 rfl ?_
  refine s_iload_n C dX7_askWord_2 rfl ?_
  refine s_iload_n C dX7_askWord_3 rfl ?_
  refine sx_cV3r (u2 := 3) (w2 := 18) C dX7_askWord_4 lkX7_203 moX7_grammarToHear mvX7_grammarToHear (kX7_grammarToHear (by omega) (by omega) (by omega)) sh_0 ⟨_, _, rfl⟩ (by decide) (Nat.le_of_ble_eq_true rfl) (by decide) (by decide) hT rfl (by decide) (fun En σ9 h => ⟨h.1, h.2.elim (fun q => Or.inl ⟨q.1, by have h3 := q.2; unfold op_askWord; dsimp only; (repeat' split) <;> omega⟩) (fun q => Or.inr (Or.inl ⟨q.1, by have h3 := q.2; unfold op_askWord; dsimp only; (repeat' split) <;> omega⟩))⟩) (kpI (fun r4 hp4 => ?_))
  have hr := hp4.2.1
  have hsh := hp4.2.2
  have hD := hS.1 x (by omega) (by omega)
  have hC : RC σ r4 (sD S x) := by rw [hr]; exact hN.1 x (by omega) (by omega)
  have hnb := hD.2.2.2.1
  have hn1 : σ r4 2 = gC (sD S x) 1 := hC.2.2.2.1
  refine s_astore (ls2 := [some (vR 0), some (vI x), some (vI y), some (vI z), some (vR r4), none, none]) C dX7_askWord_7 (by decide) rfl ?_
  refine s_aload_n C dX7_askWord_9 rfl ?_
  refine s_getR (c := 7) C fl_7_31 dX7_askWord_10 sh_0 rfl rf_0_5 ?_
  refine s_iconst C dX7_askWord_13 ?_
  refine s_cS2v C dX7_askWord_14 lkX7_216 moJ7_fill_53178 mvJ7_fill_53178 (kJ7_fill_53178 (by exact sh_10) (by decide) (by decide)) (by decide) (Nat.le_of_ble_eq_true rfl) rfl (by decide) (fun σ_14 hp14 => ?_)
  refine s_aload_n C dX7_askWord_17 rfl ?_
  refine s_getR (c := 7) C fl_7_35 dX7_askWord_18 sh_0 rfl rf_0_6 ?_
  refine s_iconst C dX7_askWord_21 ?_
  refine s_cS2v C dX7_askWord_22 lkX7_216 moJ7_fill_53178 mvJ7_fill_53178 (kJ7_fill_53178 (by exact sh_11) (by decide) (by decide)) (by decide) (Nat.le_of_ble_eq_true rfl) rfl (by decide) (fun σ_22 hp22 => ?_)
  have f22 : frS σ σ_22 := fun b k q => by rw [hp22.2 b k (by omega), hp14.2 b k (by omega)]
  have hT22 : TL σ_22 (sD S x) y (sH S) 0 := fun pl h1 h2 => by
    have h20 := hS.2.2.1.2
    exact ⟨fun w h3 h4 => by rw [hp22.2 _ _ (by decide)]; exact hp14.1 _ (by omega) (by omega), hp22.1 _ (by omega) (by omega)⟩
  refine s_iconst C dX7_askWord_25 ?_
  refine s_istore (ls2 := [some (vR 0), some (vI x), some (vI y), some (vI z), some (vR r4), some (vI 0), none]) C dX7_askWord_26 (by decide) rfl ?_
  refine s_iconst C dX7_askWord_28 ?_
  refine s_istore (ls2 := [some (vR 0), some (vI x), some (vI y), some (vI z), some (vR r4), some (vI 0), some (vI 0)]) C dX7_askWord_29 (by decide) rfl ?_
  have L31 : ∀ (n : Nat) (f : Int) (m : Int) (τ : sv_G), (1000 - m).toNat < n → (0 ≤ m ∧ m ≤ z + 1) → (f = ftN (sD S x) y (sH S) m.toNat) → (0 ≤ f ∧ f ≤ m) → (frS σ τ) → (TL τ (sD S x) y (sH S) m) → SW X E Q 3 18 31 [some (vR 0), some (vI x), some (vI y), some (vI z), some (vR r4), some (vI f), some (vI m)] [] τ := by
    intro n
    induction n with
    | zero => intro f m τ hm; exact absurd hm (Nat.not_lt_zero _)
    | succ n ih31 =>
      intro f m τ hm31 i31_0 i31_1 i31_2 i31_3 i31_4
      have hNt := hN.ls hS i31_3
      have hCt : RC τ r4 (sD S x) := by rw [hr]; exact hNt.1 x (by omega) (by omega)
      have hHt := hNt.2.2.1
      refine s_iload C dX7_askWord_31 rfl ?_
      refine s_iload_n C dX7_askWord_33 rfl ?_
      refine s_icmp_gt (tgt := 62) C dX7_askWord_34 (by decide) (by omega) (by omega) (fun c34 => ?_) (fun c34 => ?_)
      · have hmz : m = z + 1 := by omega
        have hfz : f = ftN (sD S x) y (sH S) (z + 1).toNat := by rw [i31_1, hmz]
        have hTz : TL τ (sD S x) y (sH S) (z + 1) := by rw [← hmz]; exact i31_4
        refine s_iload C dX7_askWord_62 rfl ?_
        refine s_iconst C dX7_askWord_64 ?_
        have J76 : ∀ (w : Int), (w = (if ftN (sD S x) y (sH S) (z + 1).toNat < 2 then -1 else (bpR (sH S) (fun pl => gtR (sD S x) y (sH S) pl (z + 1).toNat) (sH S).length).1)) → SW X E Q 3 18 76 [some (vR 0), some (vI x), some (vI y), some (vI z), some (vR r4), some (vI f), some (vI m)] [(vI w)] τ := by
          intro w j76_0
          refine s_iret C hR dX7_askWord_76 rfl ⟨_, rfl, ?_⟩ (by decide)
          exact oP.ls hS hN i31_3 (by (repeat' split) <;> omega) j76_0
        refine s_icmp_ge (tgt := 72) C dX7_askWord_65 (by decide) (by omega) (by omega) (fun c65 => ?_) (fun c65 => ?_)
        · refine s_aload_n C dX7_askWord_72 rfl ?_
          refine s_cV0i C dX7_askWord_73 lkX7_225 moX7_placeOfLeastTally mvX7_placeOfLeastTally (kX7_placeOfLeastTally (k := z + 1) hHt hTz) sh_0 ⟨_, _, rfl⟩ (by decide) (Nat.le_of_ble_eq_true rfl) rfl (by decide) (kpI (fun r73 hp73 => ?_))
          refine J76 r73 ?_
          · rw [← hfz, if_neg (by omega)]; exact hp73
        · refine s_iconst C dX7_askWord_68 ?_
          refine s_goto (tgt := 76) C dX7_askWord_69 (by decide) ?_
          refine J76 (-1) ?_
          · rw [← hfz, if_pos (by omega)]
      · refine s_aload_n C dX7_askWord_37 rfl ?_
        refine s_aload C dX7_askWord_38 rfl ?_
        refine s_iload C dX7_askWord_40 rfl ?_
        refine s_iload_n C dX7_askWord_42 rfl ?_
        refine s_cV3i C dX7_askWord_43 lkX7_207 moX7_isHeard mvX7_isHeard (kX7_isHeard (by exact hS) (by exact hsh) (by exact hD) (by exact hCt) (by exact hHt) (by omega) (by omega)) sh_0 ⟨_, _, rfl⟩ (by decide) (Nat.le_of_ble_eq_true rfl) rfl (by decide) (fun r43 σ_43 hp43 => ?_)
        have hb43 := hrI_b (D := sD S x) (c := y) (H := sH S) (n := m)
        have hs43 := ftN_s (D := sD S x) (c := y) (H := sH S) (m := m) (by omega)
        have hh43 := hp43.2.2
        have f43 : frS σ σ_43 := i31_3.tr (frS.of hp43.1 (by decide) (by decide))
        have hT43 : TL σ_43 (sD S x) y (sH S) m := fun pl h1 h2 => (i31_4 pl h1 h2).fr fun b k q => hp43.1 b k (by omega) (by omega)
        have hH43 : Rw σ_43 4 (sH S) := hHt.fr fun b k h1 h2 => hp43.1 b k (by omega) (by omega)
        have J56 : ∀ (f2 : Int) (τ2 : sv_G), (f2 = ftN (sD S x) y (sH S) (m + 1).toNat) → (0 ≤ f2 ∧ f2 ≤ m + 1) → (frS σ τ2) → (TL τ2 (sD S x) y (sH S) (m + 1)) → SW X E Q 3 18 56 [some (vR 0), some (vI x), some (vI y), some (vI z), some (vR r4), some (vI f2), some (vI m)] [] τ2 := by
          intro f2 τ2 j56_0 j56_1 j56_2 j56_3
          obtain ⟨x6_56, ex6_56⟩ : ∃ y : Int, y = m + 1 := ⟨_, rfl⟩
          refine s_iinc (z2 := x6_56) (ls2 := [some (vR 0), some (vI x), some (vI y), some (vI z), some (vR r4), some (vI f2), some (vI x6_56)]) C dX7_askWord_56 (by decide) rfl ex6_56 rfl ?_
          refine s_goto (tgt := 31) C dX7_askWord_59 (by decide) ?_
          refine ih31 f2 x6_56 τ2 (by omega) (by first | assumption | omega) ?_ (by first | assumption | omega) ?_ ?_
          · rw [show x6_56 = m + 1 from ex6_56]; exact j56_0
          · exact j56_2
          · rw [show x6_56 = m + 1 from ex6_56]; exact j56_3
        refine s_if_eq (tgt := 56) C dX7_askWord_46 (by decide) (by omega) (fun c46 => ?_) (fun c46 => ?_)
        · refine J56 f σ_43 ?_ (by first | assumption | omega) ?_ ?_
          · rw [hs43]; omega
          · exact f43
          · exact hT43.no (by omega) (by omega)
        · obtain ⟨x5_49, ex5_49⟩ : ∃ y : Int, y = f + 1 := ⟨_, rfl⟩
          refine s_iinc (z2 := x5_49) (ls2 := [some (vR 0), some (vI x), some (vI y), some (vI z), some (vR r4), some (vI x5_49), some (vI m)]) C dX7_askWord_49 (by decide) rfl ex5_49 rfl ?_
          refine s_aload_n C dX7_askWord_52 rfl ?_
          refine s_cV0v C dX7_askWord_53 lkX7_222 moX7_tallySpoken mvX7_tallySpoken (kX7_tallySpoken hD (k := m) (c := y) (by omega) hH43 hp43.2.1 (by omega) hT43) sh_0 ⟨_, _, rfl⟩ (by decide) (Nat.le_of_ble_eq_true rfl) rfl (by decide) (fun σ_53 hp53 => ?_)
          refine J56 x5_49 σ_53 ?_ (by first | assumption | omega) ?_ ?_
          · rw [hs43]; omega
          · exact fun b k q => (hp53.1 b k (by omega) (by omega)).trans (f43 b k q)
          · exact hp53.2
  refine L31 _ 0 0 σ_22 (Nat.lt_succ_self _) (by first | assumption | omega) ?_ (by first | assumption | omega) ?_ ?_
  · rfl
  · exact f22
  · exact hT22
