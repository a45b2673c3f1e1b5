theorem s_astoreX {X : sx_T} {E : sv_E} {D : sd_T} {Q : State → Prop} {u w pc : Nat} {ls : List (Option sv_V)} {st : List sv_V} {σ : sv_G} {j G : Nat} {c : Int} {ls2 : List (Option sv_V)} (C : sx_ok X E D) (hd : decode D.2.1 pc = .ok (.astore j, 2)) (hn : j < D.2.2.1) (hl : sv_st1 ls j (some (gv G c)) = ls2) (kk : SW X E Q u w (pc + 2) ls2 st σ) : SW X E Q u w pc ls (gv G c :: st) σ := by
  by_cases q : c = -1
  · rw [gv_n q] at hl ⊢
    exact s_astoreN C hd hn hl kk
  · rw [gv_r q] at hl ⊢
    exact s_astore C hd hn hl kk
set_option maxRecDepth 100000 in
set_option maxHeartbeats 8000000 in
theorem kX4_addProduct {E : sv_E} {σ : sv_G} {k : Nat} (hk : k ≤ 40) (IH : nmC E k) {G : Nat} {D : gd_T} (hG : shp G = (4, 0)) (hD : GDok D) (hC : RC σ G D) {p m : Int} (hp : 0 ≤ p ∧ p < gC D 1) (hm : 0 ≤ m ∧ m ≤ 9999) {a : Nat} (ha : shp a = (6, 0)) {d : Int} (hd : d = 40 - k) {ws : List Int} (hw : Rw σ a ws) : CT E MX4_addProduct (2 * k + 4) [(vR G), (vR (G + 4 + 8 + (p).toNat)), (vI m), (vR a), (vI d)] σ (PI fun r σ9 => xtP σ σ9 a r (ext ws (prF D (nmF D k) p m))) := by
  refine CT.of (RX4, cX4_addProduct, 5, (some .boolean), [], 2 * k + 4, 0, 0) rfl moX4_addProduct (Nat.le_of_ble_eq_true rfl) (ls0 := [some (vR G), some (vR (G + 4 + 8 + (p).toNat)), some (vI m), some (vR a), some (vI d)]) rfl ?_
  intro X Q C hR
  have hC0 := id hC
  obtain ⟨hA, hF, hn0, hn1, hB, hFo, hFf, hn2, ho, hns, hSm⟩ := hC
  have hnb := hD.2.2.2.1
  have hbs := hD.2.2.2.2.2.2.2.1 p hp.1 hp.2
  obtain ⟨s0, s1, s2, s3, s4, s5, s6⟩ := hbs
  have b1 : σ (G + 4 + 8 + (p).toNat) 1 = gB D p 1 := hB p 1 hp.1 hp.2 (by omega)
  have b2 : σ (G + 4 + 8 + (p).toNat) 2 = gB D p 2 := hB p 2 hp.1 hp.2 (by omega)
  have b3 : σ (G + 4 + 8 + (p).toNat) 3 = gB D p 3 := hB p 3 hp.1 hp.2 (by omega)
  refine s_iload_n C dX4_addProduct_0 rfl ?_
  refine s_aload_n C dX4_addProduct_1 rfl ?_
  refine s_getI (c := 1) (kz := 2) C fl_4_134 dX4_addProduct_2 (sha_14 (shc_4_1 hG) (show (p).toNat < 5 by omega)) rfl rfl (fun g2 => ?_)
  refine s_icmp_le (tgt := 10) C dX4_addProduct_5 (by decide) (by omega) (by omega) (fun c5 => ?_) (fun c5 => ?_)
  · refine s_iload_n C dX4_addProduct_10 rfl ?_
    refine s_iconst C dX4_addProduct_11 ?_
    have J32 : (¬ (m = 1 ∧ landI (gB D p 3) 1 = 0)) → SW X E Q 0 0 32 [some (vR G), some (vR (G + 4 + 8 + (p).toNat)), some (vI m), some (vR a), some (vI d)] [] σ := by
      intro  j32_0
      refine s_aload_n C dX4_addProduct_32 rfl ?_
      refine s_iconst C dX4_addProduct_33 ?_
      refine s_cN1i C dX4_addProduct_34 lkX4_128 moX1_has mvX1_has (kX1_has (sha_14 (shc_4_1 hG) (show (p).toNat < 5 by omega))) (sha_14 (shc_4_1 hG) (show (p).toNat < 5 by omega)) ⟨_, _, rfl⟩ (by show _ ≤ 2 * k + 4; omega) (Nat.le_of_ble_eq_true rfl) rfl ⟨Nat.zero_le _, Nat.zero_le _⟩ (kpI (fun r34 hp34 => ?_))
      rw [b3] at hp34
      refine s_if_eq (tgt := 70) C dX4_addProduct_37 (by decide) (by omega) (fun c37 => ?_) (fun c37 => ?_)
      · have e0 : prF D (nmF D k) p m = oap (nmF D k m) (some [gB D p 1]) := by unfold prF; rw [if_neg (by omega), if_neg j32_0, if_neg (by omega)]
        refine s_aload_n C dX4_addProduct_70 rfl ?_
        refine s_iload_n C dX4_addProduct_71 rfl ?_
        refine s_aload_n C dX4_addProduct_72 rfl ?_
        refine s_iload C dX4_addProduct_73 rfl ?_
        refine s_iconst C dX4_addProduct_75 ?_
        refine s_iadd C dX4_addProduct_76 ?_
        refine s_cV3i C dX4_addProduct_77 lkX4_87 moX4_addName mvX4_addName (IH (by omega) (n := m) hG ha hD hm (by omega) hC0 hw) hG ⟨_, _, rfl⟩ (by show _ ≤ 2 * k + 4; omega) (Nat.le_of_ble_eq_true rfl) rfl ⟨Nat.zero_le _, Nat.zero_le _⟩ (fun r77 σ_77 hp77 => ?_)
        have b77 := hp77.b
        have J99 : ∀ (z : Int) (τ : sv_G), (xtP σ τ a z (ext ws (prF D (nmF D k) p m))) → SW X E Q 0 0 99 [some (vR G), some (vR (G + 4 + 8 + (p).toNat)), some (vI m), some (vR a), some (vI d)] [(vI z)] τ := by
          intro z τ j99_0
          refine s_zret C hR dX4_addProduct_99 rfl (by exact j99_0.b) ⟨_, rfl, ?_⟩ (by decide)
          exact j99_0
        have J98 : ∀ (τ : sv_G), (xtP σ τ a 0 (ext ws (prF D (nmF D k) p m))) → SW X E Q 0 0 98 [some (vR G), some (vR (G + 4 + 8 + (p).toNat)), some (vI m), some (vR a), some (vI d)] [] τ := by
          intro τ j98_0
          refine s_iconst C dX4_addProduct_98 ?_
          refine J99 0 τ ?_
          · exact j98_0
        refine s_if_eq (tgt := 98) C dX4_addProduct_80 (by decide) (by omega) (fun c80 => ?_) (fun c80 => ?_)
        · refine J98 σ_77 ?_
          · rw [e0]; exact xt_f1 hp77 c80
        · obtain ⟨w1, e1, hw1⟩ := hp77.one c80
          have hC1 := hC0.row hD hG ha hp77.1
          have b1b : σ_77 (G + 4 + 8 + (p).toNat) 1 = gB D p 1 := hC1.2.2.2.2.1 p 1 hp.1 hp.2 (by omega)
          refine s_aload_n C dX4_addProduct_83 rfl ?_
          refine s_aload_n C dX4_addProduct_84 rfl ?_
          refine s_getI (c := 1) (kz := 1) C fl_4_67 dX4_addProduct_85 (sha_14 (shc_4_1 hG) (show (p).toNat < 5 by omega)) rfl rfl (fun g85 => ?_)
          refine s_cN1i C dX4_addProduct_88 lkX4_107 moX6_add mvX6_add (kX6_addx ha (by omega) hw1) ha ⟨_, _, rfl⟩ (by show _ ≤ 2 * k + 4; omega) (Nat.le_of_ble_eq_true rfl) rfl ⟨Nat.zero_le _, Nat.zero_le _⟩ (fun r88 σ_88 hp88 => ?_)
          rw [b1b] at hp88
          have b88 := hp88.b
          refine s_if_eq (tgt := 98) C dX4_addProduct_91 (by decide) (by omega) (fun c91 => ?_) (fun c91 => ?_)
          · refine J98 σ_88 ?_
            · rw [e0]; exact xt_2 hp77.1 e1 hp88 c91
          · refine s_iconst C dX4_addProduct_94 ?_
            refine s_goto (tgt := 99) C dX4_addProduct_95 (by decide) ?_
            refine J99 1 σ_88 ?_
            · rw [e0]; exact xt_2 hp77.1 e1 hp88 (by omega)
      · have e0 : prF D (nmF D k) p m = oap (some [gB D p 1]) (nmF D k m) := by unfold prF; rw [if_neg (by omega), if_neg j32_0, if_pos (by omega)]
        refine s_aload_n C dX4_addProduct_40 rfl ?_
        refine s_aload_n C dX4_addProduct_41 rfl ?_
        refine s_getI (c := 1) (kz := 1) C fl_4_67 dX4_addProduct_42 (sha_14 (shc_4_1 hG) (show (p).toNat < 5 by omega)) rfl rfl (fun g42 => ?_)
        refine s_cN1i C dX4_addProduct_45 lkX4_107 moX6_add mvX6_add (kX6_addx ha (by omega) hw) ha ⟨_, _, rfl⟩ (by show _ ≤ 2 * k + 4; omega) (Nat.le_of_ble_eq_true rfl) rfl ⟨Nat.zero_le _, Nat.zero_le _⟩ (fun r45 σ_45 hp45 => ?_)
        rw [b1] at hp45
        have b45 := hp45.b
        have J69 : ∀ (z : Int) (τ : sv_G), (xtP σ τ a z (ext ws (prF D (nmF D k) p m))) → SW X E Q 0 0 69 [some (vR G), some (vR (G + 4 + 8 + (p).toNat)), some (vI m), some (vR a), some (vI d)] [(vI z)] τ := by
          intro z τ j69_0
          refine s_zret C hR dX4_addProduct_69 rfl (by exact j69_0.b) ⟨_, rfl, ?_⟩ (by decide)
          exact j69_0
        have J68 : ∀ (τ : sv_G), (xtP σ τ a 0 (ext ws (prF D (nmF D k) p m))) → SW X E Q 0 0 68 [some (vR G), some (vR (G + 4 + 8 + (p).toNat)), some (vI m), some (vR a), some (vI d)] [] τ := by
          intro τ j68_0
          refine s_iconst C dX4_addProduct_68 ?_
          refine J69 0 τ ?_
          · exact j68_0
        refine s_if_eq (tgt := 68) C dX4_addProduct_48 (by decide) (by omega) (fun c48 => ?_) (fun c48 => ?_)
        · refine J68 σ_45 ?_
          · rw [e0]; exact xt_f1 hp45 c48
        · obtain ⟨w1, e1, hw1⟩ := hp45.one c48
          have hC1 := hC0.row hD hG ha hp45.1
          refine s_aload_n C dX4_addProduct_51 rfl ?_
          refine s_iload_n C dX4_addProduct_52 rfl ?_
          refine s_aload_n C dX4_addProduct_53 rfl ?_
          refine s_iload C dX4_addProduct_54 rfl ?_
          refine s_iconst C dX4_addProduct_56 ?_
          refine s_iadd C dX4_addProduct_57 ?_
          refine s_cV3i C dX4_addProduct_58 lkX4_87 moX4_addName mvX4_addName (IH (by omega) (n := m) hG ha hD hm (by omega) hC1 hw1) hG ⟨_, _, rfl⟩ (by show _ ≤ 2 * k + 4; omega) (Nat.le_of_ble_eq_true rfl) rfl ⟨Nat.zero_le _, Nat.zero_le _⟩ (fun r58 σ_58 hp58 => ?_)
          have b58 := hp58.b
          refine s_if_eq (tgt := 68) C dX4_addProduct_61 (by decide) (by omega) (fun c61 => ?_) (fun c61 => ?_)
          · refine J68 σ_58 ?_
            · rw [e0]; exact xt_2 hp45.1 e1 hp58 c61
          · refine s_iconst C dX4_addProduct_64 ?_
            refine s_goto (tgt := 69) C dX4_addProduct_65 (by decide) ?_
            refine J69 1 σ_58 ?_
            · rw [e0]; exact xt_2 hp45.1 e1 hp58 (by omega)
    refine s_icmp_ne (tgt := 32) C dX4_addProduct_12 (by decide) (by omega) (by omega) (fun c12 => ?_) (fun c12 => ?_)
    · exact J32 (by first | assumption | omega)
    · refine s_aload_n C dX4_addProduct_15 rfl ?_
      refine s_iconst C dX4_addProduct_16 ?_
      refine s_cN1i C dX4_addProduct_17 lkX4_128 moX1_has mvX1_has (kX1_has (sha_14 (shc_4_1 hG) (show (p).toNat < 5 by omega))) (sha_14 (shc_4_1 hG) (show (p).toNat < 5 by omega)) ⟨_, _, rfl⟩ (by show _ ≤ 2 * k + 4; omega) (Nat.le_of_ble_eq_true rfl) rfl ⟨Nat.zero_le _, Nat.zero_le _⟩ (kpI (fun r17 hp17 => ?_))
      rw [b3] at hp17
      refine s_if_ne (tgt := 32) C dX4_addProduct_20 (by decide) (by omega) (fun c20 => ?_) (fun c20 => ?_)
      · exact J32 (by first | assumption | omega)
      · have e0 : prF D (nmF D k) p m = some [gB D p 1] := by unfold prF; rw [if_neg (by omega), if_pos (by omega)]
        refine s_aload_n C dX4_addProduct_23 rfl ?_
        refine s_aload_n C dX4_addProduct_24 rfl ?_
        refine s_getI (c := 1) (kz := 1) C fl_4_67 dX4_addProduct_25 (sha_14 (shc_4_1 hG) (show (p).toNat < 5 by omega)) rfl rfl (fun g25 => ?_)
        refine s_cN1i C dX4_addProduct_28 lkX4_107 moX6_add mvX6_add (kX6_addx ha (by omega) hw) ha ⟨_, _, rfl⟩ (by show _ ≤ 2 * k + 4; omega) (Nat.le_of_ble_eq_true rfl) rfl ⟨Nat.zero_le _, Nat.zero_le _⟩ (fun r28 σ_28 hp28 => ?_)
        rw [b1] at hp28
        refine s_zret C hR dX4_addProduct_31 rfl (by exact hp28.b) ⟨_, rfl, ?_⟩ (by decide)
        rw [e0]; exact hp28
  · have e0 : prF D (nmF D k) p m = none := by unfold prF; rw [if_pos (by omega)]
    refine s_iconst C dX4_addProduct_8 ?_
    refine s_zret C hR dX4_addProduct_9 rfl (by omega) ⟨_, rfl, ?_⟩ (by decide)
    rw [e0]; exact xt_no frR.rf hw
set_option maxRecDepth 100000 in
set_option maxHeartbeats 8000000 in
theorem kX4_addName_s {E : sv_E} {σ : sv_G} {k : Nat} (hk : k ≤ 40) (IH : nmC E k) {G : Nat} {D : gd_T} (hG : shp G = (4, 0)) (hD : GDok D) (hC : RC σ G D) {a : Nat} (ha : shp a = (6, 0)) {n d : Int} (hn : 0 ≤ n ∧ n ≤ 9999) (hd : d = 40 - k) {ws : List Int} (hw : Rw σ a ws) : CT E MX4_addName (2 * k + 5) [(vR G), (vI n), (vR a), (vI d)] σ (PI fun r σ9 => xtP σ σ9 a r (ext ws (nmF D (k + 1) n))) := by
  refine CT.of (RX4, cX4_addName, 9, (some .boolean), [], 2 * k + 5, 0, 0) rfl moX4_addName (Nat.le_of_ble_eq_true rfl) (ls0 := [some (vR G), some (vI n), some (vR a), some (vI d), none, none, none, none, none]) rfl ?_
  intro X Q C hR
  have hC0 := id hC
  obtain ⟨hA, hF, hn0, hn1, hB, hFo, hFf, hn2, ho, hns, hSm⟩ := hC
  have hnb := hD.2.2.2.1
  have hf := hD.1 n
  refine s_iload_n C dX4_addName_0 rfl ?_
  refine s_bipush C dX4_addName_1 (by decide) ?_
  refine s_icmp_le (tgt := 8) C dX4_addName_3 (by decide) (by omega) (by omega) (fun c3 => ?_) (fun c3 => ?_)
  · refine s_aload_n C dX4_addName_8 rfl ?_
    refine s_getR (c := 4) C fl_4_12 dX4_addName_9 hG rfl (rfc_4_0 hG) ?_
    refine s_iload_n C dX4_addName_12 rfl ?_
    refine s_cN1i C dX4_addName_13 lkX4_111 moX0_wordOf mvX0_wordOf (kX0_wordOf (shc_4_0 hG) (by omega) (by assumption) (by assumption)) (shc_4_0 hG) ⟨_, _, rfl⟩ (by show _ ≤ 2 * k + 5; omega) (Nat.le_of_ble_eq_true rfl) rfl ⟨Nat.zero_le _, Nat.zero_le _⟩ (kpI (fun r13 hp13 => ?_))
    refine s_istore (ls2 := [some (vR G), some (vI n), some (vR a), some (vI d), some (vI r13), none, none, none, none]) C dX4_addName_16 (show 4 < 9 by decide) rfl ?_
    refine s_iload C dX4_addName_18 rfl ?_
    refine s_iconst C dX4_addName_20 ?_
    refine s_icmp_eq (tgt := 31) C dX4_addName_21 (by decide) (by omega) (by omega) (fun c21 => ?_) (fun c21 => ?_)
    · refine s_aload_n C dX4_addName_31 rfl ?_
      refine s_iload_n C dX4_addName_32 rfl ?_
      refine s_cV1g C dX4_addName_33 lkX4_114 moX4_greatestUpTo mvX4_greatestUpTo (kX4_greatestUpTo (by exact hG) (by exact hD) (by exact hC0) (by omega)) hG ⟨_, _, rfl⟩ (by show _ ≤ 2 * k + 5; omega) (Nat.le_of_ble_eq_true rfl) rfl ⟨Nat.zero_le _, Nat.zero_le _⟩ (kpI (fun r33 hp33 => ?_))
      refine s_astoreX (ls2 := [some (vR G), some (vI n), some (vR a), some (vI d), some (vI r13), some (gv G r33), none, none, none]) C dX4_addName_36 (show 5 < 9 by decide) rfl ?_
      by_cases q38 : r33 = -1
      · rw [gv_n q38]
        have e0 : nmF D (k + 1) n = none := by
          show nmU D (nmF D k) n = _
          unfold nmU
          rw [if_neg (by omega), if_pos (by omega)]
        refine s_aloadN C dX4_addName_38 rfl ?_
        refine s_ifnullN (tgt := 52) C dX4_addName_40 (by decide) ?_
        refine s_iconst C dX4_addName_52 ?_
        refine s_zret C hR dX4_addName_53 rfl (by omega) ⟨_, rfl, ?_⟩ (by decide)
        rw [e0]; exact xt_no frR.rf hw
      · rw [gv_r q38]
        have hc := cnt_in hD (n := n) (by omega)
        rw [← hp33] at hc
        obtain ⟨s0, s1, s2, s3, s4, s5, s6⟩ := hc.2.2.2
        have b0 : σ (G + 4 + 8 + (r33).toNat) 0 = gB D r33 0 := hB r33 0 hc.1 hc.2.1 (by omega)
        have b3 : σ (G + 4 + 8 + (r33).toNat) 3 = gB D r33 3 := hB r33 3 hc.1 hc.2.1 (by omega)
        have b4 : σ (G + 4 + 8 + (r33).toNat) 4 = gB D r33 4 := hB r33 4 hc.1 hc.2.1 (by omega)
        have b5 : σ (G + 4 + 8 + (r33).toNat) 5 = gB D r33 5 := hB r33 5 hc.1 hc.2.1 (by omega)
        have b6 : σ (G + 4 + 8 + (r33).toNat) 6 = gB D r33 6 := hB r33 6 hc.1 hc.2.1 (by omega)
        refine s_aload C dX4_addName_38 rfl ?_
        refine s_ifnull C dX4_addName_40 ?_
        refine s_aload C dX4_addName_43 rfl ?_
        refine s_getI (c := 1) (kz := 0) C fl_4_56 dX4_addName_45 (sha_14 (shc_4_1 hG) (show (r33).toNat < 5 by omega)) rfl rfl (fun g45 => ?_)
        refine s_iconst C dX4_addName_48 ?_
        refine s_icmp_ge (tgt := 54) C dX4_addName_49 (by decide) (by omega) (by omega) (fun c49 => ?_) (fun c49 => ?_)
        · refine s_iload_n C dX4_addName_54 rfl ?_
          refine s_aload C dX4_addName_55 rfl ?_
          refine s_getI (c := 1) (kz := 0) C fl_4_56 dX4_addName_57 (sha_14 (shc_4_1 hG) (show (r33).toNat < 5 by omega)) rfl rfl (fun g57 => ?_)
          refine s_idiv C dX4_addName_60 (by omega) (by omega) ?_
          refine s_topI (fun x6_61 ex6_61 => ?_)
          refine s_istore (ls2 := [some (vR G), some (vI n), some (vR a), some (vI d), some (vI r13), some (vR (G + 4 + 8 + (r33).toNat)), some (vI x6_61), none, none]) C dX4_addName_61 (show 6 < 9 by decide) rfl ?_
          rw [b0] at ex6_61
          refine s_iload_n C dX4_addName_63 rfl ?_
          refine s_aload C dX4_addName_64 rfl ?_
          refine s_getI (c := 1) (kz := 0) C fl_4_56 dX4_addName_66 (sha_14 (shc_4_1 hG) (show (r33).toNat < 5 by omega)) rfl rfl (fun g66 => ?_)
          refine s_irem C dX4_addName_69 (by omega) (by omega) ?_
          refine s_topI (fun x7_70 ex7_70 => ?_)
          refine s_istore (ls2 := [some (vR G), some (vI n), some (vR a), some (vI d), some (vI r13), some (vR (G + 4 + 8 + (r33).toNat)), some (vI x6_61), some (vI x7_70), none]) C dX4_addName_70 (show 7 < 9 by decide) rfl ?_
          rw [b0] at ex7_70
          have eN : nmF D (k + 1) n = nmB D (nmF D k) r33 x6_61 x7_70 := by
            show nmU D (nmF D k) n = _
            unfold nmU
            rw [if_neg (by omega), if_neg (by omega), ← hp33, ← ex6_61, ← ex7_70]
          have hch := chd_of s0.1 (n := n) (b := gB D r33 0) hc.2.2.1
          rw [← ex6_61, ← ex7_70] at hch
          unfold chd at hch
          refine s_iload C dX4_addName_72 rfl ?_
          refine s_if_ne (tgt := 88) C dX4_addName_74 (by decide) (by omega) (fun c74 => ?_) (fun c74 => ?_)
          · refine s_aload C dX4_addName_88 rfl ?_
            refine s_getI (c := 1) (kz := 0) C fl_4_56 dX4_addName_90 (sha_14 (shc_4_1 hG) (show (r33).toNat < 5 by omega)) rfl rfl (fun g90 => ?_)
            refine s_iload C dX4_addName_93 rfl ?_
            refine s_isub C dX4_addName_95 ?_
            refine s_topI (fun x8_96 ex8_96 => ?_)
            refine s_istore (ls2 := [some (vR G), some (vI n), some (vR a), some (vI d), some (vI r13), some (vR (G + 4 + 8 + (r33).toNat)), some (vI x6_61), some (vI x7_70), some (vI x8_96)]) C dX4_addName_96 (show 8 < 9 by decide) rfl ?_
            rw [b0] at ex8_96
            refine s_iload C dX4_addName_98 rfl ?_
            refine s_aload C dX4_addName_100 rfl ?_
            refine s_getI (c := 1) (kz := 5) C fl_4_122 dX4_addName_102 (sha_14 (shc_4_1 hG) (show (r33).toNat < 5 by omega)) rfl rfl (fun g102 => ?_)
            refine s_icmp_gt (tgt := 154) C dX4_addName_105 (by decide) (by omega) (by omega) (fun c105 => ?_) (fun c105 => ?_)
            · refine s_aload C dX4_addName_154 rfl ?_
              refine s_bipush C dX4_addName_156 (by decide) ?_
              refine s_cN1i C dX4_addName_158 lkX4_128 moX1_has mvX1_has (kX1_has (sha_14 (shc_4_1 hG) (show (r33).toNat < 5 by omega))) (sha_14 (shc_4_1 hG) (show (r33).toNat < 5 by omega)) ⟨_, _, rfl⟩ (by show _ ≤ 2 * k + 5; omega) (Nat.le_of_ble_eq_true rfl) rfl ⟨Nat.zero_le _, Nat.zero_le _⟩ (kpI (fun r158 hp158 => ?_))
              rw [b3] at hp158
              have J173 : (landI (gB D r33 3) 8 ≠ 0 ∨ landI (gB D r33 3) 4 ≠ 0) → SW X E Q 0 0 173 [some (vR G), some (vI n), some (vR a), some (vI d), some (vI r13), some (vR (G + 4 + 8 + (r33).toNat)), some (vI x6_61), some (vI x7_70), some (vI x8_96)] [] σ := by
                intro  j173_0
                have eB : nmB D (nmF D k) r33 x6_61 x7_70 = oap (oap (nmF D k x7_70) (some (jnF D r33))) (prF D (nmF D k) r33 (if landI (gB D r33 3) 8 ≠ 0 then x6_61 + 1 else x6_61)) := by
                  unfold nmB
                  rw [if_neg (by omega), if_neg (by omega)]
                  by_cases q : landI (gB D r33 3) 8 ≠ 0
                  · rw [if_pos q, if_pos q]
                  · rw [if_neg q, if_neg q, if_pos (by omega)]
                rw [eB] at eN
                refine s_aload_n C dX4_addName_173 rfl ?_
                refine s_iload C dX4_addName_174 rfl ?_
                refine s_aload_n C dX4_addName_176 rfl ?_
                refine s_iload_n C dX4_addName_177 rfl ?_
                refine s_iconst C dX4_addName_178 ?_
                refine s_iadd C dX4_addName_179 ?_
                refine s_cV3i C dX4_addName_180 lkX4_87 moX4_addName mvX4_addName (IH (by omega) (n := x7_70) hG ha hD (by omega) (by omega) hC0 hw) hG ⟨_, _, rfl⟩ (by show _ ≤ 2 * k + 5; omega) (Nat.le_of_ble_eq_true rfl) rfl ⟨Nat.zero_le _, Nat.zero_le _⟩ (fun r180 σ_180 hp180 => ?_)
                have b180 := hp180.b
                have J233 : ∀ (z : Int) (τ : sv_G), (xtP σ τ a z (ext ws (nmF D (k + 1) n))) → SW X E Q 0 0 233 [some (vR G), some (vI n), some (vR a), some (vI d), some (vI r13), some (vR (G + 4 + 8 + (r33).toNat)), some (vI x6_61), some (vI x7_70), some (vI x8_96)] [(vI z)] τ := by
                  intro z τ j233_0
                  refine s_zret C hR dX4_addName_233 rfl (by exact j233_0.b) ⟨_, rfl, ?_⟩ (by decide)
                  exact j233_0
                have J232 : ∀ (τ : sv_G), (xtP σ τ a 0 (ext ws (nmF D (k + 1) n))) → SW X E Q 0 0 232 [some (vR G), some (vI n), some (vR a), some (vI d), some (vI r13), some (vR (G + 4 + 8 + (r33).toNat)), some (vI x6_61), some (vI x7_70), some (vI x8_96)] [] τ := by
                  intro τ j232_0
                  refine s_iconst C dX4_addName_232 ?_
                  refine J233 0 τ ?_
                  · exact j232_0
                refine s_if_eq (tgt := 232) C dX4_addName_183 (by decide) (by omega) (fun c183 => ?_) (fun c183 => ?_)
                · refine J232 σ_180 ?_
                  · rw [eN]; exact xt_f1 (xt_f1 hp180 c183) rfl
                · obtain ⟨w1, e1, hw1⟩ := hp180.one c183
                  have hC1 := hC0.row hD hG ha hp180.1
                  have b4b : σ_180 (G + 4 + 8 + (r33).toNat) 4 = gB D r33 4 := hC1.2.2.2.2.1 r33 4 hc.1 hc.2.1 (by omega)
                  refine s_aload C dX4_addName_186 rfl ?_
                  refine s_getI (c := 1) (kz := 4) C fl_4_131 dX4_addName_188 (sha_14 (shc_4_1 hG) (show (r33).toNat < 5 by omega)) rfl rfl (fun g188 => ?_)
                  refine s_aload_n C dX4_addName_191 rfl ?_
                  refine s_cS2i C dX4_addName_192 lkX4_103 moX4_addUnlessNone mvX4_addUnlessNone (kX4_addUnlessNone ha (by omega) hw1) (by show _ ≤ 2 * k + 5; omega) (Nat.le_of_ble_eq_true rfl) rfl ⟨Nat.zero_le _, Nat.zero_le _⟩ (fun r192 σ_192 hp192 => ?_)
                  rw [b4b] at hp192
                  have b192 := hp192.b
                  refine s_if_eq (tgt := 232) C dX4_addName_195 (by decide) (by omega) (fun c195 => ?_) (fun c195 => ?_)
                  · refine J232 σ_192 ?_
                    · rw [eN]; exact xt_f1 (xt_2 hp180.1 e1 hp192 c195) rfl
                  · obtain ⟨w2, e2, hw2⟩ := hp192.one c195
                    have hC2 := hC1.row hD hG ha hp192.1
                    have b3b : σ_192 (G + 4 + 8 + (r33).toNat) 3 = gB D r33 3 := hC2.2.2.2.2.1 r33 3 hc.1 hc.2.1 (by omega)
                    refine s_aload_n C dX4_addName_198 rfl ?_
                    refine s_aload C dX4_addName_199 rfl ?_
                    refine s_aload C dX4_addName_201 rfl ?_
                    refine s_bipush C dX4_addName_203 (by decide) ?_
                    refine s_cN1i C dX4_addName_205 lkX4_128 moX1_has mvX1_has (kX1_has (sha_14 (shc_4_1 hG) (show (r33).toNat < 5 by omega))) (sha_14 (shc_4_1 hG) (show (r33).toNat < 5 by omega)) ⟨_, _, rfl⟩ (by show _ ≤ 2 * k + 5; omega) (Nat.le_of_ble_eq_true rfl) rfl ⟨Nat.zero_le _, Nat.zero_le _⟩ (kpI (fun r205 hp205 => ?_))
                    rw [b3b] at hp205
                    have J220 : ∀ (f : Int), (f = if landI (gB D r33 3) 8 ≠ 0 then x6_61 + 1 else x6_61) → (0 ≤ f ∧ f ≤ 9999) → SW X E Q 0 0 220 [some (vR G), some (vI n), some (vR a), some (vI d), some (vI r13), some (vR (G + 4 + 8 + (r33).toNat)), some (vI x6_61), some (vI x7_70), some (vI x8_96)] [(vI f), (vR (G + 4 + 8 + (r33).toNat)), (vR G)] σ_192 := by
                      intro f j220_0 j220_1
                      rw [← j220_0] at eN
                      refine s_aload_n C dX4_addName_220 rfl ?_
                      refine s_iload_n C dX4_addName_221 rfl ?_
                      refine s_cV4i C dX4_addName_222 lkX4_118 moX4_addProduct mvX4_addProduct (kX4_addProduct hk IH hG hD hC2 (p := r33) (m := f) ⟨hc.1, hc.2.1⟩ (by omega) ha hd hw2) hG ⟨_, _, rfl⟩ (by show _ ≤ 2 * k + 5; omega) (Nat.le_of_ble_eq_true rfl) rfl ⟨Nat.zero_le _, Nat.zero_le _⟩ (fun r222 σ_222 hp222 => ?_)
                      have b222 := hp222.b
                      refine s_if_eq (tgt := 232) C dX4_addName_225 (by decide) (by omega) (fun c225 => ?_) (fun c225 => ?_)
                      · refine J232 σ_222 ?_
                        · rw [eN]; exact xt_2 (hp180.1.tr hp192.1) (xt_e e1 e2) hp222 c225
                      · refine s_iconst C dX4_addName_228 ?_
                        refine s_goto (tgt := 233) C dX4_addName_229 (by decide) ?_
                        refine J233 1 σ_222 ?_
                        · rw [eN]; exact xt_2 (hp180.1.tr hp192.1) (xt_e e1 e2) hp222 (by omega)
                    refine s_if_eq (tgt := 218) C dX4_addName_208 (by decide) (by omega) (fun c208 => ?_) (fun c208 => ?_)
                    · refine s_iload C dX4_addName_218 rfl ?_
                      refine J220 x6_61 ?_ (by first | assumption | omega)
                      · rw [if_neg (by omega)]
                    · refine s_iload C dX4_addName_211 rfl ?_
                      refine s_iconst C dX4_addName_213 ?_
                      refine s_iadd C dX4_addName_214 ?_
                      refine s_goto (tgt := 220) C dX4_addName_215 (by decide) ?_
                      refine J220 (x6_61 + 1) ?_ (by first | assumption | omega)
                      · rw [if_pos (by omega)]
              refine s_if_ne (tgt := 173) C dX4_addName_161 (by decide) (by omega) (fun c161 => ?_) (fun c161 => ?_)
              · exact J173 (by first | assumption | omega)
              · refine s_aload C dX4_addName_164 rfl ?_
                refine s_iconst C dX4_addName_166 ?_
                refine s_cN1i C dX4_addName_167 lkX4_128 moX1_has mvX1_has (kX1_has (sha_14 (shc_4_1 hG) (show (r33).toNat < 5 by omega))) (sha_14 (shc_4_1 hG) (show (r33).toNat < 5 by omega)) ⟨_, _, rfl⟩ (by show _ ≤ 2 * k + 5; omega) (Nat.le_of_ble_eq_true rfl) rfl ⟨Nat.zero_le _, Nat.zero_le _⟩ (kpI (fun r167 hp167 => ?_))
                rw [b3] at hp167
                refine s_if_eq (tgt := 234) C dX4_addName_170 (by decide) (by omega) (fun c170 => ?_) (fun c170 => ?_)
                · have eB : nmB D (nmF D k) r33 x6_61 x7_70 = oap (oap (prF D (nmF D k) r33 x6_61) (some (jnF D r33))) (nmF D k x7_70) := by
                    unfold nmB
                    rw [if_neg (by omega), if_neg (by omega), if_neg (by omega), if_neg (by omega)]
                  rw [eB] at eN
                  refine s_aload_n C dX4_addName_234 rfl ?_
                  refine s_aload C dX4_addName_235 rfl ?_
                  refine s_iload C dX4_addName_237 rfl ?_
                  refine s_aload_n C dX4_addName_239 rfl ?_
                  refine s_iload_n C dX4_addName_240 rfl ?_
                  refine s_cV4i C dX4_addName_241 lkX4_118 moX4_addProduct mvX4_addProduct (kX4_addProduct hk IH hG hD hC0 (p := r33) (m := x6_61) ⟨hc.1, hc.2.1⟩ (by omega) ha hd hw) hG ⟨_, _, rfl⟩ (by show _ ≤ 2 * k + 5; omega) (Nat.le_of_ble_eq_true rfl) rfl ⟨Nat.zero_le _, Nat.zero_le _⟩ (fun r241 σ_241 hp241 => ?_)
                  have b241 := hp241.b
                  have J277 : ∀ (z : Int) (τ : sv_G), (xtP σ τ a z (ext ws (nmF D (k + 1) n))) → SW X E Q 0 0 277 [some (vR G), some (vI n), some (vR a), some (vI d), some (vI r13), some (vR (G + 4 + 8 + (r33).toNat)), some (vI x6_61), some (vI x7_70), some (vI x8_96)] [(vI z)] τ := by
                    intro z τ j277_0
                    refine s_zret C hR dX4_addName_277 rfl (by exact j277_0.b) ⟨_, rfl, ?_⟩ (by decide)
                    exact j277_0
                  have J276 : ∀ (τ : sv_G), (xtP σ τ a 0 (ext ws (nmF D (k + 1) n))) → SW X E Q 0 0 276 [some (vR G), some (vI n), some (vR a), some (vI d), some (vI r13), some (vR (G + 4 + 8 + (r33).toNat)), some (vI x6_61), some (vI x7_70), some (vI x8_96)] [] τ := by
                    intro τ j276_0
                    refine s_iconst C dX4_addName_276 ?_
                    refine J277 0 τ ?_
                    · exact j276_0
                  refine s_if_eq (tgt := 276) C dX4_addName_244 (by decide) (by omega) (fun c244 => ?_) (fun c244 => ?_)
                  · refine J276 σ_241 ?_
                    · rw [eN]; exact xt_f1 (xt_f1 hp241 c244) rfl
                  · obtain ⟨w1, e1, hw1⟩ := hp241.one c244
                    have hC1 := hC0.row hD hG ha hp241.1
                    have b4b : σ_241 (G + 4 + 8 + (r33).toNat) 4 = gB D r33 4 := hC1.2.2.2.2.1 r33 4 hc.1 hc.2.1 (by omega)
                    refine s_aload C dX4_addName_247 rfl ?_
                    refine s_getI (c := 1) (kz := 4) C fl_4_131 dX4_addName_249 (sha_14 (shc_4_1 hG) (show (r33).toNat < 5 by omega)) rfl rfl (fun g249 => ?_)
                    refine s_aload_n C dX4_addName_252 rfl ?_
                    refine s_cS2i C dX4_addName_253 lkX4_103 moX4_addUnlessNone mvX4_addUnlessNone (kX4_addUnlessNone ha (by omega) hw1) (by show _ ≤ 2 * k + 5; omega) (Nat.le_of_ble_eq_true rfl) rfl ⟨Nat.zero_le _, Nat.zero_le _⟩ (fun r253 σ_253 hp253 => ?_)
                    rw [b4b] at hp253
                    have b253 := hp253.b
                    refine s_if_eq (tgt := 276) C dX4_addName_256 (by decide) (by omega) (fun c256 => ?_) (fun c256 => ?_)
                    · refine J276 σ_253 ?_
                      · rw [eN]; exact xt_f1 (xt_2 hp241.1 e1 hp253 c256) rfl
                    · obtain ⟨w2, e2, hw2⟩ := hp253.one c256
                      have hC2 := hC1.row hD hG ha hp253.1
                      refine s_aload_n C dX4_addName_259 rfl ?_
                      refine s_iload C dX4_addName_260 rfl ?_
                      refine s_aload_n C dX4_addName_262 rfl ?_
                      refine s_iload_n C dX4_addName_263 rfl ?_
                      refine s_iconst C dX4_addName_264 ?_
                      refine s_iadd C dX4_addName_265 ?_
                      refine s_cV3i C dX4_addName_266 lkX4_87 moX4_addName mvX4_addName (IH (by omega) (n := x7_70) hG ha hD (by omega) (by omega) hC2 hw2) hG ⟨_, _, rfl⟩ (by show _ ≤ 2 * k + 5; omega) (Nat.le_of_ble_eq_true rfl) rfl ⟨Nat.zero_le _, Nat.zero_le _⟩ (fun r266 σ_266 hp266 => ?_)
                      have b266 := hp266.b
                      refine s_if_eq (tgt := 276) C dX4_addName_269 (by decide) (by omega) (fun c269 => ?_) (fun c269 => ?_)
                      · refine J276 σ_266 ?_
                        · rw [eN]; exact xt_2 (hp241.1.tr hp253.1) (xt_e e1 e2) hp266 c269
                      · refine s_iconst C dX4_addName_272 ?_
                        refine s_goto (tgt := 277) C dX4_addName_273 (by decide) ?_
                        refine J277 1 σ_266 ?_
                        · rw [eN]; exact xt_2 (hp241.1.tr hp253.1) (xt_e e1 e2) hp266 (by omega)
                · exact J173 (by first | assumption | omega)
            · have eB : nmB D (nmF D k) r33 x6_61 x7_70 = oap (oap (nmF D k x8_96) (some [gB D r33 6])) (prF D (nmF D k) r33 (x6_61 + 1)) := by
                unfold nmB
                rw [if_neg (by omega), if_pos (by omega), ← ex8_96]
              rw [eB] at eN
              refine s_aload_n C dX4_addName_108 rfl ?_
              refine s_iload C dX4_addName_109 rfl ?_
              refine s_aload_n C dX4_addName_111 rfl ?_
              refine s_iload_n C dX4_addName_112 rfl ?_
              refine s_iconst C dX4_addName_113 ?_
              refine s_iadd C dX4_addName_114 ?_
              refine s_cV3i C dX4_addName_115 lkX4_87 moX4_addName mvX4_addName (IH (by omega) (n := x8_96) hG ha hD (by omega) (by omega) hC0 hw) hG ⟨_, _, rfl⟩ (by show _ ≤ 2 * k + 5; omega) (Nat.le_of_ble_eq_true rfl) rfl ⟨Nat.zero_le _, Nat.zero_le _⟩ (fun r115 σ_115 hp115 => ?_)
              have b115 := hp115.b
              have J153 : ∀ (z : Int) (τ : sv_G), (xtP σ τ a z (ext ws (nmF D (k + 1) n))) → SW X E Q 0 0 153 [some (vR G), some (vI n), some (vR a), some (vI d), some (vI r13), some (vR (G + 4 + 8 + (r33).toNat)), some (vI x6_61), some (vI x7_70), some (vI x8_96)] [(vI z)] τ := by
                intro z τ j153_0
                refine s_zret C hR dX4_addName_153 rfl (by exact j153_0.b) ⟨_, rfl, ?_⟩ (by decide)
                exact j153_0
              have J152 : ∀ (τ : sv_G), (xtP σ τ a 0 (ext ws (nmF D (k + 1) n))) → SW X E Q 0 0 152 [some (vR G), some (vI n), some (vR a), some (vI d), some (vI r13), some (vR (G + 4 + 8 + (r33).toNat)), some (vI x6_61), some (vI x7_70), some (vI x8_96)] [] τ := by
                intro τ j152_0
                refine s_iconst C dX4_addName_152 ?_
                refine J153 0 τ ?_
                · exact j152_0
              refine s_if_eq (tgt := 152) C dX4_addName_118 (by decide) (by omega) (fun c118 => ?_) (fun c118 => ?_)
              · refine J152 σ_115 ?_
                · rw [eN]; exact xt_f1 (xt_f1 hp115 c118) rfl
              · obtain ⟨w1, e1, hw1⟩ := hp115.one c118
                have hC1 := hC0.row hD hG ha hp115.1
                have b6b : σ_115 (G + 4 + 8 + (r33).toNat) 6 = gB D r33 6 := hC1.2.2.2.2.1 r33 6 hc.1 hc.2.1 (by omega)
                refine s_aload_n C dX4_addName_121 rfl ?_
                refine s_aload C dX4_addName_122 rfl ?_
                refine s_getI (c := 1) (kz := 6) C fl_4_125 dX4_addName_124 (sha_14 (shc_4_1 hG) (show (r33).toNat < 5 by omega)) rfl rfl (fun g124 => ?_)
                refine s_cN1i C dX4_addName_127 lkX4_107 moX6_add mvX6_add (kX6_addx ha (by omega) hw1) ha ⟨_, _, rfl⟩ (by show _ ≤ 2 * k + 5; omega) (Nat.le_of_ble_eq_true rfl) rfl ⟨Nat.zero_le _, Nat.zero_le _⟩ (fun r127 σ_127 hp127 => ?_)
                rw [b6b] at hp127
                have b127 := hp127.b
                refine s_if_eq (tgt := 152) C dX4_addName_130 (by decide) (by omega) (fun c130 => ?_) (fun c130 => ?_)
                · refine J152 σ_127 ?_
                  · rw [eN]; exact xt_f1 (xt_2 hp115.1 e1 hp127 c130) rfl
                · obtain ⟨w2, e2, hw2⟩ := hp127.one c130
                  have hC2 := hC1.row hD hG ha hp127.1
                  refine s_aload_n C dX4_addName_133 rfl ?_
                  refine s_aload C dX4_addName_134 rfl ?_
                  refine s_iload C dX4_addName_136 rfl ?_
                  refine s_iconst C dX4_addName_138 ?_
                  refine s_iadd C dX4_addName_139 ?_
                  refine s_aload_n C dX4_addName_140 rfl ?_
                  refine s_iload_n C dX4_addName_141 rfl ?_
                  refine s_cV4i C dX4_addName_142 lkX4_118 moX4_addProduct mvX4_addProduct (kX4_addProduct hk IH hG hD hC2 (p := r33) (m := x6_61 + 1) ⟨hc.1, hc.2.1⟩ (by omega) ha hd hw2) hG ⟨_, _, rfl⟩ (by show _ ≤ 2 * k + 5; omega) (Nat.le_of_ble_eq_true rfl) rfl ⟨Nat.zero_le _, Nat.zero_le _⟩ (fun r142 σ_142 hp142 => ?_)
                  have b142 := hp142.b
                  refine s_if_eq (tgt := 152) C dX4_addName_145 (by decide) (by omega) (fun c145 => ?_) (fun c145 => ?_)
                  · refine J152 σ_142 ?_
                    · rw [eN]; exact xt_2 (hp115.1.tr hp127.1) (xt_e e1 e2) hp142 c145
                  · refine s_iconst C dX4_addName_148 ?_
                    refine s_goto (tgt := 153) C dX4_addName_149 (by decide) ?_
                    refine J153 1 σ_142 ?_
                    · rw [eN]; exact xt_2 (hp115.1.tr hp127.1) (xt_e e1 e2) hp142 (by omega)
          · have eB : nmB D (nmF D k) r33 x6_61 x7_70 = prF D (nmF D k) r33 x6_61 := by
              unfold nmB
              rw [if_pos (by omega)]
            rw [eB] at eN
            refine s_aload_n C dX4_addName_77 rfl ?_
            refine s_aload C dX4_addName_78 rfl ?_
            refine s_iload C dX4_addName_80 rfl ?_
            refine s_aload_n C dX4_addName_82 rfl ?_
            refine s_iload_n C dX4_addName_83 rfl ?_
            refine s_cV4i C dX4_addName_84 lkX4_118 moX4_addProduct mvX4_addProduct (kX4_addProduct hk IH hG hD hC0 (p := r33) (m := x6_61) ⟨hc.1, hc.2.1⟩ (by omega) ha hd hw) hG ⟨_, _, rfl⟩ (by show _ ≤ 2 * k + 5; omega) (Nat.le_of_ble_eq_true rfl) rfl ⟨Nat.zero_le _, Nat.zero_le _⟩ (fun r84 σ_84 hp84 => ?_)
            refine s_zret C hR dX4_addName_87 rfl (by exact hp84.b) ⟨_, rfl, ?_⟩ (by decide)
            rw [eN]; exact hp84
        · exfalso; omega -- done
    · have e0 : nmF D (k + 1) n = some [r13] := by
        show nmU D (nmF D k) n = _
        unfold nmU
        rw [if_pos (by omega), hp13]
      refine s_aload_n C dX4_addName_24 rfl ?_
      refine s_iload C dX4_addName_25 rfl ?_
      refine s_cN1i C dX4_addName_27 lkX4_107 moX6_add mvX6_add (kX6_addx ha (by omega) hw) ha ⟨_, _, rfl⟩ (by show _ ≤ 2 * k + 5; omega) (Nat.le_of_ble_eq_true rfl) rfl ⟨Nat.zero_le _, Nat.zero_le _⟩ (fun r27 σ_27 hp27 => ?_)
      refine s_zret C hR dX4_addName_30 rfl (by exact hp27.b) ⟨_, rfl, ?_⟩ (by decide)
      rw [e0]; exact hp27
  · exfalso; omega -- done
set_option maxRecDepth 100000 in
set_option maxHeartbeats 8000000 in
theorem kX4_addName_z {E : sv_E} {σ : sv_G} {G a : Nat} (hG : shp G = (4, 0)) (ha : shp a = (6, 0)) {n d : Int} (hn : 0 ≤ n ∧ n ≤ 9999) (hd : d = 41) {ws : List Int} (hw : Rw σ a ws) : CT E MX4_addName 3 [(vR G), (vI n), (vR a), (vI d)] σ (PI fun r σ9 => xtP σ σ9 a r none) := by
  refine CT.of (RX4, cX4_addName, 9, (some .boolean), [], 3, 0, 0) rfl moX4_addName (Nat.le_of_ble_eq_true rfl) (ls0 := [some (vR G), some (vI n), some (vR a), some (vI d), none, none, none, none, none]) rfl ?_
  intro X Q C hR
  refine s_iload_n C dX4_addName_0 rfl ?_
  refine s_bipush C dX4_addName_1 (by decide) ?_
  refine s_icmp_le (tgt := 8) C dX4_addName_3 (by decide) (by omega) (by omega) (fun c3 => ?_) (fun c3 => ?_)
  · exfalso; omega -- done
  · refine s_iconst C dX4_addName_6 ?_
    refine s_zret C hR dX4_addName_7 rfl (by omega) ⟨_, rfl, ?_⟩ (by decide)
    exact xt_no frR.rf hw
theorem nmC_all {E : sv_E} : ∀ k : Nat, nmC E k
  | 0 => by
    intro hk σ G a D n d ws hG ha hD hn hd hC hw
    exact kX4_addName_z hG ha hn (by omega) hw
  | k + 1 => by
    intro hk σ G a D n d ws hG ha hD hn hd hC hw
    exact kX4_addName_s (by omega) (nmC_all k) hG hD hC ha hn (by omega) hw
theorem kX4_addName {E : sv_E} {σ : sv_G} {G a : Nat} {D : gd_T} {n : Int} {ws : List Int} (hG : shp G = (4, 0)) (ha : shp a = (6, 0)) (hD : GDok D) (hn : 0 ≤ n ∧ n ≤ 9999) (hC : RC σ G D) (hw : Rw σ a ws) : CT E MX4_addName 85 [vR G, vI n, vR a, vI 0] σ (PI fun r σ9 => xtP σ σ9 a r (ext ws (nm D n))) :=
  nmC_all 41 (by decide) hG ha hD hn (by decide) hC hw
