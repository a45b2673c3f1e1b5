/-! The constructors with loops. -/
theorem g0_10 {b : Nat} (hb : b = 21 ∨ b = 225) (hs : ¬ ((shp b).1 = 1 ∨ (shp b).1 = 4)) (k : Int) : g0 b k = if 0 ≤ k ∧ k < 6 then 10 else 0 := by
  unfold g0
  rw [if_neg (fun z => hs z.1)]
  by_cases q : 0 ≤ k ∧ k < 6
  · rw [if_pos q, if_pos ⟨hb, q⟩]
  · rw [if_neg q, if_neg (fun z => q z.2), if_neg (fun z => by omega)]
theorem g0_21 (k : Int) : g0 21 k = if 0 ≤ k ∧ k < 6 then 10 else 0 := g0_10 (Or.inl rfl) (by decide +kernel) k
theorem g0_225 (k : Int) : g0 225 k = if 0 ≤ k ∧ k < 6 then 10 else 0 := g0_10 (Or.inr rfl) (by decide +kernel) k
theorem g0_211 (k : Int) : g0 211 k = if 0 ≤ k ∧ k < 4 then -1 else 0 := by
  unfold g0
  rw [if_neg (fun z => absurd z.1 (by decide +kernel : ¬ ((shp 211).1 = 1 ∨ (shp 211).1 = 4))), if_neg (fun z => absurd z.1 (by decide))]
  by_cases q : 0 ≤ k ∧ k < 4
  · rw [if_pos q, if_pos ⟨rfl, q⟩]
  · rw [if_neg q, if_neg (fun z => q z.2)]
set_option maxRecDepth 100000 in
set_option maxHeartbeats 8000000 in
theorem kX4_init {E : sv_E} {σ : sv_G} {As : Nat → Nat → Bool} {a : Nat} (ha : shp a = (4, 0)) (hF : Fr σ As a) : KC E MX4_init 2 16 235 [vR a] (a + 1, σ, As) (fun K9 => K9.1 = a + 17 ∧ CP a 17 σ As K9.2.1 K9.2.2) := by
  refine KC.of (RX4, cX4_init, 2, none, [], 2, 16, 235) rfl moX4_init (Nat.le_of_ble_eq_true rfl) (ls0 := [some (vR a), none]) rfl ?_
  intro X Q C hI hQ
  have hid := id_4 ha
  have L75 : ∀ (d m : Nat) (σ9 : sv_G) (As9 : Nat → Nat → Bool), m + d = 5 → St a (fun k => if k = (4 : Int) then (-1 : Int) else (fun _ => 0) k) [7, 6, 5, 3, 1, 0] [a + 4] [(a + 4, m)] σ As σ9 As9 (a + 12 + m) → KW X E Q (11 + 1 * m) (200 + 7 * m) 75 [some (vR a), some (vI (m : Int))] [] (a + 12 + m, σ9, As9) := by
    intro d
    induction d with
    | zero =>
      intro m σ9 As9 hm hT0
      refine k_iload_n C dX4_init_75 rfl ?_
      refine k_iconst C dX4_init_76 ?_
      refine k_icmp_ge (tgt := 99) C dX4_init_77 (by decide) (by omega) (by omega) (fun c9 => ?_) (fun c9 => ?_)
      · refine k_vret C hQ dX4_init_99 rfl ⟨by show a + 12 + m = a + 17; omega, St.fin (σ := σ9) (As := As9) hT0 (fun k => ?_) (fun k hk => ?_) (fun b hb => ?_) (by omega)⟩ (by constructor <;> omega)
        · unfold g0
          rw [ha]
          by_cases q : k = 4
          · rw [if_pos q, if_pos ⟨Or.inr rfl, q⟩]
          · rw [if_neg q, if_neg (fun z => q z.2), if_neg (by omega), if_neg (by omega)]
        · obtain ⟨k1, k2, k3⟩ := isR_o ha (by decide) hk
          rcases rk_4 k k1 k2 k3 with q | q | q | q | q | q <;> rw [q] <;> decide
        · rw [List.mem_singleton.mp hb]
          refine ⟨fun k => g0_z (by rw [shc_4_1 ha]; show (14 : Nat) ≠ 1; decide) (by rw [shc_4_1 ha]; show (14 : Nat) ≠ 4; decide) (by omega) (by omega) (by omega), 5, ?_, fun k hk => isR_a (t := 4) (shc_4_1 ha) (by decide) hk⟩
          rw [show (5 : Nat) = m by omega]; exact List.mem_cons_self
      · exfalso; omega
    | succ d ih =>
      intro m σ9 As9 hm hT0
      refine k_iload_n C dX4_init_75 rfl ?_
      refine k_iconst C dX4_init_76 ?_
      refine k_icmp_ge (tgt := 99) C dX4_init_77 (by decide) (by omega) (by omega) (fun c9 => ?_) (fun c9 => ?_)
      · exfalso; omega
      · have hsm : shp (a + 12 + m) = (1, 0) := by
          have z := sha_14 (shc_4_1 ha) (k := m) (by omega)
          rwa [show a + 4 + 8 + m = a + 12 + m by omega] at z
        refine k_aload_n C dX4_init_80 rfl ?_
        refine k_getR C cl_4 (by decide) kf_4_20 dX4_init_81 ha (by omega) (by decide +kernel) (by decide +kernel) (hT0.2.2.1 1 (by decide)) (rfc_4_1 ha) ?_
        refine k_iload_n C dX4_init_84 rfl ?_
        refine k_new C dX4_init_85 hsm cl_1 kc_X4_18 kn_1 kz_1 nl_1 (fun k => (hT0.2.2.2.2.2.2.1 (a + 12 + m) (by omega)).1 k) (hT0.2.2.2.2.2.2.1 (a + 12 + m) (by omega)).2 (show 11 + 1 * m + 1 ≤ 16 ∧ 200 + 7 * m + 7 ≤ 235 by omega) ?_
        show KW X E Q _ _ _ _ _ (a + 12 + m + 1, σ9, As9)
        refine k_dup C dX4_init_88 rfl ?_
        refine k_cIN C dX4_init_89 ki_X4_51 moX1_init (kX1_init hsm (hT0.2.2.2.2.2.2.1.le (by omega))) (by decide) (Nat.le_of_ble_eq_true rfl) (show 11 + 1 * m + 1 + 0 ≤ 16 ∧ 200 + 7 * m + 7 + 0 ≤ 235 by omega) (fun K89 hp89 => ?_)
        obtain ⟨n89, σ89, As89⟩ := K89
        obtain ⟨hn89, hcp89⟩ := hp89
        replace hn89 : n89 = a + 12 + m + 1 := hn89
        replace hcp89 : CP (a + 12 + m) 1 σ9 As9 σ89 As89 := hcp89
        subst hn89
        have hF89 := hcp89.2.2
        show KW X E Q _ _ _ _ _ (a + 12 + m + 1, σ89, As89)
        have hT1 := hT0.o hcp89
        refine k_aast (t := 4) (N9 := 5) (c9 := 1) C dX4_init_92 (by decide) (shc_4_1 ha) (by omega) ⟨by omega, by omega⟩ (by have z := rfa_14 (shc_4_1 ha) (k := m) (by omega); show rfs (a + 4) m = a + 12 + m; omega) (by omega) hsm cl_1 rfl ?_
        show KW X E Q _ _ _ _ _ (a + 12 + m + 1, σ89, asS As89 (a + 4) m)
        have hT2 := hT1.c1 (by simp)
        refine k_iinc (z2 := ((m + 1 : Nat) : Int)) (ls2 := [some (vR a), some (vI (((m + 1 : Nat) : Int)))]) C dX4_init_93 (by decide) rfl (by omega) rfl ?_
        refine k_goto (tgt := 75) C dX4_init_96 (by decide) ?_
        exact k_uw (by omega) (by omega) (by omega) (ih (m + 1) _ _ (by omega) hT2)
  have hT0 := St.init hF
  refine k_aload_n C dX4_init_0 rfl ?_
  refine k_obj C dX4_init_1 ko_4 (by decide) (Nat.le_of_ble_eq_true rfl) ?_
  show KW X E Q _ _ _ _ _ (a + 1, σ, As)
  refine k_aload_n C dX4_init_4 rfl ?_
  refine k_new C dX4_init_5 (shc_4_0 ha) cl_0 kc_X4_9 kn_0 kz_0 nl_0 (fun k => (hT0.2.2.2.2.2.2.1 (a + 1) (by omega)).1 k) (hT0.2.2.2.2.2.2.1 (a + 1) (by omega)).2 (show 0 + 1 ≤ 16 ∧ 0 + 3 ≤ 235 by omega) ?_
  show KW X E Q _ _ _ _ _ (a + 2, σ, As)
  refine k_dup C dX4_init_8 rfl ?_
  refine k_cIN C dX4_init_9 ki_X4_11 moX0_init (kX0_init (shc_4_0 ha) (hT0.2.2.2.2.2.2.1.le (by omega)) (by omega)) (by decide) (Nat.le_of_ble_eq_true rfl) (show 1 + 2 ≤ 16 ∧ 3 + 80 ≤ 235 by omega) (fun K9 hp9 => ?_)
  obtain ⟨n9, σ9, As9⟩ := K9
  obtain ⟨hn9, hcp9⟩ := hp9
  replace hn9 : n9 = a + 4 := hn9
  replace hcp9 : CP (a + 1) 3 σ As σ9 As9 := hcp9
  subst hn9
  have hF9 := hcp9.2.2
  show KW X E Q _ _ _ _ _ (a + 4, σ9, As9)
  have hT1 := hT0.o hcp9
  refine k_putR (ty9 := tyX4 0) C hI cl_4 (by decide) kf_4_12 dX4_init_12 ha (by omega) (by decide +kernel) (by decide +kernel) rfl (rfc_4_0 ha) rfl (tyX4_ok 0 (by decide)) (fun _ => rfl) (fun _ => rfl) ?_
  have hFp12 := hT1.2.2.2.2.2.2.1.as (a := a) (k := 0) (by omega)
  show KW X E Q _ _ _ _ _ (a + 4, σ9, asS As9 a 0)
  have hT2 := hT1.as (k9 := 0)
  refine k_aload_n C dX4_init_15 rfl ?_
  refine k_iconst C dX4_init_16 ?_
  refine k_newq (t := 4) (N9 := 5) C dX4_init_17 (by decide) (shc_4_1 ha) rfl kc_X4_18 (by decide) (by decide +kernel) (by decide +kernel) (Nat.le_of_ble_eq_true rfl) (hT2.2.2.2.2.2.2.1 (a + 4) (by omega)).2 (show 3 + 1 ≤ 16 ∧ 83 + 5 ≤ 235 by omega) ?_
  show KW X E Q _ _ _ _ _ (a + 5, σ9, asS As9 a 0)
  have hT3 := hT2.q
  refine k_putR (ty9 := tyX4 1) C hI cl_4 (by decide) kf_4_20 dX4_init_20 ha (by omega) (by decide +kernel) (by decide +kernel) rfl (rfc_4_1 ha) rfl (tyX4_ok 1 (by decide)) (fun _ => rfl) (fun _ => rfl) ?_
  have hFp20 := hT3.2.2.2.2.2.2.1.as (a := a) (k := 1) (by omega)
  show KW X E Q _ _ _ _ _ (a + 5, σ9, asS (asS As9 a 0) a 1)
  have hT4 := hT3.as (k9 := 1)
  refine k_aload_n C dX4_init_23 rfl ?_
  refine k_iconst C dX4_init_24 ?_
  refine k_putI (kz := 2) C cl_4 (by decide) kf_4_24 dX4_init_25 ha (by omega) (by decide +kernel) rfl rfl ?_
  refine k_up0 ((hT4.2.1 2)) ?_
  show KW X E Q _ _ _ _ _ (a + 5, σ9, asS (asS As9 a 0) a 1)
  refine k_aload_n C dX4_init_28 rfl ?_
  refine k_new C dX4_init_29 (shc_4_3 ha) cl_3 kc_X4_28 kn_3 kz_3 nl_3 (fun k => (hT4.2.2.2.2.2.2.1 (a + 5) (by omega)).1 k) (hT4.2.2.2.2.2.2.1 (a + 5) (by omega)).2 (show 4 + 1 ≤ 16 ∧ 88 + 4 ≤ 235 by omega) ?_
  show KW X E Q _ _ _ _ _ (a + 6, σ9, asS (asS As9 a 0) a 1)
  refine k_dup C dX4_init_32 rfl ?_
  refine k_cIN C dX4_init_33 ki_X4_30 moX3_init (kX3_init (shc_4_3 ha) (hT4.2.2.2.2.2.2.1.le (by omega)) (by omega)) (by decide) (Nat.le_of_ble_eq_true rfl) (show 5 + 3 ≤ 16 ∧ 92 + 90 ≤ 235 by omega) (fun K33 hp33 => ?_)
  obtain ⟨n33, σ33, As33⟩ := K33
  obtain ⟨hn33, hcp33⟩ := hp33
  replace hn33 : n33 = a + 9 := hn33
  replace hcp33 : CP (a + 5) 4 σ9 (asS (asS As9 a 0) a 1) σ33 As33 := hcp33
  subst hn33
  have hF33 := hcp33.2.2
  show KW X E Q _ _ _ _ _ (a + 9, σ33, As33)
  have hT5 := hT4.o hcp33
  refine k_putR (ty9 := tyX4 3) C hI cl_4 (by decide) kf_4_31 dX4_init_36 ha (by omega) (by decide +kernel) (by decide +kernel) rfl (rfc_4_3 ha) rfl (tyX4_ok 3 (by decide)) (fun _ => rfl) (fun _ => rfl) ?_
  have hFp36 := hT5.2.2.2.2.2.2.1.as (a := a) (k := 3) (by omega)
  show KW X E Q _ _ _ _ _ (a + 9, σ33, asS As33 a 3)
  have hT6 := hT5.as (k9 := 3)
  refine k_aload_n C dX4_init_39 rfl ?_
  refine k_iconst C dX4_init_40 ?_
  refine k_putI (kz := 4) C cl_4 (by decide) kf_4_35 dX4_init_41 ha (by omega) (by decide +kernel) rfl rfl ?_
  have hFp41 := hT6.2.2.2.2.2.2.1.up (a := a) (k := 4) (z := -1) (by omega)
  show KW X E Q _ _ _ _ _ (a + 9, up σ33 a 4 (-1), asS As33 a 3)
  have hT7 := hT6.up (k9 := 4) (z9 := (-1))
  refine k_aload_n C dX4_init_44 rfl ?_
  refine k_bipush C dX4_init_45 (by decide) ?_
  refine k_newaI (N9 := 6) C dX4_init_47 (shc_4_5 ha) ac_I (by decide +kernel) (by decide +kernel) (Nat.le_of_ble_eq_true rfl) (hT7.2.2.2.2.2.2.1 (a + 9) (by omega)).1 (show 8 + 1 ≤ 16 ∧ 182 + 6 ≤ 235 by omega) ?_
  show KW X E Q _ _ _ _ _ (a + 10, up σ33 a 4 (-1), asS As33 a 3)
  have hT8 := hT7.i (shc_4_5 ha) (by omega)
  refine k_putR (ty9 := tyX4 5) C hI cl_4 (by decide) kf_4_38 dX4_init_49 ha (by omega) (by decide +kernel) (by decide +kernel) rfl (rfc_4_5 ha) rfl (tyX4_ok 5 (by decide)) (fun _ => rfl) (fun _ => rfl) ?_
  have hFp49 := hT8.2.2.2.2.2.2.1.as (a := a) (k := 5) (by omega)
  show KW X E Q _ _ _ _ _ (a + 10, up σ33 a 4 (-1), asS (asS As33 a 3) a 5)
  have hT9 := hT8.as (k9 := 5)
  refine k_aload_n C dX4_init_52 rfl ?_
  refine k_bipush C dX4_init_53 (by decide) ?_
  refine k_newaI (N9 := 6) C dX4_init_55 (shc_4_6 ha) ac_I (by decide +kernel) (by decide +kernel) (Nat.le_of_ble_eq_true rfl) (hT9.2.2.2.2.2.2.1 (a + 10) (by omega)).1 (show 9 + 1 ≤ 16 ∧ 188 + 6 ≤ 235 by omega) ?_
  show KW X E Q _ _ _ _ _ (a + 11, up σ33 a 4 (-1), asS (asS As33 a 3) a 5)
  have hT10 := hT9.i (shc_4_6 ha) (by omega)
  refine k_putR (ty9 := tyX4 6) C hI cl_4 (by decide) kf_4_42 dX4_init_57 ha (by omega) (by decide +kernel) (by decide +kernel) rfl (rfc_4_6 ha) rfl (tyX4_ok 6 (by decide)) (fun _ => rfl) (fun _ => rfl) ?_
  have hFp57 := hT10.2.2.2.2.2.2.1.as (a := a) (k := 6) (by omega)
  show KW X E Q _ _ _ _ _ (a + 11, up σ33 a 4 (-1), asS (asS (asS As33 a 3) a 5) a 6)
  have hT11 := hT10.as (k9 := 6)
  refine k_aload_n C dX4_init_60 rfl ?_
  refine k_bipush C dX4_init_61 (by decide) ?_
  refine k_newaI (N9 := 6) C dX4_init_63 (shc_4_7 ha) ac_I (by decide +kernel) (by decide +kernel) (Nat.le_of_ble_eq_true rfl) (hT11.2.2.2.2.2.2.1 (a + 11) (by omega)).1 (show 10 + 1 ≤ 16 ∧ 194 + 6 ≤ 235 by omega) ?_
  show KW X E Q _ _ _ _ _ (a + 12, up σ33 a 4 (-1), asS (asS (asS As33 a 3) a 5) a 6)
  have hT12 := hT11.i (shc_4_7 ha) (by omega)
  refine k_putR (ty9 := tyX4 7) C hI cl_4 (by decide) kf_4_45 dX4_init_65 ha (by omega) (by decide +kernel) (by decide +kernel) rfl (rfc_4_7 ha) rfl (tyX4_ok 7 (by decide)) (fun _ => rfl) (fun _ => rfl) ?_
  have hFp65 := hT12.2.2.2.2.2.2.1.as (a := a) (k := 7) (by omega)
  show KW X E Q _ _ _ _ _ (a + 12, up σ33 a 4 (-1), asS (asS (asS (asS As33 a 3) a 5) a 6) a 7)
  have hT13 := hT12.as (k9 := 7)
  refine k_aload_n C dX4_init_68 rfl ?_
  refine k_iconst C dX4_init_69 ?_
  refine k_putI (kz := 8) C cl_4 (by decide) kf_4_48 dX4_init_70 ha (by omega) (by decide +kernel) rfl rfl ?_
  refine k_up0 ((hT13.2.1 8).trans (if_neg (by decide))) ?_
  show KW X E Q _ _ _ _ _ (a + 12, up σ33 a 4 (-1), asS (asS (asS (asS As33 a 3) a 5) a 6) a 7)
  refine k_iconst C dX4_init_73 ?_
  refine k_istore_n (ls2 := [some (vR a), some (vI 0)]) C dX4_init_74 (by decide) rfl ?_
  exact k_uw rfl rfl rfl (L75 5 0 _ _ rfl (hT13.c0 ⟨by omega, by omega⟩))
set_option maxRecDepth 100000 in
set_option maxHeartbeats 8000000 in
theorem kX2_init {E : sv_E} {σ : sv_G} {As : Nat → Nat → Bool} (hF : Fr σ As 20) : KC E MX2_init 1 2 12 [vR 20] (21, σ, As) (fun K9 => K9.1 = 23 ∧ CP 20 3 σ As K9.2.1 K9.2.2) := by
  refine KC.of (RX2, cX2_init, 2, none, [], 1, 2, 12) rfl moX2_init (Nat.le_of_ble_eq_true rfl) (ls0 := [some (vR 20), none]) rfl ?_
  intro X Q C hI hQ
  have hT0 := St.init hF
  refine k_aload_n C dX2_init_0 rfl ?_
  refine k_obj C dX2_init_1 ko_2 (by decide) (Nat.le_of_ble_eq_true rfl) ?_
  show KW X E Q _ _ _ _ _ (21, σ, As)
  refine k_aload_n C dX2_init_4 rfl ?_
  refine k_bipush C dX2_init_5 (by decide) ?_
  refine k_newaI (N9 := 6) C dX2_init_7 sh_21 ac_I (by decide +kernel) (by decide +kernel) (Nat.le_of_ble_eq_true rfl) (hT0.2.2.2.2.2.2.1 21 (by omega)).1 (show 0 + 1 ≤ 2 ∧ 0 + 6 ≤ 12 by omega) ?_
  show KW X E Q _ _ _ _ _ (22, σ, As)
  have hT1 := hT0.q
  refine k_putR (ty9 := tyX2 0) C hI cl_2 (by decide) kf_2_9 dX2_init_9 sh_20 (by omega) (by decide +kernel) (by decide +kernel) rfl rf_20_0 rfl (tyX2_ok 0 (by decide)) (fun _ => rfl) (fun _ => rfl) ?_
  have hFp9 := hT1.2.2.2.2.2.2.1.as (a := 20) (k := 0) (by omega)
  show KW X E Q _ _ _ _ _ (22, σ, asS As 20 0)
  have hT2 := hT1.as (k9 := 0)
  refine k_aload_n C dX2_init_12 rfl ?_
  refine k_bipush C dX2_init_13 (by decide) ?_
  refine k_newaI (N9 := 6) C dX2_init_15 sh_22 ac_I (by decide +kernel) (by decide +kernel) (Nat.le_of_ble_eq_true rfl) (hT2.2.2.2.2.2.2.1 22 (by omega)).1 (show 1 + 1 ≤ 2 ∧ 6 + 6 ≤ 12 by omega) ?_
  show KW X E Q _ _ _ _ _ (23, σ, asS As 20 0)
  have hT3 := hT2.i sh_22 (by omega)
  refine k_putR (ty9 := tyX2 1) C hI cl_2 (by decide) kf_2_15 dX2_init_17 sh_20 (by omega) (by decide +kernel) (by decide +kernel) rfl rf_20_1 rfl (tyX2_ok 1 (by decide)) (fun _ => rfl) (fun _ => rfl) ?_
  have hFp17 := hT3.2.2.2.2.2.2.1.as (a := 20) (k := 1) (by omega)
  show KW X E Q _ _ _ _ _ (23, σ, asS (asS As 20 0) 20 1)
  have hT4 := hT3.as (k9 := 1)
  refine k_aload_n C dX2_init_20 rfl ?_
  refine k_lconst C dX2_init_21 ?_
  refine k_putL (kz := 2) C cl_2 (by decide) kf_2_18 dX2_init_22 sh_20 (by omega) (by decide +kernel) rfl rfl ?_
  refine k_up0 ((hT4.2.1 2)) ?_
  show KW X E Q _ _ _ _ _ (23, σ, asS (asS As 20 0) 20 1)
  refine k_iconst C dX2_init_25 ?_
  refine k_istore_n (ls2 := [some (vR 20), some (vI 0)]) C dX2_init_26 (by decide) rfl ?_
  have L27 : ∀ (d m : Nat) (σ9 : sv_G), m + d = 6 → (∀ b k, b ≠ 21 → σ9 b k = σ b k) → (∀ k : Int, σ9 21 k = if 0 ≤ k ∧ k < m then 10 else 0) → KW X E Q 2 12 27 [some (vR 20), some (vI (m : Int))] [] (23, σ9, asS (asS As 20 0) 20 1) := by
    intro d
    induction d with
    | zero =>
      intro m σ9 hm h1 h2
      refine k_iload_n C dX2_init_27 rfl ?_
      refine k_bipush C dX2_init_28 (by decide) ?_
      refine k_icmp_ge (tgt := 47) C dX2_init_30 (by decide) (by omega) (by omega) (fun c9 => ?_) (fun c9 => ?_)
      · refine k_vret C hQ dX2_init_47 rfl ⟨rfl, fun b hb => ⟨by funext k; exact (h1 b k (by omega)).trans (congrFun (hT4.1 b hb).1 k), (hT4.1 b hb).2⟩, fun b b1 b2 => ?_, fun b hb => ⟨fun k => (h1 b k (by omega)).trans ((hT4.2.2.2.2.2.2.1 b (by omega)).1 k), (hT4.2.2.2.2.2.2.1 b (by omega)).2⟩⟩ (by constructor <;> decide)
        have hb : b = 20 ∨ b = 21 ∨ b = 22 := by omega
        rcases hb with hb | hb | hb
        · rw [hb]
          refine ⟨fun k => ?_, fun k hk => ?_⟩
          · show σ9 20 k = _
            rw [h1 20 k (by decide), hT4.2.1 k, g0_z (by decide +kernel) (by decide +kernel) (by decide) (by decide) (by decide)]
          · obtain ⟨k1, k2, k3⟩ := isR_o sh_20 (by decide) hk
            rcases rk_2 k k1 k2 k3 with q | q
            · rw [q]; exact hT4.2.2.1 0 (by decide)
            · rw [q]; exact hT4.2.2.1 1 (by decide)
        · rw [hb]
          refine ⟨fun k => ?_, fun k hk => (isR_i sh_21 hk).elim⟩
          show σ9 21 k = _
          rw [h2 k, g0_21, show (m : Int) = 6 by omega]
        · rw [hb]
          have z := hT4.2.2.2.1 22 (by decide) (by decide) (by decide)
          exact ⟨fun k => (h1 22 k (by decide)).trans (z.1 k), z.2⟩
      · exfalso; omega
    | succ d ih =>
      intro m σ9 hm h1 h2
      refine k_iload_n C dX2_init_27 rfl ?_
      refine k_bipush C dX2_init_28 (by decide) ?_
      refine k_icmp_ge (tgt := 47) C dX2_init_30 (by decide) (by omega) (by omega) (fun c9 => ?_) (fun c9 => ?_)
      · exfalso; omega
      ·
        refine k_aload_n C dX2_init_33 rfl ?_
        refine k_getR C cl_2 (by decide) kf_2_9 dX2_init_34 sh_20 (by omega) (by decide +kernel) (by decide +kernel) (hT4.2.2.1 0 (by decide)) rf_20_0 ?_
        refine k_iload_n C dX2_init_37 rfl ?_
        refine k_bipush C dX2_init_38 (by decide) ?_
        refine k_iast (N9 := 6) C dX2_init_40 sh_21 (by omega) ⟨by omega, by omega⟩ ?_
        show KW X E Q _ _ _ _ _ (23, up σ9 21 (m : Int) 10, asS (asS As 20 0) 20 1)
        refine k_iinc (z2 := ((m + 1 : Nat) : Int)) (ls2 := [some (vR 20), some (vI (((m + 1 : Nat) : Int)))]) C dX2_init_41 (by decide) rfl (by omega) rfl ?_
        refine k_goto (tgt := 27) C dX2_init_44 (by decide) ?_
        refine k_uw rfl rfl rfl (ih (m + 1) _ (by omega) (fun b k hb => by rw [up_a hb]; exact h1 b k hb) (fun k => ?_))
        rw [up_i, h2]
        by_cases q : k = (m : Int)
        · rw [if_pos q, if_pos (by omega)]
        · rw [if_neg q]
          by_cases q2 : 0 ≤ k ∧ k < (m : Int)
          · rw [if_pos q2, if_pos (by omega)]
          · rw [if_neg q2, if_neg (by omega)]
  exact k_uw rfl rfl rfl (L27 6 0 _ rfl (fun _ _ _ => rfl) (fun k => by rw [if_neg (by omega)]; exact hT4.2.2.2.2.1 21 (by decide) |>.2.2 k))
set_option maxRecDepth 100000 in
set_option maxHeartbeats 8000000 in
theorem kX7_init {E : sv_E} {σ : sv_G} {As : Nat → Nat → Bool} (hF : Fr σ As 0) : KC E MX7_init 3 194 8610 [vR 0] (1, σ, As) (fun K9 => K9.1 = 195 ∧ CP 0 195 σ As K9.2.1 K9.2.2) := by
  refine KC.of (RX7, cX7_init, 2, none, [], 3, 194, 8610) rfl moX7_init (Nat.le_of_ble_eq_true rfl) (ls0 := [some (vR 0), none]) rfl ?_
  intro X Q C hI hQ
  have L189 : ∀ (d m : Nat) (σ9 : sv_G) (As9 : Nat → Nat → Bool), m + d = 32 → St 0 (fun _ => 0) [13, 12, 11, 9, 8, 7, 6, 5, 4, 3, 2, 1, 0] [19, 17, 1] [(19, m), (17, 20), (1, 4)] σ As σ9 As9 (131 + 2 * m) → KW X E Q (130 + 2 * m) (7906 + 22 * m) 189 [some (vR 0), some (vI (m : Int))] [] (131 + 2 * m, σ9, As9) := by
    intro d
    induction d with
    | zero =>
      intro m σ9 As9 hm hT0
      refine k_iload_n C dX7_init_189 rfl ?_
      refine k_bipush C dX7_init_190 (by decide) ?_
      refine k_icmp_ge (tgt := 214) C dX7_init_192 (by decide) (by omega) (by omega) (fun c9 => ?_) (fun c9 => ?_)
      · refine k_vret C hQ dX7_init_214 rfl ⟨by show 131 + 2 * m = 195; omega, St.fin (σ := σ9) (As := As9) hT0 (fun k => (g0_z (by decide +kernel) (by decide +kernel) (by decide) (by decide) (by decide)).symm) (fun k hk => ?_) (fun b hb => ?_) (by omega)⟩ (by constructor <;> omega)
        · obtain ⟨k1, k2, k3⟩ := isR_o sh_0 (by decide) hk
          exact (by decide +kernel : ∀ k ∈ ([0, 1, 2, 3, 4, 5, 6, 7, 8, 9, 11, 12, 13] : List Nat), k ∈ ([13, 12, 11, 9, 8, 7, 6, 5, 4, 3, 2, 1, 0] : List Nat)) k (rk_7 k k1 k2 k3)
        · have hm32 : m = 32 := by omega
          subst hm32
          have hb3 : b = 19 ∨ b = 17 ∨ b = 1 := by simpa using hb
          rcases hb3 with q | q | q
          · rw [q]; exact ⟨fun k => g0_z (by decide +kernel) (by decide +kernel) (by decide) (by decide) (by decide), 32, by decide, fun k hk => isR_a (t := 3) sh_19 (by decide) hk⟩
          · rw [q]; exact ⟨fun k => g0_z (by decide +kernel) (by decide +kernel) (by decide) (by decide) (by decide), 20, by decide, fun k hk => isR_a (t := 3) sh_17 (by decide) hk⟩
          · rw [q]; exact ⟨fun k => g0_z (by decide +kernel) (by decide +kernel) (by decide) (by decide) (by decide), 4, by decide, fun k hk => isR_a (t := 2) sh_1 (by decide) hk⟩
      · exfalso; omega
    | succ d ih =>
      intro m σ9 As9 hm hT0
      refine k_iload_n C dX7_init_189 rfl ?_
      refine k_bipush C dX7_init_190 (by decide) ?_
      refine k_icmp_ge (tgt := 214) C dX7_init_192 (by decide) (by omega) (by omega) (fun c9 => ?_) (fun c9 => ?_)
      · exfalso; omega
      · have hsm : shp (131 + 2 * m) = (6, 0) := sha_19 (by omega)
        refine k_aload_n C dX7_init_195 rfl ?_
        refine k_getR C cl_7 (by decide) kf_7_59 dX7_init_196 sh_0 (by omega) (by decide +kernel) (by decide +kernel) (hT0.2.2.1 12 (by decide)) rf_0_12 ?_
        refine k_iload_n C dX7_init_199 rfl ?_
        refine k_new C dX7_init_200 hsm cl_6 kc_X7_15 kn_6 kz_6 nl_6 (fun k => (hT0.2.2.2.2.2.2.1 (131 + 2 * m) (by omega)).1 k) (hT0.2.2.2.2.2.2.1 (131 + 2 * m) (by omega)).2 (show 130 + 2 * m + 1 ≤ 194 ∧ 7906 + 22 * m + 2 ≤ 8610 by omega) ?_
        show KW X E Q _ _ _ _ _ (131 + 2 * m + 1, σ9, As9)
        refine k_dup C dX7_init_203 rfl ?_
        refine k_cIN C dX7_init_204 ki_X7_17 moX6_init (kX6_init hsm (hT0.2.2.2.2.2.2.1.le (by omega)) (by omega)) (by decide) (Nat.le_of_ble_eq_true rfl) (show 130 + 2 * m + 1 + 1 ≤ 194 ∧ 7906 + 22 * m + 2 + 20 ≤ 8610 by omega) (fun K204 hp204 => ?_)
        obtain ⟨n204, σ204, As204⟩ := K204
        obtain ⟨hn204, hcp204⟩ := hp204
        replace hn204 : n204 = 131 + 2 * m + 2 := hn204
        replace hcp204 : CP (131 + 2 * m) 2 σ9 As9 σ204 As204 := hcp204
        subst hn204
        have hF204 := hcp204.2.2
        show KW X E Q _ _ _ _ _ (131 + 2 * m + 2, σ204, As204)
        have hT1 := hT0.o hcp204
        refine k_aast (t := 3) (N9 := 32) (c9 := 6) C dX7_init_207 (by decide) sh_19 (by omega) ⟨by omega, by omega⟩ (show rfs 19 m = 131 + 2 * m from rfa_19 (by omega)) (by omega) hsm cl_6 rfl ?_
        show KW X E Q _ _ _ _ _ (131 + 2 * m + 2, σ204, asS As204 19 m)
        have hT2 := hT1.c1 (by simp)
        refine k_iinc (z2 := ((m + 1 : Nat) : Int)) (ls2 := [some (vR 0), some (vI (((m + 1 : Nat) : Int)))]) C dX7_init_208 (by decide) rfl (by omega) rfl ?_
        refine k_goto (tgt := 189) C dX7_init_211 (by decide) ?_
        exact k_uw (by omega) (by omega) (by omega) (ih (m + 1) _ _ (by omega) hT2)
  have L162 : ∀ (d m : Nat) (σ9 : sv_G) (As9 : Nat → Nat → Bool), m + d = 20 → St 0 (fun _ => 0) [13, 12, 11, 9, 8, 7, 6, 5, 4, 3, 2, 1, 0] [19, 17, 1] [(17, m), (1, 4)] σ As σ9 As9 (91 + 2 * m) → KW X E Q (90 + 2 * m) (7466 + 22 * m) 162 [some (vR 0), some (vI (m : Int))] [] (91 + 2 * m, σ9, As9) := by
    intro d
    induction d with
    | zero =>
      intro m σ9 As9 hm hT0
      refine k_iload_n C dX7_init_162 rfl ?_
      refine k_bipush C dX7_init_163 (by decide) ?_
      refine k_icmp_ge (tgt := 187) C dX7_init_165 (by decide) (by omega) (by omega) (fun c9 => ?_) (fun c9 => ?_)
      · have hmN : m = 20 := by omega
        subst hmN
        refine k_iconst C dX7_init_187 ?_
        refine k_istore_n (ls2 := [some (vR 0), some (vI 0)]) C dX7_init_188 (by decide) rfl ?_
        exact k_uw rfl rfl rfl (L189 32 0 _ _ rfl (hT0.c0 ⟨by decide, by decide⟩))
      · exfalso; omega
    | succ d ih =>
      intro m σ9 As9 hm hT0
      refine k_iload_n C dX7_init_162 rfl ?_
      refine k_bipush C dX7_init_163 (by decide) ?_
      refine k_icmp_ge (tgt := 187) C dX7_init_165 (by decide) (by omega) (by omega) (fun c9 => ?_) (fun c9 => ?_)
      · exfalso; omega
      · have hsm : shp (91 + 2 * m) = (6, 0) := sha_17 (by omega)
        refine k_aload_n C dX7_init_168 rfl ?_
        refine k_getR C cl_7 (by decide) kf_7_48 dX7_init_169 sh_0 (by omega) (by decide +kernel) (by decide +kernel) (hT0.2.2.1 9 (by decide)) rf_0_9 ?_
        refine k_iload_n C dX7_init_172 rfl ?_
        refine k_new C dX7_init_173 hsm cl_6 kc_X7_15 kn_6 kz_6 nl_6 (fun k => (hT0.2.2.2.2.2.2.1 (91 + 2 * m) (by omega)).1 k) (hT0.2.2.2.2.2.2.1 (91 + 2 * m) (by omega)).2 (show 90 + 2 * m + 1 ≤ 194 ∧ 7466 + 22 * m + 2 ≤ 8610 by omega) ?_
        show KW X E Q _ _ _ _ _ (91 + 2 * m + 1, σ9, As9)
        refine k_dup C dX7_init_176 rfl ?_
        refine k_cIN C dX7_init_177 ki_X7_17 moX6_init (kX6_init hsm (hT0.2.2.2.2.2.2.1.le (by omega)) (by omega)) (by decide) (Nat.le_of_ble_eq_true rfl) (show 90 + 2 * m + 1 + 1 ≤ 194 ∧ 7466 + 22 * m + 2 + 20 ≤ 8610 by omega) (fun K177 hp177 => ?_)
        obtain ⟨n177, σ177, As177⟩ := K177
        obtain ⟨hn177, hcp177⟩ := hp177
        replace hn177 : n177 = 91 + 2 * m + 2 := hn177
        replace hcp177 : CP (91 + 2 * m) 2 σ9 As9 σ177 As177 := hcp177
        subst hn177
        have hF177 := hcp177.2.2
        show KW X E Q _ _ _ _ _ (91 + 2 * m + 2, σ177, As177)
        have hT1 := hT0.o hcp177
        refine k_aast (t := 3) (N9 := 20) (c9 := 6) C dX7_init_180 (by decide) sh_17 (by omega) ⟨by omega, by omega⟩ (show rfs 17 m = 91 + 2 * m from rfa_17 (by omega)) (by omega) hsm cl_6 rfl ?_
        show KW X E Q _ _ _ _ _ (91 + 2 * m + 2, σ177, asS As177 17 m)
        have hT2 := hT1.c1 (by simp)
        refine k_iinc (z2 := ((m + 1 : Nat) : Int)) (ls2 := [some (vR 0), some (vI (((m + 1 : Nat) : Int)))]) C dX7_init_181 (by decide) rfl (by omega) rfl ?_
        refine k_goto (tgt := 162) C dX7_init_184 (by decide) ?_
        exact k_uw (by omega) (by omega) (by omega) (ih (m + 1) _ _ (by omega) hT2)
  have L136 : ∀ (d m : Nat) (σ9 : sv_G) (As9 : Nat → Nat → Bool), m + d = 4 → St 0 (fun _ => 0) [13, 12, 11, 9, 8, 7, 6, 5, 4, 3, 2, 1, 0] [19, 17, 1] [(1, m)] σ As σ9 As9 (23 + 17 * m) → KW X E Q (22 + 17 * m) (6490 + 244 * m) 136 [some (vR 0), some (vI (m : Int))] [] (23 + 17 * m, σ9, As9) := by
    intro d
    induction d with
    | zero =>
      intro m σ9 As9 hm hT0
      refine k_iload_n C dX7_init_136 rfl ?_
      refine k_iconst C dX7_init_137 ?_
      refine k_icmp_ge (tgt := 160) C dX7_init_138 (by decide) (by omega) (by omega) (fun c9 => ?_) (fun c9 => ?_)
      · have hmN : m = 4 := by omega
        subst hmN
        refine k_iconst C dX7_init_160 ?_
        refine k_istore_n (ls2 := [some (vR 0), some (vI 0)]) C dX7_init_161 (by decide) rfl ?_
        exact k_uw rfl rfl rfl (L162 20 0 _ _ rfl (hT0.c0 ⟨by decide, by decide⟩))
      · exfalso; omega
    | succ d ih =>
      intro m σ9 As9 hm hT0
      refine k_iload_n C dX7_init_136 rfl ?_
      refine k_iconst C dX7_init_137 ?_
      refine k_icmp_ge (tgt := 160) C dX7_init_138 (by decide) (by omega) (by omega) (fun c9 => ?_) (fun c9 => ?_)
      · exfalso; omega
      · have hsm : shp (23 + 17 * m) = (4, 0) := sha_1 (by omega)
        refine k_aload_n C dX7_init_141 rfl ?_
        refine k_getR C cl_7 (by decide) kf_7_11 dX7_init_142 sh_0 (by omega) (by decide +kernel) (by decide +kernel) (hT0.2.2.1 0 (by decide)) rf_0_0 ?_
        refine k_iload_n C dX7_init_145 rfl ?_
        refine k_new C dX7_init_146 hsm cl_4 kc_X7_9 kn_4 kz_4 nl_4 (fun k => (hT0.2.2.2.2.2.2.1 (23 + 17 * m) (by omega)).1 k) (hT0.2.2.2.2.2.2.1 (23 + 17 * m) (by omega)).2 (show 22 + 17 * m + 1 ≤ 194 ∧ 6490 + 244 * m + 9 ≤ 8610 by omega) ?_
        show KW X E Q _ _ _ _ _ (23 + 17 * m + 1, σ9, As9)
        refine k_dup C dX7_init_149 rfl ?_
        refine k_cIN C dX7_init_150 ki_X7_69 moX4_init (kX4_init hsm (hT0.2.2.2.2.2.2.1.le (by omega))) (by decide) (Nat.le_of_ble_eq_true rfl) (show 22 + 17 * m + 1 + 16 ≤ 194 ∧ 6490 + 244 * m + 9 + 235 ≤ 8610 by omega) (fun K150 hp150 => ?_)
        obtain ⟨n150, σ150, As150⟩ := K150
        obtain ⟨hn150, hcp150⟩ := hp150
        replace hn150 : n150 = 23 + 17 * m + 17 := hn150
        replace hcp150 : CP (23 + 17 * m) 17 σ9 As9 σ150 As150 := hcp150
        subst hn150
        have hF150 := hcp150.2.2
        show KW X E Q _ _ _ _ _ (23 + 17 * m + 17, σ150, As150)
        have hT1 := hT0.o hcp150
        refine k_aast (t := 2) (N9 := 4) (c9 := 4) C dX7_init_153 (by decide) sh_1 (by omega) ⟨by omega, by omega⟩ (show rfs 1 m = 23 + 17 * m from rfa_1 (by omega)) (by omega) hsm cl_4 rfl ?_
        show KW X E Q _ _ _ _ _ (23 + 17 * m + 17, σ150, asS As150 1 m)
        have hT2 := hT1.c1 (by simp)
        refine k_iinc (z2 := ((m + 1 : Nat) : Int)) (ls2 := [some (vR 0), some (vI (((m + 1 : Nat) : Int)))]) C dX7_init_154 (by decide) rfl (by omega) rfl ?_
        refine k_goto (tgt := 136) C dX7_init_157 (by decide) ?_
        exact k_uw (by omega) (by omega) (by omega) (ih (m + 1) _ _ (by omega) hT2)
  have hT0 := St.init hF
  refine k_aload_n C dX7_init_0 rfl ?_
  refine k_obj C dX7_init_1 ko_7 (by decide) (Nat.le_of_ble_eq_true rfl) ?_
  show KW X E Q _ _ _ _ _ (1, σ, As)
  refine k_aload_n C dX7_init_4 rfl ?_
  refine k_iconst C dX7_init_5 ?_
  refine k_newq (t := 2) (N9 := 4) C dX7_init_6 (by decide) sh_1 rfl kc_X7_9 (by decide) (by decide +kernel) (by decide +kernel) (Nat.le_of_ble_eq_true rfl) (hT0.2.2.2.2.2.2.1 1 (by omega)).2 (show 0 + 1 ≤ 194 ∧ 0 + 4 ≤ 8610 by omega) ?_
  show KW X E Q _ _ _ _ _ (2, σ, As)
  have hT1 := hT0.q
  refine k_putR (ty9 := tyX7 0) C hI cl_7 (by decide) kf_7_11 dX7_init_9 sh_0 (by omega) (by decide +kernel) (by decide +kernel) rfl rf_0_0 rfl (tyX7_ok 0 (by decide)) (fun _ => rfl) (fun _ => rfl) ?_
  have hFp9 := hT1.2.2.2.2.2.2.1.as (a := 0) (k := 0) (by omega)
  show KW X E Q _ _ _ _ _ (2, σ, asS As 0 0)
  have hT2 := hT1.as (k9 := 0)
  refine k_aload_n C dX7_init_12 rfl ?_
  refine k_new C dX7_init_13 sh_2 cl_6 kc_X7_15 kn_6 kz_6 nl_6 (fun k => (hT2.2.2.2.2.2.2.1 2 (by omega)).1 k) (hT2.2.2.2.2.2.2.1 2 (by omega)).2 (show 1 + 1 ≤ 194 ∧ 4 + 2 ≤ 8610 by omega) ?_
  show KW X E Q _ _ _ _ _ (3, σ, asS As 0 0)
  refine k_dup C dX7_init_16 rfl ?_
  refine k_cIN C dX7_init_17 ki_X7_17 moX6_init (kX6_init sh_2 (hT2.2.2.2.2.2.2.1.le (by omega)) (by omega)) (by decide) (Nat.le_of_ble_eq_true rfl) (show 2 + 1 ≤ 194 ∧ 6 + 20 ≤ 8610 by omega) (fun K17 hp17 => ?_)
  obtain ⟨n17, σ17, As17⟩ := K17
  obtain ⟨hn17, hcp17⟩ := hp17
  replace hn17 : n17 = 4 := hn17
  replace hcp17 : CP (2) 2 σ (asS As 0 0) σ17 As17 := hcp17
  subst hn17
  have hF17 := hcp17.2.2
  show KW X E Q _ _ _ _ _ (4, σ17, As17)
  have hT3 := hT2.o hcp17
  refine k_putR (ty9 := tyX7 1) C hI cl_7 (by decide) kf_7_18 dX7_init_20 sh_0 (by omega) (by decide +kernel) (by decide +kernel) rfl rf_0_1 rfl (tyX7_ok 1 (by decide)) (fun _ => rfl) (fun _ => rfl) ?_
  have hFp20 := hT3.2.2.2.2.2.2.1.as (a := 0) (k := 1) (by omega)
  show KW X E Q _ _ _ _ _ (4, σ17, asS As17 0 1)
  have hT4 := hT3.as (k9 := 1)
  refine k_aload_n C dX7_init_23 rfl ?_
  refine k_new C dX7_init_24 sh_4 cl_6 kc_X7_15 kn_6 kz_6 nl_6 (fun k => (hT4.2.2.2.2.2.2.1 4 (by omega)).1 k) (hT4.2.2.2.2.2.2.1 4 (by omega)).2 (show 3 + 1 ≤ 194 ∧ 26 + 2 ≤ 8610 by omega) ?_
  show KW X E Q _ _ _ _ _ (5, σ17, asS As17 0 1)
  refine k_dup C dX7_init_27 rfl ?_
  refine k_cIN C dX7_init_28 ki_X7_17 moX6_init (kX6_init sh_4 (hT4.2.2.2.2.2.2.1.le (by omega)) (by omega)) (by decide) (Nat.le_of_ble_eq_true rfl) (show 4 + 1 ≤ 194 ∧ 28 + 20 ≤ 8610 by omega) (fun K28 hp28 => ?_)
  obtain ⟨n28, σ28, As28⟩ := K28
  obtain ⟨hn28, hcp28⟩ := hp28
  replace hn28 : n28 = 6 := hn28
  replace hcp28 : CP (4) 2 σ17 (asS As17 0 1) σ28 As28 := hcp28
  subst hn28
  have hF28 := hcp28.2.2
  show KW X E Q _ _ _ _ _ (6, σ28, As28)
  have hT5 := hT4.o hcp28
  refine k_putR (ty9 := tyX7 2) C hI cl_7 (by decide) kf_7_22 dX7_init_31 sh_0 (by omega) (by decide +kernel) (by decide +kernel) rfl rf_0_2 rfl (tyX7_ok 2 (by decide)) (fun _ => rfl) (fun _ => rfl) ?_
  have hFp31 := hT5.2.2.2.2.2.2.1.as (a := 0) (k := 2) (by omega)
  show KW X E Q _ _ _ _ _ (6, σ28, asS As28 0 2)
  have hT6 := hT5.as (k9 := 2)
  refine k_aload_n C dX7_init_34 rfl ?_
  refine k_new C dX7_init_35 sh_6 cl_6 kc_X7_15 kn_6 kz_6 nl_6 (fun k => (hT6.2.2.2.2.2.2.1 6 (by omega)).1 k) (hT6.2.2.2.2.2.2.1 6 (by omega)).2 (show 5 + 1 ≤ 194 ∧ 48 + 2 ≤ 8610 by omega) ?_
  show KW X E Q _ _ _ _ _ (7, σ28, asS As28 0 2)
  refine k_dup C dX7_init_38 rfl ?_
  refine k_cIN C dX7_init_39 ki_X7_17 moX6_init (kX6_init sh_6 (hT6.2.2.2.2.2.2.1.le (by omega)) (by omega)) (by decide) (Nat.le_of_ble_eq_true rfl) (show 6 + 1 ≤ 194 ∧ 50 + 20 ≤ 8610 by omega) (fun K39 hp39 => ?_)
  obtain ⟨n39, σ39, As39⟩ := K39
  obtain ⟨hn39, hcp39⟩ := hp39
  replace hn39 : n39 = 8 := hn39
  replace hcp39 : CP (6) 2 σ28 (asS As28 0 2) σ39 As39 := hcp39
  subst hn39
  have hF39 := hcp39.2.2
  show KW X E Q _ _ _ _ _ (8, σ39, As39)
  have hT7 := hT6.o hcp39
  refine k_putR (ty9 := tyX7 3) C hI cl_7 (by decide) kf_7_25 dX7_init_42 sh_0 (by omega) (by decide +kernel) (by decide +kernel) rfl rf_0_3 rfl (tyX7_ok 3 (by decide)) (fun _ => rfl) (fun _ => rfl) ?_
  have hFp42 := hT7.2.2.2.2.2.2.1.as (a := 0) (k := 3) (by omega)
  show KW X E Q _ _ _ _ _ (8, σ39, asS As39 0 3)
  have hT8 := hT7.as (k9 := 3)
  refine k_aload_n C dX7_init_45 rfl ?_
  refine k_new C dX7_init_46 sh_8 cl_6 kc_X7_15 kn_6 kz_6 nl_6 (fun k => (hT8.2.2.2.2.2.2.1 8 (by omega)).1 k) (hT8.2.2.2.2.2.2.1 8 (by omega)).2 (show 7 + 1 ≤ 194 ∧ 70 + 2 ≤ 8610 by omega) ?_
  show KW X E Q _ _ _ _ _ (9, σ39, asS As39 0 3)
  refine k_dup C dX7_init_49 rfl ?_
  refine k_cIN C dX7_init_50 ki_X7_17 moX6_init (kX6_init sh_8 (hT8.2.2.2.2.2.2.1.le (by omega)) (by omega)) (by decide) (Nat.le_of_ble_eq_true rfl) (show 8 + 1 ≤ 194 ∧ 72 + 20 ≤ 8610 by omega) (fun K50 hp50 => ?_)
  obtain ⟨n50, σ50, As50⟩ := K50
  obtain ⟨hn50, hcp50⟩ := hp50
  replace hn50 : n50 = 10 := hn50
  replace hcp50 : CP (8) 2 σ39 (asS As39 0 3) σ50 As50 := hcp50
  subst hn50
  have hF50 := hcp50.2.2
  show KW X E Q _ _ _ _ _ (10, σ50, As50)
  have hT9 := hT8.o hcp50
  refine k_putR (ty9 := tyX7 4) C hI cl_7 (by decide) kf_7_28 dX7_init_53 sh_0 (by omega) (by decide +kernel) (by decide +kernel) rfl rf_0_4 rfl (tyX7_ok 4 (by decide)) (fun _ => rfl) (fun _ => rfl) ?_
  have hFp53 := hT9.2.2.2.2.2.2.1.as (a := 0) (k := 4) (by omega)
  show KW X E Q _ _ _ _ _ (10, σ50, asS As50 0 4)
  have hT10 := hT9.as (k9 := 4)
  refine k_aload_n C dX7_init_56 rfl ?_
  refine k_sipush C dX7_init_57 (by decide) ?_
  refine k_newaI (N9 := 4000) C dX7_init_60 sh_10 ac_I (by decide +kernel) (by decide +kernel) (Nat.le_of_ble_eq_true rfl) (hT10.2.2.2.2.2.2.1 10 (by omega)).1 (show 9 + 1 ≤ 194 ∧ 92 + 4000 ≤ 8610 by omega) ?_
  show KW X E Q _ _ _ _ _ (11, σ50, asS As50 0 4)
  have hT11 := hT10.i sh_10 (by omega)
  refine k_putR (ty9 := tyX7 5) C hI cl_7 (by decide) kf_7_31 dX7_init_62 sh_0 (by omega) (by decide +kernel) (by decide +kernel) rfl rf_0_5 rfl (tyX7_ok 5 (by decide)) (fun _ => rfl) (fun _ => rfl) ?_
  have hFp62 := hT11.2.2.2.2.2.2.1.as (a := 0) (k := 5) (by omega)
  show KW X E Q _ _ _ _ _ (11, σ50, asS (asS As50 0 4) 0 5)
  have hT12 := hT11.as (k9 := 5)
  refine k_aload_n C dX7_init_65 rfl ?_
  refine k_bipush C dX7_init_66 (by decide) ?_
  refine k_newaI (N9 := 20) C dX7_init_68 sh_11 ac_I (by decide +kernel) (by decide +kernel) (Nat.le_of_ble_eq_true rfl) (hT12.2.2.2.2.2.2.1 11 (by omega)).1 (show 10 + 1 ≤ 194 ∧ 4092 + 20 ≤ 8610 by omega) ?_
  show KW X E Q _ _ _ _ _ (12, σ50, asS (asS As50 0 4) 0 5)
  have hT13 := hT12.i sh_11 (by omega)
  refine k_putR (ty9 := tyX7 6) C hI cl_7 (by decide) kf_7_35 dX7_init_70 sh_0 (by omega) (by decide +kernel) (by decide +kernel) rfl rf_0_6 rfl (tyX7_ok 6 (by decide)) (fun _ => rfl) (fun _ => rfl) ?_
  have hFp70 := hT13.2.2.2.2.2.2.1.as (a := 0) (k := 6) (by omega)
  show KW X E Q _ _ _ _ _ (12, σ50, asS (asS (asS As50 0 4) 0 5) 0 6)
  have hT14 := hT13.as (k9 := 6)
  refine k_aload_n C dX7_init_73 rfl ?_
  refine k_new C dX7_init_74 sh_12 cl_5 kc_X7_38 kn_5 kz_5 nl_5 (fun k => (hT14.2.2.2.2.2.2.1 12 (by omega)).1 k) (hT14.2.2.2.2.2.2.1 12 (by omega)).2 (show 11 + 1 ≤ 194 ∧ 4112 + 3 ≤ 8610 by omega) ?_
  show KW X E Q _ _ _ _ _ (13, σ50, asS (asS (asS As50 0 4) 0 5) 0 6)
  refine k_dup C dX7_init_77 rfl ?_
  refine k_cIN C dX7_init_78 ki_X7_40 moX5_init (kX5_init (hT14.2.2.2.2.2.2.1.le (by omega))) (by decide) (Nat.le_of_ble_eq_true rfl) (show 12 + 3 ≤ 194 ∧ 4115 + 2256 ≤ 8610 by omega) (fun K78 hp78 => ?_)
  obtain ⟨n78, σ78, As78⟩ := K78
  obtain ⟨hn78, hcp78⟩ := hp78
  replace hn78 : n78 = 16 := hn78
  replace hcp78 : CP (12) 4 σ50 (asS (asS (asS As50 0 4) 0 5) 0 6) σ78 As78 := hcp78
  subst hn78
  have hF78 := hcp78.2.2
  show KW X E Q _ _ _ _ _ (16, σ78, As78)
  have hT15 := hT14.o hcp78
  refine k_putR (ty9 := tyX7 7) C hI cl_7 (by decide) kf_7_41 dX7_init_81 sh_0 (by omega) (by decide +kernel) (by decide +kernel) rfl rf_0_7 rfl (tyX7_ok 7 (by decide)) (fun _ => rfl) (fun _ => rfl) ?_
  have hFp81 := hT15.2.2.2.2.2.2.1.as (a := 0) (k := 7) (by omega)
  show KW X E Q _ _ _ _ _ (16, σ78, asS As78 0 7)
  have hT16 := hT15.as (k9 := 7)
  refine k_aload_n C dX7_init_84 rfl ?_
  refine k_bipush C dX7_init_85 (by decide) ?_
  refine k_newaI (N9 := 20) C dX7_init_87 sh_16 ac_I (by decide +kernel) (by decide +kernel) (Nat.le_of_ble_eq_true rfl) (hT16.2.2.2.2.2.2.1 16 (by omega)).1 (show 15 + 1 ≤ 194 ∧ 6371 + 20 ≤ 8610 by omega) ?_
  show KW X E Q _ _ _ _ _ (17, σ78, asS As78 0 7)
  have hT17 := hT16.i sh_16 (by omega)
  refine k_putR (ty9 := tyX7 8) C hI cl_7 (by decide) kf_7_45 dX7_init_89 sh_0 (by omega) (by decide +kernel) (by decide +kernel) rfl rf_0_8 rfl (tyX7_ok 8 (by decide)) (fun _ => rfl) (fun _ => rfl) ?_
  have hFp89 := hT17.2.2.2.2.2.2.1.as (a := 0) (k := 8) (by omega)
  show KW X E Q _ _ _ _ _ (17, σ78, asS (asS As78 0 7) 0 8)
  have hT18 := hT17.as (k9 := 8)
  refine k_aload_n C dX7_init_92 rfl ?_
  refine k_bipush C dX7_init_93 (by decide) ?_
  refine k_newq (t := 3) (N9 := 20) C dX7_init_95 (by decide) sh_17 rfl kc_X7_15 (by decide) (by decide +kernel) (by decide +kernel) (Nat.le_of_ble_eq_true rfl) (hT18.2.2.2.2.2.2.1 17 (by omega)).2 (show 16 + 1 ≤ 194 ∧ 6391 + 20 ≤ 8610 by omega) ?_
  show KW X E Q _ _ _ _ _ (18, σ78, asS (asS As78 0 7) 0 8)
  have hT19 := hT18.q
  refine k_putR (ty9 := tyX7 9) C hI cl_7 (by decide) kf_7_48 dX7_init_98 sh_0 (by omega) (by decide +kernel) (by decide +kernel) rfl rf_0_9 rfl (tyX7_ok 9 (by decide)) (fun _ => rfl) (fun _ => rfl) ?_
  have hFp98 := hT19.2.2.2.2.2.2.1.as (a := 0) (k := 9) (by omega)
  show KW X E Q _ _ _ _ _ (18, σ78, asS (asS (asS As78 0 7) 0 8) 0 9)
  have hT20 := hT19.as (k9 := 9)
  refine k_aload_n C dX7_init_101 rfl ?_
  refine k_iconst C dX7_init_102 ?_
  refine k_putI (kz := 10) C cl_7 (by decide) kf_7_52 dX7_init_103 sh_0 (by omega) (by decide +kernel) rfl rfl ?_
  refine k_up0 ((hT20.2.1 10)) ?_
  show KW X E Q _ _ _ _ _ (18, σ78, asS (asS (asS As78 0 7) 0 8) 0 9)
  refine k_aload_n C dX7_init_106 rfl ?_
  refine k_bipush C dX7_init_107 (by decide) ?_
  refine k_newaI (N9 := 32) C dX7_init_109 sh_18 ac_I (by decide +kernel) (by decide +kernel) (Nat.le_of_ble_eq_true rfl) (hT20.2.2.2.2.2.2.1 18 (by omega)).1 (show 17 + 1 ≤ 194 ∧ 6411 + 32 ≤ 8610 by omega) ?_
  show KW X E Q _ _ _ _ _ (19, σ78, asS (asS (asS As78 0 7) 0 8) 0 9)
  have hT21 := hT20.i sh_18 (by omega)
  refine k_putR (ty9 := tyX7 11) C hI cl_7 (by decide) kf_7_56 dX7_init_111 sh_0 (by omega) (by decide +kernel) (by decide +kernel) rfl rf_0_11 rfl (tyX7_ok 11 (by decide)) (fun _ => rfl) (fun _ => rfl) ?_
  have hFp111 := hT21.2.2.2.2.2.2.1.as (a := 0) (k := 11) (by omega)
  show KW X E Q _ _ _ _ _ (19, σ78, asS (asS (asS (asS As78 0 7) 0 8) 0 9) 0 11)
  have hT22 := hT21.as (k9 := 11)
  refine k_aload_n C dX7_init_114 rfl ?_
  refine k_bipush C dX7_init_115 (by decide) ?_
  refine k_newq (t := 3) (N9 := 32) C dX7_init_117 (by decide) sh_19 rfl kc_X7_15 (by decide) (by decide +kernel) (by decide +kernel) (Nat.le_of_ble_eq_true rfl) (hT22.2.2.2.2.2.2.1 19 (by omega)).2 (show 18 + 1 ≤ 194 ∧ 6443 + 32 ≤ 8610 by omega) ?_
  show KW X E Q _ _ _ _ _ (20, σ78, asS (asS (asS (asS As78 0 7) 0 8) 0 9) 0 11)
  have hT23 := hT22.q
  refine k_putR (ty9 := tyX7 12) C hI cl_7 (by decide) kf_7_59 dX7_init_120 sh_0 (by omega) (by decide +kernel) (by decide +kernel) rfl rf_0_12 rfl (tyX7_ok 12 (by decide)) (fun _ => rfl) (fun _ => rfl) ?_
  have hFp120 := hT23.2.2.2.2.2.2.1.as (a := 0) (k := 12) (by omega)
  show KW X E Q _ _ _ _ _ (20, σ78, asS (asS (asS (asS (asS As78 0 7) 0 8) 0 9) 0 11) 0 12)
  have hT24 := hT23.as (k9 := 12)
  refine k_aload_n C dX7_init_123 rfl ?_
  refine k_new C dX7_init_124 sh_20 cl_2 kc_X7_62 kn_2 kz_2 nl_2 (fun k => (hT24.2.2.2.2.2.2.1 20 (by omega)).1 k) (hT24.2.2.2.2.2.2.1 20 (by omega)).2 (show 19 + 1 ≤ 194 ∧ 6475 + 3 ≤ 8610 by omega) ?_
  show KW X E Q _ _ _ _ _ (21, σ78, asS (asS (asS (asS (asS As78 0 7) 0 8) 0 9) 0 11) 0 12)
  refine k_dup C dX7_init_127 rfl ?_
  refine k_cIN C dX7_init_128 ki_X7_64 moX2_init (kX2_init (hT24.2.2.2.2.2.2.1.le (by omega))) (by decide) (Nat.le_of_ble_eq_true rfl) (show 20 + 2 ≤ 194 ∧ 6478 + 12 ≤ 8610 by omega) (fun K128 hp128 => ?_)
  obtain ⟨n128, σ128, As128⟩ := K128
  obtain ⟨hn128, hcp128⟩ := hp128
  replace hn128 : n128 = 23 := hn128
  replace hcp128 : CP (20) 3 σ78 (asS (asS (asS (asS (asS As78 0 7) 0 8) 0 9) 0 11) 0 12) σ128 As128 := hcp128
  subst hn128
  have hF128 := hcp128.2.2
  show KW X E Q _ _ _ _ _ (23, σ128, As128)
  have hT25 := hT24.o hcp128
  refine k_putR (ty9 := tyX7 13) C hI cl_7 (by decide) kf_7_65 dX7_init_131 sh_0 (by omega) (by decide +kernel) (by decide +kernel) rfl rf_0_13 rfl (tyX7_ok 13 (by decide)) (fun _ => rfl) (fun _ => rfl) ?_
  have hFp131 := hT25.2.2.2.2.2.2.1.as (a := 0) (k := 13) (by omega)
  show KW X E Q _ _ _ _ _ (23, σ128, asS As128 0 13)
  have hT26 := hT25.as (k9 := 13)
  refine k_iconst C dX7_init_134 ?_
  refine k_istore_n (ls2 := [some (vR 0), some (vI 0)]) C dX7_init_135 (by decide) rfl ?_
  exact k_uw rfl rfl rfl (L136 4 0 _ _ rfl (hT26.c0 ⟨by decide, by decide⟩))
set_option maxRecDepth 100000 in
set_option maxHeartbeats 8000000 in
theorem kX8_init {E : sv_E} {σ : sv_G} {As : Nat → Nat → Bool} (hF : Fr σ As 195) : KC E MX8_init 1 32 22728 [vR 195] (196, σ, As) (fun K9 => K9.1 = 228 ∧ CP 195 33 σ As K9.2.1 K9.2.2) := by
  refine KC.of (RX8, cX8_init, 2, none, [], 1, 32, 22728) rfl moX8_init (Nat.le_of_ble_eq_true rfl) (ls0 := [some (vR 195), none]) rfl ?_
  intro X Q C hI hQ
  have hT0 := St.init hF
  refine k_aload_n C dX8_init_0 rfl ?_
  refine k_obj C dX8_init_1 ko_8 (by decide) (Nat.le_of_ble_eq_true rfl) ?_
  show KW X E Q _ _ _ _ _ (196, σ, As)
  refine k_aload_n C dX8_init_4 rfl ?_
  refine k_iconst C dX8_init_5 ?_
  refine k_newaI (N9 := 4) C dX8_init_6 sh_196 ac_I (by decide +kernel) (by decide +kernel) (Nat.le_of_ble_eq_true rfl) (hT0.2.2.2.2.2.2.1 196 (by omega)).1 (show 0 + 1 ≤ 32 ∧ 0 + 4 ≤ 22728 by omega) ?_
  show KW X E Q _ _ _ _ _ (197, σ, As)
  have hT1 := hT0.i sh_196 (by omega)
  refine k_putR (ty9 := tyX8 0) C hI cl_8 (by decide) kf_8_7 dX8_init_8 sh_195 (by omega) (by decide +kernel) (by decide +kernel) rfl rf_195_0 rfl (tyX8_ok 0 (by decide)) (fun _ => rfl) (fun _ => rfl) ?_
  have hFp8 := hT1.2.2.2.2.2.2.1.as (a := 195) (k := 0) (by omega)
  show KW X E Q _ _ _ _ _ (197, σ, asS As 195 0)
  have hT2 := hT1.as (k9 := 0)
  refine k_aload_n C dX8_init_11 rfl ?_
  refine k_sipush C dX8_init_12 (by decide) ?_
  refine k_newaI (N9 := 160) C dX8_init_15 sh_197 ac_I (by decide +kernel) (by decide +kernel) (Nat.le_of_ble_eq_true rfl) (hT2.2.2.2.2.2.2.1 197 (by omega)).1 (show 1 + 1 ≤ 32 ∧ 4 + 160 ≤ 22728 by omega) ?_
  show KW X E Q _ _ _ _ _ (198, σ, asS As 195 0)
  have hT3 := hT2.i sh_197 (by omega)
  refine k_putR (ty9 := tyX8 1) C hI cl_8 (by decide) kf_8_13 dX8_init_17 sh_195 (by omega) (by decide +kernel) (by decide +kernel) rfl rf_195_1 rfl (tyX8_ok 1 (by decide)) (fun _ => rfl) (fun _ => rfl) ?_
  have hFp17 := hT3.2.2.2.2.2.2.1.as (a := 195) (k := 1) (by omega)
  show KW X E Q _ _ _ _ _ (198, σ, asS (asS As 195 0) 195 1)
  have hT4 := hT3.as (k9 := 1)
  refine k_aload_n C dX8_init_20 rfl ?_
  refine k_sipush C dX8_init_21 (by decide) ?_
  refine k_newaI (N9 := 160) C dX8_init_24 sh_198 ac_I (by decide +kernel) (by decide +kernel) (Nat.le_of_ble_eq_true rfl) (hT4.2.2.2.2.2.2.1 198 (by omega)).1 (show 2 + 1 ≤ 32 ∧ 164 + 160 ≤ 22728 by omega) ?_
  show KW X E Q _ _ _ _ _ (199, σ, asS (asS As 195 0) 195 1)
  have hT5 := hT4.i sh_198 (by omega)
  refine k_putR (ty9 := tyX8 2) C hI cl_8 (by decide) kf_8_16 dX8_init_26 sh_195 (by omega) (by decide +kernel) (by decide +kernel) rfl rf_195_2 rfl (tyX8_ok 2 (by decide)) (fun _ => rfl) (fun _ => rfl) ?_
  have hFp26 := hT5.2.2.2.2.2.2.1.as (a := 195) (k := 2) (by omega)
  show KW X E Q _ _ _ _ _ (199, σ, asS (asS (asS As 195 0) 195 1) 195 2)
  have hT6 := hT5.as (k9 := 2)
  refine k_aload_n C dX8_init_29 rfl ?_
  refine k_iconst C dX8_init_30 ?_
  refine k_newaI (N9 := 4) C dX8_init_31 sh_199 ac_I (by decide +kernel) (by decide +kernel) (Nat.le_of_ble_eq_true rfl) (hT6.2.2.2.2.2.2.1 199 (by omega)).1 (show 3 + 1 ≤ 32 ∧ 324 + 4 ≤ 22728 by omega) ?_
  show KW X E Q _ _ _ _ _ (200, σ, asS (asS (asS As 195 0) 195 1) 195 2)
  have hT7 := hT6.i sh_199 (by omega)
  refine k_putR (ty9 := tyX8 3) C hI cl_8 (by decide) kf_8_19 dX8_init_33 sh_195 (by omega) (by decide +kernel) (by decide +kernel) rfl rf_195_3 rfl (tyX8_ok 3 (by decide)) (fun _ => rfl) (fun _ => rfl) ?_
  have hFp33 := hT7.2.2.2.2.2.2.1.as (a := 195) (k := 3) (by omega)
  show KW X E Q _ _ _ _ _ (200, σ, asS (asS (asS (asS As 195 0) 195 1) 195 2) 195 3)
  have hT8 := hT7.as (k9 := 3)
  refine k_aload_n C dX8_init_36 rfl ?_
  refine k_bipush C dX8_init_37 (by decide) ?_
  refine k_newaI (N9 := 20) C dX8_init_39 sh_200 ac_I (by decide +kernel) (by decide +kernel) (Nat.le_of_ble_eq_true rfl) (hT8.2.2.2.2.2.2.1 200 (by omega)).1 (show 4 + 1 ≤ 32 ∧ 328 + 20 ≤ 22728 by omega) ?_
  show KW X E Q _ _ _ _ _ (201, σ, asS (asS (asS (asS As 195 0) 195 1) 195 2) 195 3)
  have hT9 := hT8.i sh_200 (by omega)
  refine k_putR (ty9 := tyX8 4) C hI cl_8 (by decide) kf_8_22 dX8_init_41 sh_195 (by omega) (by decide +kernel) (by decide +kernel) rfl rf_195_4 rfl (tyX8_ok 4 (by decide)) (fun _ => rfl) (fun _ => rfl) ?_
  have hFp41 := hT9.2.2.2.2.2.2.1.as (a := 195) (k := 4) (by omega)
  show KW X E Q _ _ _ _ _ (201, σ, asS (asS (asS (asS (asS As 195 0) 195 1) 195 2) 195 3) 195 4)
  have hT10 := hT9.as (k9 := 4)
  refine k_aload_n C dX8_init_44 rfl ?_
  refine k_bipush C dX8_init_45 (by decide) ?_
  refine k_newaI (N9 := 20) C dX8_init_47 sh_201 ac_I (by decide +kernel) (by decide +kernel) (Nat.le_of_ble_eq_true rfl) (hT10.2.2.2.2.2.2.1 201 (by omega)).1 (show 5 + 1 ≤ 32 ∧ 348 + 20 ≤ 22728 by omega) ?_
  show KW X E Q _ _ _ _ _ (202, σ, asS (asS (asS (asS (asS As 195 0) 195 1) 195 2) 195 3) 195 4)
  have hT11 := hT10.i sh_201 (by omega)
  refine k_putR (ty9 := tyX8 5) C hI cl_8 (by decide) kf_8_25 dX8_init_49 sh_195 (by omega) (by decide +kernel) (by decide +kernel) rfl rf_195_5 rfl (tyX8_ok 5 (by decide)) (fun _ => rfl) (fun _ => rfl) ?_
  have hFp49 := hT11.2.2.2.2.2.2.1.as (a := 195) (k := 5) (by omega)
  show KW X E Q _ _ _ _ _ (202, σ, asS (asS (asS (asS (asS (asS As 195 0) 195 1) 195 2) 195 3) 195 4) 195 5)
  have hT12 := hT11.as (k9 := 5)
  refine k_aload_n C dX8_init_52 rfl ?_
  refine k_bipush C dX8_init_53 (by decide) ?_
  refine k_newaI (N9 := 20) C dX8_init_55 sh_202 ac_I (by decide +kernel) (by decide +kernel) (Nat.le_of_ble_eq_true rfl) (hT12.2.2.2.2.2.2.1 202 (by omega)).1 (show 6 + 1 ≤ 32 ∧ 368 + 20 ≤ 22728 by omega) ?_
  show KW X E Q _ _ _ _ _ (203, σ, asS (asS (asS (asS (asS (asS As 195 0) 195 1) 195 2) 195 3) 195 4) 195 5)
  have hT13 := hT12.i sh_202 (by omega)
  refine k_putR (ty9 := tyX8 6) C hI cl_8 (by decide) kf_8_28 dX8_init_57 sh_195 (by omega) (by decide +kernel) (by decide +kernel) rfl rf_195_6 rfl (tyX8_ok 6 (by decide)) (fun _ => rfl) (fun _ => rfl) ?_
  have hFp57 := hT13.2.2.2.2.2.2.1.as (a := 195) (k := 6) (by omega)
  show KW X E Q _ _ _ _ _ (203, σ, asS (asS (asS (asS (asS (asS (asS As 195 0) 195 1) 195 2) 195 3) 195 4) 195 5) 195 6)
  have hT14 := hT13.as (k9 := 6)
  refine k_aload_n C dX8_init_60 rfl ?_
  refine k_bipush C dX8_init_61 (by decide) ?_
  refine k_newaI (N9 := 20) C dX8_init_63 sh_203 ac_I (by decide +kernel) (by decide +kernel) (Nat.le_of_ble_eq_true rfl) (hT14.2.2.2.2.2.2.1 203 (by omega)).1 (show 7 + 1 ≤ 32 ∧ 388 + 20 ≤ 22728 by omega) ?_
  show KW X E Q _ _ _ _ _ (204, σ, asS (asS (asS (asS (asS (asS (asS As 195 0) 195 1) 195 2) 195 3) 195 4) 195 5) 195 6)
  have hT15 := hT14.i sh_203 (by omega)
  refine k_putR (ty9 := tyX8 7) C hI cl_8 (by decide) kf_8_31 dX8_init_65 sh_195 (by omega) (by decide +kernel) (by decide +kernel) rfl rf_195_7 rfl (tyX8_ok 7 (by decide)) (fun _ => rfl) (fun _ => rfl) ?_
  have hFp65 := hT15.2.2.2.2.2.2.1.as (a := 195) (k := 7) (by omega)
  show KW X E Q _ _ _ _ _ (204, σ, asS (asS (asS (asS (asS (asS (asS (asS As 195 0) 195 1) 195 2) 195 3) 195 4) 195 5) 195 6) 195 7)
  have hT16 := hT15.as (k9 := 7)
  refine k_aload_n C dX8_init_68 rfl ?_
  refine k_bipush C dX8_init_69 (by decide) ?_
  refine k_newaI (N9 := 20) C dX8_init_71 sh_204 ac_I (by decide +kernel) (by decide +kernel) (Nat.le_of_ble_eq_true rfl) (hT16.2.2.2.2.2.2.1 204 (by omega)).1 (show 8 + 1 ≤ 32 ∧ 408 + 20 ≤ 22728 by omega) ?_
  show KW X E Q _ _ _ _ _ (205, σ, asS (asS (asS (asS (asS (asS (asS (asS As 195 0) 195 1) 195 2) 195 3) 195 4) 195 5) 195 6) 195 7)
  have hT17 := hT16.i sh_204 (by omega)
  refine k_putR (ty9 := tyX8 8) C hI cl_8 (by decide) kf_8_34 dX8_init_73 sh_195 (by omega) (by decide +kernel) (by decide +kernel) rfl rf_195_8 rfl (tyX8_ok 8 (by decide)) (fun _ => rfl) (fun _ => rfl) ?_
  have hFp73 := hT17.2.2.2.2.2.2.1.as (a := 195) (k := 8) (by omega)
  show KW X E Q _ _ _ _ _ (205, σ, asS (asS (asS (asS (asS (asS (asS (asS (asS As 195 0) 195 1) 195 2) 195 3) 195 4) 195 5) 195 6) 195 7) 195 8)
  have hT18 := hT17.as (k9 := 8)
  refine k_aload_n C dX8_init_76 rfl ?_
  refine k_bipush C dX8_init_77 (by decide) ?_
  refine k_newaI (N9 := 20) C dX8_init_79 sh_205 ac_I (by decide +kernel) (by decide +kernel) (Nat.le_of_ble_eq_true rfl) (hT18.2.2.2.2.2.2.1 205 (by omega)).1 (show 9 + 1 ≤ 32 ∧ 428 + 20 ≤ 22728 by omega) ?_
  show KW X E Q _ _ _ _ _ (206, σ, asS (asS (asS (asS (asS (asS (asS (asS (asS As 195 0) 195 1) 195 2) 195 3) 195 4) 195 5) 195 6) 195 7) 195 8)
  have hT19 := hT18.i sh_205 (by omega)
  refine k_putR (ty9 := tyX8 9) C hI cl_8 (by decide) kf_8_37 dX8_init_81 sh_195 (by omega) (by decide +kernel) (by decide +kernel) rfl rf_195_9 rfl (tyX8_ok 9 (by decide)) (fun _ => rfl) (fun _ => rfl) ?_
  have hFp81 := hT19.2.2.2.2.2.2.1.as (a := 195) (k := 9) (by omega)
  show KW X E Q _ _ _ _ _ (206, σ, asS (asS (asS (asS (asS (asS (asS (asS (asS (asS As 195 0) 195 1) 195 2) 195 3) 195 4) 195 5) 195 6) 195 7) 195 8) 195 9)
  have hT20 := hT19.as (k9 := 9)
  refine k_aload_n C dX8_init_84 rfl ?_
  refine k_bipush C dX8_init_85 (by decide) ?_
  refine k_newaI (N9 := 20) C dX8_init_87 sh_206 ac_I (by decide +kernel) (by decide +kernel) (Nat.le_of_ble_eq_true rfl) (hT20.2.2.2.2.2.2.1 206 (by omega)).1 (show 10 + 1 ≤ 32 ∧ 448 + 20 ≤ 22728 by omega) ?_
  show KW X E Q _ _ _ _ _ (207, σ, asS (asS (asS (asS (asS (asS (asS (asS (asS (asS As 195 0) 195 1) 195 2) 195 3) 195 4) 195 5) 195 6) 195 7) 195 8) 195 9)
  have hT21 := hT20.i sh_206 (by omega)
  refine k_putR (ty9 := tyX8 10) C hI cl_8 (by decide) kf_8_40 dX8_init_89 sh_195 (by omega) (by decide +kernel) (by decide +kernel) rfl rf_195_10 rfl (tyX8_ok 10 (by decide)) (fun _ => rfl) (fun _ => rfl) ?_
  have hFp89 := hT21.2.2.2.2.2.2.1.as (a := 195) (k := 10) (by omega)
  show KW X E Q _ _ _ _ _ (207, σ, asS (asS (asS (asS (asS (asS (asS (asS (asS (asS (asS As 195 0) 195 1) 195 2) 195 3) 195 4) 195 5) 195 6) 195 7) 195 8) 195 9) 195 10)
  have hT22 := hT21.as (k9 := 10)
  refine k_aload_n C dX8_init_92 rfl ?_
  refine k_iconst C dX8_init_93 ?_
  refine k_newaI (N9 := 4) C dX8_init_94 sh_207 ac_I (by decide +kernel) (by decide +kernel) (Nat.le_of_ble_eq_true rfl) (hT22.2.2.2.2.2.2.1 207 (by omega)).1 (show 11 + 1 ≤ 32 ∧ 468 + 4 ≤ 22728 by omega) ?_
  show KW X E Q _ _ _ _ _ (208, σ, asS (asS (asS (asS (asS (asS (asS (asS (asS (asS (asS As 195 0) 195 1) 195 2) 195 3) 195 4) 195 5) 195 6) 195 7) 195 8) 195 9) 195 10)
  have hT23 := hT22.i sh_207 (by omega)
  refine k_putR (ty9 := tyX8 11) C hI cl_8 (by decide) kf_8_43 dX8_init_96 sh_195 (by omega) (by decide +kernel) (by decide +kernel) rfl rf_195_11 rfl (tyX8_ok 11 (by decide)) (fun _ => rfl) (fun _ => rfl) ?_
  have hFp96 := hT23.2.2.2.2.2.2.1.as (a := 195) (k := 11) (by omega)
  show KW X E Q _ _ _ _ _ (208, σ, asS (asS (asS (asS (asS (asS (asS (asS (asS (asS (asS (asS As 195 0) 195 1) 195 2) 195 3) 195 4) 195 5) 195 6) 195 7) 195 8) 195 9) 195 10) 195 11)
  have hT24 := hT23.as (k9 := 11)
  refine k_aload_n C dX8_init_99 rfl ?_
  refine k_bipush C dX8_init_100 (by decide) ?_
  refine k_newaI (N9 := 120) C dX8_init_102 sh_208 ac_I (by decide +kernel) (by decide +kernel) (Nat.le_of_ble_eq_true rfl) (hT24.2.2.2.2.2.2.1 208 (by omega)).1 (show 12 + 1 ≤ 32 ∧ 472 + 120 ≤ 22728 by omega) ?_
  show KW X E Q _ _ _ _ _ (209, σ, asS (asS (asS (asS (asS (asS (asS (asS (asS (asS (asS (asS As 195 0) 195 1) 195 2) 195 3) 195 4) 195 5) 195 6) 195 7) 195 8) 195 9) 195 10) 195 11)
  have hT25 := hT24.i sh_208 (by omega)
  refine k_putR (ty9 := tyX8 12) C hI cl_8 (by decide) kf_8_46 dX8_init_104 sh_195 (by omega) (by decide +kernel) (by decide +kernel) rfl rf_195_12 rfl (tyX8_ok 12 (by decide)) (fun _ => rfl) (fun _ => rfl) ?_
  have hFp104 := hT25.2.2.2.2.2.2.1.as (a := 195) (k := 12) (by omega)
  show KW X E Q _ _ _ _ _ (209, σ, asS (asS (asS (asS (asS (asS (asS (asS (asS (asS (asS (asS (asS As 195 0) 195 1) 195 2) 195 3) 195 4) 195 5) 195 6) 195 7) 195 8) 195 9) 195 10) 195 11) 195 12)
  have hT26 := hT25.as (k9 := 12)
  refine k_aload_n C dX8_init_107 rfl ?_
  refine k_bipush C dX8_init_108 (by decide) ?_
  refine k_newaI (N9 := 120) C dX8_init_110 sh_209 ac_I (by decide +kernel) (by decide +kernel) (Nat.le_of_ble_eq_true rfl) (hT26.2.2.2.2.2.2.1 209 (by omega)).1 (show 13 + 1 ≤ 32 ∧ 592 + 120 ≤ 22728 by omega) ?_
  show KW X E Q _ _ _ _ _ (210, σ, asS (asS (asS (asS (asS (asS (asS (asS (asS (asS (asS (asS (asS As 195 0) 195 1) 195 2) 195 3) 195 4) 195 5) 195 6) 195 7) 195 8) 195 9) 195 10) 195 11) 195 12)
  have hT27 := hT26.i sh_209 (by omega)
  refine k_putR (ty9 := tyX8 13) C hI cl_8 (by decide) kf_8_49 dX8_init_112 sh_195 (by omega) (by decide +kernel) (by decide +kernel) rfl rf_195_13 rfl (tyX8_ok 13 (by decide)) (fun _ => rfl) (fun _ => rfl) ?_
  have hFp112 := hT27.2.2.2.2.2.2.1.as (a := 195) (k := 13) (by omega)
  show KW X E Q _ _ _ _ _ (210, σ, asS (asS (asS (asS (asS (asS (asS (asS (asS (asS (asS (asS (asS (asS As 195 0) 195 1) 195 2) 195 3) 195 4) 195 5) 195 6) 195 7) 195 8) 195 9) 195 10) 195 11) 195 12) 195 13)
  have hT28 := hT27.as (k9 := 13)
  refine k_aload_n C dX8_init_115 rfl ?_
  refine k_bipush C dX8_init_116 (by decide) ?_
  refine k_newaI (N9 := 120) C dX8_init_118 sh_210 ac_I (by decide +kernel) (by decide +kernel) (Nat.le_of_ble_eq_true rfl) (hT28.2.2.2.2.2.2.1 210 (by omega)).1 (show 14 + 1 ≤ 32 ∧ 712 + 120 ≤ 22728 by omega) ?_
  show KW X E Q _ _ _ _ _ (211, σ, asS (asS (asS (asS (asS (asS (asS (asS (asS (asS (asS (asS (asS (asS As 195 0) 195 1) 195 2) 195 3) 195 4) 195 5) 195 6) 195 7) 195 8) 195 9) 195 10) 195 11) 195 12) 195 13)
  have hT29 := hT28.i sh_210 (by omega)
  refine k_putR (ty9 := tyX8 14) C hI cl_8 (by decide) kf_8_52 dX8_init_120 sh_195 (by omega) (by decide +kernel) (by decide +kernel) rfl rf_195_14 rfl (tyX8_ok 14 (by decide)) (fun _ => rfl) (fun _ => rfl) ?_
  have hFp120 := hT29.2.2.2.2.2.2.1.as (a := 195) (k := 14) (by omega)
  show KW X E Q _ _ _ _ _ (211, σ, asS (asS (asS (asS (asS (asS (asS (asS (asS (asS (asS (asS (asS (asS (asS As 195 0) 195 1) 195 2) 195 3) 195 4) 195 5) 195 6) 195 7) 195 8) 195 9) 195 10) 195 11) 195 12) 195 13) 195 14)
  have hT30 := hT29.as (k9 := 14)
  refine k_aload_n C dX8_init_123 rfl ?_
  refine k_iconst C dX8_init_124 ?_
  refine k_newaI (N9 := 4) C dX8_init_125 sh_211 ac_I (by decide +kernel) (by decide +kernel) (Nat.le_of_ble_eq_true rfl) (hT30.2.2.2.2.2.2.1 211 (by omega)).1 (show 15 + 1 ≤ 32 ∧ 832 + 4 ≤ 22728 by omega) ?_
  show KW X E Q _ _ _ _ _ (212, σ, asS (asS (asS (asS (asS (asS (asS (asS (asS (asS (asS (asS (asS (asS (asS As 195 0) 195 1) 195 2) 195 3) 195 4) 195 5) 195 6) 195 7) 195 8) 195 9) 195 10) 195 11) 195 12) 195 13) 195 14)
  have hT31 := hT30.q
  refine k_putR (ty9 := tyX8 15) C hI cl_8 (by decide) kf_8_55 dX8_init_127 sh_195 (by omega) (by decide +kernel) (by decide +kernel) rfl rf_195_15 rfl (tyX8_ok 15 (by decide)) (fun _ => rfl) (fun _ => rfl) ?_
  have hFp127 := hT31.2.2.2.2.2.2.1.as (a := 195) (k := 15) (by omega)
  show KW X E Q _ _ _ _ _ (212, σ, asS (asS (asS (asS (asS (asS (asS (asS (asS (asS (asS (asS (asS (asS (asS (asS As 195 0) 195 1) 195 2) 195 3) 195 4) 195 5) 195 6) 195 7) 195 8) 195 9) 195 10) 195 11) 195 12) 195 13) 195 14) 195 15)
  have hT32 := hT31.as (k9 := 15)
  refine k_aload_n C dX8_init_130 rfl ?_
  refine k_iconst C dX8_init_131 ?_
  refine k_newaI (N9 := 4) C dX8_init_132 sh_212 ac_I (by decide +kernel) (by decide +kernel) (Nat.le_of_ble_eq_true rfl) (hT32.2.2.2.2.2.2.1 212 (by omega)).1 (show 16 + 1 ≤ 32 ∧ 836 + 4 ≤ 22728 by omega) ?_
  show KW X E Q _ _ _ _ _ (213, σ, asS (asS (asS (asS (asS (asS (asS (asS (asS (asS (asS (asS (asS (asS (asS (asS As 195 0) 195 1) 195 2) 195 3) 195 4) 195 5) 195 6) 195 7) 195 8) 195 9) 195 10) 195 11) 195 12) 195 13) 195 14) 195 15)
  have hT33 := hT32.i sh_212 (by omega)
  refine k_putR (ty9 := tyX8 16) C hI cl_8 (by decide) kf_8_58 dX8_init_134 sh_195 (by omega) (by decide +kernel) (by decide +kernel) rfl rf_195_16 rfl (tyX8_ok 16 (by decide)) (fun _ => rfl) (fun _ => rfl) ?_
  have hFp134 := hT33.2.2.2.2.2.2.1.as (a := 195) (k := 16) (by omega)
  show KW X E Q _ _ _ _ _ (213, σ, asS (asS (asS (asS (asS (asS (asS (asS (asS (asS (asS (asS (asS (asS (asS (asS (asS As 195 0) 195 1) 195 2) 195 3) 195 4) 195 5) 195 6) 195 7) 195 8) 195 9) 195 10) 195 11) 195 12) 195 13) 195 14) 195 15) 195 16)
  have hT34 := hT33.as (k9 := 16)
  refine k_aload_n C dX8_init_137 rfl ?_
  refine k_bipush C dX8_init_138 (by decide) ?_
  refine k_newaI (N9 := 24) C dX8_init_140 sh_213 ac_I (by decide +kernel) (by decide +kernel) (Nat.le_of_ble_eq_true rfl) (hT34.2.2.2.2.2.2.1 213 (by omega)).1 (show 17 + 1 ≤ 32 ∧ 840 + 24 ≤ 22728 by omega) ?_
  show KW X E Q _ _ _ _ _ (214, σ, asS (asS (asS (asS (asS (asS (asS (asS (asS (asS (asS (asS (asS (asS (asS (asS (asS As 195 0) 195 1) 195 2) 195 3) 195 4) 195 5) 195 6) 195 7) 195 8) 195 9) 195 10) 195 11) 195 12) 195 13) 195 14) 195 15) 195 16)
  have hT35 := hT34.i sh_213 (by omega)
  refine k_putR (ty9 := tyX8 17) C hI cl_8 (by decide) kf_8_61 dX8_init_142 sh_195 (by omega) (by decide +kernel) (by decide +kernel) rfl rf_195_17 rfl (tyX8_ok 17 (by decide)) (fun _ => rfl) (fun _ => rfl) ?_
  have hFp142 := hT35.2.2.2.2.2.2.1.as (a := 195) (k := 17) (by omega)
  show KW X E Q _ _ _ _ _ (214, σ, asS (asS (asS (asS (asS (asS (asS (asS (asS (asS (asS (asS (asS (asS (asS (asS (asS (asS As 195 0) 195 1) 195 2) 195 3) 195 4) 195 5) 195 6) 195 7) 195 8) 195 9) 195 10) 195 11) 195 12) 195 13) 195 14) 195 15) 195 16) 195 17)
  have hT36 := hT35.as (k9 := 17)
  refine k_aload_n C dX8_init_145 rfl ?_
  refine k_bipush C dX8_init_146 (by decide) ?_
  refine k_newaI (N9 := 24) C dX8_init_148 sh_214 ac_I (by decide +kernel) (by decide +kernel) (Nat.le_of_ble_eq_true rfl) (hT36.2.2.2.2.2.2.1 214 (by omega)).1 (show 18 + 1 ≤ 32 ∧ 864 + 24 ≤ 22728 by omega) ?_
  show KW X E Q _ _ _ _ _ (215, σ, asS (asS (asS (asS (asS (asS (asS (asS (asS (asS (asS (asS (asS (asS (asS (asS (asS (asS As 195 0) 195 1) 195 2) 195 3) 195 4) 195 5) 195 6) 195 7) 195 8) 195 9) 195 10) 195 11) 195 12) 195 13) 195 14) 195 15) 195 16) 195 17)
  have hT37 := hT36.i sh_214 (by omega)
  refine k_putR (ty9 := tyX8 18) C hI cl_8 (by decide) kf_8_64 dX8_init_150 sh_195 (by omega) (by decide +kernel) (by decide +kernel) rfl rf_195_18 rfl (tyX8_ok 18 (by decide)) (fun _ => rfl) (fun _ => rfl) ?_
  have hFp150 := hT37.2.2.2.2.2.2.1.as (a := 195) (k := 18) (by omega)
  show KW X E Q _ _ _ _ _ (215, σ, asS (asS (asS (asS (asS (asS (asS (asS (asS (asS (asS (asS (asS (asS (asS (asS (asS (asS (asS As 195 0) 195 1) 195 2) 195 3) 195 4) 195 5) 195 6) 195 7) 195 8) 195 9) 195 10) 195 11) 195 12) 195 13) 195 14) 195 15) 195 16) 195 17) 195 18)
  have hT38 := hT37.as (k9 := 18)
  refine k_aload_n C dX8_init_153 rfl ?_
  refine k_bipush C dX8_init_154 (by decide) ?_
  refine k_newaI (N9 := 24) C dX8_init_156 sh_215 ac_I (by decide +kernel) (by decide +kernel) (Nat.le_of_ble_eq_true rfl) (hT38.2.2.2.2.2.2.1 215 (by omega)).1 (show 19 + 1 ≤ 32 ∧ 888 + 24 ≤ 22728 by omega) ?_
  show KW X E Q _ _ _ _ _ (216, σ, asS (asS (asS (asS (asS (asS (asS (asS (asS (asS (asS (asS (asS (asS (asS (asS (asS (asS (asS As 195 0) 195 1) 195 2) 195 3) 195 4) 195 5) 195 6) 195 7) 195 8) 195 9) 195 10) 195 11) 195 12) 195 13) 195 14) 195 15) 195 16) 195 17) 195 18)
  have hT39 := hT38.i sh_215 (by omega)
  refine k_putR (ty9 := tyX8 19) C hI cl_8 (by decide) kf_8_67 dX8_init_158 sh_195 (by omega) (by decide +kernel) (by decide +kernel) rfl rf_195_19 rfl (tyX8_ok 19 (by decide)) (fun _ => rfl) (fun _ => rfl) ?_
  have hFp158 := hT39.2.2.2.2.2.2.1.as (a := 195) (k := 19) (by omega)
  show KW X E Q _ _ _ _ _ (216, σ, asS (asS (asS (asS (asS (asS (asS (asS (asS (asS (asS (asS (asS (asS (asS (asS (asS (asS (asS (asS As 195 0) 195 1) 195 2) 195 3) 195 4) 195 5) 195 6) 195 7) 195 8) 195 9) 195 10) 195 11) 195 12) 195 13) 195 14) 195 15) 195 16) 195 17) 195 18) 195 19)
  have hT40 := hT39.as (k9 := 19)
  refine k_aload_n C dX8_init_161 rfl ?_
  refine k_bipush C dX8_init_162 (by decide) ?_
  refine k_newaI (N9 := 48) C dX8_init_164 sh_216 ac_I (by decide +kernel) (by decide +kernel) (Nat.le_of_ble_eq_true rfl) (hT40.2.2.2.2.2.2.1 216 (by omega)).1 (show 20 + 1 ≤ 32 ∧ 912 + 48 ≤ 22728 by omega) ?_
  show KW X E Q _ _ _ _ _ (217, σ, asS (asS (asS (asS (asS (asS (asS (asS (asS (asS (asS (asS (asS (asS (asS (asS (asS (asS (asS (asS As 195 0) 195 1) 195 2) 195 3) 195 4) 195 5) 195 6) 195 7) 195 8) 195 9) 195 10) 195 11) 195 12) 195 13) 195 14) 195 15) 195 16) 195 17) 195 18) 195 19)
  have hT41 := hT40.i sh_216 (by omega)
  refine k_putR (ty9 := tyX8 21) C hI cl_8 (by decide) kf_8_70 dX8_init_166 sh_195 (by omega) (by decide +kernel) (by decide +kernel) rfl rf_195_21 rfl (tyX8_ok 21 (by decide)) (fun _ => rfl) (fun _ => rfl) ?_
  have hFp166 := hT41.2.2.2.2.2.2.1.as (a := 195) (k := 21) (by omega)
  show KW X E Q _ _ _ _ _ (217, σ, asS (asS (asS (asS (asS (asS (asS (asS (asS (asS (asS (asS (asS (asS (asS (asS (asS (asS (asS (asS (asS As 195 0) 195 1) 195 2) 195 3) 195 4) 195 5) 195 6) 195 7) 195 8) 195 9) 195 10) 195 11) 195 12) 195 13) 195 14) 195 15) 195 16) 195 17) 195 18) 195 19) 195 21)
  have hT42 := hT41.as (k9 := 21)
  refine k_aload_n C dX8_init_169 rfl ?_
  refine k_bipush C dX8_init_170 (by decide) ?_
  refine k_newaI (N9 := 48) C dX8_init_172 sh_217 ac_I (by decide +kernel) (by decide +kernel) (Nat.le_of_ble_eq_true rfl) (hT42.2.2.2.2.2.2.1 217 (by omega)).1 (show 21 + 1 ≤ 32 ∧ 960 + 48 ≤ 22728 by omega) ?_
  show KW X E Q _ _ _ _ _ (218, σ, asS (asS (asS (asS (asS (asS (asS (asS (asS (asS (asS (asS (asS (asS (asS (asS (asS (asS (asS (asS (asS As 195 0) 195 1) 195 2) 195 3) 195 4) 195 5) 195 6) 195 7) 195 8) 195 9) 195 10) 195 11) 195 12) 195 13) 195 14) 195 15) 195 16) 195 17) 195 18) 195 19) 195 21)
  have hT43 := hT42.i sh_217 (by omega)
  refine k_putR (ty9 := tyX8 23) C hI cl_8 (by decide) kf_8_73 dX8_init_174 sh_195 (by omega) (by decide +kernel) (by decide +kernel) rfl rf_195_23 rfl (tyX8_ok 23 (by decide)) (fun _ => rfl) (fun _ => rfl) ?_
  have hFp174 := hT43.2.2.2.2.2.2.1.as (a := 195) (k := 23) (by omega)
  show KW X E Q _ _ _ _ _ (218, σ, asS (asS (asS (asS (asS (asS (asS (asS (asS (asS (asS (asS (asS (asS (asS (asS (asS (asS (asS (asS (asS (asS As 195 0) 195 1) 195 2) 195 3) 195 4) 195 5) 195 6) 195 7) 195 8) 195 9) 195 10) 195 11) 195 12) 195 13) 195 14) 195 15) 195 16) 195 17) 195 18) 195 19) 195 21) 195 23)
  have hT44 := hT43.as (k9 := 23)
  refine k_aload_n C dX8_init_177 rfl ?_
  refine k_bipush C dX8_init_178 (by decide) ?_
  refine k_newaI (N9 := 48) C dX8_init_180 sh_218 ac_I (by decide +kernel) (by decide +kernel) (Nat.le_of_ble_eq_true rfl) (hT44.2.2.2.2.2.2.1 218 (by omega)).1 (show 22 + 1 ≤ 32 ∧ 1008 + 48 ≤ 22728 by omega) ?_
  show KW X E Q _ _ _ _ _ (219, σ, asS (asS (asS (asS (asS (asS (asS (asS (asS (asS (asS (asS (asS (asS (asS (asS (asS (asS (asS (asS (asS (asS As 195 0) 195 1) 195 2) 195 3) 195 4) 195 5) 195 6) 195 7) 195 8) 195 9) 195 10) 195 11) 195 12) 195 13) 195 14) 195 15) 195 16) 195 17) 195 18) 195 19) 195 21) 195 23)
  have hT45 := hT44.i sh_218 (by omega)
  refine k_putR (ty9 := tyX8 25) C hI cl_8 (by decide) kf_8_76 dX8_init_182 sh_195 (by omega) (by decide +kernel) (by decide +kernel) rfl rf_195_25 rfl (tyX8_ok 25 (by decide)) (fun _ => rfl) (fun _ => rfl) ?_
  have hFp182 := hT45.2.2.2.2.2.2.1.as (a := 195) (k := 25) (by omega)
  show KW X E Q _ _ _ _ _ (219, σ, asS (asS (asS (asS (asS (asS (asS (asS (asS (asS (asS (asS (asS (asS (asS (asS (asS (asS (asS (asS (asS (asS (asS As 195 0) 195 1) 195 2) 195 3) 195 4) 195 5) 195 6) 195 7) 195 8) 195 9) 195 10) 195 11) 195 12) 195 13) 195 14) 195 15) 195 16) 195 17) 195 18) 195 19) 195 21) 195 23) 195 25)
  have hT46 := hT45.as (k9 := 25)
  refine k_aload_n C dX8_init_185 rfl ?_
  refine k_bipush C dX8_init_186 (by decide) ?_
  refine k_newaI (N9 := 20) C dX8_init_188 sh_219 ac_I (by decide +kernel) (by decide +kernel) (Nat.le_of_ble_eq_true rfl) (hT46.2.2.2.2.2.2.1 219 (by omega)).1 (show 23 + 1 ≤ 32 ∧ 1056 + 20 ≤ 22728 by omega) ?_
  show KW X E Q _ _ _ _ _ (220, σ, asS (asS (asS (asS (asS (asS (asS (asS (asS (asS (asS (asS (asS (asS (asS (asS (asS (asS (asS (asS (asS (asS (asS As 195 0) 195 1) 195 2) 195 3) 195 4) 195 5) 195 6) 195 7) 195 8) 195 9) 195 10) 195 11) 195 12) 195 13) 195 14) 195 15) 195 16) 195 17) 195 18) 195 19) 195 21) 195 23) 195 25)
  have hT47 := hT46.i sh_219 (by omega)
  refine k_putR (ty9 := tyX8 27) C hI cl_8 (by decide) kf_8_79 dX8_init_190 sh_195 (by omega) (by decide +kernel) (by decide +kernel) rfl rf_195_27 rfl (tyX8_ok 27 (by decide)) (fun _ => rfl) (fun _ => rfl) ?_
  have hFp190 := hT47.2.2.2.2.2.2.1.as (a := 195) (k := 27) (by omega)
  show KW X E Q _ _ _ _ _ (220, σ, asS (asS (asS (asS (asS (asS (asS (asS (asS (asS (asS (asS (asS (asS (asS (asS (asS (asS (asS (asS (asS (asS (asS (asS As 195 0) 195 1) 195 2) 195 3) 195 4) 195 5) 195 6) 195 7) 195 8) 195 9) 195 10) 195 11) 195 12) 195 13) 195 14) 195 15) 195 16) 195 17) 195 18) 195 19) 195 21) 195 23) 195 25) 195 27)
  have hT48 := hT47.as (k9 := 27)
  refine k_aload_n C dX8_init_193 rfl ?_
  refine k_bipush C dX8_init_194 (by decide) ?_
  refine k_newaI (N9 := 20) C dX8_init_196 sh_220 ac_I (by decide +kernel) (by decide +kernel) (Nat.le_of_ble_eq_true rfl) (hT48.2.2.2.2.2.2.1 220 (by omega)).1 (show 24 + 1 ≤ 32 ∧ 1076 + 20 ≤ 22728 by omega) ?_
  show KW X E Q _ _ _ _ _ (221, σ, asS (asS (asS (asS (asS (asS (asS (asS (asS (asS (asS (asS (asS (asS (asS (asS (asS (asS (asS (asS (asS (asS (asS (asS As 195 0) 195 1) 195 2) 195 3) 195 4) 195 5) 195 6) 195 7) 195 8) 195 9) 195 10) 195 11) 195 12) 195 13) 195 14) 195 15) 195 16) 195 17) 195 18) 195 19) 195 21) 195 23) 195 25) 195 27)
  have hT49 := hT48.i sh_220 (by omega)
  refine k_putR (ty9 := tyX8 29) C hI cl_8 (by decide) kf_8_82 dX8_init_198 sh_195 (by omega) (by decide +kernel) (by decide +kernel) rfl rf_195_29 rfl (tyX8_ok 29 (by decide)) (fun _ => rfl) (fun _ => rfl) ?_
  have hFp198 := hT49.2.2.2.2.2.2.1.as (a := 195) (k := 29) (by omega)
  show KW X E Q _ _ _ _ _ (221, σ, asS (asS (asS (asS (asS (asS (asS (asS (asS (asS (asS (asS (asS (asS (asS (asS (asS (asS (asS (asS (asS (asS (asS (asS (asS As 195 0) 195 1) 195 2) 195 3) 195 4) 195 5) 195 6) 195 7) 195 8) 195 9) 195 10) 195 11) 195 12) 195 13) 195 14) 195 15) 195 16) 195 17) 195 18) 195 19) 195 21) 195 23) 195 25) 195 27) 195 29)
  have hT50 := hT49.as (k9 := 29)
  refine k_aload_n C dX8_init_201 rfl ?_
  refine k_bipush C dX8_init_202 (by decide) ?_
  refine k_newaI (N9 := 20) C dX8_init_204 sh_221 ac_I (by decide +kernel) (by decide +kernel) (Nat.le_of_ble_eq_true rfl) (hT50.2.2.2.2.2.2.1 221 (by omega)).1 (show 25 + 1 ≤ 32 ∧ 1096 + 20 ≤ 22728 by omega) ?_
  show KW X E Q _ _ _ _ _ (222, σ, asS (asS (asS (asS (asS (asS (asS (asS (asS (asS (asS (asS (asS (asS (asS (asS (asS (asS (asS (asS (asS (asS (asS (asS (asS As 195 0) 195 1) 195 2) 195 3) 195 4) 195 5) 195 6) 195 7) 195 8) 195 9) 195 10) 195 11) 195 12) 195 13) 195 14) 195 15) 195 16) 195 17) 195 18) 195 19) 195 21) 195 23) 195 25) 195 27) 195 29)
  have hT51 := hT50.i sh_221 (by omega)
  refine k_putR (ty9 := tyX8 30) C hI cl_8 (by decide) kf_8_85 dX8_init_206 sh_195 (by omega) (by decide +kernel) (by decide +kernel) rfl rf_195_30 rfl (tyX8_ok 30 (by decide)) (fun _ => rfl) (fun _ => rfl) ?_
  have hFp206 := hT51.2.2.2.2.2.2.1.as (a := 195) (k := 30) (by omega)
  show KW X E Q _ _ _ _ _ (222, σ, asS (asS (asS (asS (asS (asS (asS (asS (asS (asS (asS (asS (asS (asS (asS (asS (asS (asS (asS (asS (asS (asS (asS (asS (asS (asS As 195 0) 195 1) 195 2) 195 3) 195 4) 195 5) 195 6) 195 7) 195 8) 195 9) 195 10) 195 11) 195 12) 195 13) 195 14) 195 15) 195 16) 195 17) 195 18) 195 19) 195 21) 195 23) 195 25) 195 27) 195 29) 195 30)
  have hT52 := hT51.as (k9 := 30)
  refine k_aload_n C dX8_init_209 rfl ?_
  refine k_sipush C dX8_init_210 (by decide) ?_
  refine k_newaI (N9 := 400) C dX8_init_213 sh_222 ac_I (by decide +kernel) (by decide +kernel) (Nat.le_of_ble_eq_true rfl) (hT52.2.2.2.2.2.2.1 222 (by omega)).1 (show 26 + 1 ≤ 32 ∧ 1116 + 400 ≤ 22728 by omega) ?_
  show KW X E Q _ _ _ _ _ (223, σ, asS (asS (asS (asS (asS (asS (asS (asS (asS (asS (asS (asS (asS (asS (asS (asS (asS (asS (asS (asS (asS (asS (asS (asS (asS (asS As 195 0) 195 1) 195 2) 195 3) 195 4) 195 5) 195 6) 195 7) 195 8) 195 9) 195 10) 195 11) 195 12) 195 13) 195 14) 195 15) 195 16) 195 17) 195 18) 195 19) 195 21) 195 23) 195 25) 195 27) 195 29) 195 30)
  have hT53 := hT52.i sh_222 (by omega)
  refine k_putR (ty9 := tyX8 31) C hI cl_8 (by decide) kf_8_88 dX8_init_215 sh_195 (by omega) (by decide +kernel) (by decide +kernel) rfl rf_195_31 rfl (tyX8_ok 31 (by decide)) (fun _ => rfl) (fun _ => rfl) ?_
  have hFp215 := hT53.2.2.2.2.2.2.1.as (a := 195) (k := 31) (by omega)
  show KW X E Q _ _ _ _ _ (223, σ, asS (asS (asS (asS (asS (asS (asS (asS (asS (asS (asS (asS (asS (asS (asS (asS (asS (asS (asS (asS (asS (asS (asS (asS (asS (asS (asS As 195 0) 195 1) 195 2) 195 3) 195 4) 195 5) 195 6) 195 7) 195 8) 195 9) 195 10) 195 11) 195 12) 195 13) 195 14) 195 15) 195 16) 195 17) 195 18) 195 19) 195 21) 195 23) 195 25) 195 27) 195 29) 195 30) 195 31)
  have hT54 := hT53.as (k9 := 31)
  refine k_aload_n C dX8_init_218 rfl ?_
  refine k_sipush C dX8_init_219 (by decide) ?_
  refine k_newaI (N9 := 1000) C dX8_init_222 sh_223 ac_I (by decide +kernel) (by decide +kernel) (Nat.le_of_ble_eq_true rfl) (hT54.2.2.2.2.2.2.1 223 (by omega)).1 (show 27 + 1 ≤ 32 ∧ 1516 + 1000 ≤ 22728 by omega) ?_
  show KW X E Q _ _ _ _ _ (224, σ, asS (asS (asS (asS (asS (asS (asS (asS (asS (asS (asS (asS (asS (asS (asS (asS (asS (asS (asS (asS (asS (asS (asS (asS (asS (asS (asS As 195 0) 195 1) 195 2) 195 3) 195 4) 195 5) 195 6) 195 7) 195 8) 195 9) 195 10) 195 11) 195 12) 195 13) 195 14) 195 15) 195 16) 195 17) 195 18) 195 19) 195 21) 195 23) 195 25) 195 27) 195 29) 195 30) 195 31)
  have hT55 := hT54.i sh_223 (by omega)
  refine k_putR (ty9 := tyX8 32) C hI cl_8 (by decide) kf_8_91 dX8_init_224 sh_195 (by omega) (by decide +kernel) (by decide +kernel) rfl rf_195_32 rfl (tyX8_ok 32 (by decide)) (fun _ => rfl) (fun _ => rfl) ?_
  have hFp224 := hT55.2.2.2.2.2.2.1.as (a := 195) (k := 32) (by omega)
  show KW X E Q _ _ _ _ _ (224, σ, asS (asS (asS (asS (asS (asS (asS (asS (asS (asS (asS (asS (asS (asS (asS (asS (asS (asS (asS (asS (asS (asS (asS (asS (asS (asS (asS (asS As 195 0) 195 1) 195 2) 195 3) 195 4) 195 5) 195 6) 195 7) 195 8) 195 9) 195 10) 195 11) 195 12) 195 13) 195 14) 195 15) 195 16) 195 17) 195 18) 195 19) 195 21) 195 23) 195 25) 195 27) 195 29) 195 30) 195 31) 195 32)
  have hT56 := hT55.as (k9 := 32)
  refine k_aload_n C dX8_init_227 rfl ?_
  refine k_sipush C dX8_init_228 (by decide) ?_
  refine k_newaI (N9 := 20000) C dX8_init_231 sh_224 ac_I (by decide +kernel) (by decide +kernel) (Nat.le_of_ble_eq_true rfl) (hT56.2.2.2.2.2.2.1 224 (by omega)).1 (show 28 + 1 ≤ 32 ∧ 2516 + 20000 ≤ 22728 by omega) ?_
  show KW X E Q _ _ _ _ _ (225, σ, asS (asS (asS (asS (asS (asS (asS (asS (asS (asS (asS (asS (asS (asS (asS (asS (asS (asS (asS (asS (asS (asS (asS (asS (asS (asS (asS (asS As 195 0) 195 1) 195 2) 195 3) 195 4) 195 5) 195 6) 195 7) 195 8) 195 9) 195 10) 195 11) 195 12) 195 13) 195 14) 195 15) 195 16) 195 17) 195 18) 195 19) 195 21) 195 23) 195 25) 195 27) 195 29) 195 30) 195 31) 195 32)
  have hT57 := hT56.i sh_224 (by omega)
  refine k_putR (ty9 := tyX8 33) C hI cl_8 (by decide) kf_8_94 dX8_init_233 sh_195 (by omega) (by decide +kernel) (by decide +kernel) rfl rf_195_33 rfl (tyX8_ok 33 (by decide)) (fun _ => rfl) (fun _ => rfl) ?_
  have hFp233 := hT57.2.2.2.2.2.2.1.as (a := 195) (k := 33) (by omega)
  show KW X E Q _ _ _ _ _ (225, σ, asS (asS (asS (asS (asS (asS (asS (asS (asS (asS (asS (asS (asS (asS (asS (asS (asS (asS (asS (asS (asS (asS (asS (asS (asS (asS (asS (asS (asS As 195 0) 195 1) 195 2) 195 3) 195 4) 195 5) 195 6) 195 7) 195 8) 195 9) 195 10) 195 11) 195 12) 195 13) 195 14) 195 15) 195 16) 195 17) 195 18) 195 19) 195 21) 195 23) 195 25) 195 27) 195 29) 195 30) 195 31) 195 32) 195 33)
  have hT58 := hT57.as (k9 := 33)
  refine k_aload_n C dX8_init_236 rfl ?_
  refine k_bipush C dX8_init_237 (by decide) ?_
  refine k_newaI (N9 := 6) C dX8_init_239 sh_225 ac_I (by decide +kernel) (by decide +kernel) (Nat.le_of_ble_eq_true rfl) (hT58.2.2.2.2.2.2.1 225 (by omega)).1 (show 29 + 1 ≤ 32 ∧ 22516 + 6 ≤ 22728 by omega) ?_
  show KW X E Q _ _ _ _ _ (226, σ, asS (asS (asS (asS (asS (asS (asS (asS (asS (asS (asS (asS (asS (asS (asS (asS (asS (asS (asS (asS (asS (asS (asS (asS (asS (asS (asS (asS (asS As 195 0) 195 1) 195 2) 195 3) 195 4) 195 5) 195 6) 195 7) 195 8) 195 9) 195 10) 195 11) 195 12) 195 13) 195 14) 195 15) 195 16) 195 17) 195 18) 195 19) 195 21) 195 23) 195 25) 195 27) 195 29) 195 30) 195 31) 195 32) 195 33)
  have hT59 := hT58.q
  refine k_putR (ty9 := tyX8 34) C hI cl_8 (by decide) kf_8_97 dX8_init_241 sh_195 (by omega) (by decide +kernel) (by decide +kernel) rfl rf_195_34 rfl (tyX8_ok 34 (by decide)) (fun _ => rfl) (fun _ => rfl) ?_
  have hFp241 := hT59.2.2.2.2.2.2.1.as (a := 195) (k := 34) (by omega)
  show KW X E Q _ _ _ _ _ (226, σ, asS (asS (asS (asS (asS (asS (asS (asS (asS (asS (asS (asS (asS (asS (asS (asS (asS (asS (asS (asS (asS (asS (asS (asS (asS (asS (asS (asS (asS (asS As 195 0) 195 1) 195 2) 195 3) 195 4) 195 5) 195 6) 195 7) 195 8) 195 9) 195 10) 195 11) 195 12) 195 13) 195 14) 195 15) 195 16) 195 17) 195 18) 195 19) 195 21) 195 23) 195 25) 195 27) 195 29) 195 30) 195 31) 195 32) 195 33) 195 34)
  have hT60 := hT59.as (k9 := 34)
  refine k_aload_n C dX8_init_244 rfl ?_
  refine k_bipush C dX8_init_245 (by decide) ?_
  refine k_newaI (N9 := 6) C dX8_init_247 sh_226 ac_I (by decide +kernel) (by decide +kernel) (Nat.le_of_ble_eq_true rfl) (hT60.2.2.2.2.2.2.1 226 (by omega)).1 (show 30 + 1 ≤ 32 ∧ 22522 + 6 ≤ 22728 by omega) ?_
  show KW X E Q _ _ _ _ _ (227, σ, asS (asS (asS (asS (asS (asS (asS (asS (asS (asS (asS (asS (asS (asS (asS (asS (asS (asS (asS (asS (asS (asS (asS (asS (asS (asS (asS (asS (asS (asS As 195 0) 195 1) 195 2) 195 3) 195 4) 195 5) 195 6) 195 7) 195 8) 195 9) 195 10) 195 11) 195 12) 195 13) 195 14) 195 15) 195 16) 195 17) 195 18) 195 19) 195 21) 195 23) 195 25) 195 27) 195 29) 195 30) 195 31) 195 32) 195 33) 195 34)
  have hT61 := hT60.i sh_226 (by omega)
  refine k_putR (ty9 := tyX8 35) C hI cl_8 (by decide) kf_8_100 dX8_init_249 sh_195 (by omega) (by decide +kernel) (by decide +kernel) rfl rf_195_35 rfl (tyX8_ok 35 (by decide)) (fun _ => rfl) (fun _ => rfl) ?_
  have hFp249 := hT61.2.2.2.2.2.2.1.as (a := 195) (k := 35) (by omega)
  show KW X E Q _ _ _ _ _ (227, σ, asS (asS (asS (asS (asS (asS (asS (asS (asS (asS (asS (asS (asS (asS (asS (asS (asS (asS (asS (asS (asS (asS (asS (asS (asS (asS (asS (asS (asS (asS (asS As 195 0) 195 1) 195 2) 195 3) 195 4) 195 5) 195 6) 195 7) 195 8) 195 9) 195 10) 195 11) 195 12) 195 13) 195 14) 195 15) 195 16) 195 17) 195 18) 195 19) 195 21) 195 23) 195 25) 195 27) 195 29) 195 30) 195 31) 195 32) 195 33) 195 34) 195 35)
  have hT62 := hT61.as (k9 := 35)
  refine k_aload_n C dX8_init_252 rfl ?_
  refine k_sipush C dX8_init_253 (by decide) ?_
  refine k_newaI (N9 := 200) C dX8_init_256 sh_227 ac_I (by decide +kernel) (by decide +kernel) (Nat.le_of_ble_eq_true rfl) (hT62.2.2.2.2.2.2.1 227 (by omega)).1 (show 31 + 1 ≤ 32 ∧ 22528 + 200 ≤ 22728 by omega) ?_
  show KW X E Q _ _ _ _ _ (228, σ, asS (asS (asS (asS (asS (asS (asS (asS (asS (asS (asS (asS (asS (asS (asS (asS (asS (asS (asS (asS (asS (asS (asS (asS (asS (asS (asS (asS (asS (asS (asS As 195 0) 195 1) 195 2) 195 3) 195 4) 195 5) 195 6) 195 7) 195 8) 195 9) 195 10) 195 11) 195 12) 195 13) 195 14) 195 15) 195 16) 195 17) 195 18) 195 19) 195 21) 195 23) 195 25) 195 27) 195 29) 195 30) 195 31) 195 32) 195 33) 195 34) 195 35)
  have hT63 := hT62.i sh_227 (by omega)
  refine k_putR (ty9 := tyX8 38) C hI cl_8 (by decide) kf_8_103 dX8_init_258 sh_195 (by omega) (by decide +kernel) (by decide +kernel) rfl rf_195_38 rfl (tyX8_ok 38 (by decide)) (fun _ => rfl) (fun _ => rfl) ?_
  have hFp258 := hT63.2.2.2.2.2.2.1.as (a := 195) (k := 38) (by omega)
  show KW X E Q _ _ _ _ _ (228, σ, asS (asS (asS (asS (asS (asS (asS (asS (asS (asS (asS (asS (asS (asS (asS (asS (asS (asS (asS (asS (asS (asS (asS (asS (asS (asS (asS (asS (asS (asS (asS (asS As 195 0) 195 1) 195 2) 195 3) 195 4) 195 5) 195 6) 195 7) 195 8) 195 9) 195 10) 195 11) 195 12) 195 13) 195 14) 195 15) 195 16) 195 17) 195 18) 195 19) 195 21) 195 23) 195 25) 195 27) 195 29) 195 30) 195 31) 195 32) 195 33) 195 34) 195 35) 195 38)
  have hT64 := hT63.as (k9 := 38)
  refine k_iconst C dX8_init_261 ?_
  refine k_istore_n (ls2 := [some (vR 195), some (vI 0)]) C dX8_init_262 (by decide) rfl ?_
  generalize hA8 : asS (asS (asS (asS (asS (asS (asS (asS (asS (asS (asS (asS (asS (asS (asS (asS (asS (asS (asS (asS (asS (asS (asS (asS (asS (asS (asS (asS (asS (asS (asS (asS As 195 0) 195 1) 195 2) 195 3) 195 4) 195 5) 195 6) 195 7) 195 8) 195 9) 195 10) 195 11) 195 12) 195 13) 195 14) 195 15) 195 16) 195 17) 195 18) 195 19) 195 21) 195 23) 195 25) 195 27) 195 29) 195 30) 195 31) 195 32) 195 33) 195 34) 195 35) 195 38 = As8 at hT64 ⊢
  have L283 : ∀ (d m : Nat) (σ9 : sv_G), m + d = 6 → (∀ b k, b ≠ 211 → b ≠ 225 → σ9 b k = σ b k) → (∀ k : Int, σ9 211 k = if 0 ≤ k ∧ k < 4 then -1 else 0) → (∀ k : Int, σ9 225 k = if 0 ≤ k ∧ k < m then 10 else 0) → KW X E Q 32 (22728) 283 [some (vR 195), some (vI (m : Int))] [] (228, σ9, As8) := by
    intro d
    induction d with
    | zero =>
      intro m σ9 hm h1 h0 h2
      refine k_iload_n C dX8_init_283 rfl ?_
      refine k_bipush C dX8_init_284 (by decide) ?_
      refine k_icmp_ge (tgt := 303) C dX8_init_286 (by decide) (by omega) (by omega) (fun c9 => ?_) (fun c9 => ?_)
      · refine k_vret C hQ dX8_init_303 rfl ⟨rfl, fun b hb => ⟨by funext k; exact (h1 b k (by omega) (by omega)).trans (congrFun (hT64.1 b hb).1 k), (hT64.1 b hb).2⟩, fun b c1 c2 => ?_, fun b hb => ⟨fun k => (h1 b k (by omega) (by omega)).trans ((hT64.2.2.2.2.2.2.1 b (by omega)).1 k), (hT64.2.2.2.2.2.2.1 b (by omega)).2⟩⟩ (by constructor <;> decide)
        by_cases q1 : b = 195
        · rw [q1]
          refine ⟨fun k => ?_, fun k hk => ?_⟩
          · show σ9 195 k = _
            rw [h1 195 k (by decide) (by decide), hT64.2.1 k, g0_z (by decide +kernel) (by decide +kernel) (by decide) (by decide) (by decide)]
          · obtain ⟨k1, k2, k3⟩ := isR_o sh_195 (by decide) hk
            exact hT64.2.2.1 k ((by decide +kernel : ∀ k ∈ ([0, 1, 2, 3, 4, 5, 6, 7, 8, 9, 10, 11, 12, 13, 14, 15, 16, 17, 18, 19, 21, 23, 25, 27, 29, 30, 31, 32, 33, 34, 35, 38] : List Nat), k ∈ ([38, 35, 34, 33, 32, 31, 30, 29, 27, 25, 23, 21, 19, 18, 17, 16, 15, 14, 13, 12, 11, 10, 9, 8, 7, 6, 5, 4, 3, 2, 1, 0] : List Nat)) k (rk_8 k k1 k2 k3))
        · by_cases q2 : b = 211
          · rw [q2]
            refine ⟨fun k => ?_, fun k hk => (isR_i sh_211 hk).elim⟩
            show σ9 211 k = _
            rw [h0 k, g0_211]
          · by_cases q3 : b = 225
            · rw [q3]
              refine ⟨fun k => ?_, fun k hk => (isR_i sh_225 hk).elim⟩
              show σ9 225 k = _
              rw [h2 k, g0_225, show (m : Int) = 6 by omega]
            · have z := hT64.2.2.2.1 b (by omega) (by omega) (by simp; omega)
              exact ⟨fun k => (h1 b k q2 q3).trans (z.1 k), z.2⟩
      · exfalso; omega
    | succ d ih =>
      intro m σ9 hm h1 h0 h2
      refine k_iload_n C dX8_init_283 rfl ?_
      refine k_bipush C dX8_init_284 (by decide) ?_
      refine k_icmp_ge (tgt := 303) C dX8_init_286 (by decide) (by omega) (by omega) (fun c9 => ?_) (fun c9 => ?_)
      · exfalso; omega
      ·
        refine k_aload_n C dX8_init_289 rfl ?_
        refine k_getR C cl_8 (by decide) kf_8_97 dX8_init_290 sh_195 (by omega) (by decide +kernel) (by decide +kernel) (hT64.2.2.1 34 (by decide)) rf_195_34 ?_
        refine k_iload_n C dX8_init_293 rfl ?_
        refine k_bipush C dX8_init_294 (by decide) ?_
        refine k_iast (N9 := 6) C dX8_init_296 sh_225 (by omega) ⟨by omega, by omega⟩ ?_
        show KW X E Q _ _ _ _ _ (228, up σ9 225 (m : Int) 10, As8)
        refine k_iinc (z2 := ((m + 1 : Nat) : Int)) (ls2 := [some (vR 195), some (vI (((m + 1 : Nat) : Int)))]) C dX8_init_297 (by decide) rfl (by omega) rfl ?_
        refine k_goto (tgt := 283) C dX8_init_300 (by decide) ?_
        refine k_uw rfl rfl rfl (ih (m + 1) _ (by omega) (fun b k ha hb => by rw [up_a hb]; exact h1 b k ha hb) (fun k => by rw [up_a (by decide)]; exact h0 k) (fun k => ?_))
        rw [up_i, h2]
        by_cases q : k = (m : Int)
        · rw [if_pos q, if_pos (by omega)]
        · rw [if_neg q]
          by_cases q2 : 0 ≤ k ∧ k < (m : Int)
          · rw [if_pos q2, if_pos (by omega)]
          · rw [if_neg q2, if_neg (by omega)]
  have L263 : ∀ (d m : Nat) (σ9 : sv_G), m + d = 4 → (∀ b k, b ≠ 211 → σ9 b k = σ b k) → (∀ k : Int, σ9 211 k = if 0 ≤ k ∧ k < m then -1 else 0) → KW X E Q 32 (22728) 263 [some (vR 195), some (vI (m : Int))] [] (228, σ9, As8) := by
    intro d
    induction d with
    | zero =>
      intro m σ9 hm h1 h2
      refine k_iload_n C dX8_init_263 rfl ?_
      refine k_iconst C dX8_init_264 ?_
      refine k_icmp_ge (tgt := 281) C dX8_init_265 (by decide) (by omega) (by omega) (fun c9 => ?_) (fun c9 => ?_)
      · have hmN : m = 4 := by omega
        subst hmN
        refine k_iconst C dX8_init_281 ?_
        refine k_istore_n (ls2 := [some (vR 195), some (vI 0)]) C dX8_init_282 (by decide) rfl ?_
        exact k_uw rfl rfl rfl (L283 6 0 _ rfl (fun b k ha _ => h1 b k ha) h2 (fun k => by rw [if_neg (by omega), h1 225 k (by decide)]; exact (hT64.2.2.2.2.1 225 (by decide)).2.2 k))
      · exfalso; omega
    | succ d ih =>
      intro m σ9 hm h1 h2
      refine k_iload_n C dX8_init_263 rfl ?_
      refine k_iconst C dX8_init_264 ?_
      refine k_icmp_ge (tgt := 281) C dX8_init_265 (by decide) (by omega) (by omega) (fun c9 => ?_) (fun c9 => ?_)
      · exfalso; omega
      ·
        refine k_aload_n C dX8_init_268 rfl ?_
        refine k_getR C cl_8 (by decide) kf_8_55 dX8_init_269 sh_195 (by omega) (by decide +kernel) (by decide +kernel) (hT64.2.2.1 15 (by decide)) rf_195_15 ?_
        refine k_iload_n C dX8_init_272 rfl ?_
        refine k_iconst C dX8_init_273 ?_
        refine k_iast (N9 := 4) C dX8_init_274 sh_211 (by omega) ⟨by omega, by omega⟩ ?_
        show KW X E Q _ _ _ _ _ (228, up σ9 211 (m : Int) (-1), As8)
        refine k_iinc (z2 := ((m + 1 : Nat) : Int)) (ls2 := [some (vR 195), some (vI (((m + 1 : Nat) : Int)))]) C dX8_init_275 (by decide) rfl (by omega) rfl ?_
        refine k_goto (tgt := 263) C dX8_init_278 (by decide) ?_
        refine k_uw rfl rfl rfl (ih (m + 1) _ (by omega) (fun b k hb => by rw [up_a hb]; exact h1 b k hb) (fun k => ?_))
        rw [up_i, h2]
        by_cases q : k = (m : Int)
        · rw [if_pos q, if_pos (by omega)]
        · rw [if_neg q]
          by_cases q2 : 0 ≤ k ∧ k < (m : Int)
          · rw [if_pos q2, if_pos (by omega)]
          · rw [if_neg q2, if_neg (by omega)]
  exact k_uw rfl rfl rfl (L263 4 0 _ rfl (fun _ _ _ => rfl) (fun k => by rw [if_neg (by omega)]; exact (hT64.2.2.2.2.1 211 (by decide)).2.2 k))
