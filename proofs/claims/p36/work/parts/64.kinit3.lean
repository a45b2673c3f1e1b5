/-! The constructors with loops. -/
theorem g0_10 {b : Nat} (hb : b = 21 ∨ b = 225) (hs : ¬ ((shp b).1 = 1 ∨ (shp b).1 = 4)) (k : Int) : g0 b k = if 0 ≤ k ∧ k < 6 then 10 else 0 := by
  unfold g0
  rw [if_neg (fun z => hs z.1)]
  by_cases q : 0 ≤ k ∧ k < 6
  · rw [if_pos q, if_pos ⟨hb, q⟩]
  · rw [if_neg q, if_neg (fun z => q z.2), if_neg (fun z => by omega)]
theorem g0_21 (k : Int) : g0 21 k = if 0 ≤ k ∧ k < 6 then 10 else 0 := g0_10 (Or.inl rfl) (by decide +kernel) k
set_option maxRecDepth 100000 in
set_option maxHeartbeats 8000000 in
theorem kX4_init {E : sv_E} {σ : sv_G} {As : Nat → Nat → Bool} {a : Nat} (ha : shp a = (4, 0)) (hF : Fr σ As a) : KC E MX4_init 2 16 235 [vR a] (a + 1, σ, As) (fun K9 => K9.1 = a + 17 ∧ CP a 17 σ As K9.2.1 K9.2.2) := by
  refine KC.of (RX4, cX4_init, 2, none, [], 2, 16, 235) rfl moX4_init (Nat.le_of_ble_eq_true rfl) (ls0 := [some (vR a), none]) rfl ?_
  intro X Q C hI hQ
  have hid := id_4 ha
  have L75 : ∀ (d m : Nat) (σ9 : sv_G) (As9 : Nat → Nat → Bool), m + d = 5 → St a (fun k => if k = (4 : Int) then (-1 : Int) else (fun _ => 0) k) [7, 6, 5, 3, 1, 0] [a + 4] [(a + 4, m)] σ As σ9 As9 (a + 12 + m) → KW X E Q (11 + 1 * m) (200 + 7 * m) 75 [some (vR a), some (vI (m : Int))] [] (a + 12 + m, σ9, As9) := by
    intro d
    induction d with
    | zero =>
      intro m σ9 As9 hm hT0
      refine k_iload_n C dX4_init_75 rfl ?_
      refine k_iconst C dX4_init_76 ?_
      refine k_icmp_ge (tgt := 99) C dX4_init_77 (by decide) (by omega) (by omega) (fun c9 => ?_) (fun c9 => ?_)
      · refine k_vret C hQ dX4_init_99 rfl ⟨by show a + 12 + m = a + 17; omega, St.fin (σ := σ9) (As := As9) hT0 (fun k => ?_) (fun k hk => ?_) (fun b hb => ?_) (by omega)⟩ (by constructor <;> omega)
        · unfold g0
          rw [ha]
          by_cases q : k = 4
          · rw [if_pos q, if_pos ⟨Or.inr rfl, q⟩]
          · rw [if_neg q, if_neg (fun z => q z.2), if_neg (by omega), if_neg (by omega)]
        · obtain ⟨k1, k2, k3⟩ := isR_o ha (by decide) hk
          rcases rk_4 k k1 k2 k3 with q | q | q | q | q | q <;> rw [q] <;> decide
        · rw [List.mem_singleton.mp hb]
          refine ⟨fun k => g0_z (by rw [shc_4_1 ha]; show (14 : Nat) ≠ 1; decide) (by rw [shc_4_1 ha]; show (14 : Nat) ≠ 4; decide) (by omega) (by omega) (by omega), 5, ?_, fun k hk => isR_a (t := 4) (shc_4_1 ha) (by decide) hk⟩
          rw [show (5 : Nat) = m by omega]; exact List.mem_cons_self
      · exfalso; omega
    | succ d ih =>
      intro m σ9 As9 hm hT0
      refine k_iload_n C dX4_init_75 rfl ?_
      refine k_iconst C dX4_init_76 ?_
      refine k_icmp_ge (tgt := 99) C dX4_init_77 (by decide) (by omega) (by omega) (fun c9 => ?_) (fun c9 => ?_)
      · exfalso; omega
      · have hsm : shp (a + 12 + m) = (1, 0) := by
          have z := sha_14 (shc_4_1 ha) (k := m) (by omega)
          rwa [show a + 4 + 8 + m = a + 12 + m by omega] at z
        refine k_aload_n C dX4_init_80 rfl ?_
        refine k_getR C cl_4 (by decide) kf_4_20 dX4_init_81 ha (by omega) (by decide +kernel) (by decide +kernel) (hT0.2.2.1 1 (by decide)) (rfc_4_1 ha) ?_
        refine k_iload_n C dX4_init_84 rfl ?_
        refine k_new C dX4_init_85 hsm cl_1 kc_X4_18 kn_1 kz_1 nl_1 (fun k => (hT0.2.2.2.2.2.2.1 (a + 12 + m) (by omega)).1 k) (hT0.2.2.2.2.2.2.1 (a + 12 + m) (by omega)).2 (show 11 + 1 * m + 1 ≤ 16 ∧ 200 + 7 * m + 7 ≤ 235 by omega) ?_
        show KW X E Q _ _ _ _ _ (a + 12 + m + 1, σ9, As9)
        refine k_dup C dX4_init_88 rfl ?_
        refine k_cIN C dX4_init_89 ki_X4_51 moX1_init (kX1_init hsm (hT0.2.2.2.2.2.2.1.le (by omega))) (by decide) (Nat.le_of_ble_eq_true rfl) (show 11 + 1 * m + 1 + 0 ≤ 16 ∧ 200 + 7 * m + 7 + 0 ≤ 235 by omega) (fun K89 hp89 => ?_)
        obtain ⟨n89, σ89, As89⟩ := K89
        obtain ⟨hn89, hcp89⟩ := hp89
        replace hn89 : n89 = a + 12 + m + 1 := hn89
        replace hcp89 : CP (a + 12 + m) 1 σ9 As9 σ89 As89 := hcp89
        subst hn89
        have hF89 := hcp89.2.2
        show KW X E Q _ _ _ _ _ (a + 12 + m + 1, σ89, As89)
        have hT1 := hT0.o hcp89
        refine k_aast (t := 4) (N9 := 5) (c9 := 1) C dX4_init_92 (by decide) (shc_4_1 ha) (by omega) ⟨by omega, by omega⟩ (by have z := rfa_14 (shc_4_1 ha) (k := m) (by omega); show rfs (a + 4) m = a + 12 + m; omega) (by omega) hsm cl_1 rfl ?_
        show KW X E Q _ _ _ _ _ (a + 12 + m + 1, σ89, asS As89 (a + 4) m)
        have hT2 := hT1.c1 (by simp)
        refine k_iinc (z2 := ((m + 1 : Nat) : Int)) (ls2 := [some (vR a), some (vI (((m + 1 : Nat) : Int)))]) C dX4_init_93 (by decide) rfl (by omega) rfl ?_
        refine k_goto (tgt := 75) C dX4_init_96 (by decide) ?_
        exact k_uw (by omega) (by omega) (by omega) (ih (m + 1) _ _ (by omega) hT2)
  have hT0 := St.init hF
  refine k_aload_n C dX4_init_0 rfl ?_
  refine k_obj C dX4_init_1 ko_4 (by decide) (Nat.le_of_ble_eq_true rfl) ?_
  show KW X E Q _ _ _ _ _ (a + 1, σ, As)
  refine k_aload_n C dX4_init_4 rfl ?_
  refine k_new C dX4_init_5 (shc_4_0 ha) cl_0 kc_X4_9 kn_0 kz_0 nl_0 (fun k => (hT0.2.2.2.2.2.2.1 (a + 1) (by omega)).1 k) (hT0.2.2.2.2.2.2.1 (a + 1) (by omega)).2 (show 0 + 1 ≤ 16 ∧ 0 + 3 ≤ 235 by omega) ?_
  show KW X E Q _ _ _ _ _ (a + 2, σ, As)
  refine k_dup C dX4_init_8 rfl ?_
  refine k_cIN C dX4_init_9 ki_X4_11 moX0_init (kX0_init (shc_4_0 ha) (hT0.2.2.2.2.2.2.1.le (by omega)) (by omega)) (by decide) (Nat.le_of_ble_eq_true rfl) (show 1 + 2 ≤ 16 ∧ 3 + 80 ≤ 235 by omega) (fun K9 hp9 => ?_)
  obtain ⟨n9, σ9, As9⟩ := K9
  obtain ⟨hn9, hcp9⟩ := hp9
  replace hn9 : n9 = a + 4 := hn9
  replace hcp9 : CP (a + 1) 3 σ As σ9 As9 := hcp9
  subst hn9
  have hF9 := hcp9.2.2
  show KW X E Q _ _ _ _ _ (a + 4, σ9, As9)
  have hT1 := hT0.o hcp9
  refine k_putR (ty9 := tyX4 0) C hI cl_4 (by decide) kf_4_12 dX4_init_12 ha (by omega) (by decide +kernel) (by decide +kernel) rfl (rfc_4_0 ha) rfl (tyX4_ok 0 (by decide)) (fun _ => rfl) (fun _ => rfl) ?_
  have hFp12 := hT1.2.2.2.2.2.2.1.as (a := a) (k := 0) (by omega)
  show KW X E Q _ _ _ _ _ (a + 4, σ9, asS As9 a 0)
  have hT2 := hT1.as (k9 := 0)
  refine k_aload_n C dX4_init_15 rfl ?_
  refine k_iconst C dX4_init_16 ?_
  refine k_newq (t := 4) (N9 := 5) C dX4_init_17 (by decide) (shc_4_1 ha) rfl kc_X4_18 (by decide) (by decide +kernel) (by decide +kernel) (Nat.le_of_ble_eq_true rfl) (hT2.2.2.2.2.2.2.1 (a + 4) (by omega)).2 (show 3 + 1 ≤ 16 ∧ 83 + 5 ≤ 235 by omega) ?_
  show KW X E Q _ _ _ _ _ (a + 5, σ9, asS As9 a 0)
  have hT3 := hT2.q
  refine k_putR (ty9 := tyX4 1) C hI cl_4 (by decide) kf_4_20 dX4_init_20 ha (by omega) (by decide +kernel) (by decide +kernel) rfl (rfc_4_1 ha) rfl (tyX4_ok 1 (by decide)) (fun _ => rfl) (fun _ => rfl) ?_
  have hFp20 := hT3.2.2.2.2.2.2.1.as (a := a) (k := 1) (by omega)
  show KW X E Q _ _ _ _ _ (a + 5, σ9, asS (asS As9 a 0) a 1)
  have hT4 := hT3.as (k9 := 1)
  refine k_aload_n C dX4_init_23 rfl ?_
  refine k_iconst C dX4_init_24 ?_
  refine k_putI (kz := 2) C cl_4 (by decide) kf_4_24 dX4_init_25 ha (by omega) (by decide +kernel) rfl rfl ?_
  refine k_up0 ((hT4.2.1 2)) ?_
  show KW X E Q _ _ _ _ _ (a + 5, σ9, asS (asS As9 a 0) a 1)
  refine k_aload_n C dX4_init_28 rfl ?_
  refine k_new C dX4_init_29 (shc_4_3 ha) cl_3 kc_X4_28 kn_3 kz_3 nl_3 (fun k => (hT4.2.2.2.2.2.2.1 (a + 5) (by omega)).1 k) (hT4.2.2.2.2.2.2.1 (a + 5) (by omega)).2 (show 4 + 1 ≤ 16 ∧ 88 + 4 ≤ 235 by omega) ?_
  show KW X E Q _ _ _ _ _ (a + 6, σ9, asS (asS As9 a 0) a 1)
  refine k_dup C dX4_init_32 rfl ?_
  refine k_cIN C dX4_init_33 ki_X4_30 moX3_init (kX3_init (shc_4_3 ha) (hT4.2.2.2.2.2.2.1.le (by omega)) (by omega)) (by decide) (Nat.le_of_ble_eq_true rfl) (show 5 + 3 ≤ 16 ∧ 92 + 90 ≤ 235 by omega) (fun K33 hp33 => ?_)
  obtain ⟨n33, σ33, As33⟩ := K33
  obtain ⟨hn33, hcp33⟩ := hp33
  replace hn33 : n33 = a + 9 := hn33
  replace hcp33 : CP (a + 5) 4 σ9 (asS (asS As9 a 0) a 1) σ33 As33 := hcp33
  subst hn33
  have hF33 := hcp33.2.2
  show KW X E Q _ _ _ _ _ (a + 9, σ33, As33)
  have hT5 := hT4.o hcp33
  refine k_putR (ty9 := tyX4 3) C hI cl_4 (by decide) kf_4_31 dX4_init_36 ha (by omega) (by decide +kernel) (by decide +kernel) rfl (rfc_4_3 ha) rfl (tyX4_ok 3 (by decide)) (fun _ => rfl) (fun _ => rfl) ?_
  have hFp36 := hT5.2.2.2.2.2.2.1.as (a := a) (k := 3) (by omega)
  show KW X E Q _ _ _ _ _ (a + 9, σ33, asS As33 a 3)
  have hT6 := hT5.as (k9 := 3)
  refine k_aload_n C dX4_init_39 rfl ?_
  refine k_iconst C dX4_init_40 ?_
  refine k_putI (kz := 4) C cl_4 (by decide) kf_4_35 dX4_init_41 ha (by omega) (by decide +kernel) rfl rfl ?_
  have hFp41 := hT6.2.2.2.2.2.2.1.up (a := a) (k := 4) (z := -1) (by omega)
  show KW X E Q _ _ _ _ _ (a + 9, up σ33 a 4 (-1), asS As33 a 3)
  have hT7 := hT6.up (k9 := 4) (z9 := (-1))
  refine k_aload_n C dX4_init_44 rfl ?_
  refine k_bipush C dX4_init_45 (by decide) ?_
  refine k_newaI (N9 := 6) C dX4_init_47 (shc_4_5 ha) ac_I (by decide +kernel) (by decide +kernel) (Nat.le_of_ble_eq_true rfl) (hT7.2.2.2.2.2.2.1 (a + 9) (by omega)).1 (show 8 + 1 ≤ 16 ∧ 182 + 6 ≤ 235 by omega) ?_
  show KW X E Q _ _ _ _ _ (a + 10, up σ33 a 4 (-1), asS As33 a 3)
  have hT8 := hT7.i (shc_4_5 ha) (by omega)
  refine k_putR (ty9 := tyX4 5) C hI cl_4 (by decide) kf_4_38 dX4_init_49 ha (by omega) (by decide +kernel) (by decide +kernel) rfl (rfc_4_5 ha) rfl (tyX4_ok 5 (by decide)) (fun _ => rfl) (fun _ => rfl) ?_
  have hFp49 := hT8.2.2.2.2.2.2.1.as (a := a) (k := 5) (by omega)
  show KW X E Q _ _ _ _ _ (a + 10, up σ33 a 4 (-1), asS (asS As33 a 3) a 5)
  have hT9 := hT8.as (k9 := 5)
  refine k_aload_n C dX4_init_52 rfl ?_
  refine k_bipush C dX4_init_53 (by decide) ?_
  refine k_newaI (N9 := 6) C dX4_init_55 (shc_4_6 ha) ac_I (by decide +kernel) (by decide +kernel) (Nat.le_of_ble_eq_true rfl) (hT9.2.2.2.2.2.2.1 (a + 10) (by omega)).1 (show 9 + 1 ≤ 16 ∧ 188 + 6 ≤ 235 by omega) ?_
  show KW X E Q _ _ _ _ _ (a + 11, up σ33 a 4 (-1), asS (asS As33 a 3) a 5)
  have hT10 := hT9.i (shc_4_6 ha) (by omega)
  refine k_putR (ty9 := tyX4 6) C hI cl_4 (by decide) kf_4_42 dX4_init_57 ha (by omega) (by decide +kernel) (by decide +kernel) rfl (rfc_4_6 ha) rfl (tyX4_ok 6 (by decide)) (fun _ => rfl) (fun _ => rfl) ?_
  have hFp57 := hT10.2.2.2.2.2.2.1.as (a := a) (k := 6) (by omega)
  show KW X E Q _ _ _ _ _ (a + 11, up σ33 a 4 (-1), asS (asS (asS As33 a 3) a 5) a 6)
  have hT11 := hT10.as (k9 := 6)
  refine k_aload_n C dX4_init_60 rfl ?_
  refine k_bipush C dX4_init_61 (by decide) ?_
  refine k_newaI (N9 := 6) C dX4_init_63 (shc_4_7 ha) ac_I (by decide +kernel) (by decide +kernel) (Nat.le_of_ble_eq_true rfl) (hT11.2.2.2.2.2.2.1 (a + 11) (by omega)).1 (show 10 + 1 ≤ 16 ∧ 194 + 6 ≤ 235 by omega) ?_
  show KW X E Q _ _ _ _ _ (a + 12, up σ33 a 4 (-1), asS (asS (asS As33 a 3) a 5) a 6)
  have hT12 := hT11.i (shc_4_7 ha) (by omega)
  refine k_putR (ty9 := tyX4 7) C hI cl_4 (by decide) kf_4_45 dX4_init_65 ha (by omega) (by decide +kernel) (by decide +kernel) rfl (rfc_4_7 ha) rfl (tyX4_ok 7 (by decide)) (fun _ => rfl) (fun _ => rfl) ?_
  have hFp65 := hT12.2.2.2.2.2.2.1.as (a := a) (k := 7) (by omega)
  show KW X E Q _ _ _ _ _ (a + 12, up σ33 a 4 (-1), asS (asS (asS (asS As33 a 3) a 5) a 6) a 7)
  have hT13 := hT12.as (k9 := 7)
  refine k_aload_n C dX4_init_68 rfl ?_
  refine k_iconst C dX4_init_69 ?_
  refine k_putI (kz := 8) C cl_4 (by decide) kf_4_48 dX4_init_70 ha (by omega) (by decide +kernel) rfl rfl ?_
  refine k_up0 ((hT13.2.1 8).trans (if_neg (by decide))) ?_
  show KW X E Q _ _ _ _ _ (a + 12, up σ33 a 4 (-1), asS (asS (asS (asS As33 a 3) a 5) a 6) a 7)
  refine k_iconst C dX4_init_73 ?_
  refine k_istore_n (ls2 := [some (vR a), some (vI 0)]) C dX4_init_74 (by decide) rfl ?_
  exact k_uw rfl rfl rfl (L75 5 0 _ _ rfl (hT13.c0 ⟨by omega, by omega⟩))
set_option maxRecDepth 100000 in
set_option maxHeartbeats 8000000 in
theorem kX2_init {E : sv_E} {σ : sv_G} {As : Nat → Nat → Bool} (hF : Fr σ As 20) : KC E MX2_init 1 2 12 [vR 20] (21, σ, As) (fun K9 => K9.1 = 23 ∧ CP 20 3 σ As K9.2.1 K9.2.2) := by
  refine KC.of (RX2, cX2_init, 2, none, [], 1, 2, 12) rfl moX2_init (Nat.le_of_ble_eq_true rfl) (ls0 := [some (vR 20), none]) rfl ?_
  intro X Q C hI hQ
  have hT0 := St.init hF
  refine k_aload_n C dX2_init_0 rfl ?_
  refine k_obj C dX2_init_1 ko_2 (by decide) (Nat.le_of_ble_eq_true rfl) ?_
  show KW X E Q _ _ _ _ _ (21, σ, As)
  refine k_aload_n C dX2_init_4 rfl ?_
  refine k_bipush C dX2_init_5 (by decide) ?_
  refine k_newaI (N9 := 6) C dX2_init_7 sh_21 ac_I (by decide +kernel) (by decide +kernel) (Nat.le_of_ble_eq_true rfl) (hT0.2.2.2.2.2.2.1 21 (by omega)).1 (show 0 + 1 ≤ 2 ∧ 0 + 6 ≤ 12 by omega) ?_
  show KW X E Q _ _ _ _ _ (22, σ, As)
  have hT1 := hT0.q
  refine k_putR (ty9 := tyX2 0) C hI cl_2 (by decide) kf_2_9 dX2_init_9 sh_20 (by omega) (by decide +kernel) (by decide +kernel) rfl rf_20_0 rfl (tyX2_ok 0 (by decide)) (fun _ => rfl) (fun _ => rfl) ?_
  have hFp9 := hT1.2.2.2.2.2.2.1.as (a := 20) (k := 0) (by omega)
  show KW X E Q _ _ _ _ _ (22, σ, asS As 20 0)
  have hT2 := hT1.as (k9 := 0)
  refine k_aload_n C dX2_init_12 rfl ?_
  refine k_bipush C dX2_init_13 (by decide) ?_
  refine k_newaI (N9 := 6) C dX2_init_15 sh_22 ac_I (by decide +kernel) (by decide +kernel) (Nat.le_of_ble_eq_true rfl) (hT2.2.2.2.2.2.2.1 22 (by omega)).1 (show 1 + 1 ≤ 2 ∧ 6 + 6 ≤ 12 by omega) ?_
  show KW X E Q _ _ _ _ _ (23, σ, asS As 20 0)
  have hT3 := hT2.i sh_22 (by omega)
  refine k_putR (ty9 := tyX2 1) C hI cl_2 (by decide) kf_2_15 dX2_init_17 sh_20 (by omega) (by decide +kernel) (by decide +kernel) rfl rf_20_1 rfl (tyX2_ok 1 (by decide)) (fun _ => rfl) (fun _ => rfl) ?_
  have hFp17 := hT3.2.2.2.2.2.2.1.as (a := 20) (k := 1) (by omega)
  show KW X E Q _ _ _ _ _ (23, σ, asS (asS As 20 0) 20 1)
  have hT4 := hT3.as (k9 := 1)
  refine k_aload_n C dX2_init_20 rfl ?_
  refine k_lconst C dX2_init_21 ?_
  refine k_putL (kz := 2) C cl_2 (by decide) kf_2_18 dX2_init_22 sh_20 (by omega) (by decide +kernel) rfl rfl ?_
  refine k_up0 ((hT4.2.1 2)) ?_
  show KW X E Q _ _ _ _ _ (23, σ, asS (asS As 20 0) 20 1)
  refine k_iconst C dX2_init_25 ?_
  refine k_istore_n (ls2 := [some (vR 20), some (vI 0)]) C dX2_init_26 (by decide) rfl ?_
  have L27 : ∀ (d m : Nat) (σ9 : sv_G), m + d = 6 → (∀ b k, b ≠ 21 → σ9 b k = σ b k) → (∀ k : Int, σ9 21 k = if 0 ≤ k ∧ k < m then 10 else 0) → KW X E Q 2 12 27 [some (vR 20), some (vI (m : Int))] [] (23, σ9, asS (asS As 20 0) 20 1) := by
    intro d
    induction d with
    | zero =>
      intro m σ9 hm h1 h2
      refine k_iload_n C dX2_init_27 rfl ?_
      refine k_bipush C dX2_init_28 (by decide) ?_
      refine k_icmp_ge (tgt := 47) C dX2_init_30 (by decide) (by omega) (by omega) (fun c9 => ?_) (fun c9 => ?_)
      · refine k_vret C hQ dX2_init_47 rfl ⟨rfl, fun b hb => ⟨by funext k; exact (h1 b k (by omega)).trans (congrFun (hT4.1 b hb).1 k), (hT4.1 b hb).2⟩, fun b b1 b2 => ?_, fun b hb => ⟨fun k => (h1 b k (by omega)).trans ((hT4.2.2.2.2.2.2.1 b (by omega)).1 k), (hT4.2.2.2.2.2.2.1 b (by omega)).2⟩⟩ (by constructor <;> decide)
        have hb : b = 20 ∨ b = 21 ∨ b = 22 := by omega
        rcases hb with hb | hb | hb
        · rw [hb]
          refine ⟨fun k => ?_, fun k hk => ?_⟩
          · show σ9 20 k = _
            rw [h1 20 k (by decide), hT4.2.1 k, g0_z (by decide +kernel) (by decide +kernel) (by decide) (by decide) (by decide)]
          · obtain ⟨k1, k2, k3⟩ := isR_o sh_20 (by decide) hk
            rcases rk_2 k k1 k2 k3 with q | q
            · rw [q]; exact hT4.2.2.1 0 (by decide)
            · rw [q]; exact hT4.2.2.1 1 (by decide)
        · rw [hb]
          refine ⟨fun k => ?_, fun k hk => (isR_i sh_21 hk).elim⟩
          show σ9 21 k = _
          rw [h2 k, g0_21, show (m : Int) = 6 by omega]
        · rw [hb]
          have z := hT4.2.2.2.1 22 (by decide) (by decide) (by decide)
          exact ⟨fun k => (h1 22 k (by decide)).trans (z.1 k), z.2⟩
      · exfalso; omega
    | succ d ih =>
      intro m σ9 hm h1 h2
      refine k_iload_n C dX2_init_27 rfl ?_
      refine k_bipush C dX2_init_28 (by decide) ?_
      refine k_icmp_ge (tgt := 47) C dX2_init_30 (by decide) (by omega) (by omega) (fun c9 => ?_) (fun c9 => ?_)
      · exfalso; omega
      ·
        refine k_aload_n C dX2_init_33 rfl ?_
        refine k_getR C cl_2 (by decide) kf_2_9 dX2_init_34 sh_20 (by omega) (by decide +kernel) (by decide +kernel) (hT4.2.2.1 0 (by decide)) rf_20_0 ?_
        refine k_iload_n C dX2_init_37 rfl ?_
        refine k_bipush C dX2_init_38 (by decide) ?_
        refine k_iast (N9 := 6) C dX2_init_40 sh_21 (by omega) ⟨by omega, by omega⟩ ?_
        show KW X E Q _ _ _ _ _ (23, up σ9 21 (m : Int) 10, asS (asS As 20 0) 20 1)
        refine k_iinc (z2 := ((m + 1 : Nat) : Int)) (ls2 := [some (vR 20), some (vI (((m + 1 : Nat) : Int)))]) C dX2_init_41 (by decide) rfl (by omega) rfl ?_
        refine k_goto (tgt := 27) C dX2_init_44 (by decide) ?_
        refine k_uw rfl rfl rfl (ih (m + 1) _ (by omega) (fun b k hb => by rw [up_a hb]; exact h1 b k hb) (fun k => ?_))
        rw [up_i, h2]
        by_cases q : k = (m : Int)
        · rw [if_pos q, if_pos (by omega)]
        · rw [if_neg q]
          by_cases q2 : 0 ≤ k ∧ k < (m : Int)
          · rw [if_pos q2, if_pos (by omega)]
          · rw [if_neg q2, if_neg (by omega)]
  exact k_uw rfl rfl rfl (L27 6 0 _ rfl (fun _ _ _ => rfl) (fun k => by rw [if_neg (by omega)]; exact hT4.2.2.2.2.1 21 (by decide) |>.2.2 k))
set_option maxRecDepth 100000 in
set_option maxHeartbeats 8000000 in
theorem kX7_init {E : sv_E} {σ : sv_G} {As : Nat → Nat → Bool} (hF : Fr σ As 0) : KC E MX7_init 3 194 8610 [vR 0] (1, σ, As) (fun K9 => K9.1 = 195 ∧ CP 0 195 σ As K9.2.1 K9.2.2) := by
  refine KC.of (RX7, cX7_init, 2, none, [], 3, 194, 8610) rfl moX7_init (Nat.le_of_ble_eq_true rfl) (ls0 := [some (vR 0), none]) rfl ?_
  intro X Q C hI hQ
  have L189 : ∀ (d m : Nat) (σ9 : sv_G) (As9 : Nat → Nat → Bool), m + d = 32 → St 0 (fun _ => 0) [13, 12, 11, 9, 8, 7, 6, 5, 4, 3, 2, 1, 0] [19, 17, 1] [(19, m), (17, 20), (1, 4)] σ As σ9 As9 (131 + 2 * m) → KW X E Q (130 + 2 * m) (7906 + 22 * m) 189 [some (vR 0), some (vI (m : Int))] [] (131 + 2 * m, σ9, As9) := by
    intro d
    induction d with
    | zero =>
      intro m σ9 As9 hm hT0
      refine k_iload_n C dX7_init_189 rfl ?_
      refine k_bipush C dX7_init_190 (by decide) ?_
      refine k_icmp_ge (tgt := 214) C dX7_init_192 (by decide) (by omega) (by omega) (fun c9 => ?_) (fun c9 => ?_)
      · refine k_vret C hQ dX7_init_214 rfl ⟨by show 131 + 2 * m = 195; omega, St.fin (σ := σ9) (As := As9) hT0 (fun k => (g0_z (by decide +kernel) (by decide +kernel) (by decide) (by decide) (by decide)).symm) (fun k hk => ?_) (fun b hb => ?_) (by omega)⟩ (by constructor <;> omega)
        · obtain ⟨k1, k2, k3⟩ := isR_o sh_0 (by decide) hk
          exact (by decide +kernel : ∀ k ∈ ([0, 1, 2, 3, 4, 5, 6, 7, 8, 9, 11, 12, 13] : List Nat), k ∈ ([13, 12, 11, 9, 8, 7, 6, 5, 4, 3, 2, 1, 0] : List Nat)) k (rk_7 k k1 k2 k3)
        · have hm32 : m = 32 := by omega
          subst hm32
          have hb3 : b = 19 ∨ b = 17 ∨ b = 1 := by simpa using hb
          rcases hb3 with q | q | q
          · rw [q]; exact ⟨fun k => g0_z (by decide +kernel) (by decide +kernel) (by decide) (by decide) (by decide), 32, by decide, fun k hk => isR_a (t := 3) sh_19 (by decide) hk⟩
          · rw [q]; exact ⟨fun k => g0_z (by decide +kernel) (by decide +kernel) (by decide) (by decide) (by decide), 20, by decide, fun k hk => isR_a (t := 3) sh_17 (by decide) hk⟩
          · rw [q]; exact ⟨fun k => g0_z (by decide +kernel) (by decide +kernel) (by decide) (by decide) (by decide), 4, by decide, fun k hk => isR_a (t := 2) sh_1 (by decide) hk⟩
      · exfalso; omega
    | succ d ih =>
      intro m σ9 As9 hm hT0
      refine k_iload_n C dX7_init_189 rfl ?_
      refine k_bipush C dX7_init_190 (by decide) ?_
      refine k_icmp_ge (tgt := 214) C dX7_init_192 (by decide) (by omega) (by omega) (fun c9 => ?_) (fun c9 => ?_)
      · exfalso; omega
      · have hsm : shp (131 + 2 * m) = (6, 0) := sha_19 (by omega)
        refine k_aload_n C dX7_init_195 rfl ?_
        refine k_getR C cl_7 (by decide) kf_7_59 dX7_init_196 sh_0 (by omega) (by decide +kernel) (by decide +kernel) (hT0.2.2.1 12 (by decide)) rf_0_12 ?_
        refine k_iload_n C dX7_init_199 rfl ?_
        refine k_new C dX7_init_200 hsm cl_6 kc_X7_15 kn_6 kz_6 nl_6 (fun k => (hT0.2.2.2.2.2.2.1 (131 + 2 * m) (by omega)).1 k) (hT0.2.2.2.2.2.2.1 (131 + 2 * m) (by omega)).2 (show 130 + 2 * m + 1 ≤ 194 ∧ 7906 + 22 * m + 2 ≤ 8610 by omega) ?_
        show KW X E Q _ _ _ _ _ (131 + 2 * m + 1, σ9, As9)
        refine k_dup C dX7_init_203 rfl ?_
        refine k_cIN C dX7_init_204 ki_X7_17 moX6_init (kX6_init hsm (hT0.2.2.2.2.2.2.1.le (by omega)) (by omega)) (by decide) (Nat.le_of_ble_eq_true rfl) (show 130 + 2 * m + 1 + 1 ≤ 194 ∧ 7906 + 22 * m + 2 + 20 ≤ 8610 by omega) (fun K204 hp204 => ?_)
        obtain ⟨n204, σ204, As204⟩ := K204
        obtain ⟨hn204, hcp204⟩ := hp204
        replace hn204 : n204 = 131 + 2 * m + 2 := hn204
        replace hcp204 : CP (131 + 2 * m) 2 σ9 As9 σ204 As204 := hcp204
        subst hn204
        have hF204 := hcp204.2.2
        show KW X E Q _ _ _ _ _ (131 + 2 * m + 2, σ204, As204)
        have hT1 := hT0.o hcp204
        refine k_aast (t := 3) (N9 := 32) (c9 := 6) C dX7_init_207 (by decide) sh_19 (by omega) ⟨by omega, by omega⟩ (show rfs 19 m = 131 + 2 * m from rfa_19 (by omega)) (by omega) hsm cl_6 rfl ?_
        show KW X E Q _ _ _ _ _ (131 + 2 * m + 2, σ204, asS As204 19 m)
        have hT2 := hT1.c1 (by simp)
        refine k_iinc (z2 := ((m + 1 : Nat) : Int)) (ls2 := [some (vR 0), some (vI (((m + 1 : Nat) : Int)))]) C dX7_init_208 (by decide) rfl (by omega) rfl ?_
        refine k_goto (tgt := 189) C dX7_init_211 (by decide) ?_
        exact k_uw (by omega) (by omega) (by omega) (ih (m + 1) _ _ (by omega) hT2)
  have L162 : ∀ (d m : Nat) (σ9 : sv_G) (As9 : Nat → Nat → Bool), m + d = 20 → St 0 (fun _ => 0) [13, 12, 11, 9, 8, 7, 6, 5, 4, 3, 2, 1, 0] [19, 17, 1] [(17, m), (1, 4)] σ As σ9 As9 (91 + 2 * m) → KW X E Q (90 + 2 * m) (7466 + 22 * m) 162 [some (vR 0), some (vI (m : Int))] [] (91 + 2 * m, σ9, As9) := by
    intro d
    induction d with
    | zero =>
      intro m σ9 As9 hm hT0
      refine k_iload_n C dX7_init_162 rfl ?_
      refine k_bipush C dX7_init_163 (by decide) ?_
      refine k_icmp_ge (tgt := 187) C dX7_init_165 (by decide) (by omega) (by omega) (fun c9 => ?_) (fun c9 => ?_)
      · have hmN : m = 20 := by omega
        subst hmN
        refine k_iconst C dX7_init_187 ?_
        refine k_istore_n (ls2 := [some (vR 0), some (vI 0)]) C dX7_init_188 (by decide) rfl ?_
        exact k_uw rfl rfl rfl (L189 32 0 _ _ rfl (hT0.c0 ⟨by decide, by decide⟩))
      · exfalso; omega
    | succ d ih =>
      intro m σ9 As9 hm hT0
      refine k_iload_n C dX7_init_162 rfl ?_
      refine k_bipush C dX7_init_163 (by decide) ?_
      refine k_icmp_ge (tgt := 187) C dX7_init_165 (by decide) (by omega) (by omega) (fun c9 => ?_) (fun c9 => ?_)
      · exfalso; omega
      · have hsm : shp (91 + 2 * m) = (6, 0) := sha_17 (by omega)
        refine k_aload_n C dX7_init_168 rfl ?_
        refine k_getR C cl_7 (by decide) kf_7_48 dX7_init_169 sh_0 (by omega) (by decide +kernel) (by decide +kernel) (hT0.2.2.1 9 (by decide)) rf_0_9 ?_
        refine k_iload_n C dX7_init_172 rfl ?_
        refine k_new C dX7_init_173 hsm cl_6 kc_X7_15 kn_6 kz_6 nl_6 (fun k => (hT0.2.2.2.2.2.2.1 (91 + 2 * m) (by omega)).1 k) (hT0.2.2.2.2.2.2.1 (91 + 2 * m) (by omega)).2 (show 90 + 2 * m + 1 ≤ 194 ∧ 7466 + 22 * m + 2 ≤ 8610 by omega) ?_
        show KW X E Q _ _ _ _ _ (91 + 2 * m + 1, σ9, As9)
        refine k_dup C dX7_init_176 rfl ?_
        refine k_cIN C dX7_init_177 ki_X7_17 moX6_init (kX6_init hsm (hT0.2.2.2.2.2.2.1.le (by omega)) (by omega)) (by decide) (Nat.le_of_ble_eq_true rfl) (show 90 + 2 * m + 1 + 1 ≤ 194 ∧ 7466 + 22 * m + 2 + 20 ≤ 8610 by omega) (fun K177 hp177 => ?_)
        obtain ⟨n177, σ177, As177⟩ := K177
        obtain ⟨hn177, hcp177⟩ := hp177
        replace hn177 : n177 = 91 + 2 * m + 2 := hn177
        replace hcp177 : CP (91 + 2 * m) 2 σ9 As9 σ177 As177 := hcp177
        subst hn177
        have hF177 := hcp177.2.2
        show KW X E Q _ _ _ _ _ (91 + 2 * m + 2, σ177, As177)
        have hT1 := hT0.o hcp177
        refine k_aast (t := 3) (N9 := 20) (c9 := 6) C dX7_init_180 (by decide) sh_17 (by omega) ⟨by omega, by omega⟩ (show rfs 17 m = 91 + 2 * m from rfa_17 (by omega)) (by omega) hsm cl_6 rfl ?_
        show KW X E Q _ _ _ _ _ (91 + 2 * m + 2, σ177, asS As177 17 m)
        have hT2 := hT1.c1 (by simp)
        refine k_iinc (z2 := ((m + 1 : Nat) : Int)) (ls2 := [some (vR 0), some (vI (((m + 1 : Nat) : Int)))]) C dX7_init_181 (by decide) rfl (by omega) rfl ?_
        refine k_goto (tgt := 162) C dX7_init_184 (by decide) ?_
        exact k_uw (by omega) (by omega) (by omega) (ih (m + 1) _ _ (by omega) hT2)
  have L136 : ∀ (d m : Nat) (σ9 : sv_G) (As9 : Nat → Nat → Bool), m + d = 4 → St 0 (fun _ => 0) [13, 12, 11, 9, 8, 7, 6, 5, 4, 3, 2, 1, 0] [19, 17, 1] [(1, m)] σ As σ9 As9 (23 + 17 * m) → KW X E Q (22 + 17 * m) (6490 + 244 * m) 136 [some (vR 0), some (vI (m : Int))] [] (23 + 17 * m, σ9, As9) := by
    intro d
    induction d with
    | zero =>
      intro m σ9 As9 hm hT0
      refine k_iload_n C dX7_init_136 rfl ?_
      refine k_iconst C dX7_init_137 ?_
      refine k_icmp_ge (tgt := 160) C dX7_init_138 (by decide) (by omega) (by omega) (fun c9 => ?_) (fun c9 => ?_)
      · have hmN : m = 4 := by omega
        subst hmN
        refine k_iconst C dX7_init_160 ?_
        refine k_istore_n (ls2 := [some (vR 0), some (vI 0)]) C dX7_init_161 (by decide) rfl ?_
        exact k_uw rfl rfl rfl (L162 20 0 _ _ rfl (hT0.c0 ⟨by decide, by decide⟩))
      · exfalso; omega
    | succ d ih =>
      intro m σ9 As9 hm hT0
      refine k_iload_n C dX7_init_136 rfl ?_
      refine k_iconst C dX7_init_137 ?_
      refine k_icmp_ge (tgt := 160) C dX7_init_138 (by decide) (by omega) (by omega) (fun c9 => ?_) (fun c9 => ?_)
      · exfalso; omega
      · have hsm : shp (23 + 17 * m) = (4, 0) := sha_1 (by omega)
        refine k_aload_n C dX7_init_141 rfl ?_
        refine k_getR C cl_7 (by decide) kf_7_11 dX7_init_142 sh_0 (by omega) (by decide +kernel) (by decide +kernel) (hT0.2.2.1 0 (by decide)) rf_0_0 ?_
        refine k_iload_n C dX7_init_145 rfl ?_
        refine k_new C dX7_init_146 hsm cl_4 kc_X7_9 kn_4 kz_4 nl_4 (fun k => (hT0.2.2.2.2.2.2.1 (23 + 17 * m) (by omega)).1 k) (hT0.2.2.2.2.2.2.1 (23 + 17 * m) (by omega)).2 (show 22 + 17 * m + 1 ≤ 194 ∧ 6490 + 244 * m + 9 ≤ 8610 by omega) ?_
        show KW X E Q _ _ _ _ _ (23 + 17 * m + 1, σ9, As9)
        refine k_dup C dX7_init_149 rfl ?_
        refine k_cIN C dX7_init_150 ki_X7_69 moX4_init (kX4_init hsm (hT0.2.2.2.2.2.2.1.le (by omega))) (by decide) (Nat.le_of_ble_eq_true rfl) (show 22 + 17 * m + 1 + 16 ≤ 194 ∧ 6490 + 244 * m + 9 + 235 ≤ 8610 by omega) (fun K150 hp150 => ?_)
        obtain ⟨n150, σ150, As150⟩ := K150
        obtain ⟨hn150, hcp150⟩ := hp150
        replace hn150 : n150 = 23 + 17 * m + 17 := hn150
        replace hcp150 : CP (23 + 17 * m) 17 σ9 As9 σ150 As150 := hcp150
        subst hn150
        have hF150 := hcp150.2.2
        show KW X E Q _ _ _ _ _ (23 + 17 * m + 17, σ150, As150)
        have hT1 := hT0.o hcp150
        refine k_aast (t := 2) (N9 := 4) (c9 := 4) C dX7_init_153 (by decide) sh_1 (by omega) ⟨by omega, by omega⟩ (show rfs 1 m = 23 + 17 * m from rfa_1 (by omega)) (by omega) hsm cl_4 rfl ?_
        show KW X E Q _ _ _ _ _ (23 + 17 * m + 17, σ150, asS As150 1 m)
        have hT2 := hT1.c1 (by simp)
        refine k_iinc (z2 := ((m + 1 : Nat) : Int)) (ls2 := [some (vR 0), some (vI (((m + 1 : Nat) : Int)))]) C dX7_init_154 (by decide) rfl (by omega) rfl ?_
        refine k_goto (tgt := 136) C dX7_init_157 (by decide) ?_
        exact k_uw (by omega) (by omega) (by omega) (ih (m + 1) _ _ (by omega) hT2)
  have hT0 := St.init hF
  refine k_aload_n C dX7_init_0 rfl ?_
  refine k_obj C dX7_init_1 ko_7 (by decide) (Nat.le_of_ble_eq_true rfl) ?_
  show KW X E Q _ _ _ _ _ (1, σ, As)
  refine k_aload_n C dX7_init_4 rfl ?_
  refine k_iconst C dX7_init_5 ?_
  refine k_newq (t := 2) (N9 := 4) C dX7_init_6 (by decide) sh_1 rfl kc_X7_9 (by decide) (by decide +kernel) (by decide +kernel) (Nat.le_of_ble_eq_true rfl) (hT0.2.2.2.2.2.2.1 1 (by omega)).2 (show 0 + 1 ≤ 194 ∧ 0 + 4 ≤ 8610 by omega) ?_
  show KW X E Q _ _ _ _ _ (2, σ, As)
  have hT1 := hT0.q
  refine k_putR (ty9 := tyX7 0) C hI cl_7 (by decide) kf_7_11 dX7_init_9 sh_0 (by omega) (by decide +kernel) (by decide +kernel) rfl rf_0_0 rfl (tyX7_ok 0 (by decide)) (fun _ => rfl) (fun _ => rfl) ?_
  have hFp9 := hT1.2.2.2.2.2.2.1.as (a := 0) (k := 0) (by omega)
  show KW X E Q _ _ _ _ _ (2, σ, asS As 0 0)
  have hT2 := hT1.as (k9 := 0)
  refine k_aload_n C dX7_init_12 rfl ?_
  refine k_new C dX7_init_13 sh_2 cl_6 kc_X7_15 kn_6 kz_6 nl_6 (fun k => (hT2.2.2.2.2.2.2.1 2 (by omega)).1 k) (hT2.2.2.2.2.2.2.1 2 (by omega)).2 (show 1 + 1 ≤ 194 ∧ 4 + 2 ≤ 8610 by omega) ?_
  show KW X E Q _ _ _ _ _ (3, σ, asS As 0 0)
  refine k_dup C dX7_init_16 rfl ?_
  refine k_cIN C dX7_init_17 ki_X7_17 moX6_init (kX6_init sh_2 (hT2.2.2.2.2.2.2.1.le (by omega)) (by omega)) (by decide) (Nat.le_of_ble_eq_true rfl) (show 2 + 1 ≤ 194 ∧ 6 + 20 ≤ 8610 by omega) (fun K17 hp17 => ?_)
  obtain ⟨n17, σ17, As17⟩ := K17
  obtain ⟨hn17, hcp17⟩ := hp17
  replace hn17 : n17 = 4 := hn17
  replace hcp17 : CP (2) 2 σ (asS As 0 0) σ17 As17 := hcp17
  subst hn17
  have hF17 := hcp17.2.2
  show KW X E Q _ _ _ _ _ (4, σ17, As17)
  have hT3 := hT2.o hcp17
  refine k_putR (ty9 := tyX7 1) C hI cl_7 (by decide) kf_7_18 dX7_init_20 sh_0 (by omega) (by decide +kernel) (by decide +kernel) rfl rf_0_1 rfl (tyX7_ok 1 (by decide)) (fun _ => rfl) (fun _ => rfl) ?_
  have hFp20 := hT3.2.2.2.2.2.2.1.as (a := 0) (k := 1) (by omega)
  show KW X E Q _ _ _ _ _ (4, σ17, asS As17 0 1)
  have hT4 := hT3.as (k9 := 1)
  refine k_aload_n C dX7_init_23 rfl ?_
  refine k_new C dX7_init_24 sh_4 cl_6 kc_X7_15 kn_6 kz_6 nl_6 (fun k => (hT4.2.2.2.2.2.2.1 4 (by omega)).1 k) (hT4.2.2.2.2.2.2.1 4 (by omega)).2 (show 3 + 1 ≤ 194 ∧ 26 + 2 ≤ 8610 by omega) ?_
  show KW X E Q _ _ _ _ _ (5, σ17, asS As17 0 1)
  refine k_dup C dX7_init_27 rfl ?_
  refine k_cIN C dX7_init_28 ki_X7_17 moX6_init (kX6_init sh_4 (hT4.2.2.2.2.2.2.1.le (by omega)) (by omega)) (by decide) (Nat.le_of_ble_eq_true rfl) (show 4 + 1 ≤ 194 ∧ 28 + 20 ≤ 8610 by omega) (fun K28 hp28 => ?_)
  obtain ⟨n28, σ28, As28⟩ := K28
  obtain ⟨hn28, hcp28⟩ := hp28
  replace hn28 : n28 = 6 := hn28
  replace hcp28 : CP (4) 2 σ17 (asS As17 0 1) σ28 As28 := hcp28
  subst hn28
  have hF28 := hcp28.2.2
  show KW X E Q _ _ _ _ _ (6, σ28, As28)
  have hT5 := hT4.o hcp28
  refine k_putR (ty9 := tyX7 2) C hI cl_7 (by decide) kf_7_22 dX7_init_31 sh_0 (by omega) (by decide +kernel) (by decide +kernel) rfl rf_0_2 rfl (tyX7_ok 2 (by decide)) (fun _ => rfl) (fun _ => rfl) ?_
  have hFp31 := hT5.2.2.2.2.2.2.1.as (a := 0) (k := 2) (by omega)
  show KW X E Q _ _ _ _ _ (6, σ28, asS As28 0 2)
  have hT6 := hT5.as (k9 := 2)
  refine k_aload_n C dX7_init_34 rfl ?_
  refine k_new C dX7_init_35 sh_6 cl_6 kc_X7_15 kn_6 kz_6 nl_6 (fun k => (hT6.2.2.2.2.2.2.1 6 (by omega)).1 k) (hT6.2.2.2.2.2.2.1 6 (by omega)).2 (show 5 + 1 ≤ 194 ∧ 48 + 2 ≤ 8610 by omega) ?_
  show KW X E Q _ _ _ _ _ (7, σ28, asS As28 0 2)
  refine k_dup C dX7_init_38 rfl ?_
  refine k_cIN C dX7_init_39 ki_X7_17 moX6_init (kX6_init sh_6 (hT6.2.2.2.2.2.2.1.le (by omega)) (by omega)) (by decide) (Nat.le_of_ble_eq_true rfl) (show 6 + 1 ≤ 194 ∧ 50 + 20 ≤ 8610 by omega) (fun K39 hp39 => ?_)
  obtain ⟨n39, σ39, As39⟩ := K39
  obtain ⟨hn39, hcp39⟩ := hp39
  replace hn39 : n39 = 8 := hn39
  replace hcp39 : CP (6) 2 σ28 (asS As28 0 2) σ39 As39 := hcp39
  subst hn39
  have hF39 := hcp39.2.2
  show KW X E Q _ _ _ _ _ (8, σ39, As39)
  have hT7 := hT6.o hcp39
  refine k_putR (ty9 := tyX7 3) C hI cl_7 (by decide) kf_7_25 dX7_init_42 sh_0 (by omega) (by decide +kernel) (by decide +kernel) rfl rf_0_3 rfl (tyX7_ok 3 (by decide)) (fun _ => rfl) (fun _ => rfl) ?_
  have hFp42 := hT7.2.2.2.2.2.2.1.as (a := 0) (k := 3) (by omega)
  show KW X E Q _ _ _ _ _ (8, σ39, asS As39 0 3)
  have hT8 := hT7.as (k9 := 3)
  refine k_aload_n C dX7_init_45 rfl ?_
  refine k_new C dX7_init_46 sh_8 cl_6 kc_X7_15 kn_6 kz_6 nl_6 (fun k => (hT8.2.2.2.2.2.2.1 8 (by omega)).1 k) (hT8.2.2.2.2.2.2.1 8 (by omega)).2 (show 7 + 1 ≤ 194 ∧ 70 + 2 ≤ 8610 by omega) ?_
  show KW X E Q _ _ _ _ _ (9, σ39, asS As39 0 3)
  refine k_dup C dX7_init_49 rfl ?_
  refine k_cIN C dX7_init_50 ki_X7_17 moX6_init (kX6_init sh_8 (hT8.2.2.2.2.2.2.1.le (by omega)) (by omega)) (by decide) (Nat.le_of_ble_eq_true rfl) (show 8 + 1 ≤ 194 ∧ 72 + 20 ≤ 8610 by omega) (fun K50 hp50 => ?_)
  obtain ⟨n50, σ50, As50⟩ := K50
  obtain ⟨hn50, hcp50⟩ := hp50
  replace hn50 : n50 = 10 := hn50
  replace hcp50 : CP (8) 2 σ39 (asS As39 0 3) σ50 As50 := hcp50
  subst hn50
  have hF50 := hcp50.2.2
  show KW X E Q _ _ _ _ _ (10, σ50, As50)
  have hT9 := hT8.o hcp50
  refine k_putR (ty9 := tyX7 4) C hI cl_7 (by decide) kf_7_28 dX7_init_53 sh_0 (by omega) (by decide +kernel) (by decide +kernel) rfl rf_0_4 rfl (tyX7_ok 4 (by decide)) (fun _ => rfl) (fun _ => rfl) ?_
  have hFp53 := hT9.2.2.2.2.2.2.1.as (a := 0) (k := 4) (by omega)
  show KW X E Q _ _ _ _ _ (10, σ50, asS As50 0 4)
  have hT10 := hT9.as (k9 := 4)
  refine k_aload_n C dX7_init_56 rfl ?_
  refine k_sipush C dX7_init_57 (by decide) ?_
  refine k_newaI (N9 := 4000) C dX7_init_60 sh_10 ac_I (by decide +kernel) (by decide +kernel) (Nat.le_of_ble_eq_true rfl) (hT10.2.2.2.2.2.2.1 10 (by omega)).1 (show 9 + 1 ≤ 194 ∧ 92 + 4000 ≤ 8610 by omega) ?_
  show KW X E Q _ _ _ _ _ (11, σ50, asS As50 0 4)
  have hT11 := hT10.i sh_10 (by omega)
  refine k_putR (ty9 := tyX7 5) C hI cl_7 (by decide) kf_7_31 dX7_init_62 sh_0 (by omega) (by decide +kernel) (by decide +kernel) rfl rf_0_5 rfl (tyX7_ok 5 (by decide)) (fun _ => rfl) (fun _ => rfl) ?_
  have hFp62 := hT11.2.2.2.2.2.2.1.as (a := 0) (k := 5) (by omega)
  show KW X E Q _ _ _ _ _ (11, σ50, asS (asS As50 0 4) 0 5)
  have hT12 := hT11.as (k9 := 5)
  refine k_aload_n C dX7_init_65 rfl ?_
  refine k_bipush C dX7_init_66 (by decide) ?_
  refine k_newaI (N9 := 20) C dX7_init_68 sh_11 ac_I (by decide +kernel) (by decide +kernel) (Nat.le_of_ble_eq_true rfl) (hT12.2.2.2.2.2.2.1 11 (by omega)).1 (show 10 + 1 ≤ 194 ∧ 4092 + 20 ≤ 8610 by omega) ?_
  show KW X E Q _ _ _ _ _ (12, σ50, asS (asS As50 0 4) 0 5)
  have hT13 := hT12.i sh_11 (by omega)
  refine k_putR (ty9 := tyX7 6) C hI cl_7 (by decide) kf_7_35 dX7_init_70 sh_0 (by omega) (by decide +kernel) (by decide +kernel) rfl rf_0_6 rfl (tyX7_ok 6 (by decide)) (fun _ => rfl) (fun _ => rfl) ?_
  have hFp70 := hT13.2.2.2.2.2.2.1.as (a := 0) (k := 6) (by omega)
  show KW X E Q _ _ _ _ _ (12, σ50, asS (asS (asS As50 0 4) 0 5) 0 6)
  have hT14 := hT13.as (k9 := 6)
  refine k_aload_n C dX7_init_73 rfl ?_
  refine k_new C dX7_init_74 sh_12 cl_5 kc_X7_38 kn_5 kz_5 nl_5 (fun k => (hT14.2.2.2.2.2.2.1 12 (by omega)).1 k) (hT14.2.2.2.2.2.2.1 12 (by omega)).2 (show 11 + 1 ≤ 194 ∧ 4112 + 3 ≤ 8610 by omega) ?_
  show KW X E Q _ _ _ _ _ (13, σ50, asS (asS (asS As50 0 4) 0 5) 0 6)
  refine k_dup C dX7_init_77 rfl ?_
  refine k_cIN C dX7_init_78 ki_X7_40 moX5_init (kX5_init (hT14.2.2.2.2.2.2.1.le (by omega))) (by decide) (Nat.le_of_ble_eq_true rfl) (show 12 + 3 ≤ 194 ∧ 4115 + 2256 ≤ 8610 by omega) (fun K78 hp78 => ?_)
  obtain ⟨n78, σ78, As78⟩ := K78
  obtain ⟨hn78, hcp78⟩ := hp78
  replace hn78 : n78 = 16 := hn78
  replace hcp78 : CP (12) 4 σ50 (asS (asS (asS As50 0 4) 0 5) 0 6) σ78 As78 := hcp78
  subst hn78
  have hF78 := hcp78.2.2
  show KW X E Q _ _ _ _ _ (16, σ78, As78)
  have hT15 := hT14.o hcp78
  refine k_putR (ty9 := tyX7 7) C hI cl_7 (by decide) kf_7_41 dX7_init_81 sh_0 (by omega) (by decide +kernel) (by decide +kernel) rfl rf_0_7 rfl (tyX7_ok 7 (by decide)) (fun _ => rfl) (fun _ => rfl) ?_
  have hFp81 := hT15.2.2.2.2.2.2.1.as (a := 0) (k := 7) (by omega)
  show KW X E Q _ _ _ _ _ (16, σ78, asS As78 0 7)
  have hT16 := hT15.as (k9 := 7)
  refine k_aload_n C dX7_init_84 rfl ?_
  refine k_bipush C dX7_init_85 (by decide) ?_
  refine k_newaI (N9 := 20) C dX7_init_87 sh_16 ac_I (by decide +kernel) (by decide +kernel) (Nat.le_of_ble_eq_true rfl) (hT16.2.2.2.2.2.2.1 16 (by omega)).1 (show 15 + 1 ≤ 194 ∧ 6371 + 20 ≤ 8610 by omega) ?_
  show KW X E Q _ _ _ _ _ (17, σ78, asS As78 0 7)
  have hT17 := hT16.i sh_16 (by omega)
  refine k_putR (ty9 := tyX7 8) C hI cl_7 (by decide) kf_7_45 dX7_init_89 sh_0 (by omega) (by decide +kernel) (by decide +kernel) rfl rf_0_8 rfl (tyX7_ok 8 (by decide)) (fun _ => rfl) (fun _ => rfl) ?_
  have hFp89 := hT17.2.2.2.2.2.2.1.as (a := 0) (k := 8) (by omega)
  show KW X E Q _ _ _ _ _ (17, σ78, asS (asS As78 0 7) 0 8)
  have hT18 := hT17.as (k9 := 8)
  refine k_aload_n C dX7_init_92 rfl ?_
  refine k_bipush C dX7_init_93 (by decide) ?_
  refine k_newq (t := 3) (N9 := 20) C dX7_init_95 (by decide) sh_17 rfl kc_X7_15 (by decide) (by decide +kernel) (by decide +kernel) (Nat.le_of_ble_eq_true rfl) (hT18.2.2.2.2.2.2.1 17 (by omega)).2 (show 16 + 1 ≤ 194 ∧ 6391 + 20 ≤ 8610 by omega) ?_
  show KW X E Q _ _ _ _ _ (18, σ78, asS (asS As78 0 7) 0 8)
  have hT19 := hT18.q
  refine k_putR (ty9 := tyX7 9) C hI cl_7 (by decide) kf_7_48 dX7_init_98 sh_0 (by omega) (by decide +kernel) (by decide +kernel) rfl rf_0_9 rfl (tyX7_ok 9 (by decide)) (fun _ => rfl) (fun _ => rfl) ?_
  have hFp98 := hT19.2.2.2.2.2.2.1.as (a := 0) (k := 9) (by omega)
  show KW X E Q _ _ _ _ _ (18, σ78, asS (asS (asS As78 0 7) 0 8) 0 9)
  have hT20 := hT19.as (k9 := 9)
  refine k_aload_n C dX7_init_101 rfl ?_
  refine k_iconst C dX7_init_102 ?_
  refine k_putI (kz := 10) C cl_7 (by decide) kf_7_52 dX7_init_103 sh_0 (by omega) (by decide +kernel) rfl rfl ?_
  refine k_up0 ((hT20.2.1 10)) ?_
  show KW X E Q _ _ _ _ _ (18, σ78, asS (asS (asS As78 0 7) 0 8) 0 9)
  refine k_aload_n C dX7_init_106 rfl ?_
  refine k_bipush C dX7_init_107 (by decide) ?_
  refine k_newaI (N9 := 32) C dX7_init_109 sh_18 ac_I (by decide +kernel) (by decide +kernel) (Nat.le_of_ble_eq_true rfl) (hT20.2.2.2.2.2.2.1 18 (by omega)).1 (show 17 + 1 ≤ 194 ∧ 6411 + 32 ≤ 8610 by omega) ?_
  show KW X E Q _ _ _ _ _ (19, σ78, asS (asS (asS As78 0 7) 0 8) 0 9)
  have hT21 := hT20.i sh_18 (by omega)
  refine k_putR (ty9 := tyX7 11) C hI cl_7 (by decide) kf_7_56 dX7_init_111 sh_0 (by omega) (by decide +kernel) (by decide +kernel) rfl rf_0_11 rfl (tyX7_ok 11 (by decide)) (fun _ => rfl) (fun _ => rfl) ?_
  have hFp111 := hT21.2.2.2.2.2.2.1.as (a := 0) (k := 11) (by omega)
  show KW X E Q _ _ _ _ _ (19, σ78, asS (asS (asS (asS As78 0 7) 0 8) 0 9) 0 11)
  have hT22 := hT21.as (k9 := 11)
  refine k_aload_n C dX7_init_114 rfl ?_
  refine k_bipush C dX7_init_115 (by decide) ?_
  refine k_newq (t := 3) (N9 := 32) C dX7_init_117 (by decide) sh_19 rfl kc_X7_15 (by decide) (by decide +kernel) (by decide +kernel) (Nat.le_of_ble_eq_true rfl) (hT22.2.2.2.2.2.2.1 19 (by omega)).2 (show 18 + 1 ≤ 194 ∧ 6443 + 32 ≤ 8610 by omega) ?_
  show KW X E Q _ _ _ _ _ (20, σ78, asS (asS (asS (asS As78 0 7) 0 8) 0 9) 0 11)
  have hT23 := hT22.q
  refine k_putR (ty9 := tyX7 12) C hI cl_7 (by decide) kf_7_59 dX7_init_120 sh_0 (by omega) (by decide +kernel) (by decide +kernel) rfl rf_0_12 rfl (tyX7_ok 12 (by decide)) (fun _ => rfl) (fun _ => rfl) ?_
  have hFp120 := hT23.2.2.2.2.2.2.1.as (a := 0) (k := 12) (by omega)
  show KW X E Q _ _ _ _ _ (20, σ78, asS (asS (asS (asS (asS As78 0 7) 0 8) 0 9) 0 11) 0 12)
  have hT24 := hT23.as (k9 := 12)
  refine k_aload_n C dX7_init_123 rfl ?_
  refine k_new C dX7_init_124 sh_20 cl_2 kc_X7_62 kn_2 kz_2 nl_2 (fun k => (hT24.2.2.2.2.2.2.1 20 (by omega)).1 k) (hT24.2.2.2.2.2.2.1 20 (by omega)).2 (show 19 + 1 ≤ 194 ∧ 6475 + 3 ≤ 8610 by omega) ?_
  show KW X E Q _ _ _ _ _ (21, σ78, asS (asS (asS (asS (asS As78 0 7) 0 8) 0 9) 0 11) 0 12)
  refine k_dup C dX7_init_127 rfl ?_
  refine k_cIN C dX7_init_128 ki_X7_64 moX2_init (kX2_init (hT24.2.2.2.2.2.2.1.le (by omega))) (by decide) (Nat.le_of_ble_eq_true rfl) (show 20 + 2 ≤ 194 ∧ 6478 + 12 ≤ 8610 by omega) (fun K128 hp128 => ?_)
  obtain ⟨n128, σ128, As128⟩ := K128
  obtain ⟨hn128, hcp128⟩ := hp128
  replace hn128 : n128 = 23 := hn128
  replace hcp128 : CP (20) 3 σ78 (asS (asS (asS (asS (asS As78 0 7) 0 8) 0 9) 0 11) 0 12) σ128 As128 := hcp128
  subst hn128
  have hF128 := hcp128.2.2
  show KW X E Q _ _ _ _ _ (23, σ128, As128)
  have hT25 := hT24.o hcp128
  refine k_putR (ty9 := tyX7 13) C hI cl_7 (by decide) kf_7_65 dX7_init_131 sh_0 (by omega) (by decide +kernel) (by decide +kernel) rfl rf_0_13 rfl (tyX7_ok 13 (by decide)) (fun _ => rfl) (fun _ => rfl) ?_
  have hFp131 := hT25.2.2.2.2.2.2.1.as (a := 0) (k := 13) (by omega)
  show KW X E Q _ _ _ _ _ (23, σ128, asS As128 0 13)
  have hT26 := hT25.as (k9 := 13)
  refine k_iconst C dX7_init_134 ?_
  refine k_istore_n (ls2 := [some (vR 0), some (vI 0)]) C dX7_init_135 (by decide) rfl ?_
  exact k_uw rfl rfl rfl (L136 4 0 _ _ rfl (hT26.c0 ⟨by decide, by decide⟩))
