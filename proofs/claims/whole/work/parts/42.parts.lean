theorem it_w {D : gd_T} {g x : Int} (h : 0 ≤ x ∧ x ≤ 199) : itD D g x = some [x] ∧ itOK D g x ∧ itM x = 1 := ⟨if_pos (by omega), Or.inl h, if_pos (by omega)⟩
theorem it_n {D : gd_T} {g n : Int} (h : 0 ≤ n ∧ n ≤ 9999) : itD D g (1000 + n) = nm D n ∧ itOK D g (1000 + n) ∧ itM (1000 + n) = 4 ^ (n.toNat + 1) := by
  have e : 1000 + n - 1000 = n := by omega
  refine ⟨?_, Or.inr (Or.inl (by omega)), ?_⟩
  · unfold itD; rw [if_neg (by omega), if_pos (by omega), e]
  · unfold itM; rw [if_neg (by omega), if_pos (by omega), e]
theorem it_p {D : gd_T} (hD : GDok D) {g p m : Int} (hg : 0 ≤ g ∧ g ≤ 3) (hp : 0 ≤ p ∧ p < gC D 1) (hm : 1 ≤ m ∧ m ≤ gB D p 2) : itD D g (20000 + 100 * (5 * g + p) + m) = prF D (nm D) p m ∧ itOK D g (20000 + 100 * (5 * g + p) + m) ∧ itM (20000 + 100 * (5 * g + p) + m) = 4 ^ (m.toNat + 1) + 2 := by
  have h1 := hD.2.2.2.1
  have h2 := (hD.2.2.2.2.2.2.2.1 p hp.1 hp.2).2.2.1
  have e1 : (20000 + 100 * (5 * g + p) + m - 20000) / 100 = 5 * g + p := by omega
  have e2 : (20000 + 100 * (5 * g + p) + m - 20000) % 100 = m := by omega
  have e3 : 5 * g + p - 5 * g = p := by omega
  refine ⟨?_, Or.inr (Or.inr ?_), ?_⟩
  · unfold itD; rw [if_neg (by omega), if_neg (by omega), e1, e2, e3]
  · rw [e1, e2, e3]; exact ⟨by omega, hp, hm⟩
  · unfold itM; rw [if_neg (by omega), if_neg (by omega), e2]
theorem lnd15 {s : Int} (h : 0 ≤ s ∧ s ≤ 15) : (0 ≤ landI s 1 ∧ 0 ≤ landI s 2 ∧ 0 ≤ landI s 4 ∧ 0 ≤ landI s 8 ∧ 0 ≤ landI s 12) ∧ (landI s 12 = 0 → landI s 8 = 0 ∧ landI s 4 = 0) ∧ (landI s 8 = 0 → landI s 4 = 0 → landI s 12 = 0) := by
  have h1 : s = 0 ∨ s = 1 ∨ s = 2 ∨ s = 3 ∨ s = 4 ∨ s = 5 ∨ s = 6 ∨ s = 7 ∨ s = 8 ∨ s = 9 ∨ s = 10 ∨ s = 11 ∨ s = 12 ∨ s = 13 ∨ s = 14 ∨ s = 15 := by omega
  rcases h1 with h | h | h | h | h | h | h | h | h | h | h | h | h | h | h | h <;> (subst h; decide +kernel)
theorem p4_m {a b : Int} (h0 : 0 ≤ a) (h : a < b) : 4 * 4 ^ (a.toNat + 1) ≤ 4 ^ (b.toNat + 1) := by
  have h1 : 4 ^ (a.toNat + 1 + 1) ≤ 4 ^ (b.toNat + 1) := Nat.pow_le_pow_right (by decide) (by omega)
  rw [Nat.pow_succ] at h1
  omega
theorem oap_none_r (a : Option (List Int)) : oap a none = none := by
  cases a <;> simp [oap]
theorem oap_none_l (a : Option (List Int)) : oap none a = none := rfl
/-- so much more waits: what it tells, and less than n of it -/
def psh (σ σ9 : sv_G) (D : gd_T) (g : Int) (S : List Int) (o : Option (List Int)) (n : Nat) : Prop := frK σ σ9 ∧ ∃ T, SK σ9 (S ++ T) ∧ T.length ≤ 3 ∧ itsOK D g T ∧ stD D g T = o ∧ stM T < n
set_option maxRecDepth 100000 in
set_option maxHeartbeats 8000000 in
theorem kX8_product {E : sv_E} {σ : sv_G} {D : gd_T} {g : Int} (hD : GDok D) (hg : 0 ≤ g ∧ g ≤ 3) (hBM : BM σ g D) {p x : Int} (hp : 0 ≤ p ∧ p < gC D 1) (hx9 : x = 5 * g + p) {y : Int} (hy : 1 ≤ y ∧ y ≤ gB D p 2) {S : List Int} (hS9 : SK σ S) (hl : S.length ≤ 20) : CT E MX8_product 1 [(vR 195), (vI x), (vI y)] σ (PV fun σ9 => psh σ σ9 D g S (prF D (nm D) p y) (4 ^ (y.toNat + 1) + 2)) := by
  refine CT.of (RX8, cX8_product, 3, none, [], 1, 0, 0) rfl moX8_product (Nat.le_of_ble_eq_true rfl) (ls0 := [some (vR 195), some (vI x), some (vI y)]) rfl ?_
  intro X Q C hR
  have hnb := hD.2.2.2.1
  have hbo := hD.2.2.2.2.2.2.2.1 p hp.1 hp.2
  obtain ⟨s0, s1, s2, s3, s4, s5, s6⟩ := hbo
  have hbk : ∀ k : Nat, k < 7 → σ (200 + k) x = gB D p k := fun k hk => by rw [hx9]; exact hBM.2 p k hp.1 hp.2 hk
  have b1 : σ 201 x = gB D p 1 := hbk 1 (by decide)
  have b3 : σ 203 x = gB D p 3 := hbk 3 (by decide)
  have hln := lnd15 s3
  have hiw := it_w (D := D) (g := g) s1
  have hin := it_n (D := D) (g := g) (n := y) (by omega)
  refine s_iload_n C dX8_product_0 rfl ?_
  refine s_iconst C dX8_product_1 ?_
  have J81 : ∀ (τ : sv_G), (psh σ τ D g S (prF D (nm D) p y) (4 ^ (y.toNat + 1) + 2)) → SW X E Q 0 0 81 [some (vR 195), some (vI x), some (vI y)] [] τ := by
    intro τ j81_0
    refine s_vret C hR dX8_product_81 rfl ⟨rfl, ?_⟩ (by decide)
    exact j81_0
  have J29 : (¬ (y = 1 ∧ landI (gB D p 3) 1 = 0)) → SW X E Q 0 0 29 [some (vR 195), some (vI x), some (vI y)] [] σ := by
    intro  j29_0
    refine s_aload_n C dX8_product_29 rfl ?_
    refine s_getR (c := 8) C fl_8_31 dX8_product_30 sh_195 rfl rf_195_7 ?_
    refine s_iload_n C dX8_product_33 rfl ?_
    refine s_iald C dX8_product_34 sh_203 (by omega) (fun g34 => ?_)
    refine s_iconst C dX8_product_35 ?_
    refine s_iand C dX8_product_36 ?_
    refine s_if_le (tgt := 62) C dX8_product_37 (by decide) (by exact landI_rng _ _) (fun c37 => ?_) (fun c37 => ?_)
    · refine s_aload_n C dX8_product_62 rfl ?_
      refine s_aload_n C dX8_product_63 rfl ?_
      refine s_getR (c := 8) C fl_8_25 dX8_product_64 sh_195 rfl rf_195_5 ?_
      refine s_iload_n C dX8_product_67 rfl ?_
      refine s_iald C dX8_product_68 sh_201 (by omega) (fun g68 => ?_)
      refine s_cV1v C dX8_product_69 lkX8_145 moX8_waits mvX8_waits (kX8_waits (by exact hS9) (by omega) (by omega)) sh_195 ⟨_, _, rfl⟩ (by decide) (Nat.le_of_ble_eq_true rfl) rfl (by decide) (fun σ_69 hp69 => ?_)
      refine s_aload_n C dX8_product_72 rfl ?_
      refine s_sipush C dX8_product_73 (by decide) ?_
      refine s_iload_n C dX8_product_76 rfl ?_
      refine s_iadd C dX8_product_77 ?_
      refine s_cV1v C dX8_product_78 lkX8_145 moX8_waits mvX8_waits (kX8_waits (by exact hp69.1) (by omega) (by rw [List.length_append]; show S.length + 1 < 48; omega)) sh_195 ⟨_, _, rfl⟩ (by decide) (Nat.le_of_ble_eq_true rfl) rfl (by decide) (fun σ_78 hp78 => ?_)
      rw [b1] at hp69
      have hP : psh σ σ_78 D g S (prF D (nm D) p y) (4 ^ (y.toNat + 1) + 2) := by
        refine ⟨hp69.2.tr hp78.2, [gB D p 1, 1000 + y], by have h := hp78.1; rw [b1, List.append_assoc] at h; exact h, by simp, (itsOK.one hiw.2.1).app (itsOK.one hin.2.1), ?_, ?_⟩
        · show oap (oap (some []) (itD D g (1000 + y))) (itD D g (gB D p 1)) = _
          rw [oap_nil_l, hiw.1, hin.1]; unfold prF; rw [if_neg (by omega), if_neg j29_0, if_neg (by rw [b3] at c37; omega)]
        · show itM _ + (itM _ + 0) < _
          rw [hiw.2.2, hin.2.2, Nat.add_zero, Nat.add_comm]; exact Nat.lt_succ_self _
      refine J81 σ_78 ?_
      · exact hP
    · refine s_aload_n C dX8_product_40 rfl ?_
      refine s_sipush C dX8_product_41 (by decide) ?_
      refine s_iload_n C dX8_product_44 rfl ?_
      refine s_iadd C dX8_product_45 ?_
      refine s_cV1v C dX8_product_46 lkX8_145 moX8_waits mvX8_waits (kX8_waits (by exact hS9) (by omega) (by omega)) sh_195 ⟨_, _, rfl⟩ (by decide) (Nat.le_of_ble_eq_true rfl) rfl (by decide) (fun σ_46 hp46 => ?_)
      have e46 : σ_46 201 x = gB D p 1 := by rw [hp46.2 _ _ (Or.inl (by decide)) (by decide)]; exact b1
      refine s_aload_n C dX8_product_49 rfl ?_
      refine s_aload_n C dX8_product_50 rfl ?_
      refine s_getR (c := 8) C fl_8_25 dX8_product_51 sh_195 rfl rf_195_5 ?_
      refine s_iload_n C dX8_product_54 rfl ?_
      refine s_iald C dX8_product_55 sh_201 (by omega) (fun g55 => ?_)
      refine s_cV1v C dX8_product_56 lkX8_145 moX8_waits mvX8_waits (kX8_waits (by exact hp46.1) (by omega) (by rw [List.length_append]; show S.length + 1 < 48; omega)) sh_195 ⟨_, _, rfl⟩ (by decide) (Nat.le_of_ble_eq_true rfl) rfl (by decide) (fun σ_56 hp56 => ?_)
      rw [e46] at hp56
      have hP : psh σ σ_56 D g S (prF D (nm D) p y) (4 ^ (y.toNat + 1) + 2) := by
        refine ⟨hp46.2.tr hp56.2, [1000 + y, gB D p 1], by have h := hp56.1; rw [List.append_assoc] at h; exact h, by simp, (itsOK.one hin.2.1).app (itsOK.one hiw.2.1), ?_, ?_⟩
        · show oap (oap (some []) (itD D g (gB D p 1))) (itD D g (1000 + y)) = _
          rw [oap_nil_l, hiw.1, hin.1]; unfold prF; rw [if_neg (by omega), if_neg j29_0, if_pos (by rw [b3] at c37; omega)]
        · show itM _ + (itM _ + 0) < _
          rw [hiw.2.2, hin.2.2]; exact Nat.lt_succ_self _
      refine s_goto (tgt := 81) C dX8_product_59 (by decide) ?_
      refine J81 σ_56 ?_
      · exact hP
  refine s_icmp_ne (tgt := 29) C dX8_product_2 (by decide) (by omega) (by omega) (fun c2 => ?_) (fun c2 => ?_)
  · exact J29 (by first | assumption | omega)
  · refine s_aload_n C dX8_product_5 rfl ?_
    refine s_getR (c := 8) C fl_8_31 dX8_product_6 sh_195 rfl rf_195_7 ?_
    refine s_iload_n C dX8_product_9 rfl ?_
    refine s_iald C dX8_product_10 sh_203 (by omega) (fun g10 => ?_)
    refine s_iconst C dX8_product_11 ?_
    refine s_iand C dX8_product_12 ?_
    refine s_if_ne (tgt := 29) C dX8_product_13 (by decide) (by exact landI_rng _ _) (fun c13 => ?_) (fun c13 => ?_)
    · refine J29 ?_
      · rw [b3] at c13; omega
    · refine s_aload_n C dX8_product_16 rfl ?_
      refine s_aload_n C dX8_product_17 rfl ?_
      refine s_getR (c := 8) C fl_8_25 dX8_product_18 sh_195 rfl rf_195_5 ?_
      refine s_iload_n C dX8_product_21 rfl ?_
      refine s_iald C dX8_product_22 sh_201 (by omega) (fun g22 => ?_)
      refine s_cV1v C dX8_product_23 lkX8_145 moX8_waits mvX8_waits (kX8_waits (by exact hS9) (by omega) (by omega)) sh_195 ⟨_, _, rfl⟩ (by decide) (Nat.le_of_ble_eq_true rfl) rfl (by decide) (fun σ_23 hp23 => ?_)
      rw [b1] at hp23
      have hP : psh σ σ_23 D g S (prF D (nm D) p y) (4 ^ (y.toNat + 1) + 2) := by
        refine ⟨hp23.2, [gB D p 1], hp23.1, by simp, itsOK.one hiw.2.1, ?_, ?_⟩
        · rw [stD_one, hiw.1]; unfold prF; rw [if_neg (by omega), if_pos (by rw [b3] at c13; omega)]
        · show itM _ + 0 < _
          rw [hiw.2.2]; exact Nat.lt_of_lt_of_le (by decide : 1 + 0 < 2) (Nat.le_add_left 2 _)
      refine s_goto (tgt := 81) C dX8_product_26 (by decide) ?_
      refine J81 σ_23 ?_
      · exact hP
