
set_option maxRecDepth 100000 in
set_option maxHeartbeats 8000000 in
theorem kX7_atom {E : sv_E} {σ : sv_G} {S : st_T} (hS : StOK S) (hN : RN σ S) {x : Int} (hx : -2147483648 ≤ x ∧ x ≤ 2147483647) {y : Int} (hy : -2147483648 ≤ y ∧ y ≤ 2147483647) {z : Int} (hz : -2147483648 ≤ z ∧ z ≤ 2147483647) : CX E MX7_atom 7 [(vR 0), (vI x), (vI y), (vI z)] σ (PI fun r σ9 => oP σ σ9 r (op_atom S x y z)) (px3 σ (op_atom S x y z).1 xI xA xS) := by
  refine CX.of (RX7, cX7_atom, 6, (some .int), [], 7, 4, 24) rfl moX7_atom (by decide +kernel) (Nat.le_of_ble_eq_true rfl) (ls0 := [some (vR 0), some (vI x), some (vI y), some (vI z), none, none]) rfl ?_
  intro X Q C hR hT
  refine s_aload_n C dX7_atom_0 rfl ?_
  refine s_iload_n C dX7_atom_1 rfl ?_
  refine sx_cV1r (u2 := 1) (w2 := 6) C dX7_atom_2 lkX7_70 moX7_grammarAt mvX7_grammarAt (kX7_grammarAt (by omega)) sh_0 ⟨_, _, rfl⟩ (by decide) (Nat.le_of_ble_eq_true rfl) (by decide) (by decide) hT rfl (by decide) (fun En σ9 h => ⟨h.1, Or.inl ⟨h.2.1, by have h3 := h.2.2; unfold op_atom; dsimp only; (repeat' split) <;> omega⟩⟩) (kpI (fun r2 hp2 => ?_))
  have hr := hp2.2.1
  have hsh := hp2.2.2
  have hD := hS.1 x (by omega) (by omega)
  have hC : RC σ r2 (sD S x) := by rw [hr]; exact hN.1 x (by omega) (by omega)
  have hnb := hD.2.2.2.1
  have hn1 : σ r2 2 = gC (sD S x) 1 := hC.2.2.2.1
  have hA := hC.1
  have hF := hC.2.1
  have hn0 := hC.2.2.1
  have hn40 := hD.2.2.1
  refine s_getR (c := 4) C fl_7_74 dX7_atom_5 hp2.2.2 rfl (rfc_4_0 hp2.2.2) ?_
  refine s_astore (ls2 := [some (vR 0), some (vI x), some (vI y), some (vI z), some (vR (r2 + 1)), none]) C dX7_atom_8 (by decide) rfl ?_
  refine s_iload_n C dX7_atom_10 rfl ?_
  refine sx_cS1v (u2 := 2) (w2 := 12) C dX7_atom_11 lkX7_78 moX7_needWord mvX7_needWord (kX7_needWord (by omega)) (by decide) (Nat.le_of_ble_eq_true rfl) (by decide) (by decide) hT rfl (by decide) (fun En σ9 h => ⟨h.1, Or.inl ⟨h.2.1, by have h3 := h.2.2; unfold op_atom; dsimp only; (repeat' split) <;> omega⟩⟩) (kpV (fun hp11 => ?_))
  refine s_iload_n C dX7_atom_14 rfl ?_
  refine s_iconst C dX7_atom_15 ?_
  refine s_sipush C dX7_atom_16 (by decide) ?_
  refine sx_cS3v (u2 := 3) (w2 := 18) C dX7_atom_19 lkX7_82 moX7_needRange mvX7_needRange (kX7_needRange (by omega) (by decide) (by decide)) (by decide) (Nat.le_of_ble_eq_true rfl) (by decide) (by decide) hT rfl (by decide) (fun En σ9 h => ⟨h.1, Or.inr (Or.inl ⟨h.2.1, by have h3 := h.2.2; unfold op_atom; dsimp only; (repeat' split) <;> omega⟩)⟩) (kpV (fun hp19 => ?_))
  refine s_aload C dX7_atom_22 rfl ?_
  refine s_iload_n C dX7_atom_24 rfl ?_
  refine s_cN1i C dX7_atom_25 lkX7_86 moX0_wordOf mvX0_wordOf (kX0_wordOf (shc_4_0 hp2.2.2) (by omega) (by assumption) (by assumption)) (shc_4_0 hp2.2.2) ⟨_, _, rfl⟩ (by decide) (Nat.le_of_ble_eq_true rfl) rfl (by decide) (kpI (fun r25 hp25 => ?_))
  have hf := hD.1 y
  refine s_istore (ls2 := [some (vR 0), some (vI x), some (vI y), some (vI z), some (vR (r2 + 1)), some (vI r25)]) C dX7_atom_28 (by decide) rfl ?_
  refine s_iload C dX7_atom_30 rfl ?_
  refine s_iconst C dX7_atom_32 ?_
  have J54 : (gF (sD S x) y ≠ -1 ∨ gC (sD S x) 0 < 40) → SW X E Q 3 18 54 [some (vR 0), some (vI x), some (vI y), some (vI z), some (vR (r2 + 1)), some (vI r25)] [] σ := by
    intro  j54_0
    refine s_aload C dX7_atom_54 rfl ?_
    refine s_iload_n C dX7_atom_56 rfl ?_
    refine s_iload_n C dX7_atom_57 rfl ?_
    refine s_cN2v C dX7_atom_58 lkX7_103 moX0_put mvX0_put (kX0_put (shc_4_0 hp2.2.2) (by omega) (by omega) (by assumption) (by assumption) (by intro q; omega)) (shc_4_0 hp2.2.2) ⟨_, _, rfl⟩ (by decide) (Nat.le_of_ble_eq_true rfl) rfl (by decide) (fun σ_58 hp58 => ?_)
    refine s_iload C dX7_atom_61 rfl ?_
    refine s_iret C hR dX7_atom_63 rfl ⟨_, rfl, ?_⟩ (by decide)
    have hcn := hp58.2.2.1
    rw [hn0] at hcn
    have hfr : frG σ σ_58 (23 + 17 * x.toNat) := by
      rw [← hr]
      exact fun b k q => hp58.2.2.2 b k (by omega) (by omega) (by omega)
    have hCn : RC σ_58 (23 + 17 * x.toNat) (dAt (sD S x) y z (if gF (sD S x) y = -1 then gC (sD S x) 0 + 1 else gC (sD S x) 0)) := by
      rw [← hr]
      exact RC.at hD hC hp58.1 hp58.2.1 hcn hp58.2.2.2
    refine ⟨by unfold op_atom; dsimp only; (repeat' split) <;> omega, (by show r25 = gF (sD S x) y; omega), hN.gr hS (by omega) hfr hCn, uD_ok hS (dAt_ok hD (by omega) (by omega) (by split <;> omega)), hfr.C (by omega)⟩
  refine s_icmp_ne (tgt := 54) C dX7_atom_33 (by decide) (by omega) (by omega) (fun c33 => ?_) (fun c33 => ?_)
  · exact J54 (by first | assumption | omega)
  · refine s_aload C dX7_atom_36 rfl ?_
    refine s_cN0i C dX7_atom_38 lkX7_92 moX0_isFull mvX0_isFull (kX0_isFull (shc_4_0 hp2.2.2)) (shc_4_0 hp2.2.2) ⟨_, _, rfl⟩ (by decide) (Nat.le_of_ble_eq_true rfl) rfl (by decide) (kpI (fun r38 hp38 => ?_))
    refine s_if_eq (tgt := 54) C dX7_atom_41 (by decide) (by omega) (fun c41 => ?_) (fun c41 => ?_)
    · exact J54 (by first | assumption | omega)
    · exact s_throwG (sa := 0) (ik := 96) (is := 98) (ic := 100) C hT atX7_100 lcX7_96 lsX7_98 rfl (by exact ⟨rfl, Or.inr (Or.inr ⟨rfl, by unfold op_atom; dsimp only; (repeat' split) <;> omega⟩)⟩) (by decide) (by decide) (by decide) (Nat.le_of_ble_eq_true rfl) false dX7_atom_44 dX7_atom_47 ⟨dX7_atom_48, dX7_atom_50, dX7_atom_53⟩
theorem at_pos {σ : sv_G} {a : Nat} {f : Int → Int} {x : Int} (hF : AtF σ a f) (h : f x ≠ -1) : 1 ≤ σ a 2 := by
  obtain ⟨i, h1, h2, h3⟩ := hF.2 x h
  omega


set_option maxRecDepth 100000 in
set_option maxHeartbeats 8000000 in
theorem kX7_base {E : sv_E} {σ : sv_G} {S : st_T} (hS : StOK S) (hN : RN σ S) {x : Int} (hx : -2147483648 ≤ x ∧ x ≤ 2147483647) {y : Int} (hy : -2147483648 ≤ y ∧ y ≤ 2147483647) {z : Int} (hz : -2147483648 ≤ z ∧ z ≤ 2147483647) {v : Int} (hv : -2147483648 ≤ v ∧ v ≤ 2147483647) {w : Int} (hw : -2147483648 ≤ w ∧ w ≤ 2147483647) : CX E MX7_base 7 [(vR 0), (vI x), (vI y), (vI z), (vI v), (vI w)] σ (PI fun r σ9 => oP σ σ9 r (op_base S x y z v w)) (px3 σ (op_base S x y z v w).1 xI xA xS) := by
  refine CX.of (RX7, cX7_base, 7, (some .int), [], 7, 6, 36) rfl moX7_base (by decide +kernel) (Nat.le_of_ble_eq_true rfl) (ls0 := [some (vR 0), some (vI x), some (vI y), some (vI z), some (vI v), some (vI w), none]) rfl ?_
  intro X Q C hR hT
  refine s_aload_n C dX7_base_0 rfl ?_
  refine s_iload_n C dX7_base_1 rfl ?_
  refine sx_cV1r (u2 := 1) (w2 := 6) C dX7_base_2 lkX7_70 moX7_grammarAt mvX7_grammarAt (kX7_grammarAt (by omega)) sh_0 ⟨_, _, rfl⟩ (by decide) (Nat.le_of_ble_eq_true rfl) (by decide) (by decide) hT rfl (by decide) (fun En σ9 h => ⟨h.1, Or.inl ⟨h.2.1, by have h3 := h.2.2; unfold op_base; dsimp only; (repeat' split) <;> omega⟩⟩) (kpI (fun r2 hp2 => ?_))
  have hr := hp2.2.1
  have hsh := hp2.2.2
  have hD := hS.1 x (by omega) (by omega)
  have hC : RC σ r2 (sD S x) := by rw [hr]; exact hN.1 x (by omega) (by omega)
  have hnb := hD.2.2.2.1
  have hn1 : σ r2 2 = gC (sD S x) 1 := hC.2.2.2.1
  refine s_astore (ls2 := [some (vR 0), some (vI x), some (vI y), some (vI z), some (vI v), some (vI w), some (vR r2)]) C dX7_base_5 (by decide) rfl ?_
  refine s_iload_n C dX7_base_7 rfl ?_
  refine sx_cS1v (u2 := 2) (w2 := 12) C dX7_base_8 lkX7_78 moX7_needWord mvX7_needWord (kX7_needWord (by omega)) (by decide) (Nat.le_of_ble_eq_true rfl) (by decide) (by decide) hT rfl (by decide) (fun En σ9 h => ⟨h.1, Or.inl ⟨h.2.1, by have h3 := h.2.2; unfold op_base; dsimp only; (repeat' split) <;> omega⟩⟩) (kpV (fun hp8 => ?_))
  refine s_iload_n C dX7_base_11 rfl ?_
  refine s_iconst C dX7_base_12 ?_
  refine s_sipush C dX7_base_13 (by decide) ?_
  refine sx_cS3v (u2 := 3) (w2 := 18) C dX7_base_16 lkX7_82 moX7_needRange mvX7_needRange (kX7_needRange (by omega) (by decide) (by decide)) (by decide) (Nat.le_of_ble_eq_true rfl) (by decide) (by decide) hT rfl (by decide) (fun En σ9 h => ⟨h.1, Or.inr (Or.inl ⟨h.2.1, by have h3 := h.2.2; unfold op_base; dsimp only; (repeat' split) <;> omega⟩)⟩) (kpV (fun hp16 => ?_))
  refine s_iload C dX7_base_19 rfl ?_
  refine s_iconst C dX7_base_21 ?_
  refine s_bipush C dX7_base_22 (by decide) ?_
  refine sx_cS3v (u2 := 4) (w2 := 24) C dX7_base_24 lkX7_82 moX7_needRange mvX7_needRange (kX7_needRange (by omega) (by decide) (by decide)) (by decide) (Nat.le_of_ble_eq_true rfl) (by decide) (by decide) hT rfl (by decide) (fun En σ9 h => ⟨h.1, Or.inr (Or.inl ⟨h.2.1, by have h3 := h.2.2; unfold op_base; dsimp only; (repeat' split) <;> omega⟩)⟩) (kpV (fun hp24 => ?_))
  refine s_iload C dX7_base_27 rfl ?_
  refine s_iconst C dX7_base_29 ?_
  refine s_bipush C dX7_base_30 (by decide) ?_
  refine sx_cS3v (u2 := 5) (w2 := 30) C dX7_base_32 lkX7_82 moX7_needRange mvX7_needRange (kX7_needRange (by omega) (by decide) (by decide)) (by decide) (Nat.le_of_ble_eq_true rfl) (by decide) (by decide) hT rfl (by decide) (fun En σ9 h => ⟨h.1, Or.inr (Or.inl ⟨h.2.1, by have h3 := h.2.2; unfold op_base; dsimp only; (repeat' split) <;> omega⟩)⟩) (kpV (fun hp32 => ?_))
  refine s_aload C dX7_base_35 rfl ?_
  refine s_getI (c := 4) (kz := 2) C fl_7_110 dX7_base_37 hp2.2.2 rfl rfl (fun g37 => ?_)
  refine s_iconst C dX7_base_40 ?_
  have J53 : (hb (sD S x) y = 1 ∨ gC (sD S x) 1 = 5) → SW X E Q 5 30 53 [some (vR 0), some (vI x), some (vI y), some (vI z), some (vI v), some (vI w), some (vR r2)] [] σ := by
    intro  j53_0
    exact s_throwG (sa := 0) (ik := 96) (is := 117) (ic := 100) C hT atX7_100 lcX7_96 lsX7_117 rfl (by exact ⟨rfl, Or.inr (Or.inr ⟨rfl, by unfold op_base; dsimp only; (repeat' split) <;> omega⟩)⟩) (by decide) (by decide) (by decide) (Nat.le_of_ble_eq_true rfl) false dX7_base_53 dX7_base_56 ⟨dX7_base_57, dX7_base_59, dX7_base_62⟩
  refine s_icmp_ge (tgt := 53) C dX7_base_41 (by decide) (by omega) (by omega) (fun c41 => ?_) (fun c41 => ?_)
  · exact J53 (by first | assumption | omega)
  · refine s_aload C dX7_base_44 rfl ?_
    refine s_iload_n C dX7_base_46 rfl ?_
    refine s_cN1i C dX7_base_47 lkX7_113 moX4_hasBase mvX4_hasBase (kX4_hasBase (by exact hsh) (by exact hD) (by exact hC) (by omega)) hp2.2.2 ⟨_, _, rfl⟩ (by decide) (Nat.le_of_ble_eq_true rfl) rfl (by decide) (kpI (fun r47 hp47 => ?_))
    have hh : (r47 = 1 ∧ hb (sD S x) y = 1) ∨ (r47 = 0 ∧ hb (sD S x) y = 0) := by
      rcases hp47 with ⟨q, i, q1, q2, q3⟩ | ⟨q1, q2⟩
      · exact Or.inl ⟨q, hasR_1 i q1 (by omega) q3⟩
      · exact Or.inr ⟨q1, hasR_0 fun i h1 h2 => q2 i h1 (by omega)⟩
    clear hp47
    refine s_if_eq (tgt := 63) C dX7_base_50 (by decide) (by omega) (fun c50 => ?_) (fun c50 => ?_)
    · refine s_aload C dX7_base_63 rfl ?_
      refine s_iload_n C dX7_base_65 rfl ?_
      refine s_iload_n C dX7_base_66 rfl ?_
      refine s_iload C dX7_base_67 rfl ?_
      refine s_iload C dX7_base_69 rfl ?_
      refine s_cN4i C dX7_base_71 lkX7_119 moX4_addBase mvX4_addBase (kX4_addBase (by exact hsh) (by exact hD) (by exact hC) (by omega) (by omega) (by omega) (by omega) (by omega)) hp2.2.2 ⟨_, _, rfl⟩ (by decide) (Nat.le_of_ble_eq_true rfl) rfl (by decide) (fun r71 σ_71 hp71 => ?_)
      refine s_iret C hR dX7_base_74 rfl ⟨_, rfl, ?_⟩ (by decide)
      have hfr : frG σ σ_71 (23 + 17 * x.toNat) := by
        rw [← hr]
        exact hp71.2.2
      have hCn : RC σ_71 (23 + 17 * x.toNat) (dBase (sD S x) (bsN y z v w)) := by
        rw [← hr]
        exact hp71.2.1
      refine ⟨by unfold op_base; dsimp only; (repeat' split) <;> omega, hp71.1, hN.gr hS (by omega) hfr hCn, uD_ok hS (dBase_ok hD (show bsOK (bsN y z v w) from ⟨(show 2 ≤ y ∧ y ≤ 5000 by omega), (show 0 ≤ z ∧ z ≤ 199 by omega), (show 1 ≤ v ∧ v ≤ 99 by omega), (show 0 ≤ w ∧ w ≤ 15 by omega), (by decide : (-1 : Int) ≤ -1 ∧ (-1 : Int) ≤ 199), (by decide : (0 : Int) ≤ 0 ∧ (0 : Int) ≤ 9), (by decide : (0 : Int) ≤ 0 ∧ (0 : Int) ≤ 199)⟩) (by omega)), hfr.C (by omega)⟩
    · exact J53 (by first | assumption | omega)

set_option maxRecDepth 100000 in
set_option maxHeartbeats 8000000 in
theorem kX7_joint {E : sv_E} {σ : sv_G} {S : st_T} (hS : StOK S) (hN : RN σ S) {x : Int} (hx : -2147483648 ≤ x ∧ x ≤ 2147483647) {y : Int} (hy : -2147483648 ≤ y ∧ y ≤ 2147483647) {z : Int} (hz : -2147483648 ≤ z ∧ z ≤ 2147483647) : CX E MX7_joint 8 [(vR 0), (vI x), (vI y), (vI z)] σ (PI fun r σ9 => oP σ σ9 r (op_joint S x y z)) (px3 σ (op_joint S x y z).1 xI "" "") := by
  refine CX.of (RX7, cX7_joint, 6, (some .int), [], 8, 3, 18) rfl moX7_joint (by decide +kernel) (Nat.le_of_ble_eq_true rfl) (ls0 := [some (vR 0), some (vI x), some (vI y), some (vI z), none, none]) rfl ?_
  intro X Q C hR hT
  refine s_aload_n C dX7_joint_0 rfl ?_
  refine s_iload_n C dX7_joint_1 rfl ?_
  refine sx_cV1r (u2 := 1) (w2 := 6) C dX7_joint_2 lkX7_70 moX7_grammarAt mvX7_grammarAt (kX7_grammarAt (by omega)) sh_0 ⟨_, _, rfl⟩ (by decide) (Nat.le_of_ble_eq_true rfl) (by decide) (by decide) hT rfl (by decide) (fun En σ9 h => ⟨h.1, Or.inl ⟨h.2.1, by have h3 := h.2.2; unfold op_joint; dsimp only; (repeat' split) <;> omega⟩⟩) (kpI (fun r2 hp2 => ?_))
  have hr := hp2.2.1
  have hsh := hp2.2.2
  have hD := hS.1 x (by omega) (by omega)
  have hC : RC σ r2 (sD S x) := by rw [hr]; exact hN.1 x (by omega) (by omega)
  have hnb := hD.2.2.2.1
  have hn1 : σ r2 2 = gC (sD S x) 1 := hC.2.2.2.1
  refine s_iload_n C dX7_joint_5 rfl ?_
  refine sx_cS2r (u2 := 2) (w2 := 12) C dX7_joint_6 lkX7_123 moX7_baseAt mvX7_baseAt (kX7_baseAt (by exact hsh) (by exact hn1) (by omega) (by omega)) (by decide) (Nat.le_of_ble_eq_true rfl) (by decide) (by decide) hT rfl (by decide) (fun En σ9 h => ⟨h.1, Or.inl ⟨h.2.1, by have h3 := h.2.2; unfold op_joint; dsimp only; (repeat' split) <;> omega⟩⟩) (kpI (fun r6 hp6 => ?_))
  have hb6 := hp6.2.1
  have hsh6 := hp6.2.2
  have hbf : ∀ k : Nat, k < 7 → σ r6 (k : Int) = gB (sD S x) y k := fun k hk => by rw [hb6]; exact hC.2.2.2.2.1 y k (by omega) (by omega) hk
  have hbo := hD.2.2.2.2.2.2.2.1 y (by omega) (by omega)
  obtain ⟨s0, s1, s2, s3, s4, s5, s6⟩ := hbo
  have e4 : σ r6 4 = gB (sD S x) y 4 := hbf 4 (by decide)
  refine s_astore (ls2 := [some (vR 0), some (vI x), some (vI y), some (vI z), some (vR r6), none]) C dX7_joint_9 (by decide) rfl ?_
  refine s_iload_n C dX7_joint_11 rfl ?_
  refine sx_cS1v (u2 := 3) (w2 := 18) C dX7_joint_12 lkX7_127 moX7_needWordOrNone mvX7_needWordOrNone (kX7_needWordOrNone (by omega)) (by decide) (Nat.le_of_ble_eq_true rfl) (by decide) (by decide) hT rfl (by decide) (fun En σ9 h => ⟨h.1, Or.inl ⟨h.2.1, by have h3 := h.2.2; unfold op_joint; dsimp only; (repeat' split) <;> omega⟩⟩) (kpV (fun hp12 => ?_))
  refine s_aload C dX7_joint_15 rfl ?_
  refine s_getI (c := 1) (kz := 4) C fl_7_130 dX7_joint_17 hp6.2.2 rfl rfl (fun g17 => ?_)
  refine s_topI (fun x5_20 ex5_20 => ?_)
  refine s_istore (ls2 := [some (vR 0), some (vI x), some (vI y), some (vI z), some (vR r6), some (vI x5_20)]) C dX7_joint_20 (by decide) rfl ?_
  refine s_aload C dX7_joint_22 rfl ?_
  refine s_iload_n C dX7_joint_24 rfl ?_
  refine s_putI (c := 1) (kz := 4) C fl_7_130 dX7_joint_25 hp6.2.2 rfl (fun _ _ h9 => by cases h9; rfl) (by omega) rfl ?_
  refine s_nameG (fun σ_25 hσ_25 => ?_)
  refine s_iload C dX7_joint_28 rfl ?_
  refine s_iret C hR dX7_joint_30 rfl ⟨_, rfl, ?_⟩ (by decide)
  rw [e4] at ex5_20
  have hfr : frG σ σ_25 (23 + 17 * x.toNat) := by
    rw [← hr]
    exact fun b k q => by rw [hσ_25, up_a (by omega)]
  have hCn : RC σ_25 (23 + 17 * x.toNat) (dBs (sD S x) y (bU (gB (sD S x) y) 4 z)) := by
    rw [← hr]
    refine RC.bs hD hC (by omega) (fun k hk => ?_) (fun b k q => by rw [hσ_25, up_a (by omega)])
    rw [← hb6, hσ_25]
    show (if r6 = r6 ∧ (k : Int) = 4 then z else σ r6 k) = (if k = 4 then z else gB (sD S x) y k)
    by_cases q : k = 4
    · rw [if_pos ⟨rfl, by omega⟩, if_pos q]
    · rw [if_neg (by omega), if_neg q]; exact hbf k hk
  refine ⟨by unfold op_joint; dsimp only; (repeat' split) <;> omega, ex5_20, hN.gr hS (by omega) hfr hCn, uD_ok hS (dBs_ok hD (show bsOK (bU (gB (sD S x) y) 4 z) from ⟨s0, s1, s2, s3, (show -1 ≤ z ∧ z ≤ 199 by omega), s5, s6⟩)), hfr.C (by omega)⟩

set_option maxRecDepth 100000 in
set_option maxHeartbeats 8000000 in
theorem kX7_less {E : sv_E} {σ : sv_G} {S : st_T} (hS : StOK S) (hN : RN σ S) {x : Int} (hx : -2147483648 ≤ x ∧ x ≤ 2147483647) {y : Int} (hy : -2147483648 ≤ y ∧ y ≤ 2147483647) {z : Int} (hz : -2147483648 ≤ z ∧ z ≤ 2147483647) {v : Int} (hv : -2147483648 ≤ v ∧ v ≤ 2147483647) : CX E MX7_less 8 [(vR 0), (vI x), (vI y), (vI z), (vI v)] σ (PI fun r σ9 => oP σ σ9 r (op_less S x y z v)) (px3 σ (op_less S x y z v).1 xI xA "") := by
  refine CX.of (RX7, cX7_less, 7, (some .int), [], 8, 4, 24) rfl moX7_less (by decide +kernel) (Nat.le_of_ble_eq_true rfl) (ls0 := [some (vR 0), some (vI x), some (vI y), some (vI z), some (vI v), none, none]) rfl ?_
  intro X Q C hR hT
  refine s_aload_n C dX7_less_0 rfl ?_
  refine s_iload_n C dX7_less_1 rfl ?_
  refine sx_cV1r (u2 := 1) (w2 := 6) C dX7_less_2 lkX7_70 moX7_grammarAt mvX7_grammarAt (kX7_grammarAt (by omega)) sh_0 ⟨_, _, rfl⟩ (by decide) (Nat.le_of_ble_eq_true rfl) (by decide) (by decide) hT rfl (by decide) (fun En σ9 h => ⟨h.1, Or.inl ⟨h.2.1, by have h3 := h.2.2; unfold op_less; dsimp only; (repeat' split) <;> omega⟩⟩) (kpI (fun r2 hp2 => ?_))
  have hr := hp2.2.1
  have hsh := hp2.2.2
  have hD := hS.1 x (by omega) (by omega)
  have hC : RC σ r2 (sD S x) := by rw [hr]; exact hN.1 x (by omega) (by omega)
  have hnb := hD.2.2.2.1
  have hn1 : σ r2 2 = gC (sD S x) 1 := hC.2.2.2.1
  refine s_iload_n C dX7_less_5 rfl ?_
  refine sx_cS2r (u2 := 2) (w2 := 12) C dX7_less_6 lkX7_123 moX7_baseAt mvX7_baseAt (kX7_baseAt (by exact hsh) (by exact hn1) (by omega) (by omega)) (by decide) (Nat.le_of_ble_eq_true rfl) (by decide) (by decide) hT rfl (by decide) (fun En σ9 h => ⟨h.1, Or.inl ⟨h.2.1, by have h3 := h.2.2; unfold op_less; dsimp only; (repeat' split) <;> omega⟩⟩) (kpI (fun r6 hp6 => ?_))
  have hb6 := hp6.2.1
  have hsh6 := hp6.2.2
  have hbf : ∀ k : Nat, k < 7 → σ r6 (k : Int) = gB (sD S x) y k := fun k hk => by rw [hb6]; exact hC.2.2.2.2.1 y k (by omega) (by omega) hk
  have hbo := hD.2.2.2.2.2.2.2.1 y (by omega) (by omega)
  obtain ⟨s0, s1, s2, s3, s4, s5, s6⟩ := hbo
  have e5 : σ r6 5 = gB (sD S x) y 5 := hbf 5 (by decide)
  refine s_astore (ls2 := [some (vR 0), some (vI x), some (vI y), some (vI z), some (vI v), some (vR r6), none]) C dX7_less_9 (by decide) rfl ?_
  refine s_iload C dX7_less_11 rfl ?_
  refine sx_cS1v (u2 := 3) (w2 := 18) C dX7_less_13 lkX7_78 moX7_needWord mvX7_needWord (kX7_needWord (by omega)) (by decide) (Nat.le_of_ble_eq_true rfl) (by decide) (by decide) hT rfl (by decide) (fun En σ9 h => ⟨h.1, Or.inl ⟨h.2.1, by have h3 := h.2.2; unfold op_less; dsimp only; (repeat' split) <;> omega⟩⟩) (kpV (fun hp13 => ?_))
  refine s_iload_n C dX7_less_16 rfl ?_
  refine s_iconst C dX7_less_17 ?_
  refine s_bipush C dX7_less_18 (by decide) ?_
  refine sx_cS3v (u2 := 4) (w2 := 24) C dX7_less_20 lkX7_82 moX7_needRange mvX7_needRange (kX7_needRange (by omega) (by decide) (by decide)) (by decide) (Nat.le_of_ble_eq_true rfl) (by decide) (by decide) hT rfl (by decide) (fun En σ9 h => ⟨h.1, Or.inr (Or.inl ⟨h.2.1, by have h3 := h.2.2; unfold op_less; dsimp only; (repeat' split) <;> omega⟩)⟩) (kpV (fun hp20 => ?_))
  refine s_aload C dX7_less_23 rfl ?_
  refine s_getI (c := 1) (kz := 5) C fl_7_135 dX7_less_25 hp6.2.2 rfl rfl (fun g25 => ?_)
  refine s_topI (fun x6_28 ex6_28 => ?_)
  refine s_istore (ls2 := [some (vR 0), some (vI x), some (vI y), some (vI z), some (vI v), some (vR r6), some (vI x6_28)]) C dX7_less_28 (by decide) rfl ?_
  refine s_aload C dX7_less_30 rfl ?_
  refine s_iload_n C dX7_less_32 rfl ?_
  refine s_putI (c := 1) (kz := 5) C fl_7_135 dX7_less_33 hp6.2.2 rfl (fun _ _ h9 => by cases h9; rfl) (by omega) rfl ?_
  refine s_nameG (fun σ_33 hσ_33 => ?_)
  refine s_aload C dX7_less_36 rfl ?_
  refine s_iload C dX7_less_38 rfl ?_
  refine s_putI (c := 1) (kz := 6) C fl_7_138 dX7_less_40 hp6.2.2 rfl (fun _ _ h9 => by cases h9; rfl) (by omega) rfl ?_
  refine s_nameG (fun σ_40 hσ_40 => ?_)
  refine s_iload C dX7_less_43 rfl ?_
  refine s_iret C hR dX7_less_45 rfl ⟨_, rfl, ?_⟩ (by decide)
  rw [e5] at ex6_28
  have hfr : frG σ σ_40 (23 + 17 * x.toNat) := by
    rw [← hr]
    exact fun b k q => by rw [hσ_40, up_a (by omega), hσ_33, up_a (by omega)]
  have hCn : RC σ_40 (23 + 17 * x.toNat) (dBs (sD S x) y (bU (bU (gB (sD S x) y) 5 z) 6 v)) := by
    rw [← hr]
    refine RC.bs hD hC (by omega) (fun k hk => ?_) (fun b k q => by rw [hσ_40, up_a (by omega), hσ_33, up_a (by omega)])
    rw [← hb6, hσ_40, hσ_33]
    show (if r6 = r6 ∧ (k : Int) = 6 then v else if r6 = r6 ∧ (k : Int) = 5 then z else σ r6 k) = (if k = 6 then v else if k = 5 then z else gB (sD S x) y k)
    by_cases q : k = 6
    · rw [if_pos ⟨rfl, by omega⟩, if_pos q]
    · rw [if_neg (by omega), if_neg q]
      by_cases q2 : k = 5
      · rw [if_pos ⟨rfl, by omega⟩, if_pos q2]
      · rw [if_neg (by omega), if_neg q2]; exact hbf k hk
  refine ⟨by unfold op_less; dsimp only; (repeat' split) <;> omega, ex6_28, hN.gr hS (by omega) hfr hCn, uD_ok hS (dBs_ok hD (show bsOK (bU (bU (gB (sD S x) y) 5 z) 6 v) from ⟨s0, s1, s2, s3, s4, (show 0 ≤ z ∧ z ≤ 9 by omega), (show 0 ≤ v ∧ v ≤ 199 by omega)⟩)), hfr.C (by omega)⟩

set_option maxRecDepth 100000 in
set_option maxHeartbeats 8000000 in
theorem kX7_form {E : sv_E} {σ : sv_G} {S : st_T} (hS : StOK S) (hN : RN σ S) {x : Int} (hx : -2147483648 ≤ x ∧ x ≤ 2147483647) {y : Int} (hy : -2147483648 ≤ y ∧ y ≤ 2147483647) {z : Int} (hz : -2147483648 ≤ z ∧ z ≤ 2147483647) {v : Int} (hv : -2147483648 ≤ v ∧ v ≤ 2147483647) : CX E MX7_form 8 [(vR 0), (vI x), (vI y), (vI z), (vI v)] σ (PI fun r σ9 => oP σ σ9 r (op_form S x y z v)) (px3 σ (op_form S x y z v).1 xI xA xS) := by
  refine CX.of (RX7, cX7_form, 7, (some .int), [], 8, 5, 30) rfl moX7_form (by decide +kernel) (Nat.le_of_ble_eq_true rfl) (ls0 := [some (vR 0), some (vI x), some (vI y), some (vI z), some (vI v), none, none]) rfl ?_
  intro X Q C hR hT
  refine s_aload_n C dX7_form_0 rfl ?_
  refine s_iload_n C dX7_form_1 rfl ?_
  refine sx_cV1r (u2 := 1) (w2 := 6) C dX7_form_2 lkX7_70 moX7_grammarAt mvX7_grammarAt (kX7_grammarAt (by omega)) sh_0 ⟨_, _, rfl⟩ (by decide) (Nat.le_of_ble_eq_true rfl) (by decide) (by decide) hT rfl (by decide) (fun En σ9 h => ⟨h.1, Or.inl ⟨h.2.1, by have h3 := h.2.2; unfold op_form; dsimp only; (repeat' split) <;> omega⟩⟩) (kpI (fun r2 hp2 => ?_))
  have hr := hp2.2.1
  have hsh := hp2.2.2
  have hD := hS.1 x (by omega) (by omega)
  have hC : RC σ r2 (sD S x) := by rw [hr]; exact hN.1 x (by omega) (by omega)
  have hnb := hD.2.2.2.1
  have hn1 : σ r2 2 = gC (sD S x) 1 := hC.2.2.2.1
  have hA := hC.2.2.2.2.2.1
  have hF := hC.2.2.2.2.2.2.1
  have hn2 := hC.2.2.2.2.2.2.2.1
  have hn30 := hD.2.2.2.2.1
  refine s_getR (c := 4) C fl_7_141 dX7_form_5 hp2.2.2 rfl (rfc_4_3 hp2.2.2) ?_
  refine s_astore (ls2 := [some (vR 0), some (vI x), some (vI y), some (vI z), some (vI v), some (vR (r2 + 5)), none]) C dX7_form_8 (by decide) rfl ?_
  refine s_iload_n C dX7_form_10 rfl ?_
  refine sx_cS1v (u2 := 2) (w2 := 12) C dX7_form_11 lkX7_78 moX7_needWord mvX7_needWord (kX7_needWord (by omega)) (by decide) (Nat.le_of_ble_eq_true rfl) (by decide) (by decide) hT rfl (by decide) (fun En σ9 h => ⟨h.1, Or.inl ⟨h.2.1, by have h3 := h.2.2; unfold op_form; dsimp only; (repeat' split) <;> omega⟩⟩) (kpV (fun hp11 => ?_))
  refine s_iload C dX7_form_14 rfl ?_
  refine sx_cS1v (u2 := 3) (w2 := 18) C dX7_form_16 lkX7_78 moX7_needWord mvX7_needWord (kX7_needWord (by omega)) (by decide) (Nat.le_of_ble_eq_true rfl) (by decide) (by decide) hT rfl (by decide) (fun En σ9 h => ⟨h.1, Or.inl ⟨h.2.1, by have h3 := h.2.2; unfold op_form; dsimp only; (repeat' split) <;> omega⟩⟩) (kpV (fun hp16 => ?_))
  refine s_iload_n C dX7_form_19 rfl ?_
  refine s_iconst C dX7_form_20 ?_
  refine s_iconst C dX7_form_21 ?_
  refine sx_cS3v (u2 := 4) (w2 := 24) C dX7_form_22 lkX7_82 moX7_needRange mvX7_needRange (kX7_needRange (by omega) (by decide) (by decide)) (by decide) (Nat.le_of_ble_eq_true rfl) (by decide) (by decide) hT rfl (by decide) (fun En σ9 h => ⟨h.1, Or.inr (Or.inl ⟨h.2.1, by have h3 := h.2.2; unfold op_form; dsimp only; (repeat' split) <;> omega⟩)⟩) (kpV (fun hp22 => ?_))
  refine s_aload C dX7_form_25 rfl ?_
  refine s_iload_n C dX7_form_27 rfl ?_
  refine s_iload_n C dX7_form_28 rfl ?_
  refine s_cN2i C dX7_form_29 lkX7_145 moX3_formOf mvX3_formOf (kX3_formOf (shc_4_3 hp2.2.2) (by omega) (by omega) (by assumption) (by assumption)) (shc_4_3 hp2.2.2) ⟨_, _, rfl⟩ (by decide) (Nat.le_of_ble_eq_true rfl) rfl (by decide) (kpI (fun r29 hp29 => ?_))
  refine s_istore (ls2 := [some (vR 0), some (vI x), some (vI y), some (vI z), some (vI v), some (vR (r2 + 5)), some (vI r29)]) C dX7_form_32 (by decide) rfl ?_
  refine s_iload C dX7_form_34 rfl ?_
  refine s_iconst C dX7_form_36 ?_
  have J58 : (gP (sD S x) y z ≠ -1 ∨ gC (sD S x) 2 < 30) → SW X E Q 4 24 58 [some (vR 0), some (vI x), some (vI y), some (vI z), some (vI v), some (vR (r2 + 5)), some (vI r29)] [] σ := by
    intro  j58_0
    refine s_aload C dX7_form_58 rfl ?_
    refine s_iload_n C dX7_form_60 rfl ?_
    refine s_iload_n C dX7_form_61 rfl ?_
    refine s_iload C dX7_form_62 rfl ?_
    refine s_cN3v C dX7_form_64 lkX7_154 moX3_put mvX3_put (kX3_put (shc_4_3 hp2.2.2) (by omega) (by omega) (by omega) (by assumption) (by assumption) (by intro q; omega)) (shc_4_3 hp2.2.2) ⟨_, _, rfl⟩ (by decide) (Nat.le_of_ble_eq_true rfl) rfl (by decide) (fun σ_64 hp64 => ?_)
    refine s_iload C dX7_form_67 rfl ?_
    refine s_iret C hR dX7_form_69 rfl ⟨_, rfl, ?_⟩ (by decide)
    have hcn := hp64.2.2.1
    rw [hn2] at hcn
    have hfr : frG σ σ_64 (23 + 17 * x.toNat) := by
      rw [← hr]
      exact fun b k q => hp64.2.2.2 b k (by omega) (by omega) (by omega) (by omega)
    have hCn : RC σ_64 (23 + 17 * x.toNat) (dFm (sD S x) y z v (if gP (sD S x) y z = -1 then gC (sD S x) 2 + 1 else gC (sD S x) 2)) := by
      rw [← hr]
      exact RC.fm hD hC hp64.1 hp64.2.1 hcn hp64.2.2.2
    refine ⟨by unfold op_form; dsimp only; (repeat' split) <;> omega, (by show r29 = gP (sD S x) y z; omega), hN.gr hS (by omega) hfr hCn, uD_ok hS (dFm_ok hD (by omega) (by split <;> omega)), hfr.C (by omega)⟩
  refine s_icmp_ne (tgt := 58) C dX7_form_37 (by decide) (by omega) (by omega) (fun c37 => ?_) (fun c37 => ?_)
  · exact J58 (by first | assumption | omega)
  · refine s_aload C dX7_form_40 rfl ?_
    refine s_cN0i C dX7_form_42 lkX7_151 moX3_isFull mvX3_isFull (kX3_isFull (shc_4_3 hp2.2.2)) (shc_4_3 hp2.2.2) ⟨_, _, rfl⟩ (by decide) (Nat.le_of_ble_eq_true rfl) rfl (by decide) (kpI (fun r42 hp42 => ?_))
    refine s_if_eq (tgt := 58) C dX7_form_45 (by decide) (by omega) (fun c45 => ?_) (fun c45 => ?_)
    · exact J58 (by first | assumption | omega)
    · exact s_throwG (sa := 0) (ik := 96) (is := 152) (ic := 100) C hT atX7_100 lcX7_96 lsX7_152 rfl (by exact ⟨rfl, Or.inr (Or.inr ⟨rfl, by unfold op_form; dsimp only; (repeat' split) <;> omega⟩)⟩) (by decide) (by decide) (by decide) (Nat.le_of_ble_eq_true rfl) false dX7_form_48 dX7_form_51 ⟨dX7_form_52, dX7_form_54, dX7_form_57⟩

set_option maxRecDepth 100000 in
set_option maxHeartbeats 8000000 in
theorem kX7_ordinal {E : sv_E} {σ : sv_G} {S : st_T} (hS : StOK S) (hN : RN σ S) {x : Int} (hx : -2147483648 ≤ x ∧ x ≤ 2147483647) {y : Int} (hy : -2147483648 ≤ y ∧ y ≤ 2147483647) : CX E MX7_ordinal 8 [(vR 0), (vI x), (vI y)] σ (PI fun r σ9 => oP σ σ9 r (op_ordinal S x y)) (px3 σ (op_ordinal S x y).1 xI "" "") := by
  refine CX.of (RX7, cX7_ordinal, 5, (some .int), [], 8, 2, 12) rfl moX7_ordinal (by decide +kernel) (Nat.le_of_ble_eq_true rfl) (ls0 := [some (vR 0), some (vI x), some (vI y), none, none]) rfl ?_
  intro X Q C hR hT
  refine s_aload_n C dX7_ordinal_0 rfl ?_
  refine s_iload_n C dX7_ordinal_1 rfl ?_
  refine sx_cV1r (u2 := 1) (w2 := 6) C dX7_ordinal_2 lkX7_70 moX7_grammarAt mvX7_grammarAt (kX7_grammarAt (by omega)) sh_0 ⟨_, _, rfl⟩ (by decide) (Nat.le_of_ble_eq_true rfl) (by decide) (by decide) hT rfl (by decide) (fun En σ9 h => ⟨h.1, Or.inl ⟨h.2.1, by have h3 := h.2.2; unfold op_ordinal; dsimp only; (repeat' split) <;> omega⟩⟩) (kpI (fun r2 hp2 => ?_))
  have hr := hp2.2.1
  have hsh := hp2.2.2
  have hD := hS.1 x (by omega) (by omega)
  have hC : RC σ r2 (sD S x) := by rw [hr]; exact hN.1 x (by omega) (by omega)
  have hnb := hD.2.2.2.1
  have hn1 : σ r2 2 = gC (sD S x) 1 := hC.2.2.2.1
  have e4 : σ r2 4 = gC (sD S x) 3 := hC.2.2.2.2.2.2.2.2.1
  refine s_astore_n (ls2 := [some (vR 0), some (vI x), some (vI y), some (vR r2), none]) C dX7_ordinal_5 (by decide) rfl ?_
  refine s_iload_n C dX7_ordinal_6 rfl ?_
  refine sx_cS1v (u2 := 2) (w2 := 12) C dX7_ordinal_7 lkX7_127 moX7_needWordOrNone mvX7_needWordOrNone (kX7_needWordOrNone (by omega)) (by decide) (Nat.le_of_ble_eq_true rfl) (by decide) (by decide) hT rfl (by decide) (fun En σ9 h => ⟨h.1, Or.inl ⟨h.2.1, by have h3 := h.2.2; unfold op_ordinal; dsimp only; (repeat' split) <;> omega⟩⟩) (kpV (fun hp7 => ?_))
  refine s_aload_n C dX7_ordinal_10 rfl ?_
  refine s_getI (c := 4) (kz := 4) C fl_7_156 dX7_ordinal_11 hp2.2.2 rfl rfl (fun g11 => ?_)
  refine s_topI (fun x4_14 ex4_14 => ?_)
  refine s_istore (ls2 := [some (vR 0), some (vI x), some (vI y), some (vR r2), some (vI x4_14)]) C dX7_ordinal_14 (by decide) rfl ?_
  refine s_aload_n C dX7_ordinal_16 rfl ?_
  refine s_iload_n C dX7_ordinal_17 rfl ?_
  refine s_putI (c := 4) (kz := 4) C fl_7_156 dX7_ordinal_18 hp2.2.2 rfl (fun _ _ h9 => by cases h9; rfl) (by omega) rfl ?_
  refine s_nameG (fun σ_18 hσ_18 => ?_)
  refine s_iload C dX7_ordinal_21 rfl ?_
  refine s_iret C hR dX7_ordinal_23 rfl ⟨_, rfl, ?_⟩ (by decide)
  rw [e4] at ex4_14
  have hfr : frG σ σ_18 (23 + 17 * x.toNat) := by
    rw [← hr]
    exact fun b k q => by rw [hσ_18, up_a (by omega)]
  have hCn : RC σ_18 (23 + 17 * x.toNat) (dCs (sD S x) 3 y) := by
    rw [← hr]
    exact RC.od hD hC hσ_18
  refine ⟨by unfold op_ordinal; dsimp only; (repeat' split) <;> omega, ex4_14, hN.gr hS (by omega) hfr hCn, uD_ok hS (dOrd_ok hD (by omega)), hfr.C (by omega)⟩

set_option maxRecDepth 100000 in
set_option maxHeartbeats 8000000 in
theorem kX7_seam {E : sv_E} {σ : sv_G} {S : st_T} (hS : StOK S) (hN : RN σ S) {x : Int} (hx : -2147483648 ≤ x ∧ x ≤ 2147483647) {y : Int} (hy : -2147483648 ≤ y ∧ y ≤ 2147483647) {z : Int} (hz : -2147483648 ≤ z ∧ z ≤ 2147483647) {v : Int} (hv : -2147483648 ≤ v ∧ v ≤ 2147483647) : CX E MX7_seam 8 [(vR 0), (vI x), (vI y), (vI z), (vI v)] σ (PI fun r σ9 => oP σ σ9 r (op_seam S x y z v)) (px3 σ (op_seam S x y z v).1 xI xS "") := by
  refine CX.of (RX7, cX7_seam, 6, (some .int), [], 8, 5, 30) rfl moX7_seam (by decide +kernel) (Nat.le_of_ble_eq_true rfl) (ls0 := [some (vR 0), some (vI x), some (vI y), some (vI z), some (vI v), none]) rfl ?_
  intro X Q C hR hT
  refine s_aload_n C dX7_seam_0 rfl ?_
  refine s_iload_n C dX7_seam_1 rfl ?_
  refine sx_cV1r (u2 := 1) (w2 := 6) C dX7_seam_2 lkX7_70 moX7_grammarAt mvX7_grammarAt (kX7_grammarAt (by omega)) sh_0 ⟨_, _, rfl⟩ (by decide) (Nat.le_of_ble_eq_true rfl) (by decide) (by decide) hT rfl (by decide) (fun En σ9 h => ⟨h.1, Or.inl ⟨h.2.1, by have h3 := h.2.2; unfold op_seam; dsimp only; (repeat' split) <;> omega⟩⟩) (kpI (fun r2 hp2 => ?_))
  have hr := hp2.2.1
  have hsh := hp2.2.2
  have hD := hS.1 x (by omega) (by omega)
  have hC : RC σ r2 (sD S x) := by rw [hr]; exact hN.1 x (by omega) (by omega)
  have hnb := hD.2.2.2.1
  have hn1 : σ r2 2 = gC (sD S x) 1 := hC.2.2.2.1
  have hns : σ r2 8 = gC (sD S x) 4 := hC.2.2.2.2.2.2.2.2.2.1
  have hn6 := hD.2.2.2.2.2.2.1
  refine s_astore (ls2 := [some (vR 0), some (vI x), some (vI y), some (vI z), some (vI v), some (vR r2)]) C dX7_seam_5 (by decide) rfl ?_
  refine s_iload_n C dX7_seam_7 rfl ?_
  refine sx_cS1v (u2 := 2) (w2 := 12) C dX7_seam_8 lkX7_78 moX7_needWord mvX7_needWord (kX7_needWord (by omega)) (by decide) (Nat.le_of_ble_eq_true rfl) (by decide) (by decide) hT rfl (by decide) (fun En σ9 h => ⟨h.1, Or.inl ⟨h.2.1, by have h3 := h.2.2; unfold op_seam; dsimp only; (repeat' split) <;> omega⟩⟩) (kpV (fun hp8 => ?_))
  refine s_iload_n C dX7_seam_11 rfl ?_
  refine sx_cS1v (u2 := 3) (w2 := 18) C dX7_seam_12 lkX7_78 moX7_needWord mvX7_needWord (kX7_needWord (by omega)) (by decide) (Nat.le_of_ble_eq_true rfl) (by decide) (by decide) hT rfl (by decide) (fun En σ9 h => ⟨h.1, Or.inl ⟨h.2.1, by have h3 := h.2.2; unfold op_seam; dsimp only; (repeat' split) <;> omega⟩⟩) (kpV (fun hp12 => ?_))
  refine s_iload C dX7_seam_15 rfl ?_
  refine sx_cS1v (u2 := 4) (w2 := 24) C dX7_seam_17 lkX7_78 moX7_needWord mvX7_needWord (kX7_needWord (by omega)) (by decide) (Nat.le_of_ble_eq_true rfl) (by decide) (by decide) hT rfl (by decide) (fun En σ9 h => ⟨h.1, Or.inl ⟨h.2.1, by have h3 := h.2.2; unfold op_seam; dsimp only; (repeat' split) <;> omega⟩⟩) (kpV (fun hp17 => ?_))
  refine s_aload C dX7_seam_20 rfl ?_
  refine s_getI (c := 4) (kz := 8) C fl_7_159 dX7_seam_22 hp2.2.2 rfl rfl (fun g22 => ?_)
  refine s_bipush C dX7_seam_25 (by decide) ?_
  refine s_icmp_lt (tgt := 40) C dX7_seam_27 (by decide) (by omega) (by omega) (fun c27 => ?_) (fun c27 => ?_)
  · refine s_aload C dX7_seam_40 rfl ?_
    refine s_iload_n C dX7_seam_42 rfl ?_
    refine s_iload_n C dX7_seam_43 rfl ?_
    refine s_iload C dX7_seam_44 rfl ?_
    refine s_cN3v C dX7_seam_46 lkX7_164 moX4_addSeam mvX4_addSeam (kX4_addSeam (by exact hsh) (by exact hD) (by exact hC) (by omega) (by omega) (by omega) (by omega)) hp2.2.2 ⟨_, _, rfl⟩ (by decide) (Nat.le_of_ble_eq_true rfl) rfl (by decide) (fun σ_46 hp46 => ?_)
    refine s_aload C dX7_seam_49 rfl ?_
    refine s_getI (c := 4) (kz := 8) C fl_7_159 dX7_seam_51 hp2.2.2 rfl rfl (fun g51 => ?_)
    refine s_iret C hR dX7_seam_54 rfl ⟨_, rfl, ?_⟩ (by decide)
    have hfr : frG σ σ_46 (23 + 17 * x.toNat) := by
      rw [← hr]
      exact hp46.2
    have hCn : RC σ_46 (23 + 17 * x.toNat) (dSeam (sD S x) y z v) := by
      rw [← hr]
      exact hp46.1
    refine ⟨by unfold op_seam; dsimp only; (repeat' split) <;> omega, hp46.1.2.2.2.2.2.2.2.2.2.1, hN.gr hS (by omega) hfr hCn, uD_ok hS (dSeam_ok hD (by omega) (by omega) (by omega) (by omega)), hfr.C (by omega)⟩
  · exact s_throwG (sa := 0) (ik := 96) (is := 162) (ic := 100) C hT atX7_100 lcX7_96 lsX7_162 rfl (by exact ⟨rfl, Or.inr (Or.inl ⟨rfl, by unfold op_seam; dsimp only; (repeat' split) <;> omega⟩)⟩) (by decide) (by decide) (by decide) (Nat.le_of_ble_eq_true rfl) false dX7_seam_30 dX7_seam_33 ⟨dX7_seam_34, dX7_seam_36, dX7_seam_39⟩

set_option maxRecDepth 100000 in
set_option maxHeartbeats 8000000 in
theorem kX7_empty {E : sv_E} {σ : sv_G} {S : st_T} (hS : StOK S) (hN : RN σ S) {x : Int} (hx : -2147483648 ≤ x ∧ x ≤ 2147483647) : CX E MX7_empty 7 [(vR 0), (vI x)] σ (PI fun r σ9 => oP σ σ9 r (op_empty S x)) (px3 σ (op_empty S x).1 xI "" "") := by
  refine CX.of (RX7, cX7_empty, 4, (some .int), [], 7, 1, 6) rfl moX7_empty (by decide +kernel) (Nat.le_of_ble_eq_true rfl) (ls0 := [some (vR 0), some (vI x), none, none]) rfl ?_
  intro X Q C hR hT
  refine s_aload_n C dX7_empty_0 rfl ?_
  refine s_iload_n C dX7_empty_1 rfl ?_
  refine sx_cV1r (u2 := 1) (w2 := 6) C dX7_empty_2 lkX7_70 moX7_grammarAt mvX7_grammarAt (kX7_grammarAt (by omega)) sh_0 ⟨_, _, rfl⟩ (by decide) (Nat.le_of_ble_eq_true rfl) (by decide) (by decide) hT rfl (by decide) (fun En σ9 h => ⟨h.1, Or.inl ⟨h.2.1, by have h3 := h.2.2; unfold op_empty; dsimp only; (repeat' split) <;> omega⟩⟩) (kpI (fun r2 hp2 => ?_))
  have hr := hp2.2.1
  have hsh := hp2.2.2
  have hD := hS.1 x (by omega) (by omega)
  have hC : RC σ r2 (sD S x) := by rw [hr]; exact hN.1 x (by omega) (by omega)
  have hnb := hD.2.2.2.1
  have hn1 : σ r2 2 = gC (sD S x) 1 := hC.2.2.2.1
  have hn0 : σ (r2 + 1) 2 = gC (sD S x) 0 := hC.2.2.1
  refine s_astore_n (ls2 := [some (vR 0), some (vI x), some (vR r2), none]) C dX7_empty_5 (by decide) rfl ?_
  refine s_aload_n C dX7_empty_6 rfl ?_
  refine s_getR (c := 4) C fl_7_74 dX7_empty_7 hp2.2.2 rfl (rfc_4_0 hp2.2.2) ?_
  refine s_getI (c := 0) (kz := 2) C fl_7_167 dX7_empty_10 (shc_4_0 hp2.2.2) rfl rfl (fun g10 => ?_)
  refine s_aload_n C dX7_empty_13 rfl ?_
  refine s_getI (c := 4) (kz := 2) C fl_7_110 dX7_empty_14 hp2.2.2 rfl rfl (fun g14 => ?_)
  refine s_iadd C dX7_empty_17 ?_
  refine s_topI (fun x3_18 ex3_18 => ?_)
  refine s_istore_n (ls2 := [some (vR 0), some (vI x), some (vR r2), some (vI x3_18)]) C dX7_empty_18 (by decide) rfl ?_
  refine s_aload_n C dX7_empty_19 rfl ?_
  refine s_cN0v C dX7_empty_20 lkX7_170 moX4_clear mvX4_clear (kX4_clear (by exact hsh) (by exact hD) (by exact hC)) hp2.2.2 ⟨_, _, rfl⟩ (by decide) (Nat.le_of_ble_eq_true rfl) rfl (by decide) (fun σ_20 hp20 => ?_)
  refine s_iload_n C dX7_empty_23 rfl ?_
  refine s_iret C hR dX7_empty_24 rfl ⟨_, rfl, ?_⟩ (by decide)
  rw [hn0, hn1] at ex3_18
  have hfr : frG σ σ_20 (23 + 17 * x.toNat) := by
    rw [← hr]
    exact hp20.2
  have hCn : RC σ_20 (23 + 17 * x.toNat) (dClr (sD S x)) := by
    rw [← hr]
    exact hp20.1
  refine ⟨by unfold op_empty; dsimp only; (repeat' split) <;> omega, ex3_18, hN.gr hS (by omega) hfr hCn, uD_ok hS (dClr_ok hD), hfr.C (by omega)⟩
