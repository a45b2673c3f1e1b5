/-! The law's wrappers. -/
def wrI (z : Int) : Int := (Int32.ofInt z).toInt
theorem wrI_rng (z : Int) : -2147483648 ≤ wrI z ∧ wrI z ≤ 2147483647 := by
  have h1 := Int32.le_toInt (Int32.ofInt z)
  have h2 := Int32.toInt_lt (Int32.ofInt z)
  unfold wrI
  omega
theorem wrI_ofInt (z : Int) : Int32.ofInt z = Int32.ofInt (wrI z) := (Int32.ofInt_toInt _).symm
def wP (σ σ9 : sv_G) (S : st_T) (r : Int) (o : op_T) : Prop := r = o.1 ∧ (o.1 = 0 → σ9 228 0 = wrI o.2.1 ∧ RN σ9 o.2.2 ∧ StOK o.2.2) ∧ (o.1 ≠ 0 → RN σ9 S) ∧ ∀ b k, 195 ≤ b → b ≠ 228 → σ9 b k = σ b k
theorem wP.ok {σ σ1 σ9 : sv_G} {S : st_T} {r : Int} {o : op_T} (h : oP σ σ1 r o) (e : σ9 = up σ1 228 0 (wrI r)) : wP σ σ9 S 0 o := by
  obtain ⟨h1, h2, h3, h4, h5⟩ := h
  exact ⟨h1.symm, fun _ => ⟨by rw [e, up_s, h2], h3.fr h4 fun b k q => by rw [e, up_a (by omega)], h4⟩, fun z => absurd h1 z, fun b k q1 q2 => by rw [e, up_a q2]; exact h5 b k q1⟩
theorem wP.no {σ σ9 : sv_G} {S : st_T} {r : Int} {o : op_T} (hr : r = o.1) (h0 : r ≠ 0) (hN : RN σ9 S) (hf : frC σ σ9) : wP σ σ9 S r o := ⟨hr, fun z => absurd (hr.trans z) h0, fun _ => hN, fun b k q1 _ => hf b k q1⟩
theorem lw_13 : Cond.classLink RL 13 xI ∈ LW := LW_in 376 (by decide +kernel) rfl
theorem lw_15 : Cond.classLink RL 15 xA ∈ LW := LW_in 377 (by decide +kernel) rfl
theorem lw_17 : Cond.classLink RL 17 xS ∈ LW := LW_in 378 (by decide +kernel) rfl
theorem ca_I : Cond.castable xI xI ∈ NW := NW_in 389 (by decide +kernel) rfl
theorem ca_A : Cond.castable xA xA ∈ NW := NW_in 464 (by decide +kernel) rfl
theorem ca_S : Cond.castable xS xS ∈ NW := NW_in 492 (by decide +kernel) rfl
set_option maxRecDepth 100000 in
set_option maxHeartbeats 4000000 in
theorem kL_askNumber {E : sv_E} {σ : sv_G} {S : st_T} (hS : StOK S) (hN : RN σ S) {x : Int} (hx : -2147483648 ≤ x ∧ x ≤ 2147483647) {y : Int} (hy : -2147483648 ≤ y ∧ y ≤ 2147483647) {z : Int} (hz : -2147483648 ≤ z ∧ z ≤ 2147483647) {v : Int} (hv : -2147483648 ≤ v ∧ v ≤ 2147483647) : CW E ML_askNumber hhL_askNumber 91 [vR 0, vI x, vI y, vI z, vI v, vR 228] σ (PI fun r σ9 => wP σ σ9 S r (op_askNumber S x y z v)) := by
  refine CW.of (RL, cL_askNumber, 7, (some .int), tableOf hhL_askNumber, 91, 4, 24) rfl moL_askNumber (Nat.le_of_ble_eq_true rfl) (ls0 := [some (vR 0), some (vI x), some (vI y), some (vI z), some (vI v), some (vR 228), none]) rfl ?_
  intro X Q C hR
  refine s_aload C dL_askNumber_0 rfl ?_
  refine s_iconst C dL_askNumber_2 ?_
  refine s_aload_n C dL_askNumber_3 rfl ?_
  refine s_iload_n C dL_askNumber_4 rfl ?_
  refine s_iload_n C dL_askNumber_5 rfl ?_
  refine s_iload_n C dL_askNumber_6 rfl ?_
  refine s_iload C dL_askNumber_7 rfl ?_
  refine sc_cV4i (u2 := 4) (w2 := 24) C dL_askNumber_9 lkL_86 moX7_askNumber mvX7_askNumber (kX7_askNumber hS hN (by omega) (by omega) (by omega) (by omega)) sh_0 ⟨_, _, rfl⟩ (by decide) (Nat.le_of_ble_eq_true rfl) (by decide) (by decide) (fun En σ9 hx => ?_) (fun r7 σ_7 hp7 => ?_)
  · obtain ⟨rfl, hx⟩ := hx
    rcases hx with ⟨rfl, hc⟩ | ⟨rfl, hc⟩ | ⟨rfl, hc⟩
    · refine s_catch (ls2 := [some (vR 0), some (vI x), some (vI y), some (vI z), some (vI v), some (vR 228), none]) C (tableOf []) ⟨0, 14, 17, 13⟩ (tableOf [(0, 14, 21, 15)]) rfl (fun z hz => by cases hz) rfl (by decide) lw_13 ca_I dL_askNumber_17 (by decide) rfl ?_
      refine s_iconst C dL_askNumber_19 ?_
      refine s_iret C hR dL_askNumber_20 rfl ⟨_, rfl, ?_⟩ (by decide)
      exact wP.no hc.symm (by decide) hN (fun _ _ _ => rfl)
    · refine s_catch (ls2 := [some (vR 0), some (vI x), some (vI y), some (vI z), some (vI v), some (vR 228), none]) C (tableOf [(0, 14, 17, 13)]) ⟨0, 14, 21, 15⟩ (tableOf []) rfl (fun z hz => by
      rcases List.mem_cons.mp hz with rfl | hz
      · exact ⟨by decide, _, lw_13, by decide +kernel⟩
      cases hz) rfl (by decide) lw_15 ca_A dL_askNumber_21 (by decide) rfl ?_
      refine s_iconst C dL_askNumber_23 ?_
      refine s_iret C hR dL_askNumber_24 rfl ⟨_, rfl, ?_⟩ (by decide)
      exact wP.no hc.symm (by decide) hN (fun _ _ _ => rfl)
    · exfalso
      revert hc
      unfold op_askNumber; dsimp only; (repeat' split) <;> omega
  · refine s_asI (wrI_ofInt _) ?_
    refine s_i2l C dL_askNumber_12 (wrI_rng _) ?_
    refine s_last C dL_askNumber_13 sh_228 (by decide) (by have z := wrI_rng r7; omega) ?_
    refine s_nameG (fun σ_8 hσ_8 => ?_)
    refine s_goto (tgt := 25) C dL_askNumber_14 (by decide) ?_
    refine s_iconst C dL_askNumber_25 ?_
    refine s_iret C hR dL_askNumber_26 rfl ⟨_, rfl, ?_⟩ (by decide)
    exact wP.ok hp7 hσ_8
set_option maxRecDepth 100000 in
set_option maxHeartbeats 4000000 in
theorem kL_askWord {E : sv_E} {σ : sv_G} {S : st_T} (hS : StOK S) (hN : RN σ S) {x : Int} (hx : -2147483648 ≤ x ∧ x ≤ 2147483647) {y : Int} (hy : -2147483648 ≤ y ∧ y ≤ 2147483647) {z : Int} (hz : -2147483648 ≤ z ∧ z ≤ 2147483647) : CW E ML_askWord hhL_askWord 91 [vR 0, vI x, vI y, vI z, vR 228] σ (PI fun r σ9 => wP σ σ9 S r (op_askWord S x y z)) := by
  refine CW.of (RL, cL_askWord, 6, (some .int), tableOf hhL_askWord, 91, 3, 18) rfl moL_askWord (Nat.le_of_ble_eq_true rfl) (ls0 := [some (vR 0), some (vI x), some (vI y), some (vI z), some (vR 228), none]) rfl ?_
  intro X Q C hR
  refine s_aload C dL_askWord_0 rfl ?_
  refine s_iconst C dL_askWord_2 ?_
  refine s_aload_n C dL_askWord_3 rfl ?_
  refine s_iload_n C dL_askWord_4 rfl ?_
  refine s_iload_n C dL_askWord_5 rfl ?_
  refine s_iload_n C dL_askWord_6 rfl ?_
  refine sc_cV3i (u2 := 3) (w2 := 18) C dL_askWord_7 lkL_68 moX7_askWord mvX7_askWord (kX7_askWord hS hN (by omega) (by omega) (by omega)) sh_0 ⟨_, _, rfl⟩ (by decide) (Nat.le_of_ble_eq_true rfl) (by decide) (by decide) (fun En σ9 hx => ?_) (fun r7 σ_7 hp7 => ?_)
  · obtain ⟨rfl, hx⟩ := hx
    rcases hx with ⟨rfl, hc⟩ | ⟨rfl, hc⟩ | ⟨rfl, hc⟩
    · refine s_catch (ls2 := [some (vR 0), some (vI x), some (vI y), some (vI z), some (vR 228), none]) C (tableOf []) ⟨0, 12, 15, 13⟩ (tableOf [(0, 12, 19, 15)]) rfl (fun z hz => by cases hz) rfl (by decide) lw_13 ca_I dL_askWord_15 (by decide) rfl ?_
      refine s_iconst C dL_askWord_17 ?_
      refine s_iret C hR dL_askWord_18 rfl ⟨_, rfl, ?_⟩ (by decide)
      exact wP.no hc.symm (by decide) hN (fun _ _ _ => rfl)
    · refine s_catch (ls2 := [some (vR 0), some (vI x), some (vI y), some (vI z), some (vR 228), none]) C (tableOf [(0, 12, 15, 13)]) ⟨0, 12, 19, 15⟩ (tableOf []) rfl (fun z hz => by
      rcases List.mem_cons.mp hz with rfl | hz
      · exact ⟨by decide, _, lw_13, by decide +kernel⟩
      cases hz) rfl (by decide) lw_15 ca_A dL_askWord_19 (by decide) rfl ?_
      refine s_iconst C dL_askWord_21 ?_
      refine s_iret C hR dL_askWord_22 rfl ⟨_, rfl, ?_⟩ (by decide)
      exact wP.no hc.symm (by decide) hN (fun _ _ _ => rfl)
    · exfalso
      revert hc
      unfold op_askWord; dsimp only; (repeat' split) <;> omega
  · refine s_asI (wrI_ofInt _) ?_
    refine s_i2l C dL_askWord_10 (wrI_rng _) ?_
    refine s_last C dL_askWord_11 sh_228 (by decide) (by have z := wrI_rng r7; omega) ?_
    refine s_nameG (fun σ_8 hσ_8 => ?_)
    refine s_goto (tgt := 23) C dL_askWord_12 (by decide) ?_
    refine s_iconst C dL_askWord_23 ?_
    refine s_iret C hR dL_askWord_24 rfl ⟨_, rfl, ?_⟩ (by decide)
    exact wP.ok hp7 hσ_8
set_option maxRecDepth 100000 in
set_option maxHeartbeats 4000000 in
theorem kL_atom {E : sv_E} {σ : sv_G} {S : st_T} (hS : StOK S) (hN : RN σ S) {x : Int} (hx : -2147483648 ≤ x ∧ x ≤ 2147483647) {y : Int} (hy : -2147483648 ≤ y ∧ y ≤ 2147483647) {z : Int} (hz : -2147483648 ≤ z ∧ z ≤ 2147483647) : CW E ML_atom hhL_atom 8 [vR 0, vI x, vI y, vI z, vR 228] σ (PI fun r σ9 => wP σ σ9 S r (op_atom S x y z)) := by
  refine CW.of (RL, cL_atom, 6, (some .int), tableOf hhL_atom, 8, 4, 24) rfl moL_atom (Nat.le_of_ble_eq_true rfl) (ls0 := [some (vR 0), some (vI x), some (vI y), some (vI z), some (vR 228), none]) rfl ?_
  intro X Q C hR
  refine s_aload C dL_atom_0 rfl ?_
  refine s_iconst C dL_atom_2 ?_
  refine s_aload_n C dL_atom_3 rfl ?_
  refine s_iload_n C dL_atom_4 rfl ?_
  refine s_iload_n C dL_atom_5 rfl ?_
  refine s_iload_n C dL_atom_6 rfl ?_
  refine sc_cV3i (u2 := 4) (w2 := 24) C dL_atom_7 lkL_7 moX7_atom mvX7_atom (kX7_atom hS hN (by omega) (by omega) (by omega)) sh_0 ⟨_, _, rfl⟩ (by decide) (Nat.le_of_ble_eq_true rfl) (by decide) (by decide) (fun En σ9 hx => ?_) (fun r7 σ_7 hp7 => ?_)
  · obtain ⟨rfl, hx⟩ := hx
    rcases hx with ⟨rfl, hc⟩ | ⟨rfl, hc⟩ | ⟨rfl, hc⟩
    · refine s_catch (ls2 := [some (vR 0), some (vI x), some (vI y), some (vI z), some (vR 228), none]) C (tableOf []) ⟨0, 12, 15, 13⟩ (tableOf [(0, 12, 19, 15), (0, 12, 23, 17)]) rfl (fun z hz => by cases hz) rfl (by decide) lw_13 ca_I dL_atom_15 (by decide) rfl ?_
      refine s_iconst C dL_atom_17 ?_
      refine s_iret C hR dL_atom_18 rfl ⟨_, rfl, ?_⟩ (by decide)
      exact wP.no hc.symm (by decide) hN (fun _ _ _ => rfl)
    · refine s_catch (ls2 := [some (vR 0), some (vI x), some (vI y), some (vI z), some (vR 228), none]) C (tableOf [(0, 12, 15, 13)]) ⟨0, 12, 19, 15⟩ (tableOf [(0, 12, 23, 17)]) rfl (fun z hz => by
      rcases List.mem_cons.mp hz with rfl | hz
      · exact ⟨by decide, _, lw_13, by decide +kernel⟩
      cases hz) rfl (by decide) lw_15 ca_A dL_atom_19 (by decide) rfl ?_
      refine s_iconst C dL_atom_21 ?_
      refine s_iret C hR dL_atom_22 rfl ⟨_, rfl, ?_⟩ (by decide)
      exact wP.no hc.symm (by decide) hN (fun _ _ _ => rfl)
    · refine s_catch (ls2 := [some (vR 0), some (vI x), some (vI y), some (vI z), some (vR 228), none]) C (tableOf [(0, 12, 15, 13), (0, 12, 19, 15)]) ⟨0, 12, 23, 17⟩ (tableOf []) rfl (fun z hz => by
      rcases List.mem_cons.mp hz with rfl | hz
      · exact ⟨by decide, _, lw_13, by decide +kernel⟩
      rcases List.mem_cons.mp hz with rfl | hz
      · exact ⟨by decide, _, lw_15, by decide +kernel⟩
      cases hz) rfl (by decide) lw_17 ca_S dL_atom_23 (by decide) rfl ?_
      refine s_iconst C dL_atom_25 ?_
      refine s_iret C hR dL_atom_26 rfl ⟨_, rfl, ?_⟩ (by decide)
      exact wP.no hc.symm (by decide) hN (fun _ _ _ => rfl)
  · refine s_asI (wrI_ofInt _) ?_
    refine s_i2l C dL_atom_10 (wrI_rng _) ?_
    refine s_last C dL_atom_11 sh_228 (by decide) (by have z := wrI_rng r7; omega) ?_
    refine s_nameG (fun σ_8 hσ_8 => ?_)
    refine s_goto (tgt := 27) C dL_atom_12 (by decide) ?_
    refine s_iconst C dL_atom_27 ?_
    refine s_iret C hR dL_atom_28 rfl ⟨_, rfl, ?_⟩ (by decide)
    exact wP.ok hp7 hσ_8
set_option maxRecDepth 100000 in
set_option maxHeartbeats 4000000 in
theorem kL_base {E : sv_E} {σ : sv_G} {S : st_T} (hS : StOK S) (hN : RN σ S) {x : Int} (hx : -2147483648 ≤ x ∧ x ≤ 2147483647) {y : Int} (hy : -2147483648 ≤ y ∧ y ≤ 2147483647) {z : Int} (hz : -2147483648 ≤ z ∧ z ≤ 2147483647) {v : Int} (hv : -2147483648 ≤ v ∧ v ≤ 2147483647) {w : Int} (hw : -2147483648 ≤ w ∧ w ≤ 2147483647) : CW E ML_base hhL_base 8 [vR 0, vI x, vI y, vI z, vI v, vI w, vR 228] σ (PI fun r σ9 => wP σ σ9 S r (op_base S x y z v w)) := by
  refine CW.of (RL, cL_base, 8, (some .int), tableOf hhL_base, 8, 6, 36) rfl moL_base (Nat.le_of_ble_eq_true rfl) (ls0 := [some (vR 0), some (vI x), some (vI y), some (vI z), some (vI v), some (vI w), some (vR 228), none]) rfl ?_
  intro X Q C hR
  refine s_aload C dL_base_0 rfl ?_
  refine s_iconst C dL_base_2 ?_
  refine s_aload_n C dL_base_3 rfl ?_
  refine s_iload_n C dL_base_4 rfl ?_
  refine s_iload_n C dL_base_5 rfl ?_
  refine s_iload_n C dL_base_6 rfl ?_
  refine s_iload C dL_base_7 rfl ?_
  refine s_iload C dL_base_9 rfl ?_
  refine sc_cV5i (u2 := 6) (w2 := 36) C dL_base_11 lkL_23 moX7_base mvX7_base (kX7_base hS hN (by omega) (by omega) (by omega) (by omega) (by omega)) sh_0 ⟨_, _, rfl⟩ (by decide) (Nat.le_of_ble_eq_true rfl) (by decide) (by decide) (fun En σ9 hx => ?_) (fun r7 σ_7 hp7 => ?_)
  · obtain ⟨rfl, hx⟩ := hx
    rcases hx with ⟨rfl, hc⟩ | ⟨rfl, hc⟩ | ⟨rfl, hc⟩
    · refine s_catch (ls2 := [some (vR 0), some (vI x), some (vI y), some (vI z), some (vI v), some (vI w), some (vR 228), none]) C (tableOf []) ⟨0, 16, 19, 13⟩ (tableOf [(0, 16, 23, 15), (0, 16, 27, 17)]) rfl (fun z hz => by cases hz) rfl (by decide) lw_13 ca_I dL_base_19 (by decide) rfl ?_
      refine s_iconst C dL_base_21 ?_
      refine s_iret C hR dL_base_22 rfl ⟨_, rfl, ?_⟩ (by decide)
      exact wP.no hc.symm (by decide) hN (fun _ _ _ => rfl)
    · refine s_catch (ls2 := [some (vR 0), some (vI x), some (vI y), some (vI z), some (vI v), some (vI w), some (vR 228), none]) C (tableOf [(0, 16, 19, 13)]) ⟨0, 16, 23, 15⟩ (tableOf [(0, 16, 27, 17)]) rfl (fun z hz => by
      rcases List.mem_cons.mp hz with rfl | hz
      · exact ⟨by decide, _, lw_13, by decide +kernel⟩
      cases hz) rfl (by decide) lw_15 ca_A dL_base_23 (by decide) rfl ?_
      refine s_iconst C dL_base_25 ?_
      refine s_iret C hR dL_base_26 rfl ⟨_, rfl, ?_⟩ (by decide)
      exact wP.no hc.symm (by decide) hN (fun _ _ _ => rfl)
    · refine s_catch (ls2 := [some (vR 0), some (vI x), some (vI y), some (vI z), some (vI v), some (vI w), some (vR 228), none]) C (tableOf [(0, 16, 19, 13), (0, 16, 23, 15)]) ⟨0, 16, 27, 17⟩ (tableOf []) rfl (fun z hz => by
      rcases List.mem_cons.mp hz with rfl | hz
      · exact ⟨by decide, _, lw_13, by decide +kernel⟩
      rcases List.mem_cons.mp hz with rfl | hz
      · exact ⟨by decide, _, lw_15, by decide +kernel⟩
      cases hz) rfl (by decide) lw_17 ca_S dL_base_27 (by decide) rfl ?_
      refine s_iconst C dL_base_29 ?_
      refine s_iret C hR dL_base_30 rfl ⟨_, rfl, ?_⟩ (by decide)
      exact wP.no hc.symm (by decide) hN (fun _ _ _ => rfl)
  · refine s_asI (wrI_ofInt _) ?_
    refine s_i2l C dL_base_14 (wrI_rng _) ?_
    refine s_last C dL_base_15 sh_228 (by decide) (by have z := wrI_rng r7; omega) ?_
    refine s_nameG (fun σ_8 hσ_8 => ?_)
    refine s_goto (tgt := 31) C dL_base_16 (by decide) ?_
    refine s_iconst C dL_base_31 ?_
    refine s_iret C hR dL_base_32 rfl ⟨_, rfl, ?_⟩ (by decide)
    exact wP.ok hp7 hσ_8
set_option maxRecDepth 100000 in
set_option maxHeartbeats 4000000 in
theorem kL_baseTold {E : sv_E} {σ : sv_G} {S : st_T} (hS : StOK S) (hN : RN σ S) {x : Int} (hx : -2147483648 ≤ x ∧ x ≤ 2147483647) {y : Int} (hy : -2147483648 ≤ y ∧ y ≤ 2147483647) {z : Int} (hz : -2147483648 ≤ z ∧ z ≤ 2147483647) : CW E ML_baseTold hhL_baseTold 8 [vR 0, vI x, vI y, vI z, vR 228] σ (PI fun r σ9 => wP σ σ9 S r (op_baseTold S x y z)) := by
  refine CW.of (RL, cL_baseTold, 6, (some .int), tableOf hhL_baseTold, 8, 3, 18) rfl moL_baseTold (Nat.le_of_ble_eq_true rfl) (ls0 := [some (vR 0), some (vI x), some (vI y), some (vI z), some (vR 228), none]) rfl ?_
  intro X Q C hR
  refine s_aload C dL_baseTold_0 rfl ?_
  refine s_iconst C dL_baseTold_2 ?_
  refine s_aload_n C dL_baseTold_3 rfl ?_
  refine s_iload_n C dL_baseTold_4 rfl ?_
  refine s_iload_n C dL_baseTold_5 rfl ?_
  refine s_iload_n C dL_baseTold_6 rfl ?_
  refine sc_cV3i (u2 := 3) (w2 := 18) C dL_baseTold_7 lkL_89 moX7_baseTold mvX7_baseTold (kX7_baseTold hS hN (by omega) (by omega) (by omega)) sh_0 ⟨_, _, rfl⟩ (by decide) (Nat.le_of_ble_eq_true rfl) (by decide) (by decide) (fun En σ9 hx => ?_) (fun r7 σ_7 hp7 => ?_)
  · obtain ⟨rfl, hx⟩ := hx
    rcases hx with ⟨rfl, hc⟩ | ⟨rfl, hc⟩ | ⟨rfl, hc⟩
    · refine s_catch (ls2 := [some (vR 0), some (vI x), some (vI y), some (vI z), some (vR 228), none]) C (tableOf []) ⟨0, 12, 15, 13⟩ (tableOf [(0, 12, 19, 15)]) rfl (fun z hz => by cases hz) rfl (by decide) lw_13 ca_I dL_baseTold_15 (by decide) rfl ?_
      refine s_iconst C dL_baseTold_17 ?_
      refine s_iret C hR dL_baseTold_18 rfl ⟨_, rfl, ?_⟩ (by decide)
      exact wP.no hc.symm (by decide) hN (fun _ _ _ => rfl)
    · refine s_catch (ls2 := [some (vR 0), some (vI x), some (vI y), some (vI z), some (vR 228), none]) C (tableOf [(0, 12, 15, 13)]) ⟨0, 12, 19, 15⟩ (tableOf []) rfl (fun z hz => by
      rcases List.mem_cons.mp hz with rfl | hz
      · exact ⟨by decide, _, lw_13, by decide +kernel⟩
      cases hz) rfl (by decide) lw_15 ca_A dL_baseTold_19 (by decide) rfl ?_
      refine s_iconst C dL_baseTold_21 ?_
      refine s_iret C hR dL_baseTold_22 rfl ⟨_, rfl, ?_⟩ (by decide)
      exact wP.no hc.symm (by decide) hN (fun _ _ _ => rfl)
    · exfalso
      revert hc
      unfold op_baseTold; dsimp only; (repeat' split) <;> omega
  · refine s_asI (wrI_ofInt _) ?_
    refine s_i2l C dL_baseTold_10 (wrI_rng _) ?_
    refine s_last C dL_baseTold_11 sh_228 (by decide) (by have z := wrI_rng r7; omega) ?_
    refine s_nameG (fun σ_8 hσ_8 => ?_)
    refine s_goto (tgt := 23) C dL_baseTold_12 (by decide) ?_
    refine s_iconst C dL_baseTold_23 ?_
    refine s_iret C hR dL_baseTold_24 rfl ⟨_, rfl, ?_⟩ (by decide)
    exact wP.ok hp7 hσ_8
set_option maxRecDepth 100000 in
set_option maxHeartbeats 4000000 in
theorem kL_clash {E : sv_E} {σ : sv_G} {S : st_T} (hS : StOK S) (hN : RN σ S) {x : Int} (hx : -2147483648 ≤ x ∧ x ≤ 2147483647) {y : Int} (hy : -2147483648 ≤ y ∧ y ≤ 2147483647) {z : Int} (hz : -2147483648 ≤ z ∧ z ≤ 2147483647) : CW E ML_clash hhL_clash 90 [vR 0, vI x, vI y, vI z, vR 228] σ (PI fun r σ9 => wP σ σ9 S r (op_clash S x y z)) := by
  refine CW.of (RL, cL_clash, 6, (some .int), tableOf hhL_clash, 90, 3, 18) rfl moL_clash (Nat.le_of_ble_eq_true rfl) (ls0 := [some (vR 0), some (vI x), some (vI y), some (vI z), some (vR 228), none]) rfl ?_
  intro X Q C hR
  refine s_aload C dL_clash_0 rfl ?_
  refine s_iconst C dL_clash_2 ?_
  refine s_aload_n C dL_clash_3 rfl ?_
  refine s_iload_n C dL_clash_4 rfl ?_
  refine s_iload_n C dL_clash_5 rfl ?_
  refine s_iload_n C dL_clash_6 rfl ?_
  refine sc_cV3i (u2 := 3) (w2 := 18) C dL_clash_7 lkL_74 moX7_clash mvX7_clash (kX7_clash hS hN (by omega) (by omega) (by omega)) sh_0 ⟨_, _, rfl⟩ (by decide) (Nat.le_of_ble_eq_true rfl) (by decide) (by decide) (fun En σ9 hx => ?_) (fun r7 σ_7 hp7 => ?_)
  · obtain ⟨rfl, hx⟩ := hx
    rcases hx with ⟨rfl, hc⟩ | ⟨rfl, hc⟩ | ⟨rfl, hc⟩
    · refine s_catch (ls2 := [some (vR 0), some (vI x), some (vI y), some (vI z), some (vR 228), none]) C (tableOf []) ⟨0, 12, 15, 13⟩ (tableOf [(0, 12, 19, 15)]) rfl (fun z hz => by cases hz) rfl (by decide) lw_13 ca_I dL_clash_15 (by decide) rfl ?_
      refine s_iconst C dL_clash_17 ?_
      refine s_iret C hR dL_clash_18 rfl ⟨_, rfl, ?_⟩ (by decide)
      exact wP.no hc.symm (by decide) hN (fun _ _ _ => rfl)
    · refine s_catch (ls2 := [some (vR 0), some (vI x), some (vI y), some (vI z), some (vR 228), none]) C (tableOf [(0, 12, 15, 13)]) ⟨0, 12, 19, 15⟩ (tableOf []) rfl (fun z hz => by
      rcases List.mem_cons.mp hz with rfl | hz
      · exact ⟨by decide, _, lw_13, by decide +kernel⟩
      cases hz) rfl (by decide) lw_15 ca_A dL_clash_19 (by decide) rfl ?_
      refine s_iconst C dL_clash_21 ?_
      refine s_iret C hR dL_clash_22 rfl ⟨_, rfl, ?_⟩ (by decide)
      exact wP.no hc.symm (by decide) hN (fun _ _ _ => rfl)
    · exfalso
      revert hc
      unfold op_clash; dsimp only; (repeat' split) <;> omega
  · refine s_asI (wrI_ofInt _) ?_
    refine s_i2l C dL_clash_10 (wrI_rng _) ?_
    refine s_last C dL_clash_11 sh_228 (by decide) (by have z := wrI_rng r7; omega) ?_
    refine s_nameG (fun σ_8 hσ_8 => ?_)
    refine s_goto (tgt := 23) C dL_clash_12 (by decide) ?_
    refine s_iconst C dL_clash_23 ?_
    refine s_iret C hR dL_clash_24 rfl ⟨_, rfl, ?_⟩ (by decide)
    exact wP.ok hp7 hσ_8
set_option maxRecDepth 100000 in
set_option maxHeartbeats 4000000 in
theorem kL_cord {E : sv_E} {σ : sv_G} {S : st_T} (hS : StOK S) (hN : RN σ S) {x : Int} (hx : -2147483648 ≤ x ∧ x ≤ 2147483647) {y : Int} (hy : -2147483648 ≤ y ∧ y ≤ 2147483647) : CW E ML_cord hhL_cord 8 [vR 0, vI x, vI y, vR 228] σ (PI fun r σ9 => wP σ σ9 S r (op_cord S x y)) := by
  refine CW.of (RL, cL_cord, 5, (some .int), tableOf hhL_cord, 8, 2, 12) rfl moL_cord (Nat.le_of_ble_eq_true rfl) (ls0 := [some (vR 0), some (vI x), some (vI y), some (vR 228), none]) rfl ?_
  intro X Q C hR
  refine s_aload_n C dL_cord_0 rfl ?_
  refine s_iconst C dL_cord_1 ?_
  refine s_aload_n C dL_cord_2 rfl ?_
  refine s_iload_n C dL_cord_3 rfl ?_
  refine s_iload_n C dL_cord_4 rfl ?_
  refine sc_cV2i (u2 := 2) (w2 := 12) C dL_cord_5 lkL_95 moX7_cord mvX7_cord (kX7_cord hS hN (by omega) (by omega)) sh_0 ⟨_, _, rfl⟩ (by decide) (Nat.le_of_ble_eq_true rfl) (by decide) (by decide) (fun En σ9 hx => ?_) (fun r7 σ_7 hp7 => ?_)
  · obtain ⟨rfl, hx⟩ := hx
    rcases hx with ⟨rfl, hc⟩ | ⟨rfl, hc⟩ | ⟨rfl, hc⟩
    · refine s_catch (ls2 := [some (vR 0), some (vI x), some (vI y), some (vR 228), none]) C (tableOf []) ⟨0, 10, 13, 13⟩ (tableOf [(0, 10, 17, 15)]) rfl (fun z hz => by cases hz) rfl (by decide) lw_13 ca_I dL_cord_13 (by decide) rfl ?_
      refine s_iconst C dL_cord_15 ?_
      refine s_iret C hR dL_cord_16 rfl ⟨_, rfl, ?_⟩ (by decide)
      exact wP.no hc.symm (by decide) hN (fun _ _ _ => rfl)
    · refine s_catch (ls2 := [some (vR 0), some (vI x), some (vI y), some (vR 228), none]) C (tableOf [(0, 10, 13, 13)]) ⟨0, 10, 17, 15⟩ (tableOf []) rfl (fun z hz => by
      rcases List.mem_cons.mp hz with rfl | hz
      · exact ⟨by decide, _, lw_13, by decide +kernel⟩
      cases hz) rfl (by decide) lw_15 ca_A dL_cord_17 (by decide) rfl ?_
      refine s_iconst C dL_cord_19 ?_
      refine s_iret C hR dL_cord_20 rfl ⟨_, rfl, ?_⟩ (by decide)
      exact wP.no hc.symm (by decide) hN (fun _ _ _ => rfl)
    · exfalso
      revert hc
      unfold op_cord; dsimp only; (repeat' split) <;> omega
  · refine s_asI (wrI_ofInt _) ?_
    refine s_i2l C dL_cord_8 (wrI_rng _) ?_
    refine s_last C dL_cord_9 sh_228 (by decide) (by have z := wrI_rng r7; omega) ?_
    refine s_nameG (fun σ_8 hσ_8 => ?_)
    refine s_goto (tgt := 21) C dL_cord_10 (by decide) ?_
    refine s_iconst C dL_cord_21 ?_
    refine s_iret C hR dL_cord_22 rfl ⟨_, rfl, ?_⟩ (by decide)
    exact wP.ok hp7 hσ_8
set_option maxRecDepth 100000 in
set_option maxHeartbeats 4000000 in
theorem kL_dropAtom {E : sv_E} {σ : sv_G} {S : st_T} (hS : StOK S) (hN : RN σ S) {x : Int} (hx : -2147483648 ≤ x ∧ x ≤ 2147483647) {y : Int} (hy : -2147483648 ≤ y ∧ y ≤ 2147483647) : CW E ML_dropAtom hhL_dropAtom 8 [vR 0, vI x, vI y, vR 228] σ (PI fun r σ9 => wP σ σ9 S r (op_dropAtom S x y)) := by
  refine CW.of (RL, cL_dropAtom, 5, (some .int), tableOf hhL_dropAtom, 8, 1, 6) rfl moL_dropAtom (Nat.le_of_ble_eq_true rfl) (ls0 := [some (vR 0), some (vI x), some (vI y), some (vR 228), none]) rfl ?_
  intro X Q C hR
  refine s_aload_n C dL_dropAtom_0 rfl ?_
  refine s_iconst C dL_dropAtom_1 ?_
  refine s_aload_n C dL_dropAtom_2 rfl ?_
  refine s_iload_n C dL_dropAtom_3 rfl ?_
  refine s_iload_n C dL_dropAtom_4 rfl ?_
  refine sc_cV2i (u2 := 1) (w2 := 6) C dL_dropAtom_5 lkL_19 moX7_dropAtom mvX7_dropAtom (kX7_dropAtom hS hN (by omega) (by omega)) sh_0 ⟨_, _, rfl⟩ (by decide) (Nat.le_of_ble_eq_true rfl) (by decide) (by decide) (fun En σ9 hx => ?_) (fun r7 σ_7 hp7 => ?_)
  · obtain ⟨rfl, hx⟩ := hx
    rcases hx with ⟨rfl, hc⟩ | ⟨rfl, hc⟩ | ⟨rfl, hc⟩
    · refine s_catch (ls2 := [some (vR 0), some (vI x), some (vI y), some (vR 228), none]) C (tableOf []) ⟨0, 10, 13, 13⟩ (tableOf []) rfl (fun z hz => by cases hz) rfl (by decide) lw_13 ca_I dL_dropAtom_13 (by decide) rfl ?_
      refine s_iconst C dL_dropAtom_15 ?_
      refine s_iret C hR dL_dropAtom_16 rfl ⟨_, rfl, ?_⟩ (by decide)
      exact wP.no hc.symm (by decide) hN (fun _ _ _ => rfl)
    · exfalso
      revert hc
      unfold op_dropAtom; dsimp only; (repeat' split) <;> omega
    · exfalso
      revert hc
      unfold op_dropAtom; dsimp only; (repeat' split) <;> omega
  · refine s_asI (wrI_ofInt _) ?_
    refine s_i2l C dL_dropAtom_8 (wrI_rng _) ?_
    refine s_last C dL_dropAtom_9 sh_228 (by decide) (by have z := wrI_rng r7; omega) ?_
    refine s_nameG (fun σ_8 hσ_8 => ?_)
    refine s_goto (tgt := 17) C dL_dropAtom_10 (by decide) ?_
    refine s_iconst C dL_dropAtom_17 ?_
    refine s_iret C hR dL_dropAtom_18 rfl ⟨_, rfl, ?_⟩ (by decide)
    exact wP.ok hp7 hσ_8
set_option maxRecDepth 100000 in
set_option maxHeartbeats 4000000 in
theorem kL_empty {E : sv_E} {σ : sv_G} {S : st_T} (hS : StOK S) (hN : RN σ S) {x : Int} (hx : -2147483648 ≤ x ∧ x ≤ 2147483647) : CW E ML_empty hhL_empty 8 [vR 0, vI x, vR 228] σ (PI fun r σ9 => wP σ σ9 S r (op_empty S x)) := by
  refine CW.of (RL, cL_empty, 4, (some .int), tableOf hhL_empty, 8, 1, 6) rfl moL_empty (Nat.le_of_ble_eq_true rfl) (ls0 := [some (vR 0), some (vI x), some (vR 228), none]) rfl ?_
  intro X Q C hR
  refine s_aload_n C dL_empty_0 rfl ?_
  refine s_iconst C dL_empty_1 ?_
  refine s_aload_n C dL_empty_2 rfl ?_
  refine s_iload_n C dL_empty_3 rfl ?_
  refine sc_cV1i (u2 := 1) (w2 := 6) C dL_empty_4 lkL_43 moX7_empty mvX7_empty (kX7_empty hS hN (by omega)) sh_0 ⟨_, _, rfl⟩ (by decide) (Nat.le_of_ble_eq_true rfl) (by decide) (by decide) (fun En σ9 hx => ?_) (fun r7 σ_7 hp7 => ?_)
  · obtain ⟨rfl, hx⟩ := hx
    rcases hx with ⟨rfl, hc⟩ | ⟨rfl, hc⟩ | ⟨rfl, hc⟩
    · refine s_catch_n (ls2 := [some (vR 0), some (vI x), some (vR 228), none]) C (tableOf []) ⟨0, 9, 12, 13⟩ (tableOf []) rfl (fun z hz => by cases hz) rfl (by decide) lw_13 ca_I dL_empty_12 (by decide) rfl ?_
      refine s_iconst C dL_empty_13 ?_
      refine s_iret C hR dL_empty_14 rfl ⟨_, rfl, ?_⟩ (by decide)
      exact wP.no hc.symm (by decide) hN (fun _ _ _ => rfl)
    · exfalso
      revert hc
      unfold op_empty; dsimp only; (repeat' split) <;> omega
    · exfalso
      revert hc
      unfold op_empty; dsimp only; (repeat' split) <;> omega
  · refine s_asI (wrI_ofInt _) ?_
    refine s_i2l C dL_empty_7 (wrI_rng _) ?_
    refine s_last C dL_empty_8 sh_228 (by decide) (by have z := wrI_rng r7; omega) ?_
    refine s_nameG (fun σ_8 hσ_8 => ?_)
    refine s_goto (tgt := 15) C dL_empty_9 (by decide) ?_
    refine s_iconst C dL_empty_15 ?_
    refine s_iret C hR dL_empty_16 rfl ⟨_, rfl, ?_⟩ (by decide)
    exact wP.ok hp7 hσ_8
set_option maxRecDepth 100000 in
set_option maxHeartbeats 4000000 in
theorem kL_example {E : sv_E} {σ : sv_G} {S : st_T} (hS : StOK S) (hN : RN σ S) {x : Int} (hx : -2147483648 ≤ x ∧ x ≤ 2147483647) : CW E ML_example hhL_example 8 [vR 0, vI x, vR 228] σ (PI fun r σ9 => wP σ σ9 S r (op_example S x)) := by
  refine CW.of (RL, cL_example, 4, (some .int), tableOf hhL_example, 8, 2, 12) rfl moL_example (Nat.le_of_ble_eq_true rfl) (ls0 := [some (vR 0), some (vI x), some (vR 228), none]) rfl ?_
  intro X Q C hR
  refine s_aload_n C dL_example_0 rfl ?_
  refine s_iconst C dL_example_1 ?_
  refine s_aload_n C dL_example_2 rfl ?_
  refine s_iload_n C dL_example_3 rfl ?_
  refine sc_cV1i (u2 := 2) (w2 := 12) C dL_example_4 lkL_77 moX7_example mvX7_example (kX7_example hS hN (by omega)) sh_0 ⟨_, _, rfl⟩ (by decide) (Nat.le_of_ble_eq_true rfl) (by decide) (by decide) (fun En σ9 hx => ?_) (fun r7 σ_7 hp7 => ?_)
  · obtain ⟨rfl, hx⟩ := hx
    rcases hx with ⟨rfl, hc⟩ | ⟨rfl, hc⟩ | ⟨rfl, hc⟩
    · refine s_catch_n (ls2 := [some (vR 0), some (vI x), some (vR 228), none]) C (tableOf []) ⟨0, 9, 12, 15⟩ (tableOf [(0, 9, 15, 17)]) rfl (fun z hz => by cases hz) rfl (by decide) lw_15 ca_A dL_example_12 (by decide) rfl ?_
      refine s_iconst C dL_example_13 ?_
      refine s_iret C hR dL_example_14 rfl ⟨_, rfl, ?_⟩ (by decide)
      exact wP.no hc.symm (by decide) hN (fun _ _ _ => rfl)
    · refine s_catch_n (ls2 := [some (vR 0), some (vI x), some (vR 228), none]) C (tableOf [(0, 9, 12, 15)]) ⟨0, 9, 15, 17⟩ (tableOf []) rfl (fun z hz => by
      rcases List.mem_cons.mp hz with rfl | hz
      · exact ⟨by decide, _, lw_15, by decide +kernel⟩
      cases hz) rfl (by decide) lw_17 ca_S dL_example_15 (by decide) rfl ?_
      refine s_iconst C dL_example_16 ?_
      refine s_iret C hR dL_example_17 rfl ⟨_, rfl, ?_⟩ (by decide)
      exact wP.no hc.symm (by decide) hN (fun _ _ _ => rfl)
    · exfalso
      revert hc
      unfold op_example; dsimp only; (repeat' split) <;> omega
  · refine s_asI (wrI_ofInt _) ?_
    refine s_i2l C dL_example_7 (wrI_rng _) ?_
    refine s_last C dL_example_8 sh_228 (by decide) (by have z := wrI_rng r7; omega) ?_
    refine s_nameG (fun σ_8 hσ_8 => ?_)
    refine s_goto (tgt := 18) C dL_example_9 (by decide) ?_
    refine s_iconst C dL_example_18 ?_
    refine s_iret C hR dL_example_19 rfl ⟨_, rfl, ?_⟩ (by decide)
    exact wP.ok hp7 hσ_8
set_option maxRecDepth 100000 in
set_option maxHeartbeats 4000000 in
theorem kL_fit {E : sv_E} {σ : sv_G} {S : st_T} (hS : StOK S) (hN : RN σ S) {x : Int} (hx : -2147483648 ≤ x ∧ x ≤ 2147483647) {y : Int} (hy : -2147483648 ≤ y ∧ y ≤ 2147483647) {z : Int} (hz : -2147483648 ≤ z ∧ z ≤ 2147483647) {v : Int} (hv : -2147483648 ≤ v ∧ v ≤ 2147483647) : CW E ML_fit hhL_fit 90 [vR 0, vI x, vI y, vI z, vI v, vR 228] σ (PI fun r σ9 => wP σ σ9 S r (op_fit S x y z v)) := by
  refine CW.of (RL, cL_fit, 7, (some .int), tableOf hhL_fit, 90, 4, 24) rfl moL_fit (Nat.le_of_ble_eq_true rfl) (ls0 := [some (vR 0), some (vI x), some (vI y), some (vI z), some (vI v), some (vR 228), none]) rfl ?_
  intro X Q C hR
  refine s_aload C dL_fit_0 rfl ?_
  refine s_iconst C dL_fit_2 ?_
  refine s_aload_n C dL_fit_3 rfl ?_
  refine s_iload_n C dL_fit_4 rfl ?_
  refine s_iload_n C dL_fit_5 rfl ?_
  refine s_iload_n C dL_fit_6 rfl ?_
  refine s_iload C dL_fit_7 rfl ?_
  refine sc_cV4i (u2 := 4) (w2 := 24) C dL_fit_9 lkL_65 moX7_fit mvX7_fit (kX7_fit hS hN (by omega) (by omega) (by omega) (by omega)) sh_0 ⟨_, _, rfl⟩ (by decide) (Nat.le_of_ble_eq_true rfl) (by decide) (by decide) (fun En σ9 hx => ?_) (fun r7 σ_7 hp7 => ?_)
  · obtain ⟨rfl, hx⟩ := hx
    rcases hx with ⟨rfl, hc⟩ | ⟨rfl, hc⟩ | ⟨rfl, hc⟩
    · refine s_catch (ls2 := [some (vR 0), some (vI x), some (vI y), some (vI z), some (vI v), some (vR 228), none]) C (tableOf []) ⟨0, 14, 17, 13⟩ (tableOf [(0, 14, 21, 15)]) rfl (fun z hz => by cases hz) rfl (by decide) lw_13 ca_I dL_fit_17 (by decide) rfl ?_
      refine s_iconst C dL_fit_19 ?_
      refine s_iret C hR dL_fit_20 rfl ⟨_, rfl, ?_⟩ (by decide)
      exact wP.no hc.symm (by decide) hN (fun _ _ _ => rfl)
    · refine s_catch (ls2 := [some (vR 0), some (vI x), some (vI y), some (vI z), some (vI v), some (vR 228), none]) C (tableOf [(0, 14, 17, 13)]) ⟨0, 14, 21, 15⟩ (tableOf []) rfl (fun z hz => by
      rcases List.mem_cons.mp hz with rfl | hz
      · exact ⟨by decide, _, lw_13, by decide +kernel⟩
      cases hz) rfl (by decide) lw_15 ca_A dL_fit_21 (by decide) rfl ?_
      refine s_iconst C dL_fit_23 ?_
      refine s_iret C hR dL_fit_24 rfl ⟨_, rfl, ?_⟩ (by decide)
      exact wP.no hc.symm (by decide) hN (fun _ _ _ => rfl)
    · exfalso
      revert hc
      unfold op_fit; dsimp only; (repeat' split) <;> omega
  · refine s_asI (wrI_ofInt _) ?_
    refine s_i2l C dL_fit_12 (wrI_rng _) ?_
    refine s_last C dL_fit_13 sh_228 (by decide) (by have z := wrI_rng r7; omega) ?_
    refine s_nameG (fun σ_8 hσ_8 => ?_)
    refine s_goto (tgt := 25) C dL_fit_14 (by decide) ?_
    refine s_iconst C dL_fit_25 ?_
    refine s_iret C hR dL_fit_26 rfl ⟨_, rfl, ?_⟩ (by decide)
    exact wP.ok hp7 hσ_8
set_option maxRecDepth 100000 in
set_option maxHeartbeats 4000000 in
theorem kL_fits {E : sv_E} {σ : sv_G} {S : st_T} (hS : StOK S) (hN : RN σ S) {x : Int} (hx : -2147483648 ≤ x ∧ x ≤ 2147483647) {y : Int} (hy : -2147483648 ≤ y ∧ y ≤ 2147483647) {z : Int} (hz : -2147483648 ≤ z ∧ z ≤ 2147483647) : CW E ML_fits hhL_fits 90 [vR 0, vI x, vI y, vI z, vR 228] σ (PI fun r σ9 => wP σ σ9 S r (op_fits S x y z)) := by
  refine CW.of (RL, cL_fits, 6, (some .int), tableOf hhL_fits, 90, 3, 18) rfl moL_fits (Nat.le_of_ble_eq_true rfl) (ls0 := [some (vR 0), some (vI x), some (vI y), some (vI z), some (vR 228), none]) rfl ?_
  intro X Q C hR
  refine s_aload C dL_fits_0 rfl ?_
  refine s_iconst C dL_fits_2 ?_
  refine s_aload_n C dL_fits_3 rfl ?_
  refine s_iload_n C dL_fits_4 rfl ?_
  refine s_iload_n C dL_fits_5 rfl ?_
  refine s_iload_n C dL_fits_6 rfl ?_
  refine sc_cV3i (u2 := 3) (w2 := 18) C dL_fits_7 lkL_62 moX7_fits mvX7_fits (kX7_fits hS hN (by omega) (by omega) (by omega)) sh_0 ⟨_, _, rfl⟩ (by decide) (Nat.le_of_ble_eq_true rfl) (by decide) (by decide) (fun En σ9 hx => ?_) (fun r7 σ_7 hp7 => ?_)
  · obtain ⟨rfl, hx⟩ := hx
    rcases hx with ⟨rfl, hc⟩ | ⟨rfl, hc⟩ | ⟨rfl, hc⟩
    · refine s_catch (ls2 := [some (vR 0), some (vI x), some (vI y), some (vI z), some (vR 228), none]) C (tableOf []) ⟨0, 12, 15, 13⟩ (tableOf [(0, 12, 19, 15)]) rfl (fun z hz => by cases hz) rfl (by decide) lw_13 ca_I dL_fits_15 (by decide) rfl ?_
      refine s_iconst C dL_fits_17 ?_
      refine s_iret C hR dL_fits_18 rfl ⟨_, rfl, ?_⟩ (by decide)
      exact wP.no hc.symm (by decide) hN (fun _ _ _ => rfl)
    · refine s_catch (ls2 := [some (vR 0), some (vI x), some (vI y), some (vI z), some (vR 228), none]) C (tableOf [(0, 12, 15, 13)]) ⟨0, 12, 19, 15⟩ (tableOf []) rfl (fun z hz => by
      rcases List.mem_cons.mp hz with rfl | hz
      · exact ⟨by decide, _, lw_13, by decide +kernel⟩
      cases hz) rfl (by decide) lw_15 ca_A dL_fits_19 (by decide) rfl ?_
      refine s_iconst C dL_fits_21 ?_
      refine s_iret C hR dL_fits_22 rfl ⟨_, rfl, ?_⟩ (by decide)
      exact wP.no hc.symm (by decide) hN (fun _ _ _ => rfl)
    · exfalso
      revert hc
      unfold op_fits; dsimp only; (repeat' split) <;> omega
  · refine s_asI (wrI_ofInt _) ?_
    refine s_i2l C dL_fits_10 (wrI_rng _) ?_
    refine s_last C dL_fits_11 sh_228 (by decide) (by have z := wrI_rng r7; omega) ?_
    refine s_nameG (fun σ_8 hσ_8 => ?_)
    refine s_goto (tgt := 23) C dL_fits_12 (by decide) ?_
    refine s_iconst C dL_fits_23 ?_
    refine s_iret C hR dL_fits_24 rfl ⟨_, rfl, ?_⟩ (by decide)
    exact wP.ok hp7 hσ_8
set_option maxRecDepth 100000 in
set_option maxHeartbeats 4000000 in
theorem kL_form {E : sv_E} {σ : sv_G} {S : st_T} (hS : StOK S) (hN : RN σ S) {x : Int} (hx : -2147483648 ≤ x ∧ x ≤ 2147483647) {y : Int} (hy : -2147483648 ≤ y ∧ y ≤ 2147483647) {z : Int} (hz : -2147483648 ≤ z ∧ z ≤ 2147483647) {v : Int} (hv : -2147483648 ≤ v ∧ v ≤ 2147483647) : CW E ML_form hhL_form 9 [vR 0, vI x, vI y, vI z, vI v, vR 228] σ (PI fun r σ9 => wP σ σ9 S r (op_form S x y z v)) := by
  refine CW.of (RL, cL_form, 7, (some .int), tableOf hhL_form, 9, 5, 30) rfl moL_form (Nat.le_of_ble_eq_true rfl) (ls0 := [some (vR 0), some (vI x), some (vI y), some (vI z), some (vI v), some (vR 228), none]) rfl ?_
  intro X Q C hR
  refine s_aload C dL_form_0 rfl ?_
  refine s_iconst C dL_form_2 ?_
  refine s_aload_n C dL_form_3 rfl ?_
  refine s_iload_n C dL_form_4 rfl ?_
  refine s_iload_n C dL_form_5 rfl ?_
  refine s_iload_n C dL_form_6 rfl ?_
  refine s_iload C dL_form_7 rfl ?_
  refine sc_cV4i (u2 := 5) (w2 := 30) C dL_form_9 lkL_34 moX7_form mvX7_form (kX7_form hS hN (by omega) (by omega) (by omega) (by omega)) sh_0 ⟨_, _, rfl⟩ (by decide) (Nat.le_of_ble_eq_true rfl) (by decide) (by decide) (fun En σ9 hx => ?_) (fun r7 σ_7 hp7 => ?_)
  · obtain ⟨rfl, hx⟩ := hx
    rcases hx with ⟨rfl, hc⟩ | ⟨rfl, hc⟩ | ⟨rfl, hc⟩
    · refine s_catch (ls2 := [some (vR 0), some (vI x), some (vI y), some (vI z), some (vI v), some (vR 228), none]) C (tableOf []) ⟨0, 14, 17, 13⟩ (tableOf [(0, 14, 21, 15), (0, 14, 25, 17)]) rfl (fun z hz => by cases hz) rfl (by decide) lw_13 ca_I dL_form_17 (by decide) rfl ?_
      refine s_iconst C dL_form_19 ?_
      refine s_iret C hR dL_form_20 rfl ⟨_, rfl, ?_⟩ (by decide)
      exact wP.no hc.symm (by decide) hN (fun _ _ _ => rfl)
    · refine s_catch (ls2 := [some (vR 0), some (vI x), some (vI y), some (vI z), some (vI v), some (vR 228), none]) C (tableOf [(0, 14, 17, 13)]) ⟨0, 14, 21, 15⟩ (tableOf [(0, 14, 25, 17)]) rfl (fun z hz => by
      rcases List.mem_cons.mp hz with rfl | hz
      · exact ⟨by decide, _, lw_13, by decide +kernel⟩
      cases hz) rfl (by decide) lw_15 ca_A dL_form_21 (by decide) rfl ?_
      refine s_iconst C dL_form_23 ?_
      refine s_iret C hR dL_form_24 rfl ⟨_, rfl, ?_⟩ (by decide)
      exact wP.no hc.symm (by decide) hN (fun _ _ _ => rfl)
    · refine s_catch (ls2 := [some (vR 0), some (vI x), some (vI y), some (vI z), some (vI v), some (vR 228), none]) C (tableOf [(0, 14, 17, 13), (0, 14, 21, 15)]) ⟨0, 14, 25, 17⟩ (tableOf []) rfl (fun z hz => by
      rcases List.mem_cons.mp hz with rfl | hz
      · exact ⟨by decide, _, lw_13, by decide +kernel⟩
      rcases List.mem_cons.mp hz with rfl | hz
      · exact ⟨by decide, _, lw_15, by decide +kernel⟩
      cases hz) rfl (by decide) lw_17 ca_S dL_form_25 (by decide) rfl ?_
      refine s_iconst C dL_form_27 ?_
      refine s_iret C hR dL_form_28 rfl ⟨_, rfl, ?_⟩ (by decide)
      exact wP.no hc.symm (by decide) hN (fun _ _ _ => rfl)
  · refine s_asI (wrI_ofInt _) ?_
    refine s_i2l C dL_form_12 (wrI_rng _) ?_
    refine s_last C dL_form_13 sh_228 (by decide) (by have z := wrI_rng r7; omega) ?_
    refine s_nameG (fun σ_8 hσ_8 => ?_)
    refine s_goto (tgt := 29) C dL_form_14 (by decide) ?_
    refine s_iconst C dL_form_29 ?_
    refine s_iret C hR dL_form_30 rfl ⟨_, rfl, ?_⟩ (by decide)
    exact wP.ok hp7 hσ_8
set_option maxRecDepth 100000 in
set_option maxHeartbeats 4000000 in
theorem kL_gap {E : sv_E} {σ : sv_G} {S : st_T} (hS : StOK S) (hN : RN σ S) {x : Int} (hx : -2147483648 ≤ x ∧ x ≤ 2147483647) {y : Int} (hy : -2147483648 ≤ y ∧ y ≤ 2147483647) : CW E ML_gap hhL_gap 89 [vR 0, vI x, vI y, vR 228] σ (PI fun r σ9 => wP σ σ9 S r (op_gap S x y)) := by
  refine CW.of (RL, cL_gap, 5, (some .int), tableOf hhL_gap, 89, 2, 12) rfl moL_gap (Nat.le_of_ble_eq_true rfl) (ls0 := [some (vR 0), some (vI x), some (vI y), some (vR 228), none]) rfl ?_
  intro X Q C hR
  refine s_aload_n C dL_gap_0 rfl ?_
  refine s_iconst C dL_gap_1 ?_
  refine s_aload_n C dL_gap_2 rfl ?_
  refine s_iload_n C dL_gap_3 rfl ?_
  refine s_iload_n C dL_gap_4 rfl ?_
  refine sc_cV2i (u2 := 2) (w2 := 12) C dL_gap_5 lkL_71 moX7_gap mvX7_gap (kX7_gap hS hN (by omega) (by omega)) sh_0 ⟨_, _, rfl⟩ (by decide) (Nat.le_of_ble_eq_true rfl) (by decide) (by decide) (fun En σ9 hx => ?_) (fun r7 σ_7 hp7 => ?_)
  · obtain ⟨rfl, hx⟩ := hx
    rcases hx with ⟨rfl, hc⟩ | ⟨rfl, hc⟩ | ⟨rfl, hc⟩
    · refine s_catch (ls2 := [some (vR 0), some (vI x), some (vI y), some (vR 228), none]) C (tableOf []) ⟨0, 10, 13, 13⟩ (tableOf [(0, 10, 17, 15)]) rfl (fun z hz => by cases hz) rfl (by decide) lw_13 ca_I dL_gap_13 (by decide) rfl ?_
      refine s_iconst C dL_gap_15 ?_
      refine s_iret C hR dL_gap_16 rfl ⟨_, rfl, ?_⟩ (by decide)
      exact wP.no hc.symm (by decide) hN (fun _ _ _ => rfl)
    · refine s_catch (ls2 := [some (vR 0), some (vI x), some (vI y), some (vR 228), none]) C (tableOf [(0, 10, 13, 13)]) ⟨0, 10, 17, 15⟩ (tableOf []) rfl (fun z hz => by
      rcases List.mem_cons.mp hz with rfl | hz
      · exact ⟨by decide, _, lw_13, by decide +kernel⟩
      cases hz) rfl (by decide) lw_15 ca_A dL_gap_17 (by decide) rfl ?_
      refine s_iconst C dL_gap_19 ?_
      refine s_iret C hR dL_gap_20 rfl ⟨_, rfl, ?_⟩ (by decide)
      exact wP.no hc.symm (by decide) hN (fun _ _ _ => rfl)
    · exfalso
      revert hc
      unfold op_gap; dsimp only; (repeat' split) <;> omega
  · refine s_asI (wrI_ofInt _) ?_
    refine s_i2l C dL_gap_8 (wrI_rng _) ?_
    refine s_last C dL_gap_9 sh_228 (by decide) (by have z := wrI_rng r7; omega) ?_
    refine s_nameG (fun σ_8 hσ_8 => ?_)
    refine s_goto (tgt := 21) C dL_gap_10 (by decide) ?_
    refine s_iconst C dL_gap_21 ?_
    refine s_iret C hR dL_gap_22 rfl ⟨_, rfl, ?_⟩ (by decide)
    exact wP.ok hp7 hσ_8
set_option maxRecDepth 100000 in
set_option maxHeartbeats 4000000 in
theorem kL_hear {E : sv_E} {σ : sv_G} {S : st_T} (hS : StOK S) (hN : RN σ S) {x : Int} (hx : -2147483648 ≤ x ∧ x ≤ 2147483647) : CW E ML_hear hhL_hear 9 [vR 0, vI x, vR 228] σ (PI fun r σ9 => wP σ σ9 S r (op_hear S x)) := by
  refine CW.of (RL, cL_hear, 4, (some .int), tableOf hhL_hear, 9, 2, 12) rfl moL_hear (Nat.le_of_ble_eq_true rfl) (ls0 := [some (vR 0), some (vI x), some (vR 228), none]) rfl ?_
  intro X Q C hR
  refine s_aload_n C dL_hear_0 rfl ?_
  refine s_iconst C dL_hear_1 ?_
  refine s_aload_n C dL_hear_2 rfl ?_
  refine s_iload_n C dL_hear_3 rfl ?_
  refine sc_cV1i (u2 := 2) (w2 := 12) C dL_hear_4 lkL_59 moX7_hear mvX7_hear (kX7_hear hS hN (by omega)) sh_0 ⟨_, _, rfl⟩ (by decide) (Nat.le_of_ble_eq_true rfl) (by decide) (by decide) (fun En σ9 hx => ?_) (fun r7 σ_7 hp7 => ?_)
  · obtain ⟨rfl, hx⟩ := hx
    rcases hx with ⟨rfl, hc⟩ | ⟨rfl, hc⟩ | ⟨rfl, hc⟩
    · refine s_catch_n (ls2 := [some (vR 0), some (vI x), some (vR 228), none]) C (tableOf []) ⟨0, 9, 12, 13⟩ (tableOf [(0, 9, 15, 17)]) rfl (fun z hz => by cases hz) rfl (by decide) lw_13 ca_I dL_hear_12 (by decide) rfl ?_
      refine s_iconst C dL_hear_13 ?_
      refine s_iret C hR dL_hear_14 rfl ⟨_, rfl, ?_⟩ (by decide)
      exact wP.no hc.symm (by decide) hN (fun _ _ _ => rfl)
    · refine s_catch_n (ls2 := [some (vR 0), some (vI x), some (vR 228), none]) C (tableOf [(0, 9, 12, 13)]) ⟨0, 9, 15, 17⟩ (tableOf []) rfl (fun z hz => by
      rcases List.mem_cons.mp hz with rfl | hz
      · exact ⟨by decide, _, lw_13, by decide +kernel⟩
      cases hz) rfl (by decide) lw_17 ca_S dL_hear_15 (by decide) rfl ?_
      refine s_iconst C dL_hear_16 ?_
      refine s_iret C hR dL_hear_17 rfl ⟨_, rfl, ?_⟩ (by decide)
      exact wP.no hc.symm (by decide) hN (fun _ _ _ => rfl)
    · exfalso
      revert hc
      unfold op_hear; dsimp only; (repeat' split) <;> omega
  · refine s_asI (wrI_ofInt _) ?_
    refine s_i2l C dL_hear_7 (wrI_rng _) ?_
    refine s_last C dL_hear_8 sh_228 (by decide) (by have z := wrI_rng r7; omega) ?_
    refine s_nameG (fun σ_8 hσ_8 => ?_)
    refine s_goto (tgt := 18) C dL_hear_9 (by decide) ?_
    refine s_iconst C dL_hear_18 ?_
    refine s_iret C hR dL_hear_19 rfl ⟨_, rfl, ?_⟩ (by decide)
    exact wP.ok hp7 hσ_8
set_option maxRecDepth 100000 in
set_option maxHeartbeats 4000000 in
theorem kL_joint {E : sv_E} {σ : sv_G} {S : st_T} (hS : StOK S) (hN : RN σ S) {x : Int} (hx : -2147483648 ≤ x ∧ x ≤ 2147483647) {y : Int} (hy : -2147483648 ≤ y ∧ y ≤ 2147483647) {z : Int} (hz : -2147483648 ≤ z ∧ z ≤ 2147483647) : CW E ML_joint hhL_joint 9 [vR 0, vI x, vI y, vI z, vR 228] σ (PI fun r σ9 => wP σ σ9 S r (op_joint S x y z)) := by
  refine CW.of (RL, cL_joint, 6, (some .int), tableOf hhL_joint, 9, 3, 18) rfl moL_joint (Nat.le_of_ble_eq_true rfl) (ls0 := [some (vR 0), some (vI x), some (vI y), some (vI z), some (vR 228), none]) rfl ?_
  intro X Q C hR
  refine s_aload C dL_joint_0 rfl ?_
  refine s_iconst C dL_joint_2 ?_
  refine s_aload_n C dL_joint_3 rfl ?_
  refine s_iload_n C dL_joint_4 rfl ?_
  refine s_iload_n C dL_joint_5 rfl ?_
  refine s_iload_n C dL_joint_6 rfl ?_
  refine sc_cV3i (u2 := 3) (w2 := 18) C dL_joint_7 lkL_27 moX7_joint mvX7_joint (kX7_joint hS hN (by omega) (by omega) (by omega)) sh_0 ⟨_, _, rfl⟩ (by decide) (Nat.le_of_ble_eq_true rfl) (by decide) (by decide) (fun En σ9 hx => ?_) (fun r7 σ_7 hp7 => ?_)
  · obtain ⟨rfl, hx⟩ := hx
    rcases hx with ⟨rfl, hc⟩ | ⟨rfl, hc⟩ | ⟨rfl, hc⟩
    · refine s_catch (ls2 := [some (vR 0), some (vI x), some (vI y), some (vI z), some (vR 228), none]) C (tableOf []) ⟨0, 12, 15, 13⟩ (tableOf []) rfl (fun z hz => by cases hz) rfl (by decide) lw_13 ca_I dL_joint_15 (by decide) rfl ?_
      refine s_iconst C dL_joint_17 ?_
      refine s_iret C hR dL_joint_18 rfl ⟨_, rfl, ?_⟩ (by decide)
      exact wP.no hc.symm (by decide) hN (fun _ _ _ => rfl)
    · exfalso
      revert hc
      unfold op_joint; dsimp only; (repeat' split) <;> omega
    · exfalso
      revert hc
      unfold op_joint; dsimp only; (repeat' split) <;> omega
  · refine s_asI (wrI_ofInt _) ?_
    refine s_i2l C dL_joint_10 (wrI_rng _) ?_
    refine s_last C dL_joint_11 sh_228 (by decide) (by have z := wrI_rng r7; omega) ?_
    refine s_nameG (fun σ_8 hσ_8 => ?_)
    refine s_goto (tgt := 19) C dL_joint_12 (by decide) ?_
    refine s_iconst C dL_joint_19 ?_
    refine s_iret C hR dL_joint_20 rfl ⟨_, rfl, ?_⟩ (by decide)
    exact wP.ok hp7 hσ_8
set_option maxRecDepth 100000 in
set_option maxHeartbeats 4000000 in
theorem kL_knots {E : sv_E} {σ : sv_G} {S : st_T} (hS : StOK S) (hN : RN σ S) {x : Int} (hx : -2147483648 ≤ x ∧ x ≤ 2147483647) : CW E ML_knots hhL_knots 8 [vR 0, vI x, vR 228] σ (PI fun r σ9 => wP σ σ9 S r (op_knots S x)) := by
  refine CW.of (RL, cL_knots, 4, (some .int), tableOf hhL_knots, 8, 1, 6) rfl moL_knots (Nat.le_of_ble_eq_true rfl) (ls0 := [some (vR 0), some (vI x), some (vR 228), none]) rfl ?_
  intro X Q C hR
  refine s_aload_n C dL_knots_0 rfl ?_
  refine s_iconst C dL_knots_1 ?_
  refine s_aload_n C dL_knots_2 rfl ?_
  refine s_iload_n C dL_knots_3 rfl ?_
  refine sc_cV1i (u2 := 1) (w2 := 6) C dL_knots_4 lkL_98 moX7_knots mvX7_knots (kX7_knots hS hN (by omega)) sh_0 ⟨_, _, rfl⟩ (by decide) (Nat.le_of_ble_eq_true rfl) (by decide) (by decide) (fun En σ9 hx => ?_) (fun r7 σ_7 hp7 => ?_)
  · obtain ⟨rfl, hx⟩ := hx
    rcases hx with ⟨rfl, hc⟩ | ⟨rfl, hc⟩ | ⟨rfl, hc⟩
    · refine s_catch_n (ls2 := [some (vR 0), some (vI x), some (vR 228), none]) C (tableOf []) ⟨0, 9, 12, 13⟩ (tableOf []) rfl (fun z hz => by cases hz) rfl (by decide) lw_13 ca_I dL_knots_12 (by decide) rfl ?_
      refine s_iconst C dL_knots_13 ?_
      refine s_iret C hR dL_knots_14 rfl ⟨_, rfl, ?_⟩ (by decide)
      exact wP.no hc.symm (by decide) hN (fun _ _ _ => rfl)
    · exfalso
      revert hc
      unfold op_knots; dsimp only; (repeat' split) <;> omega
    · exfalso
      revert hc
      unfold op_knots; dsimp only; (repeat' split) <;> omega
  · refine s_asI (wrI_ofInt _) ?_
    refine s_i2l C dL_knots_7 (wrI_rng _) ?_
    refine s_last C dL_knots_8 sh_228 (by decide) (by have z := wrI_rng r7; omega) ?_
    refine s_nameG (fun σ_8 hσ_8 => ?_)
    refine s_goto (tgt := 15) C dL_knots_9 (by decide) ?_
    refine s_iconst C dL_knots_15 ?_
    refine s_iret C hR dL_knots_16 rfl ⟨_, rfl, ?_⟩ (by decide)
    exact wP.ok hp7 hσ_8
set_option maxRecDepth 100000 in
set_option maxHeartbeats 4000000 in
theorem kL_learn {E : sv_E} {σ : sv_G} {S : st_T} (hS : StOK S) (hN : RN σ S) {x : Int} (hx : -2147483648 ≤ x ∧ x ≤ 2147483647) {y : Int} (hy : -2147483648 ≤ y ∧ y ≤ 2147483647) {z : Int} (hz : -2147483648 ≤ z ∧ z ≤ 2147483647) : CW E ML_learn hhL_learn 91 [vR 0, vI x, vI y, vI z, vR 228] σ (PI fun r σ9 => wP σ σ9 S r (op_learn S x y z)) := by
  refine CW.of (RL, cL_learn, 6, (some .int), tableOf hhL_learn, 91, 4, 24) rfl moL_learn (Nat.le_of_ble_eq_true rfl) (ls0 := [some (vR 0), some (vI x), some (vI y), some (vI z), some (vR 228), none]) rfl ?_
  intro X Q C hR
  refine s_aload C dL_learn_0 rfl ?_
  refine s_iconst C dL_learn_2 ?_
  refine s_aload_n C dL_learn_3 rfl ?_
  refine s_iload_n C dL_learn_4 rfl ?_
  refine s_iload_n C dL_learn_5 rfl ?_
  refine s_iload_n C dL_learn_6 rfl ?_
  refine sc_cV3i (u2 := 4) (w2 := 24) C dL_learn_7 lkL_83 moX7_learn mvX7_learn (kX7_learn hS hN (by omega) (by omega) (by omega)) sh_0 ⟨_, _, rfl⟩ (by decide) (Nat.le_of_ble_eq_true rfl) (by decide) (by decide) (fun En σ9 hx => ?_) (fun r7 σ_7 hp7 => ?_)
  · obtain ⟨⟨hN9, hf9⟩, hx⟩ := hx
    rcases hx with ⟨rfl, hc⟩ | ⟨rfl, hc⟩
    · refine s_catch (ls2 := [some (vR 0), some (vI x), some (vI y), some (vI z), some (vR 228), none]) C (tableOf []) ⟨0, 12, 15, 13⟩ (tableOf [(0, 12, 19, 17)]) rfl (fun z hz => by cases hz) rfl (by decide) lw_13 ca_I dL_learn_15 (by decide) rfl ?_
      refine s_iconst C dL_learn_17 ?_
      refine s_iret C hR dL_learn_18 rfl ⟨_, rfl, ?_⟩ (by decide)
      exact wP.no hc.symm (by decide) hN9 hf9
    · refine s_catch (ls2 := [some (vR 0), some (vI x), some (vI y), some (vI z), some (vR 228), none]) C (tableOf [(0, 12, 15, 13)]) ⟨0, 12, 19, 17⟩ (tableOf []) rfl (fun z hz => by
      rcases List.mem_cons.mp hz with rfl | hz
      · exact ⟨by decide, _, lw_13, by decide +kernel⟩
      cases hz) rfl (by decide) lw_17 ca_S dL_learn_19 (by decide) rfl ?_
      refine s_iconst C dL_learn_21 ?_
      refine s_iret C hR dL_learn_22 rfl ⟨_, rfl, ?_⟩ (by decide)
      exact wP.no hc.symm (by decide) hN9 hf9
  · refine s_asI (wrI_ofInt _) ?_
    refine s_i2l C dL_learn_10 (wrI_rng _) ?_
    refine s_last C dL_learn_11 sh_228 (by decide) (by have z := wrI_rng r7; omega) ?_
    refine s_nameG (fun σ_8 hσ_8 => ?_)
    refine s_goto (tgt := 23) C dL_learn_12 (by decide) ?_
    refine s_iconst C dL_learn_23 ?_
    refine s_iret C hR dL_learn_24 rfl ⟨_, rfl, ?_⟩ (by decide)
    exact wP.ok hp7 hσ_8
set_option maxRecDepth 100000 in
set_option maxHeartbeats 4000000 in
theorem kL_less {E : sv_E} {σ : sv_G} {S : st_T} (hS : StOK S) (hN : RN σ S) {x : Int} (hx : -2147483648 ≤ x ∧ x ≤ 2147483647) {y : Int} (hy : -2147483648 ≤ y ∧ y ≤ 2147483647) {z : Int} (hz : -2147483648 ≤ z ∧ z ≤ 2147483647) {v : Int} (hv : -2147483648 ≤ v ∧ v ≤ 2147483647) : CW E ML_less hhL_less 9 [vR 0, vI x, vI y, vI z, vI v, vR 228] σ (PI fun r σ9 => wP σ σ9 S r (op_less S x y z v)) := by
  refine CW.of (RL, cL_less, 7, (some .int), tableOf hhL_less, 9, 4, 24) rfl moL_less (Nat.le_of_ble_eq_true rfl) (ls0 := [some (vR 0), some (vI x), some (vI y), some (vI z), some (vI v), some (vR 228), none]) rfl ?_
  intro X Q C hR
  refine s_aload C dL_less_0 rfl ?_
  refine s_iconst C dL_less_2 ?_
  refine s_aload_n C dL_less_3 rfl ?_
  refine s_iload_n C dL_less_4 rfl ?_
  refine s_iload_n C dL_less_5 rfl ?_
  refine s_iload_n C dL_less_6 rfl ?_
  refine s_iload C dL_less_7 rfl ?_
  refine sc_cV4i (u2 := 4) (w2 := 24) C dL_less_9 lkL_30 moX7_less mvX7_less (kX7_less hS hN (by omega) (by omega) (by omega) (by omega)) sh_0 ⟨_, _, rfl⟩ (by decide) (Nat.le_of_ble_eq_true rfl) (by decide) (by decide) (fun En σ9 hx => ?_) (fun r7 σ_7 hp7 => ?_)
  · obtain ⟨rfl, hx⟩ := hx
    rcases hx with ⟨rfl, hc⟩ | ⟨rfl, hc⟩ | ⟨rfl, hc⟩
    · refine s_catch (ls2 := [some (vR 0), some (vI x), some (vI y), some (vI z), some (vI v), some (vR 228), none]) C (tableOf []) ⟨0, 14, 17, 13⟩ (tableOf [(0, 14, 21, 15)]) rfl (fun z hz => by cases hz) rfl (by decide) lw_13 ca_I dL_less_17 (by decide) rfl ?_
      refine s_iconst C dL_less_19 ?_
      refine s_iret C hR dL_less_20 rfl ⟨_, rfl, ?_⟩ (by decide)
      exact wP.no hc.symm (by decide) hN (fun _ _ _ => rfl)
    · refine s_catch (ls2 := [some (vR 0), some (vI x), some (vI y), some (vI z), some (vI v), some (vR 228), none]) C (tableOf [(0, 14, 17, 13)]) ⟨0, 14, 21, 15⟩ (tableOf []) rfl (fun z hz => by
      rcases List.mem_cons.mp hz with rfl | hz
      · exact ⟨by decide, _, lw_13, by decide +kernel⟩
      cases hz) rfl (by decide) lw_15 ca_A dL_less_21 (by decide) rfl ?_
      refine s_iconst C dL_less_23 ?_
      refine s_iret C hR dL_less_24 rfl ⟨_, rfl, ?_⟩ (by decide)
      exact wP.no hc.symm (by decide) hN (fun _ _ _ => rfl)
    · exfalso
      revert hc
      unfold op_less; dsimp only; (repeat' split) <;> omega
  · refine s_asI (wrI_ofInt _) ?_
    refine s_i2l C dL_less_12 (wrI_rng _) ?_
    refine s_last C dL_less_13 sh_228 (by decide) (by have z := wrI_rng r7; omega) ?_
    refine s_nameG (fun σ_8 hσ_8 => ?_)
    refine s_goto (tgt := 25) C dL_less_14 (by decide) ?_
    refine s_iconst C dL_less_25 ?_
    refine s_iret C hR dL_less_26 rfl ⟨_, rfl, ?_⟩ (by decide)
    exact wP.ok hp7 hσ_8
set_option maxRecDepth 100000 in
set_option maxHeartbeats 4000000 in
theorem kL_numberOf {E : sv_E} {σ : sv_G} {S : st_T} (hS : StOK S) (hN : RN σ S) {x : Int} (hx : -2147483648 ≤ x ∧ x ≤ 2147483647) {y : Int} (hy : -2147483648 ≤ y ∧ y ≤ 2147483647) : CW E ML_numberOf hhL_numberOf 8 [vR 0, vI x, vI y, vR 228] σ (PI fun r σ9 => wP σ σ9 S r (op_numberOf S x y)) := by
  refine CW.of (RL, cL_numberOf, 5, (some .int), tableOf hhL_numberOf, 8, 2, 12) rfl moL_numberOf (Nat.le_of_ble_eq_true rfl) (ls0 := [some (vR 0), some (vI x), some (vI y), some (vR 228), none]) rfl ?_
  intro X Q C hR
  refine s_aload_n C dL_numberOf_0 rfl ?_
  refine s_iconst C dL_numberOf_1 ?_
  refine s_aload_n C dL_numberOf_2 rfl ?_
  refine s_iload_n C dL_numberOf_3 rfl ?_
  refine s_iload_n C dL_numberOf_4 rfl ?_
  refine sc_cV2i (u2 := 2) (w2 := 12) C dL_numberOf_5 lkL_92 moX7_numberOf mvX7_numberOf (kX7_numberOf hS hN (by omega) (by omega)) sh_0 ⟨_, _, rfl⟩ (by decide) (Nat.le_of_ble_eq_true rfl) (by decide) (by decide) (fun En σ9 hx => ?_) (fun r7 σ_7 hp7 => ?_)
  · obtain ⟨rfl, hx⟩ := hx
    rcases hx with ⟨rfl, hc⟩ | ⟨rfl, hc⟩ | ⟨rfl, hc⟩
    · refine s_catch (ls2 := [some (vR 0), some (vI x), some (vI y), some (vR 228), none]) C (tableOf []) ⟨0, 10, 13, 13⟩ (tableOf []) rfl (fun z hz => by cases hz) rfl (by decide) lw_13 ca_I dL_numberOf_13 (by decide) rfl ?_
      refine s_iconst C dL_numberOf_15 ?_
      refine s_iret C hR dL_numberOf_16 rfl ⟨_, rfl, ?_⟩ (by decide)
      exact wP.no hc.symm (by decide) hN (fun _ _ _ => rfl)
    · exfalso
      revert hc
      unfold op_numberOf; dsimp only; (repeat' split) <;> omega
    · exfalso
      revert hc
      unfold op_numberOf; dsimp only; (repeat' split) <;> omega
  · refine s_asI (wrI_ofInt _) ?_
    refine s_i2l C dL_numberOf_8 (wrI_rng _) ?_
    refine s_last C dL_numberOf_9 sh_228 (by decide) (by have z := wrI_rng r7; omega) ?_
    refine s_nameG (fun σ_8 hσ_8 => ?_)
    refine s_goto (tgt := 17) C dL_numberOf_10 (by decide) ?_
    refine s_iconst C dL_numberOf_17 ?_
    refine s_iret C hR dL_numberOf_18 rfl ⟨_, rfl, ?_⟩ (by decide)
    exact wP.ok hp7 hσ_8
set_option maxRecDepth 100000 in
set_option maxHeartbeats 4000000 in
theorem kL_ordinal {E : sv_E} {σ : sv_G} {S : st_T} (hS : StOK S) (hN : RN σ S) {x : Int} (hx : -2147483648 ≤ x ∧ x ≤ 2147483647) {y : Int} (hy : -2147483648 ≤ y ∧ y ≤ 2147483647) : CW E ML_ordinal hhL_ordinal 9 [vR 0, vI x, vI y, vR 228] σ (PI fun r σ9 => wP σ σ9 S r (op_ordinal S x y)) := by
  refine CW.of (RL, cL_ordinal, 5, (some .int), tableOf hhL_ordinal, 9, 2, 12) rfl moL_ordinal (Nat.le_of_ble_eq_true rfl) (ls0 := [some (vR 0), some (vI x), some (vI y), some (vR 228), none]) rfl ?_
  intro X Q C hR
  refine s_aload_n C dL_ordinal_0 rfl ?_
  refine s_iconst C dL_ordinal_1 ?_
  refine s_aload_n C dL_ordinal_2 rfl ?_
  refine s_iload_n C dL_ordinal_3 rfl ?_
  refine s_iload_n C dL_ordinal_4 rfl ?_
  refine sc_cV2i (u2 := 2) (w2 := 12) C dL_ordinal_5 lkL_37 moX7_ordinal mvX7_ordinal (kX7_ordinal hS hN (by omega) (by omega)) sh_0 ⟨_, _, rfl⟩ (by decide) (Nat.le_of_ble_eq_true rfl) (by decide) (by decide) (fun En σ9 hx => ?_) (fun r7 σ_7 hp7 => ?_)
  · obtain ⟨rfl, hx⟩ := hx
    rcases hx with ⟨rfl, hc⟩ | ⟨rfl, hc⟩ | ⟨rfl, hc⟩
    · refine s_catch (ls2 := [some (vR 0), some (vI x), some (vI y), some (vR 228), none]) C (tableOf []) ⟨0, 10, 13, 13⟩ (tableOf []) rfl (fun z hz => by cases hz) rfl (by decide) lw_13 ca_I dL_ordinal_13 (by decide) rfl ?_
      refine s_iconst C dL_ordinal_15 ?_
      refine s_iret C hR dL_ordinal_16 rfl ⟨_, rfl, ?_⟩ (by decide)
      exact wP.no hc.symm (by decide) hN (fun _ _ _ => rfl)
    · exfalso
      revert hc
      unfold op_ordinal; dsimp only; (repeat' split) <;> omega
    · exfalso
      revert hc
      unfold op_ordinal; dsimp only; (repeat' split) <;> omega
  · refine s_asI (wrI_ofInt _) ?_
    refine s_i2l C dL_ordinal_8 (wrI_rng _) ?_
    refine s_last C dL_ordinal_9 sh_228 (by decide) (by have z := wrI_rng r7; omega) ?_
    refine s_nameG (fun σ_8 hσ_8 => ?_)
    refine s_goto (tgt := 17) C dL_ordinal_10 (by decide) ?_
    refine s_iconst C dL_ordinal_17 ?_
    refine s_iret C hR dL_ordinal_18 rfl ⟨_, rfl, ?_⟩ (by decide)
    exact wP.ok hp7 hσ_8
set_option maxRecDepth 100000 in
set_option maxHeartbeats 4000000 in
theorem kL_said {E : sv_E} {σ : sv_G} {S : st_T} (hS : StOK S) (hN : RN σ S) {x : Int} (hx : -2147483648 ≤ x ∧ x ≤ 2147483647) : CW E ML_said hhL_said 7 [vR 0, vI x, vR 228] σ (PI fun r σ9 => wP σ σ9 S r (op_said S x)) := by
  refine CW.of (RL, cL_said, 4, (some .int), tableOf hhL_said, 7, 1, 6) rfl moL_said (Nat.le_of_ble_eq_true rfl) (ls0 := [some (vR 0), some (vI x), some (vR 228), none]) rfl ?_
  intro X Q C hR
  refine s_aload_n C dL_said_0 rfl ?_
  refine s_iconst C dL_said_1 ?_
  refine s_aload_n C dL_said_2 rfl ?_
  refine s_iload_n C dL_said_3 rfl ?_
  refine sc_cV1i (u2 := 1) (w2 := 6) C dL_said_4 lkL_56 moX7_said mvX7_said (kX7_said hS hN (by omega)) sh_0 ⟨_, _, rfl⟩ (by decide) (Nat.le_of_ble_eq_true rfl) (by decide) (by decide) (fun En σ9 hx => ?_) (fun r7 σ_7 hp7 => ?_)
  · obtain ⟨rfl, hx⟩ := hx
    rcases hx with ⟨rfl, hc⟩ | ⟨rfl, hc⟩ | ⟨rfl, hc⟩
    · refine s_catch_n (ls2 := [some (vR 0), some (vI x), some (vR 228), none]) C (tableOf []) ⟨0, 9, 12, 13⟩ (tableOf []) rfl (fun z hz => by cases hz) rfl (by decide) lw_13 ca_I dL_said_12 (by decide) rfl ?_
      refine s_iconst C dL_said_13 ?_
      refine s_iret C hR dL_said_14 rfl ⟨_, rfl, ?_⟩ (by decide)
      exact wP.no hc.symm (by decide) hN (fun _ _ _ => rfl)
    · exfalso
      revert hc
      unfold op_said; dsimp only; (repeat' split) <;> omega
    · exfalso
      revert hc
      unfold op_said; dsimp only; (repeat' split) <;> omega
  · refine s_asI (wrI_ofInt _) ?_
    refine s_i2l C dL_said_7 (wrI_rng _) ?_
    refine s_last C dL_said_8 sh_228 (by decide) (by have z := wrI_rng r7; omega) ?_
    refine s_nameG (fun σ_8 hσ_8 => ?_)
    refine s_goto (tgt := 15) C dL_said_9 (by decide) ?_
    refine s_iconst C dL_said_15 ?_
    refine s_iret C hR dL_said_16 rfl ⟨_, rfl, ?_⟩ (by decide)
    exact wP.ok hp7 hσ_8
set_option maxRecDepth 100000 in
set_option maxHeartbeats 4000000 in
theorem kL_say {E : sv_E} {σ : sv_G} {S : st_T} (hS : StOK S) (hN : RN σ S) {x : Int} (hx : -2147483648 ≤ x ∧ x ≤ 2147483647) {y : Int} (hy : -2147483648 ≤ y ∧ y ≤ 2147483647) {z : Int} (hz : -2147483648 ≤ z ∧ z ≤ 2147483647) : CW E ML_say hhL_say 89 [vR 0, vI x, vI y, vI z, vR 228] σ (PI fun r σ9 => wP σ σ9 S r (op_say S x y z)) := by
  refine CW.of (RL, cL_say, 6, (some .int), tableOf hhL_say, 89, 3, 18) rfl moL_say (Nat.le_of_ble_eq_true rfl) (ls0 := [some (vR 0), some (vI x), some (vI y), some (vI z), some (vR 228), none]) rfl ?_
  intro X Q C hR
  refine s_aload C dL_say_0 rfl ?_
  refine s_iconst C dL_say_2 ?_
  refine s_aload_n C dL_say_3 rfl ?_
  refine s_iload_n C dL_say_4 rfl ?_
  refine s_iload_n C dL_say_5 rfl ?_
  refine s_iload_n C dL_say_6 rfl ?_
  refine sc_cV3i (u2 := 3) (w2 := 18) C dL_say_7 lkL_47 moX7_say mvX7_say (kX7_say hS hN (by omega) (by omega) (by omega)) sh_0 ⟨_, _, rfl⟩ (by decide) (Nat.le_of_ble_eq_true rfl) (by decide) (by decide) (fun En σ9 hx => ?_) (fun r7 σ_7 hp7 => ?_)
  · obtain ⟨rfl, hx⟩ := hx
    rcases hx with ⟨rfl, hc⟩ | ⟨rfl, hc⟩ | ⟨rfl, hc⟩
    · refine s_catch (ls2 := [some (vR 0), some (vI x), some (vI y), some (vI z), some (vR 228), none]) C (tableOf []) ⟨0, 12, 15, 13⟩ (tableOf [(0, 12, 19, 15)]) rfl (fun z hz => by cases hz) rfl (by decide) lw_13 ca_I dL_say_15 (by decide) rfl ?_
      refine s_iconst C dL_say_17 ?_
      refine s_iret C hR dL_say_18 rfl ⟨_, rfl, ?_⟩ (by decide)
      exact wP.no hc.symm (by decide) hN (fun _ _ _ => rfl)
    · refine s_catch (ls2 := [some (vR 0), some (vI x), some (vI y), some (vI z), some (vR 228), none]) C (tableOf [(0, 12, 15, 13)]) ⟨0, 12, 19, 15⟩ (tableOf []) rfl (fun z hz => by
      rcases List.mem_cons.mp hz with rfl | hz
      · exact ⟨by decide, _, lw_13, by decide +kernel⟩
      cases hz) rfl (by decide) lw_15 ca_A dL_say_19 (by decide) rfl ?_
      refine s_iconst C dL_say_21 ?_
      refine s_iret C hR dL_say_22 rfl ⟨_, rfl, ?_⟩ (by decide)
      exact wP.no hc.symm (by decide) hN (fun _ _ _ => rfl)
    · exfalso
      revert hc
      unfold op_say; dsimp only; (repeat' split) <;> omega
  · refine s_asI (wrI_ofInt _) ?_
    refine s_i2l C dL_say_10 (wrI_rng _) ?_
    refine s_last C dL_say_11 sh_228 (by decide) (by have z := wrI_rng r7; omega) ?_
    refine s_nameG (fun σ_8 hσ_8 => ?_)
    refine s_goto (tgt := 23) C dL_say_12 (by decide) ?_
    refine s_iconst C dL_say_23 ?_
    refine s_iret C hR dL_say_24 rfl ⟨_, rfl, ?_⟩ (by decide)
    exact wP.ok hp7 hσ_8
set_option maxRecDepth 100000 in
set_option maxHeartbeats 4000000 in
theorem kL_sayFraction {E : sv_E} {σ : sv_G} {S : st_T} (hS : StOK S) (hN : RN σ S) {x : Int} (hx : -2147483648 ≤ x ∧ x ≤ 2147483647) {y : Int} (hy : -2147483648 ≤ y ∧ y ≤ 2147483647) {z : Int} (hz : -2147483648 ≤ z ∧ z ≤ 2147483647) {v : Int} (hv : -2147483648 ≤ v ∧ v ≤ 2147483647) : CW E ML_sayFraction hhL_sayFraction 89 [vR 0, vI x, vI y, vI z, vI v, vR 228] σ (PI fun r σ9 => wP σ σ9 S r (op_sayFraction S x y z v)) := by
  refine CW.of (RL, cL_sayFraction, 7, (some .int), tableOf hhL_sayFraction, 89, 4, 24) rfl moL_sayFraction (Nat.le_of_ble_eq_true rfl) (ls0 := [some (vR 0), some (vI x), some (vI y), some (vI z), some (vI v), some (vR 228), none]) rfl ?_
  intro X Q C hR
  refine s_aload C dL_sayFraction_0 rfl ?_
  refine s_iconst C dL_sayFraction_2 ?_
  refine s_aload_n C dL_sayFraction_3 rfl ?_
  refine s_iload_n C dL_sayFraction_4 rfl ?_
  refine s_iload_n C dL_sayFraction_5 rfl ?_
  refine s_iload_n C dL_sayFraction_6 rfl ?_
  refine s_iload C dL_sayFraction_7 rfl ?_
  refine sc_cV4i (u2 := 4) (w2 := 24) C dL_sayFraction_9 lkL_53 moX7_sayFraction mvX7_sayFraction (kX7_sayFraction hS hN (by omega) (by omega) (by omega) (by omega)) sh_0 ⟨_, _, rfl⟩ (by decide) (Nat.le_of_ble_eq_true rfl) (by decide) (by decide) (fun En σ9 hx => ?_) (fun r7 σ_7 hp7 => ?_)
  · obtain ⟨rfl, hx⟩ := hx
    rcases hx with ⟨rfl, hc⟩ | ⟨rfl, hc⟩ | ⟨rfl, hc⟩
    · refine s_catch (ls2 := [some (vR 0), some (vI x), some (vI y), some (vI z), some (vI v), some (vR 228), none]) C (tableOf []) ⟨0, 14, 17, 13⟩ (tableOf [(0, 14, 21, 15)]) rfl (fun z hz => by cases hz) rfl (by decide) lw_13 ca_I dL_sayFraction_17 (by decide) rfl ?_
      refine s_iconst C dL_sayFraction_19 ?_
      refine s_iret C hR dL_sayFraction_20 rfl ⟨_, rfl, ?_⟩ (by decide)
      exact wP.no hc.symm (by decide) hN (fun _ _ _ => rfl)
    · refine s_catch (ls2 := [some (vR 0), some (vI x), some (vI y), some (vI z), some (vI v), some (vR 228), none]) C (tableOf [(0, 14, 17, 13)]) ⟨0, 14, 21, 15⟩ (tableOf []) rfl (fun z hz => by
      rcases List.mem_cons.mp hz with rfl | hz
      · exact ⟨by decide, _, lw_13, by decide +kernel⟩
      cases hz) rfl (by decide) lw_15 ca_A dL_sayFraction_21 (by decide) rfl ?_
      refine s_iconst C dL_sayFraction_23 ?_
      refine s_iret C hR dL_sayFraction_24 rfl ⟨_, rfl, ?_⟩ (by decide)
      exact wP.no hc.symm (by decide) hN (fun _ _ _ => rfl)
    · exfalso
      revert hc
      unfold op_sayFraction; dsimp only; (repeat' split) <;> omega
  · refine s_asI (wrI_ofInt _) ?_
    refine s_i2l C dL_sayFraction_12 (wrI_rng _) ?_
    refine s_last C dL_sayFraction_13 sh_228 (by decide) (by have z := wrI_rng r7; omega) ?_
    refine s_nameG (fun σ_8 hσ_8 => ?_)
    refine s_goto (tgt := 25) C dL_sayFraction_14 (by decide) ?_
    refine s_iconst C dL_sayFraction_25 ?_
    refine s_iret C hR dL_sayFraction_26 rfl ⟨_, rfl, ?_⟩ (by decide)
    exact wP.ok hp7 hσ_8
set_option maxRecDepth 100000 in
set_option maxHeartbeats 4000000 in
theorem kL_sayOrdinal {E : sv_E} {σ : sv_G} {S : st_T} (hS : StOK S) (hN : RN σ S) {x : Int} (hx : -2147483648 ≤ x ∧ x ≤ 2147483647) {y : Int} (hy : -2147483648 ≤ y ∧ y ≤ 2147483647) : CW E ML_sayOrdinal hhL_sayOrdinal 89 [vR 0, vI x, vI y, vR 228] σ (PI fun r σ9 => wP σ σ9 S r (op_sayOrdinal S x y)) := by
  refine CW.of (RL, cL_sayOrdinal, 5, (some .int), tableOf hhL_sayOrdinal, 89, 2, 12) rfl moL_sayOrdinal (Nat.le_of_ble_eq_true rfl) (ls0 := [some (vR 0), some (vI x), some (vI y), some (vR 228), none]) rfl ?_
  intro X Q C hR
  refine s_aload_n C dL_sayOrdinal_0 rfl ?_
  refine s_iconst C dL_sayOrdinal_1 ?_
  refine s_aload_n C dL_sayOrdinal_2 rfl ?_
  refine s_iload_n C dL_sayOrdinal_3 rfl ?_
  refine s_iload_n C dL_sayOrdinal_4 rfl ?_
  refine sc_cV2i (u2 := 2) (w2 := 12) C dL_sayOrdinal_5 lkL_50 moX7_sayOrdinal mvX7_sayOrdinal (kX7_sayOrdinal hS hN (by omega) (by omega)) sh_0 ⟨_, _, rfl⟩ (by decide) (Nat.le_of_ble_eq_true rfl) (by decide) (by decide) (fun En σ9 hx => ?_) (fun r7 σ_7 hp7 => ?_)
  · obtain ⟨rfl, hx⟩ := hx
    rcases hx with ⟨rfl, hc⟩ | ⟨rfl, hc⟩ | ⟨rfl, hc⟩
    · refine s_catch (ls2 := [some (vR 0), some (vI x), some (vI y), some (vR 228), none]) C (tableOf []) ⟨0, 10, 13, 13⟩ (tableOf [(0, 10, 17, 15)]) rfl (fun z hz => by cases hz) rfl (by decide) lw_13 ca_I dL_sayOrdinal_13 (by decide) rfl ?_
      refine s_iconst C dL_sayOrdinal_15 ?_
      refine s_iret C hR dL_sayOrdinal_16 rfl ⟨_, rfl, ?_⟩ (by decide)
      exact wP.no hc.symm (by decide) hN (fun _ _ _ => rfl)
    · refine s_catch (ls2 := [some (vR 0), some (vI x), some (vI y), some (vR 228), none]) C (tableOf [(0, 10, 13, 13)]) ⟨0, 10, 17, 15⟩ (tableOf []) rfl (fun z hz => by
      rcases List.mem_cons.mp hz with rfl | hz
      · exact ⟨by decide, _, lw_13, by decide +kernel⟩
      cases hz) rfl (by decide) lw_15 ca_A dL_sayOrdinal_17 (by decide) rfl ?_
      refine s_iconst C dL_sayOrdinal_19 ?_
      refine s_iret C hR dL_sayOrdinal_20 rfl ⟨_, rfl, ?_⟩ (by decide)
      exact wP.no hc.symm (by decide) hN (fun _ _ _ => rfl)
    · exfalso
      revert hc
      unfold op_sayOrdinal; dsimp only; (repeat' split) <;> omega
  · refine s_asI (wrI_ofInt _) ?_
    refine s_i2l C dL_sayOrdinal_8 (wrI_rng _) ?_
    refine s_last C dL_sayOrdinal_9 sh_228 (by decide) (by have z := wrI_rng r7; omega) ?_
    refine s_nameG (fun σ_8 hσ_8 => ?_)
    refine s_goto (tgt := 21) C dL_sayOrdinal_10 (by decide) ?_
    refine s_iconst C dL_sayOrdinal_21 ?_
    refine s_iret C hR dL_sayOrdinal_22 rfl ⟨_, rfl, ?_⟩ (by decide)
    exact wP.ok hp7 hσ_8
set_option maxRecDepth 100000 in
set_option maxHeartbeats 4000000 in
theorem kL_seam {E : sv_E} {σ : sv_G} {S : st_T} (hS : StOK S) (hN : RN σ S) {x : Int} (hx : -2147483648 ≤ x ∧ x ≤ 2147483647) {y : Int} (hy : -2147483648 ≤ y ∧ y ≤ 2147483647) {z : Int} (hz : -2147483648 ≤ z ∧ z ≤ 2147483647) {v : Int} (hv : -2147483648 ≤ v ∧ v ≤ 2147483647) : CW E ML_seam hhL_seam 9 [vR 0, vI x, vI y, vI z, vI v, vR 228] σ (PI fun r σ9 => wP σ σ9 S r (op_seam S x y z v)) := by
  refine CW.of (RL, cL_seam, 7, (some .int), tableOf hhL_seam, 9, 5, 30) rfl moL_seam (Nat.le_of_ble_eq_true rfl) (ls0 := [some (vR 0), some (vI x), some (vI y), some (vI z), some (vI v), some (vR 228), none]) rfl ?_
  intro X Q C hR
  refine s_aload C dL_seam_0 rfl ?_
  refine s_iconst C dL_seam_2 ?_
  refine s_aload_n C dL_seam_3 rfl ?_
  refine s_iload_n C dL_seam_4 rfl ?_
  refine s_iload_n C dL_seam_5 rfl ?_
  refine s_iload_n C dL_seam_6 rfl ?_
  refine s_iload C dL_seam_7 rfl ?_
  refine sc_cV4i (u2 := 5) (w2 := 30) C dL_seam_9 lkL_40 moX7_seam mvX7_seam (kX7_seam hS hN (by omega) (by omega) (by omega) (by omega)) sh_0 ⟨_, _, rfl⟩ (by decide) (Nat.le_of_ble_eq_true rfl) (by decide) (by decide) (fun En σ9 hx => ?_) (fun r7 σ_7 hp7 => ?_)
  · obtain ⟨rfl, hx⟩ := hx
    rcases hx with ⟨rfl, hc⟩ | ⟨rfl, hc⟩ | ⟨rfl, hc⟩
    · refine s_catch (ls2 := [some (vR 0), some (vI x), some (vI y), some (vI z), some (vI v), some (vR 228), none]) C (tableOf []) ⟨0, 14, 17, 13⟩ (tableOf [(0, 14, 21, 17)]) rfl (fun z hz => by cases hz) rfl (by decide) lw_13 ca_I dL_seam_17 (by decide) rfl ?_
      refine s_iconst C dL_seam_19 ?_
      refine s_iret C hR dL_seam_20 rfl ⟨_, rfl, ?_⟩ (by decide)
      exact wP.no hc.symm (by decide) hN (fun _ _ _ => rfl)
    · refine s_catch (ls2 := [some (vR 0), some (vI x), some (vI y), some (vI z), some (vI v), some (vR 228), none]) C (tableOf [(0, 14, 17, 13)]) ⟨0, 14, 21, 17⟩ (tableOf []) rfl (fun z hz => by
      rcases List.mem_cons.mp hz with rfl | hz
      · exact ⟨by decide, _, lw_13, by decide +kernel⟩
      cases hz) rfl (by decide) lw_17 ca_S dL_seam_21 (by decide) rfl ?_
      refine s_iconst C dL_seam_23 ?_
      refine s_iret C hR dL_seam_24 rfl ⟨_, rfl, ?_⟩ (by decide)
      exact wP.no hc.symm (by decide) hN (fun _ _ _ => rfl)
    · exfalso
      revert hc
      unfold op_seam; dsimp only; (repeat' split) <;> omega
  · refine s_asI (wrI_ofInt _) ?_
    refine s_i2l C dL_seam_12 (wrI_rng _) ?_
    refine s_last C dL_seam_13 sh_228 (by decide) (by have z := wrI_rng r7; omega) ?_
    refine s_nameG (fun σ_8 hσ_8 => ?_)
    refine s_goto (tgt := 25) C dL_seam_14 (by decide) ?_
    refine s_iconst C dL_seam_25 ?_
    refine s_iret C hR dL_seam_26 rfl ⟨_, rfl, ?_⟩ (by decide)
    exact wP.ok hp7 hσ_8
set_option maxRecDepth 100000 in
set_option maxHeartbeats 4000000 in
theorem kL_settings {E : sv_E} {σ : sv_G} {S : st_T} (hS : StOK S) (hN : RN σ S) {x : Int} (hx : -2147483648 ≤ x ∧ x ≤ 2147483647) {y : Int} (hy : -2147483648 ≤ y ∧ y ≤ 2147483647) {z : Int} (hz : -2147483648 ≤ z ∧ z ≤ 2147483647) : CW E ML_settings hhL_settings 91 [vR 0, vI x, vI y, vI z, vR 228] σ (PI fun r σ9 => wP σ σ9 S r (op_settings S x y z)) := by
  refine CW.of (RL, cL_settings, 6, (some .int), tableOf hhL_settings, 91, 3, 18) rfl moL_settings (Nat.le_of_ble_eq_true rfl) (ls0 := [some (vR 0), some (vI x), some (vI y), some (vI z), some (vR 228), none]) rfl ?_
  intro X Q C hR
  refine s_aload C dL_settings_0 rfl ?_
  refine s_iconst C dL_settings_2 ?_
  refine s_aload_n C dL_settings_3 rfl ?_
  refine s_iload_n C dL_settings_4 rfl ?_
  refine s_iload_n C dL_settings_5 rfl ?_
  refine s_iload_n C dL_settings_6 rfl ?_
  refine sc_cV3i (u2 := 3) (w2 := 18) C dL_settings_7 lkL_80 moX7_settings mvX7_settings (kX7_settings hS hN (by omega) (by omega) (by omega)) sh_0 ⟨_, _, rfl⟩ (by decide) (Nat.le_of_ble_eq_true rfl) (by decide) (by decide) (fun En σ9 hx => ?_) (fun r7 σ_7 hp7 => ?_)
  · obtain ⟨rfl, hx⟩ := hx
    rcases hx with ⟨rfl, hc⟩ | ⟨rfl, hc⟩ | ⟨rfl, hc⟩
    · refine s_catch (ls2 := [some (vR 0), some (vI x), some (vI y), some (vI z), some (vR 228), none]) C (tableOf []) ⟨0, 12, 15, 13⟩ (tableOf []) rfl (fun z hz => by cases hz) rfl (by decide) lw_13 ca_I dL_settings_15 (by decide) rfl ?_
      refine s_iconst C dL_settings_17 ?_
      refine s_iret C hR dL_settings_18 rfl ⟨_, rfl, ?_⟩ (by decide)
      exact wP.no hc.symm (by decide) hN (fun _ _ _ => rfl)
    · exfalso
      revert hc
      unfold op_settings; dsimp only; (repeat' split) <;> omega
    · exfalso
      revert hc
      unfold op_settings; dsimp only; (repeat' split) <;> omega
  · refine s_asI (wrI_ofInt _) ?_
    refine s_i2l C dL_settings_10 (wrI_rng _) ?_
    refine s_last C dL_settings_11 sh_228 (by decide) (by have z := wrI_rng r7; omega) ?_
    refine s_nameG (fun σ_8 hσ_8 => ?_)
    refine s_goto (tgt := 19) C dL_settings_12 (by decide) ?_
    refine s_iconst C dL_settings_19 ?_
    refine s_iret C hR dL_settings_20 rfl ⟨_, rfl, ?_⟩ (by decide)
    exact wP.ok hp7 hσ_8
