/-! The law's asks. -/
def aP (σ σ9 : sv_G) (S : st_T) (r : Int) (o : op_T) (e1 e2 e3 : Int) : Prop := (o.1 = 0 → r = o.2.1 ∧ RN σ9 o.2.2 ∧ StOK o.2.2) ∧ (o.1 ≠ 0 → RN σ9 S) ∧ (o.1 = 1 → r = e1) ∧ (o.1 = 2 → r = e2) ∧ (o.1 = 3 → r = e3) ∧ frC σ σ9
theorem aP.ok {σ σ9 : sv_G} {S : st_T} {r e1 e2 e3 : Int} {o : op_T} (h : oP σ σ9 r o) : aP σ σ9 S r o e1 e2 e3 := by
  obtain ⟨h1, h2, h3, h4, h5⟩ := h
  exact ⟨fun _ => ⟨h2, h3, h4⟩, fun z => absurd h1 z, fun z => by omega, fun z => by omega, fun z => by omega, h5⟩
theorem aP.no {σ σ9 : sv_G} {S : st_T} {r e1 e2 e3 : Int} {o : op_T} (hN : RN σ9 S) (hf : frC σ σ9) (h : (o.1 = 1 ∧ r = e1) ∨ (o.1 = 2 ∧ r = e2) ∨ (o.1 = 3 ∧ r = e3)) : aP σ σ9 S r o e1 e2 e3 :=
  ⟨fun z => by omega, fun _ => hN, fun z => by omega, fun z => by omega, fun z => by omega, hf⟩
theorem lw_43 : Cond.classLink RL 43 xI ∈ LW := LW_in 481 (by decide +kernel) rfl
theorem ca_I : Cond.castable xI xI ∈ NW := NW_in 314 (by decide +kernel) rfl
theorem lw_46 : Cond.classLink RL 46 xA ∈ LW := LW_in 482 (by decide +kernel) rfl
theorem ca_A : Cond.castable xA xA ∈ NW := NW_in 393 (by decide +kernel) rfl
theorem lw_49 : Cond.classLink RL 49 xS ∈ LW := LW_in 483 (by decide +kernel) rfl
theorem ca_S : Cond.castable xS xS ∈ NW := NW_in 499 (by decide +kernel) rfl
set_option maxRecDepth 100000 in
set_option maxHeartbeats 4000000 in
theorem kL_asks_atom {E : sv_E} {σ : sv_G} {S : st_T} (hS : StOK S) (hN : RN σ S) {x : Int} (hx : -2147483648 ≤ x ∧ x ≤ 2147483647) {y : Int} (hy : -2147483648 ≤ y ∧ y ≤ 2147483647) {z : Int} (hz : -2147483648 ≤ z ∧ z ≤ 2147483647) {q0 : Int} {q1 : Int} : CW E ML_asks hhL_asks 96 [vR 0, vI 0, vI x, vI y, vI z, vI q0, vI q1] σ (PI fun r σ9 => aP σ σ9 S r (op_atom S x y z) (-70007) (-70009) (-70008)) := by
  refine CW.of (RL, cL_asks, 8, (some .int), tableOf hhL_asks, 96, 9, 54) rfl moL_asks (Nat.le_of_ble_eq_true rfl) (ls0 := [some (vR 0), some (vI 0), some (vI x), some (vI y), some (vI z), some (vI q0), some (vI q1), none]) rfl ?_
  intro X Q C hR
  refine s_iload_n C dL_asks_0 rfl ?_
  refine s_if_ne (tgt := 15) C dL_asks_1 (by decide) (by omega) (fun c1 => ?_) (fun c1 => ?_)
  · exfalso; omega
  refine s_aload_n C dL_asks_4 rfl ?_
  refine s_iload_n C dL_asks_5 rfl ?_
  refine s_iload_n C dL_asks_6 rfl ?_
  refine s_iload C dL_asks_7 rfl ?_
  refine sc_cV3i (u2 := 4) (w2 := 24) C dL_asks_9 lkL_10 moX7_atom mvX7_atom (kX7_atom hS hN (by omega) (by omega) (by omega)) sh_0 ⟨_, _, rfl⟩ (Nat.le_of_ble_eq_true rfl) (Nat.le_of_ble_eq_true rfl) (by decide) (by decide) (fun En σ9 hx => ?_) (fun r7 σ_7 hp7 => ?_)
  · obtain ⟨rfl, hx⟩ := hx
    rcases hx with ⟨rfl, hc⟩ | ⟨rfl, hc⟩ | ⟨rfl, hc⟩
    · refine s_catch (ls2 := [some (vR 0), some (vI 0), some (vI x), some (vI y), some (vI z), some (vI q0), some (vI q1), none]) C (tableOf []) ⟨0, 136, 137, 43⟩ (tableOf [(0, 136, 142, 46), (0, 136, 147, 49)]) rfl (fun z hz => by cases hz) rfl (by decide) lw_43 ca_I dL_asks_137 (by decide) rfl ?_
      refine s_ldc (n := (-70007)) C dL_asks_139 lcc_45 rfl ?_
      refine s_iret C hR dL_asks_141 rfl ⟨_, rfl, ?_⟩ (by decide)
      exact aP.no hN (fun _ _ _ => rfl) (by omega)
    · refine s_catch (ls2 := [some (vR 0), some (vI 0), some (vI x), some (vI y), some (vI z), some (vI q0), some (vI q1), none]) C (tableOf [(0, 136, 137, 43)]) ⟨0, 136, 142, 46⟩ (tableOf [(0, 136, 147, 49)]) rfl (fun z hz => by
      rcases List.mem_cons.mp hz with rfl | hz
      · exact ⟨by decide, _, lw_43, by decide +kernel⟩
      cases hz) rfl (by decide) lw_46 ca_A dL_asks_142 (by decide) rfl ?_
      refine s_ldc (n := (-70009)) C dL_asks_144 lcc_48 rfl ?_
      refine s_iret C hR dL_asks_146 rfl ⟨_, rfl, ?_⟩ (by decide)
      exact aP.no hN (fun _ _ _ => rfl) (by omega)
    · refine s_catch (ls2 := [some (vR 0), some (vI 0), some (vI x), some (vI y), some (vI z), some (vI q0), some (vI q1), none]) C (tableOf [(0, 136, 137, 43), (0, 136, 142, 46)]) ⟨0, 136, 147, 49⟩ (tableOf []) rfl (fun z hz => by
      rcases List.mem_cons.mp hz with rfl | hz
      · exact ⟨by decide, _, lw_43, by decide +kernel⟩
      rcases List.mem_cons.mp hz with rfl | hz
      · exact ⟨by decide, _, lw_46, by decide +kernel⟩
      cases hz) rfl (by decide) lw_49 ca_S dL_asks_147 (by decide) rfl ?_
      refine s_ldc (n := (-70008)) C dL_asks_149 lcc_51 rfl ?_
      refine s_iret C hR dL_asks_151 rfl ⟨_, rfl, ?_⟩ (by decide)
      exact aP.no hN (fun _ _ _ => rfl) (by omega)
  · refine s_goto (tgt := 136) C dL_asks_12 (by decide) ?_
    refine s_iret C hR dL_asks_136 rfl ⟨_, rfl, ?_⟩ (by decide)
    exact aP.ok hp7
set_option maxRecDepth 100000 in
set_option maxHeartbeats 4000000 in
theorem kL_asks_base {E : sv_E} {σ : sv_G} {S : st_T} (hS : StOK S) (hN : RN σ S) {x : Int} (hx : -2147483648 ≤ x ∧ x ≤ 2147483647) {y : Int} (hy : -2147483648 ≤ y ∧ y ≤ 2147483647) {z : Int} (hz : -2147483648 ≤ z ∧ z ≤ 2147483647) {v : Int} (hv : -2147483648 ≤ v ∧ v ≤ 2147483647) {w : Int} (hw : -2147483648 ≤ w ∧ w ≤ 2147483647) : CW E ML_asks hhL_asks 96 [vR 0, vI 1, vI x, vI y, vI z, vI v, vI w] σ (PI fun r σ9 => aP σ σ9 S r (op_base S x y z v w) (-70007) (-70009) (-70008)) := by
  refine CW.of (RL, cL_asks, 8, (some .int), tableOf hhL_asks, 96, 9, 54) rfl moL_asks (Nat.le_of_ble_eq_true rfl) (ls0 := [some (vR 0), some (vI 1), some (vI x), some (vI y), some (vI z), some (vI v), some (vI w), none]) rfl ?_
  intro X Q C hR
  refine s_iload_n C dL_asks_0 rfl ?_
  refine s_if_ne (tgt := 15) C dL_asks_1 (by decide) (by omega) (fun c1 => ?_) (fun c1 => ?_)
  rotate_left
  · exfalso; omega
  refine s_iload_n C dL_asks_15 rfl ?_
  refine s_iconst C dL_asks_16 ?_
  refine s_icmp_ne (tgt := 35) C dL_asks_17 (by decide) (by omega) (by omega) (fun c17 => ?_) (fun c17 => ?_)
  · exfalso; omega
  refine s_aload_n C dL_asks_20 rfl ?_
  refine s_iload_n C dL_asks_21 rfl ?_
  refine s_iload_n C dL_asks_22 rfl ?_
  refine s_iload C dL_asks_23 rfl ?_
  refine s_iload C dL_asks_25 rfl ?_
  refine s_iload C dL_asks_27 rfl ?_
  refine sc_cV5i (u2 := 6) (w2 := 36) C dL_asks_29 lkL_16 moX7_base mvX7_base (kX7_base hS hN (by omega) (by omega) (by omega) (by omega) (by omega)) sh_0 ⟨_, _, rfl⟩ (Nat.le_of_ble_eq_true rfl) (Nat.le_of_ble_eq_true rfl) (by decide) (by decide) (fun En σ9 hx => ?_) (fun r7 σ_7 hp7 => ?_)
  · obtain ⟨rfl, hx⟩ := hx
    rcases hx with ⟨rfl, hc⟩ | ⟨rfl, hc⟩ | ⟨rfl, hc⟩
    · refine s_catch (ls2 := [some (vR 0), some (vI 1), some (vI x), some (vI y), some (vI z), some (vI v), some (vI w), none]) C (tableOf []) ⟨0, 136, 137, 43⟩ (tableOf [(0, 136, 142, 46), (0, 136, 147, 49)]) rfl (fun z hz => by cases hz) rfl (by decide) lw_43 ca_I dL_asks_137 (by decide) rfl ?_
      refine s_ldc (n := (-70007)) C dL_asks_139 lcc_45 rfl ?_
      refine s_iret C hR dL_asks_141 rfl ⟨_, rfl, ?_⟩ (by decide)
      exact aP.no hN (fun _ _ _ => rfl) (by omega)
    · refine s_catch (ls2 := [some (vR 0), some (vI 1), some (vI x), some (vI y), some (vI z), some (vI v), some (vI w), none]) C (tableOf [(0, 136, 137, 43)]) ⟨0, 136, 142, 46⟩ (tableOf [(0, 136, 147, 49)]) rfl (fun z hz => by
      rcases List.mem_cons.mp hz with rfl | hz
      · exact ⟨by decide, _, lw_43, by decide +kernel⟩
      cases hz) rfl (by decide) lw_46 ca_A dL_asks_142 (by decide) rfl ?_
      refine s_ldc (n := (-70009)) C dL_asks_144 lcc_48 rfl ?_
      refine s_iret C hR dL_asks_146 rfl ⟨_, rfl, ?_⟩ (by decide)
      exact aP.no hN (fun _ _ _ => rfl) (by omega)
    · refine s_catch (ls2 := [some (vR 0), some (vI 1), some (vI x), some (vI y), some (vI z), some (vI v), some (vI w), none]) C (tableOf [(0, 136, 137, 43), (0, 136, 142, 46)]) ⟨0, 136, 147, 49⟩ (tableOf []) rfl (fun z hz => by
      rcases List.mem_cons.mp hz with rfl | hz
      · exact ⟨by decide, _, lw_43, by decide +kernel⟩
      rcases List.mem_cons.mp hz with rfl | hz
      · exact ⟨by decide, _, lw_46, by decide +kernel⟩
      cases hz) rfl (by decide) lw_49 ca_S dL_asks_147 (by decide) rfl ?_
      refine s_ldc (n := (-70008)) C dL_asks_149 lcc_51 rfl ?_
      refine s_iret C hR dL_asks_151 rfl ⟨_, rfl, ?_⟩ (by decide)
      exact aP.no hN (fun _ _ _ => rfl) (by omega)
  · refine s_goto (tgt := 136) C dL_asks_32 (by decide) ?_
    refine s_iret C hR dL_asks_136 rfl ⟨_, rfl, ?_⟩ (by decide)
    exact aP.ok hp7
set_option maxRecDepth 100000 in
set_option maxHeartbeats 4000000 in
theorem kL_asks_form {E : sv_E} {σ : sv_G} {S : st_T} (hS : StOK S) (hN : RN σ S) {x : Int} (hx : -2147483648 ≤ x ∧ x ≤ 2147483647) {y : Int} (hy : -2147483648 ≤ y ∧ y ≤ 2147483647) {z : Int} (hz : -2147483648 ≤ z ∧ z ≤ 2147483647) {v : Int} (hv : -2147483648 ≤ v ∧ v ≤ 2147483647) {q0 : Int} : CW E ML_asks hhL_asks 96 [vR 0, vI 2, vI x, vI y, vI z, vI v, vI q0] σ (PI fun r σ9 => aP σ σ9 S r (op_form S x y z v) (-70007) (-70009) (-70008)) := by
  refine CW.of (RL, cL_asks, 8, (some .int), tableOf hhL_asks, 96, 9, 54) rfl moL_asks (Nat.le_of_ble_eq_true rfl) (ls0 := [some (vR 0), some (vI 2), some (vI x), some (vI y), some (vI z), some (vI v), some (vI q0), none]) rfl ?_
  intro X Q C hR
  refine s_iload_n C dL_asks_0 rfl ?_
  refine s_if_ne (tgt := 15) C dL_asks_1 (by decide) (by omega) (fun c1 => ?_) (fun c1 => ?_)
  rotate_left
  · exfalso; omega
  refine s_iload_n C dL_asks_15 rfl ?_
  refine s_iconst C dL_asks_16 ?_
  refine s_icmp_ne (tgt := 35) C dL_asks_17 (by decide) (by omega) (by omega) (fun c17 => ?_) (fun c17 => ?_)
  rotate_left
  · exfalso; omega
  refine s_iload_n C dL_asks_35 rfl ?_
  refine s_iconst C dL_asks_36 ?_
  refine s_icmp_ne (tgt := 53) C dL_asks_37 (by decide) (by omega) (by omega) (fun c37 => ?_) (fun c37 => ?_)
  · exfalso; omega
  refine s_aload_n C dL_asks_40 rfl ?_
  refine s_iload_n C dL_asks_41 rfl ?_
  refine s_iload_n C dL_asks_42 rfl ?_
  refine s_iload C dL_asks_43 rfl ?_
  refine s_iload C dL_asks_45 rfl ?_
  refine sc_cV4i (u2 := 5) (w2 := 30) C dL_asks_47 lkL_20 moX7_form mvX7_form (kX7_form hS hN (by omega) (by omega) (by omega) (by omega)) sh_0 ⟨_, _, rfl⟩ (Nat.le_of_ble_eq_true rfl) (Nat.le_of_ble_eq_true rfl) (by decide) (by decide) (fun En σ9 hx => ?_) (fun r7 σ_7 hp7 => ?_)
  · obtain ⟨rfl, hx⟩ := hx
    rcases hx with ⟨rfl, hc⟩ | ⟨rfl, hc⟩ | ⟨rfl, hc⟩
    · refine s_catch (ls2 := [some (vR 0), some (vI 2), some (vI x), some (vI y), some (vI z), some (vI v), some (vI q0), none]) C (tableOf []) ⟨0, 136, 137, 43⟩ (tableOf [(0, 136, 142, 46), (0, 136, 147, 49)]) rfl (fun z hz => by cases hz) rfl (by decide) lw_43 ca_I dL_asks_137 (by decide) rfl ?_
      refine s_ldc (n := (-70007)) C dL_asks_139 lcc_45 rfl ?_
      refine s_iret C hR dL_asks_141 rfl ⟨_, rfl, ?_⟩ (by decide)
      exact aP.no hN (fun _ _ _ => rfl) (by omega)
    · refine s_catch (ls2 := [some (vR 0), some (vI 2), some (vI x), some (vI y), some (vI z), some (vI v), some (vI q0), none]) C (tableOf [(0, 136, 137, 43)]) ⟨0, 136, 142, 46⟩ (tableOf [(0, 136, 147, 49)]) rfl (fun z hz => by
      rcases List.mem_cons.mp hz with rfl | hz
      · exact ⟨by decide, _, lw_43, by decide +kernel⟩
      cases hz) rfl (by decide) lw_46 ca_A dL_asks_142 (by decide) rfl ?_
      refine s_ldc (n := (-70009)) C dL_asks_144 lcc_48 rfl ?_
      refine s_iret C hR dL_asks_146 rfl ⟨_, rfl, ?_⟩ (by decide)
      exact aP.no hN (fun _ _ _ => rfl) (by omega)
    · refine s_catch (ls2 := [some (vR 0), some (vI 2), some (vI x), some (vI y), some (vI z), some (vI v), some (vI q0), none]) C (tableOf [(0, 136, 137, 43), (0, 136, 142, 46)]) ⟨0, 136, 147, 49⟩ (tableOf []) rfl (fun z hz => by
      rcases List.mem_cons.mp hz with rfl | hz
      · exact ⟨by decide, _, lw_43, by decide +kernel⟩
      rcases List.mem_cons.mp hz with rfl | hz
      · exact ⟨by decide, _, lw_46, by decide +kernel⟩
      cases hz) rfl (by decide) lw_49 ca_S dL_asks_147 (by decide) rfl ?_
      refine s_ldc (n := (-70008)) C dL_asks_149 lcc_51 rfl ?_
      refine s_iret C hR dL_asks_151 rfl ⟨_, rfl, ?_⟩ (by decide)
      exact aP.no hN (fun _ _ _ => rfl) (by omega)
  · refine s_goto (tgt := 136) C dL_asks_50 (by decide) ?_
    refine s_iret C hR dL_asks_136 rfl ⟨_, rfl, ?_⟩ (by decide)
    exact aP.ok hp7
set_option maxRecDepth 100000 in
set_option maxHeartbeats 4000000 in
theorem kL_asks_seam {E : sv_E} {σ : sv_G} {S : st_T} (hS : StOK S) (hN : RN σ S) {x : Int} (hx : -2147483648 ≤ x ∧ x ≤ 2147483647) {y : Int} (hy : -2147483648 ≤ y ∧ y ≤ 2147483647) {z : Int} (hz : -2147483648 ≤ z ∧ z ≤ 2147483647) {v : Int} (hv : -2147483648 ≤ v ∧ v ≤ 2147483647) {q0 : Int} : CW E ML_asks hhL_asks 96 [vR 0, vI 3, vI x, vI y, vI z, vI v, vI q0] σ (PI fun r σ9 => aP σ σ9 S r (op_seam S x y z v) (-70007) (-70008) (0)) := by
  refine CW.of (RL, cL_asks, 8, (some .int), tableOf hhL_asks, 96, 9, 54) rfl moL_asks (Nat.le_of_ble_eq_true rfl) (ls0 := [some (vR 0), some (vI 3), some (vI x), some (vI y), some (vI z), some (vI v), some (vI q0), none]) rfl ?_
  intro X Q C hR
  refine s_iload_n C dL_asks_0 rfl ?_
  refine s_if_ne (tgt := 15) C dL_asks_1 (by decide) (by omega) (fun c1 => ?_) (fun c1 => ?_)
  rotate_left
  · exfalso; omega
  refine s_iload_n C dL_asks_15 rfl ?_
  refine s_iconst C dL_asks_16 ?_
  refine s_icmp_ne (tgt := 35) C dL_asks_17 (by decide) (by omega) (by omega) (fun c17 => ?_) (fun c17 => ?_)
  rotate_left
  · exfalso; omega
  refine s_iload_n C dL_asks_35 rfl ?_
  refine s_iconst C dL_asks_36 ?_
  refine s_icmp_ne (tgt := 53) C dL_asks_37 (by decide) (by omega) (by omega) (fun c37 => ?_) (fun c37 => ?_)
  rotate_left
  · exfalso; omega
  refine s_iload_n C dL_asks_53 rfl ?_
  refine s_iconst C dL_asks_54 ?_
  refine s_icmp_ne (tgt := 71) C dL_asks_55 (by decide) (by omega) (by omega) (fun c55 => ?_) (fun c55 => ?_)
  · exfalso; omega
  refine s_aload_n C dL_asks_58 rfl ?_
  refine s_iload_n C dL_asks_59 rfl ?_
  refine s_iload_n C dL_asks_60 rfl ?_
  refine s_iload C dL_asks_61 rfl ?_
  refine s_iload C dL_asks_63 rfl ?_
  refine sc_cV4i (u2 := 5) (w2 := 30) C dL_asks_65 lkL_24 moX7_seam mvX7_seam (kX7_seam hS hN (by omega) (by omega) (by omega) (by omega)) sh_0 ⟨_, _, rfl⟩ (Nat.le_of_ble_eq_true rfl) (Nat.le_of_ble_eq_true rfl) (by decide) (by decide) (fun En σ9 hx => ?_) (fun r7 σ_7 hp7 => ?_)
  · obtain ⟨rfl, hx⟩ := hx
    rcases hx with ⟨rfl, hc⟩ | ⟨rfl, hc⟩ | ⟨rfl, hc⟩
    · refine s_catch (ls2 := [some (vR 0), some (vI 3), some (vI x), some (vI y), some (vI z), some (vI v), some (vI q0), none]) C (tableOf []) ⟨0, 136, 137, 43⟩ (tableOf [(0, 136, 142, 46), (0, 136, 147, 49)]) rfl (fun z hz => by cases hz) rfl (by decide) lw_43 ca_I dL_asks_137 (by decide) rfl ?_
      refine s_ldc (n := (-70007)) C dL_asks_139 lcc_45 rfl ?_
      refine s_iret C hR dL_asks_141 rfl ⟨_, rfl, ?_⟩ (by decide)
      exact aP.no hN (fun _ _ _ => rfl) (by omega)
    · refine s_catch (ls2 := [some (vR 0), some (vI 3), some (vI x), some (vI y), some (vI z), some (vI v), some (vI q0), none]) C (tableOf [(0, 136, 137, 43), (0, 136, 142, 46)]) ⟨0, 136, 147, 49⟩ (tableOf []) rfl (fun z hz => by
      rcases List.mem_cons.mp hz with rfl | hz
      · exact ⟨by decide, _, lw_43, by decide +kernel⟩
      rcases List.mem_cons.mp hz with rfl | hz
      · exact ⟨by decide, _, lw_46, by decide +kernel⟩
      cases hz) rfl (by decide) lw_49 ca_S dL_asks_147 (by decide) rfl ?_
      refine s_ldc (n := (-70008)) C dL_asks_149 lcc_51 rfl ?_
      refine s_iret C hR dL_asks_151 rfl ⟨_, rfl, ?_⟩ (by decide)
      exact aP.no hN (fun _ _ _ => rfl) (by omega)
    · exfalso
      revert hc
      unfold op_seam; dsimp only; (repeat' split) <;> omega
  · refine s_goto (tgt := 136) C dL_asks_68 (by decide) ?_
    refine s_iret C hR dL_asks_136 rfl ⟨_, rfl, ?_⟩ (by decide)
    exact aP.ok hp7
set_option maxRecDepth 100000 in
set_option maxHeartbeats 4000000 in
theorem kL_asks_said {E : sv_E} {σ : sv_G} {S : st_T} (hS : StOK S) (hN : RN σ S) {x : Int} (hx : -2147483648 ≤ x ∧ x ≤ 2147483647) {q0 : Int} {q1 : Int} {q2 : Int} {q3 : Int} : CW E ML_asks hhL_asks 96 [vR 0, vI 4, vI x, vI q0, vI q1, vI q2, vI q3] σ (PI fun r σ9 => aP σ σ9 S r (op_said S x) (-70007) (0) (0)) := by
  refine CW.of (RL, cL_asks, 8, (some .int), tableOf hhL_asks, 96, 9, 54) rfl moL_asks (Nat.le_of_ble_eq_true rfl) (ls0 := [some (vR 0), some (vI 4), some (vI x), some (vI q0), some (vI q1), some (vI q2), some (vI q3), none]) rfl ?_
  intro X Q C hR
  refine s_iload_n C dL_asks_0 rfl ?_
  refine s_if_ne (tgt := 15) C dL_asks_1 (by decide) (by omega) (fun c1 => ?_) (fun c1 => ?_)
  rotate_left
  · exfalso; omega
  refine s_iload_n C dL_asks_15 rfl ?_
  refine s_iconst C dL_asks_16 ?_
  refine s_icmp_ne (tgt := 35) C dL_asks_17 (by decide) (by omega) (by omega) (fun c17 => ?_) (fun c17 => ?_)
  rotate_left
  · exfalso; omega
  refine s_iload_n C dL_asks_35 rfl ?_
  refine s_iconst C dL_asks_36 ?_
  refine s_icmp_ne (tgt := 53) C dL_asks_37 (by decide) (by omega) (by omega) (fun c37 => ?_) (fun c37 => ?_)
  rotate_left
  · exfalso; omega
  refine s_iload_n C dL_asks_53 rfl ?_
  refine s_iconst C dL_asks_54 ?_
  refine s_icmp_ne (tgt := 71) C dL_asks_55 (by decide) (by omega) (by omega) (fun c55 => ?_) (fun c55 => ?_)
  rotate_left
  · exfalso; omega
  refine s_iload_n C dL_asks_71 rfl ?_
  refine s_iconst C dL_asks_72 ?_
  refine s_icmp_ne (tgt := 84) C dL_asks_73 (by decide) (by omega) (by omega) (fun c73 => ?_) (fun c73 => ?_)
  · exfalso; omega
  refine s_aload_n C dL_asks_76 rfl ?_
  refine s_iload_n C dL_asks_77 rfl ?_
  refine sc_cV1i (u2 := 1) (w2 := 6) C dL_asks_78 lkL_27 moX7_said mvX7_said (kX7_said hS hN (by omega)) sh_0 ⟨_, _, rfl⟩ (Nat.le_of_ble_eq_true rfl) (Nat.le_of_ble_eq_true rfl) (by decide) (by decide) (fun En σ9 hx => ?_) (fun r7 σ_7 hp7 => ?_)
  · obtain ⟨rfl, hx⟩ := hx
    rcases hx with ⟨rfl, hc⟩ | ⟨rfl, hc⟩ | ⟨rfl, hc⟩
    · refine s_catch (ls2 := [some (vR 0), some (vI 4), some (vI x), some (vI q0), some (vI q1), some (vI q2), some (vI q3), none]) C (tableOf []) ⟨0, 136, 137, 43⟩ (tableOf [(0, 136, 142, 46), (0, 136, 147, 49)]) rfl (fun z hz => by cases hz) rfl (by decide) lw_43 ca_I dL_asks_137 (by decide) rfl ?_
      refine s_ldc (n := (-70007)) C dL_asks_139 lcc_45 rfl ?_
      refine s_iret C hR dL_asks_141 rfl ⟨_, rfl, ?_⟩ (by decide)
      exact aP.no hN (fun _ _ _ => rfl) (by omega)
    · exfalso
      revert hc
      unfold op_said; dsimp only; (repeat' split) <;> omega
    · exfalso
      revert hc
      unfold op_said; dsimp only; (repeat' split) <;> omega
  · refine s_goto (tgt := 136) C dL_asks_81 (by decide) ?_
    refine s_iret C hR dL_asks_136 rfl ⟨_, rfl, ?_⟩ (by decide)
    exact aP.ok hp7
set_option maxRecDepth 100000 in
set_option maxHeartbeats 4000000 in
theorem kL_asks_hear {E : sv_E} {σ : sv_G} {S : st_T} (hS : StOK S) (hN : RN σ S) {x : Int} (hx : -2147483648 ≤ x ∧ x ≤ 2147483647) {q0 : Int} {q1 : Int} {q2 : Int} {q3 : Int} : CW E ML_asks hhL_asks 96 [vR 0, vI 5, vI x, vI q0, vI q1, vI q2, vI q3] σ (PI fun r σ9 => aP σ σ9 S r (op_hear S x) (-70007) (-70008) (0)) := by
  refine CW.of (RL, cL_asks, 8, (some .int), tableOf hhL_asks, 96, 9, 54) rfl moL_asks (Nat.le_of_ble_eq_true rfl) (ls0 := [some (vR 0), some (vI 5), some (vI x), some (vI q0), some (vI q1), some (vI q2), some (vI q3), none]) rfl ?_
  intro X Q C hR
  refine s_iload_n C dL_asks_0 rfl ?_
  refine s_if_ne (tgt := 15) C dL_asks_1 (by decide) (by omega) (fun c1 => ?_) (fun c1 => ?_)
  rotate_left
  · exfalso; omega
  refine s_iload_n C dL_asks_15 rfl ?_
  refine s_iconst C dL_asks_16 ?_
  refine s_icmp_ne (tgt := 35) C dL_asks_17 (by decide) (by omega) (by omega) (fun c17 => ?_) (fun c17 => ?_)
  rotate_left
  · exfalso; omega
  refine s_iload_n C dL_asks_35 rfl ?_
  refine s_iconst C dL_asks_36 ?_
  refine s_icmp_ne (tgt := 53) C dL_asks_37 (by decide) (by omega) (by omega) (fun c37 => ?_) (fun c37 => ?_)
  rotate_left
  · exfalso; omega
  refine s_iload_n C dL_asks_53 rfl ?_
  refine s_iconst C dL_asks_54 ?_
  refine s_icmp_ne (tgt := 71) C dL_asks_55 (by decide) (by omega) (by omega) (fun c55 => ?_) (fun c55 => ?_)
  rotate_left
  · exfalso; omega
  refine s_iload_n C dL_asks_71 rfl ?_
  refine s_iconst C dL_asks_72 ?_
  refine s_icmp_ne (tgt := 84) C dL_asks_73 (by decide) (by omega) (by omega) (fun c73 => ?_) (fun c73 => ?_)
  rotate_left
  · exfalso; omega
  refine s_iload_n C dL_asks_84 rfl ?_
  refine s_iconst C dL_asks_85 ?_
  refine s_icmp_ne (tgt := 97) C dL_asks_86 (by decide) (by omega) (by omega) (fun c86 => ?_) (fun c86 => ?_)
  · exfalso; omega
  refine s_aload_n C dL_asks_89 rfl ?_
  refine s_iload_n C dL_asks_90 rfl ?_
  refine sc_cV1i (u2 := 2) (w2 := 12) C dL_asks_91 lkL_31 moX7_hear mvX7_hear (kX7_hear hS hN (by omega)) sh_0 ⟨_, _, rfl⟩ (Nat.le_of_ble_eq_true rfl) (Nat.le_of_ble_eq_true rfl) (by decide) (by decide) (fun En σ9 hx => ?_) (fun r7 σ_7 hp7 => ?_)
  · obtain ⟨rfl, hx⟩ := hx
    rcases hx with ⟨rfl, hc⟩ | ⟨rfl, hc⟩ | ⟨rfl, hc⟩
    · refine s_catch (ls2 := [some (vR 0), some (vI 5), some (vI x), some (vI q0), some (vI q1), some (vI q2), some (vI q3), none]) C (tableOf []) ⟨0, 136, 137, 43⟩ (tableOf [(0, 136, 142, 46), (0, 136, 147, 49)]) rfl (fun z hz => by cases hz) rfl (by decide) lw_43 ca_I dL_asks_137 (by decide) rfl ?_
      refine s_ldc (n := (-70007)) C dL_asks_139 lcc_45 rfl ?_
      refine s_iret C hR dL_asks_141 rfl ⟨_, rfl, ?_⟩ (by decide)
      exact aP.no hN (fun _ _ _ => rfl) (by omega)
    · refine s_catch (ls2 := [some (vR 0), some (vI 5), some (vI x), some (vI q0), some (vI q1), some (vI q2), some (vI q3), none]) C (tableOf [(0, 136, 137, 43), (0, 136, 142, 46)]) ⟨0, 136, 147, 49⟩ (tableOf []) rfl (fun z hz => by
      rcases List.mem_cons.mp hz with rfl | hz
      · exact ⟨by decide, _, lw_43, by decide +kernel⟩
      rcases List.mem_cons.mp hz with rfl | hz
      · exact ⟨by decide, _, lw_46, by decide +kernel⟩
      cases hz) rfl (by decide) lw_49 ca_S dL_asks_147 (by decide) rfl ?_
      refine s_ldc (n := (-70008)) C dL_asks_149 lcc_51 rfl ?_
      refine s_iret C hR dL_asks_151 rfl ⟨_, rfl, ?_⟩ (by decide)
      exact aP.no hN (fun _ _ _ => rfl) (by omega)
    · exfalso
      revert hc
      unfold op_hear; dsimp only; (repeat' split) <;> omega
  · refine s_goto (tgt := 136) C dL_asks_94 (by decide) ?_
    refine s_iret C hR dL_asks_136 rfl ⟨_, rfl, ?_⟩ (by decide)
    exact aP.ok hp7
set_option maxRecDepth 100000 in
set_option maxHeartbeats 4000000 in
theorem kL_asks_example {E : sv_E} {σ : sv_G} {S : st_T} (hS : StOK S) (hN : RN σ S) {x : Int} (hx : -2147483648 ≤ x ∧ x ≤ 2147483647) {q0 : Int} {q1 : Int} {q2 : Int} {q3 : Int} : CW E ML_asks hhL_asks 96 [vR 0, vI 6, vI x, vI q0, vI q1, vI q2, vI q3] σ (PI fun r σ9 => aP σ σ9 S r (op_example S x) (-70009) (-70008) (0)) := by
  refine CW.of (RL, cL_asks, 8, (some .int), tableOf hhL_asks, 96, 9, 54) rfl moL_asks (Nat.le_of_ble_eq_true rfl) (ls0 := [some (vR 0), some (vI 6), some (vI x), some (vI q0), some (vI q1), some (vI q2), some (vI q3), none]) rfl ?_
  intro X Q C hR
  refine s_iload_n C dL_asks_0 rfl ?_
  refine s_if_ne (tgt := 15) C dL_asks_1 (by decide) (by omega) (fun c1 => ?_) (fun c1 => ?_)
  rotate_left
  · exfalso; omega
  refine s_iload_n C dL_asks_15 rfl ?_
  refine s_iconst C dL_asks_16 ?_
  refine s_icmp_ne (tgt := 35) C dL_asks_17 (by decide) (by omega) (by omega) (fun c17 => ?_) (fun c17 => ?_)
  rotate_left
  · exfalso; omega
  refine s_iload_n C dL_asks_35 rfl ?_
  refine s_iconst C dL_asks_36 ?_
  refine s_icmp_ne (tgt := 53) C dL_asks_37 (by decide) (by omega) (by omega) (fun c37 => ?_) (fun c37 => ?_)
  rotate_left
  · exfalso; omega
  refine s_iload_n C dL_asks_53 rfl ?_
  refine s_iconst C dL_asks_54 ?_
  refine s_icmp_ne (tgt := 71) C dL_asks_55 (by decide) (by omega) (by omega) (fun c55 => ?_) (fun c55 => ?_)
  rotate_left
  · exfalso; omega
  refine s_iload_n C dL_asks_71 rfl ?_
  refine s_iconst C dL_asks_72 ?_
  refine s_icmp_ne (tgt := 84) C dL_asks_73 (by decide) (by omega) (by omega) (fun c73 => ?_) (fun c73 => ?_)
  rotate_left
  · exfalso; omega
  refine s_iload_n C dL_asks_84 rfl ?_
  refine s_iconst C dL_asks_85 ?_
  refine s_icmp_ne (tgt := 97) C dL_asks_86 (by decide) (by omega) (by omega) (fun c86 => ?_) (fun c86 => ?_)
  rotate_left
  · exfalso; omega
  refine s_iload_n C dL_asks_97 rfl ?_
  refine s_bipush C dL_asks_98 (by decide) ?_
  refine s_icmp_ne (tgt := 111) C dL_asks_100 (by decide) (by omega) (by omega) (fun c100 => ?_) (fun c100 => ?_)
  · exfalso; omega
  refine s_aload_n C dL_asks_103 rfl ?_
  refine s_iload_n C dL_asks_104 rfl ?_
  refine sc_cV1i (u2 := 2) (w2 := 12) C dL_asks_105 lkL_34 moX7_example mvX7_example (kX7_example hS hN (by omega)) sh_0 ⟨_, _, rfl⟩ (Nat.le_of_ble_eq_true rfl) (Nat.le_of_ble_eq_true rfl) (by decide) (by decide) (fun En σ9 hx => ?_) (fun r7 σ_7 hp7 => ?_)
  · obtain ⟨rfl, hx⟩ := hx
    rcases hx with ⟨rfl, hc⟩ | ⟨rfl, hc⟩ | ⟨rfl, hc⟩
    · refine s_catch (ls2 := [some (vR 0), some (vI 6), some (vI x), some (vI q0), some (vI q1), some (vI q2), some (vI q3), none]) C (tableOf [(0, 136, 137, 43)]) ⟨0, 136, 142, 46⟩ (tableOf [(0, 136, 147, 49)]) rfl (fun z hz => by
      rcases List.mem_cons.mp hz with rfl | hz
      · exact ⟨by decide, _, lw_43, by decide +kernel⟩
      cases hz) rfl (by decide) lw_46 ca_A dL_asks_142 (by decide) rfl ?_
      refine s_ldc (n := (-70009)) C dL_asks_144 lcc_48 rfl ?_
      refine s_iret C hR dL_asks_146 rfl ⟨_, rfl, ?_⟩ (by decide)
      exact aP.no hN (fun _ _ _ => rfl) (by omega)
    · refine s_catch (ls2 := [some (vR 0), some (vI 6), some (vI x), some (vI q0), some (vI q1), some (vI q2), some (vI q3), none]) C (tableOf [(0, 136, 137, 43), (0, 136, 142, 46)]) ⟨0, 136, 147, 49⟩ (tableOf []) rfl (fun z hz => by
      rcases List.mem_cons.mp hz with rfl | hz
      · exact ⟨by decide, _, lw_43, by decide +kernel⟩
      rcases List.mem_cons.mp hz with rfl | hz
      · exact ⟨by decide, _, lw_46, by decide +kernel⟩
      cases hz) rfl (by decide) lw_49 ca_S dL_asks_147 (by decide) rfl ?_
      refine s_ldc (n := (-70008)) C dL_asks_149 lcc_51 rfl ?_
      refine s_iret C hR dL_asks_151 rfl ⟨_, rfl, ?_⟩ (by decide)
      exact aP.no hN (fun _ _ _ => rfl) (by omega)
    · exfalso
      revert hc
      unfold op_example; dsimp only; (repeat' split) <;> omega
  · refine s_goto (tgt := 136) C dL_asks_108 (by decide) ?_
    refine s_iret C hR dL_asks_136 rfl ⟨_, rfl, ?_⟩ (by decide)
    exact aP.ok hp7
set_option maxRecDepth 100000 in
set_option maxHeartbeats 4000000 in
theorem kL_asks_learn {E : sv_E} {σ : sv_G} {S : st_T} (hS : StOK S) (hN : RN σ S) {x : Int} (hx : -2147483648 ≤ x ∧ x ≤ 2147483647) {y : Int} (hy : -2147483648 ≤ y ∧ y ≤ 2147483647) {z : Int} (hz : -2147483648 ≤ z ∧ z ≤ 2147483647) {q0 : Int} {q1 : Int} : CW E ML_asks hhL_asks 96 [vR 0, vI 7, vI x, vI y, vI z, vI q0, vI q1] σ (PI fun r σ9 => aP σ σ9 S r (op_learn S x y z) (-70007) (-70008) (0)) := by
  refine CW.of (RL, cL_asks, 8, (some .int), tableOf hhL_asks, 96, 9, 54) rfl moL_asks (Nat.le_of_ble_eq_true rfl) (ls0 := [some (vR 0), some (vI 7), some (vI x), some (vI y), some (vI z), some (vI q0), some (vI q1), none]) rfl ?_
  intro X Q C hR
  refine s_iload_n C dL_asks_0 rfl ?_
  refine s_if_ne (tgt := 15) C dL_asks_1 (by decide) (by omega) (fun c1 => ?_) (fun c1 => ?_)
  rotate_left
  · exfalso; omega
  refine s_iload_n C dL_asks_15 rfl ?_
  refine s_iconst C dL_asks_16 ?_
  refine s_icmp_ne (tgt := 35) C dL_asks_17 (by decide) (by omega) (by omega) (fun c17 => ?_) (fun c17 => ?_)
  rotate_left
  · exfalso; omega
  refine s_iload_n C dL_asks_35 rfl ?_
  refine s_iconst C dL_asks_36 ?_
  refine s_icmp_ne (tgt := 53) C dL_asks_37 (by decide) (by omega) (by omega) (fun c37 => ?_) (fun c37 => ?_)
  rotate_left
  · exfalso; omega
  refine s_iload_n C dL_asks_53 rfl ?_
  refine s_iconst C dL_asks_54 ?_
  refine s_icmp_ne (tgt := 71) C dL_asks_55 (by decide) (by omega) (by omega) (fun c55 => ?_) (fun c55 => ?_)
  rotate_left
  · exfalso; omega
  refine s_iload_n C dL_asks_71 rfl ?_
  refine s_iconst C dL_asks_72 ?_
  refine s_icmp_ne (tgt := 84) C dL_asks_73 (by decide) (by omega) (by omega) (fun c73 => ?_) (fun c73 => ?_)
  rotate_left
  · exfalso; omega
  refine s_iload_n C dL_asks_84 rfl ?_
  refine s_iconst C dL_asks_85 ?_
  refine s_icmp_ne (tgt := 97) C dL_asks_86 (by decide) (by omega) (by omega) (fun c86 => ?_) (fun c86 => ?_)
  rotate_left
  · exfalso; omega
  refine s_iload_n C dL_asks_97 rfl ?_
  refine s_bipush C dL_asks_98 (by decide) ?_
  refine s_icmp_ne (tgt := 111) C dL_asks_100 (by decide) (by omega) (by omega) (fun c100 => ?_) (fun c100 => ?_)
  rotate_left
  · exfalso; omega
  refine s_iload_n C dL_asks_111 rfl ?_
  refine s_bipush C dL_asks_112 (by decide) ?_
  refine s_icmp_ne (tgt := 128) C dL_asks_114 (by decide) (by omega) (by omega) (fun c114 => ?_) (fun c114 => ?_)
  · exfalso; omega
  refine s_aload_n C dL_asks_117 rfl ?_
  refine s_iload_n C dL_asks_118 rfl ?_
  refine s_iload_n C dL_asks_119 rfl ?_
  refine s_iload C dL_asks_120 rfl ?_
  refine sc_cV3i (u2 := 4) (w2 := 24) C dL_asks_122 lkL_37 moX7_learn mvX7_learn (kX7_learn hS hN (by omega) (by omega) (by omega)) sh_0 ⟨_, _, rfl⟩ (Nat.le_of_ble_eq_true rfl) (Nat.le_of_ble_eq_true rfl) (by decide) (by decide) (fun En σ9 hx => ?_) (fun r7 σ_7 hp7 => ?_)
  · obtain ⟨⟨hN9, hf9⟩, hx⟩ := hx
    rcases hx with ⟨rfl, hc⟩ | ⟨rfl, hc⟩
    · refine s_catch (ls2 := [some (vR 0), some (vI 7), some (vI x), some (vI y), some (vI z), some (vI q0), some (vI q1), none]) C (tableOf []) ⟨0, 136, 137, 43⟩ (tableOf [(0, 136, 142, 46), (0, 136, 147, 49)]) rfl (fun z hz => by cases hz) rfl (by decide) lw_43 ca_I dL_asks_137 (by decide) rfl ?_
      refine s_ldc (n := (-70007)) C dL_asks_139 lcc_45 rfl ?_
      refine s_iret C hR dL_asks_141 rfl ⟨_, rfl, ?_⟩ (by decide)
      exact aP.no hN9 hf9 (by omega)
    · refine s_catch (ls2 := [some (vR 0), some (vI 7), some (vI x), some (vI y), some (vI z), some (vI q0), some (vI q1), none]) C (tableOf [(0, 136, 137, 43), (0, 136, 142, 46)]) ⟨0, 136, 147, 49⟩ (tableOf []) rfl (fun z hz => by
      rcases List.mem_cons.mp hz with rfl | hz
      · exact ⟨by decide, _, lw_43, by decide +kernel⟩
      rcases List.mem_cons.mp hz with rfl | hz
      · exact ⟨by decide, _, lw_46, by decide +kernel⟩
      cases hz) rfl (by decide) lw_49 ca_S dL_asks_147 (by decide) rfl ?_
      refine s_ldc (n := (-70008)) C dL_asks_149 lcc_51 rfl ?_
      refine s_iret C hR dL_asks_151 rfl ⟨_, rfl, ?_⟩ (by decide)
      exact aP.no hN9 hf9 (by omega)
  · refine s_goto (tgt := 136) C dL_asks_125 (by decide) ?_
    refine s_iret C hR dL_asks_136 rfl ⟨_, rfl, ?_⟩ (by decide)
    exact aP.ok hp7
set_option maxRecDepth 100000 in
set_option maxHeartbeats 4000000 in
theorem kL_asks_joint {E : sv_E} {σ : sv_G} {S : st_T} (hS : StOK S) (hN : RN σ S) {x : Int} (hx : -2147483648 ≤ x ∧ x ≤ 2147483647) {y : Int} (hy : -2147483648 ≤ y ∧ y ≤ 2147483647) {z : Int} (hz : -2147483648 ≤ z ∧ z ≤ 2147483647) {q0 : Int} {q1 : Int} : CW E ML_asks hhL_asks 96 [vR 0, vI 8, vI x, vI y, vI z, vI q0, vI q1] σ (PI fun r σ9 => aP σ σ9 S r (op_joint S x y z) (-70007) (0) (0)) := by
  refine CW.of (RL, cL_asks, 8, (some .int), tableOf hhL_asks, 96, 9, 54) rfl moL_asks (Nat.le_of_ble_eq_true rfl) (ls0 := [some (vR 0), some (vI 8), some (vI x), some (vI y), some (vI z), some (vI q0), some (vI q1), none]) rfl ?_
  intro X Q C hR
  refine s_iload_n C dL_asks_0 rfl ?_
  refine s_if_ne (tgt := 15) C dL_asks_1 (by decide) (by omega) (fun c1 => ?_) (fun c1 => ?_)
  rotate_left
  · exfalso; omega
  refine s_iload_n C dL_asks_15 rfl ?_
  refine s_iconst C dL_asks_16 ?_
  refine s_icmp_ne (tgt := 35) C dL_asks_17 (by decide) (by omega) (by omega) (fun c17 => ?_) (fun c17 => ?_)
  rotate_left
  · exfalso; omega
  refine s_iload_n C dL_asks_35 rfl ?_
  refine s_iconst C dL_asks_36 ?_
  refine s_icmp_ne (tgt := 53) C dL_asks_37 (by decide) (by omega) (by omega) (fun c37 => ?_) (fun c37 => ?_)
  rotate_left
  · exfalso; omega
  refine s_iload_n C dL_asks_53 rfl ?_
  refine s_iconst C dL_asks_54 ?_
  refine s_icmp_ne (tgt := 71) C dL_asks_55 (by decide) (by omega) (by omega) (fun c55 => ?_) (fun c55 => ?_)
  rotate_left
  · exfalso; omega
  refine s_iload_n C dL_asks_71 rfl ?_
  refine s_iconst C dL_asks_72 ?_
  refine s_icmp_ne (tgt := 84) C dL_asks_73 (by decide) (by omega) (by omega) (fun c73 => ?_) (fun c73 => ?_)
  rotate_left
  · exfalso; omega
  refine s_iload_n C dL_asks_84 rfl ?_
  refine s_iconst C dL_asks_85 ?_
  refine s_icmp_ne (tgt := 97) C dL_asks_86 (by decide) (by omega) (by omega) (fun c86 => ?_) (fun c86 => ?_)
  rotate_left
  · exfalso; omega
  refine s_iload_n C dL_asks_97 rfl ?_
  refine s_bipush C dL_asks_98 (by decide) ?_
  refine s_icmp_ne (tgt := 111) C dL_asks_100 (by decide) (by omega) (by omega) (fun c100 => ?_) (fun c100 => ?_)
  rotate_left
  · exfalso; omega
  refine s_iload_n C dL_asks_111 rfl ?_
  refine s_bipush C dL_asks_112 (by decide) ?_
  refine s_icmp_ne (tgt := 128) C dL_asks_114 (by decide) (by omega) (by omega) (fun c114 => ?_) (fun c114 => ?_)
  rotate_left
  · exfalso; omega
  refine s_aload_n C dL_asks_128 rfl ?_
  refine s_iload_n C dL_asks_129 rfl ?_
  refine s_iload_n C dL_asks_130 rfl ?_
  refine s_iload C dL_asks_131 rfl ?_
  refine sc_cV3i (u2 := 3) (w2 := 18) C dL_asks_133 lkL_40 moX7_joint mvX7_joint (kX7_joint hS hN (by omega) (by omega) (by omega)) sh_0 ⟨_, _, rfl⟩ (Nat.le_of_ble_eq_true rfl) (Nat.le_of_ble_eq_true rfl) (by decide) (by decide) (fun En σ9 hx => ?_) (fun r7 σ_7 hp7 => ?_)
  · obtain ⟨rfl, hx⟩ := hx
    rcases hx with ⟨rfl, hc⟩ | ⟨rfl, hc⟩ | ⟨rfl, hc⟩
    · refine s_catch (ls2 := [some (vR 0), some (vI 8), some (vI x), some (vI y), some (vI z), some (vI q0), some (vI q1), none]) C (tableOf []) ⟨0, 136, 137, 43⟩ (tableOf [(0, 136, 142, 46), (0, 136, 147, 49)]) rfl (fun z hz => by cases hz) rfl (by decide) lw_43 ca_I dL_asks_137 (by decide) rfl ?_
      refine s_ldc (n := (-70007)) C dL_asks_139 lcc_45 rfl ?_
      refine s_iret C hR dL_asks_141 rfl ⟨_, rfl, ?_⟩ (by decide)
      exact aP.no hN (fun _ _ _ => rfl) (by omega)
    · exfalso
      revert hc
      unfold op_joint; dsimp only; (repeat' split) <;> omega
    · exfalso
      revert hc
      unfold op_joint; dsimp only; (repeat' split) <;> omega
  · refine s_iret C hR dL_asks_136 rfl ⟨_, rfl, ?_⟩ (by decide)
    exact aP.ok hp7
