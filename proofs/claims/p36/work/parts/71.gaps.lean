set_option maxRecDepth 100000 in
set_option maxHeartbeats 8000000 in
theorem kL_gaps {E : sv_E} {σ : sv_G} (he : E.2.1.2 = []) {S : st_T} (hS : StOK S) (hN : RN σ S) {g k9 b9 : Int} (hg : 0 ≤ g ∧ g ≤ 3) (hk : 0 ≤ k9 ∧ k9 ≤ 2) (hb : 0 ≤ b9 ∧ b9 ≤ 60) : CT E ML_gaps 99 [(vR 0), (vI g), (vI k9), (vI b9)] σ (PI fun r σ9 => r = 1 ∧ ∃ l, RN σ9 (uL S l) ∧ StOK (uL S l)) := by
  refine CT.of (RL, cL_gaps, 11, (some .boolean), [], 99, 4000, 24000) rfl moL_gaps (Nat.le_of_ble_eq_true rfl) (ls0 := [some (vR 0), some (vI g), some (vI k9), some (vI b9), none, none, none, none, none, none, none]) rfl ?_
  intro X Q C hR
  have hD := hS.1 g hg.1 hg.2
  have h_D : True := trivial
  refine s_aload_n C dL_gaps_0 rfl ?_
  refine s_iload_n C dL_gaps_1 rfl ?_
  refine s_iload_n C dL_gaps_2 rfl ?_
  have o3 : (op_gap S g b9).1 = 0 := by unfold op_gap; dsimp only; (repeat' split) <;> first | rfl | (exfalso; omega)
  refine sc_cV2i (u2 := 2) (w2 := 12) C dL_gaps_3 lkL_91 moX7_gap mvX7_gap (kX7_gap hS hN (by omega) (by omega)) sh_0 ⟨_, _, rfl⟩ (Nat.le_of_ble_eq_true rfl) (Nat.le_of_ble_eq_true rfl) ⟨rfl, rfl⟩ ⟨(show 2 ≤ 4000 by omega), (show 12 ≤ 24000 by omega)⟩ (fun En σ9 h => absurd h (px3_no o3)) (fun r3 σ_3 hp3 => ?_)
  obtain ⟨-, v3, N3, T3, F3⟩ := hp3
  replace v3 : r3 = gaR (sD S g) (b9 + 1).toNat 0 := by first | exact v3 | (rw [h_D]; exact v3)
  replace N3 : RN σ_3 S := by first | exact N3 | (rw [h_D]; exact N3)
  replace T3 : StOK S := by first | exact T3 | (rw [h_D]; exact T3)
  have g3 := ga_b (D := sD S g) (z := b9) (by omega)
  rw [← v3] at g3
  refine s_istore (ls2 := [some (vR 0), some (vI g), some (vI k9), some (vI b9), some (vI r3), none, none, none, none, none, none]) C dL_gaps_6 (by decide) rfl ?_
  refine s_iload C dL_gaps_8 rfl ?_
  refine s_iconst C dL_gaps_10 ?_
  refine s_icmp_lt (tgt := 24) C dL_gaps_11 (by decide) (by omega) (by omega) (fun c11 => ?_) (fun c11 => ?_)
  · exfalso; omega -- done
  · refine s_iload C dL_gaps_14 rfl ?_
    refine s_iload_n C dL_gaps_16 rfl ?_
    refine s_icmp_gt (tgt := 24) C dL_gaps_17 (by decide) (by omega) (by omega) (fun c17 => ?_) (fun c17 => ?_)
    · exfalso; omega -- done
    · refine s_iconst C dL_gaps_20 ?_
      refine s_goto (tgt := 25) C dL_gaps_21 (by decide) ?_
      refine s_istore (ls2 := [some (vR 0), some (vI g), some (vI k9), some (vI b9), some (vI r3), some (vI 1), none, none, none, none, none]) C dL_gaps_25 (by decide) rfl ?_
      refine s_iconst C dL_gaps_27 ?_
      refine s_istore (ls2 := [some (vR 0), some (vI g), some (vI k9), some (vI b9), some (vI r3), some (vI 1), some (vI 0), none, none, none, none]) C dL_gaps_28 (by decide) rfl ?_
      have L30 : ∀ (n : Nat) (b5 : Int) (i6 : Int) (τ : sv_G) (l : List Int) (uu30 ww30 : Nat), (b9 + 1 - i6).toNat < n → ((uu30 : Int) + 3 * (b9 + 1 - i6) ≤ 300 ∧ (ww30 : Int) + 18 * (b9 + 1 - i6) ≤ 1800) → (b5 = 1) → (0 ≤ i6 ∧ i6 ≤ b9 + 1) → (RN τ (uL S l)) → (StOK (uL S l)) → SW X E Q uu30 ww30 30 [some (vR 0), some (vI g), some (vI k9), some (vI b9), some (vI r3), some (vI b5), some (vI i6), none, none, none, none] [] τ := by
        intro n
        induction n with
        | zero => intro b5 i6 τ l uu30 ww30 hm; exact absurd hm (Nat.not_lt_zero _)
        | succ n ih30 =>
          intro b5 i6 τ l uu30 ww30 hm30 i30_0 i30_1 i30_2 i30_3 i30_4
          refine s_iload C dL_gaps_30 rfl ?_
          refine s_iload_n C dL_gaps_32 rfl ?_
          refine s_icmp_gt (tgt := 92) C dL_gaps_33 (by decide) (by omega) (by omega) (fun c33 => ?_) (fun c33 => ?_)
          · refine s_aload_n C dL_gaps_92 rfl ?_
            refine s_iload_n C dL_gaps_93 rfl ?_
            refine s_iload_n C dL_gaps_94 rfl ?_
            refine s_iload_n C dL_gaps_95 rfl ?_
            have o96 : (op_clash (uL S l) g k9 b9).1 = 0 := by unfold op_clash; dsimp only; (repeat' split) <;> first | rfl | (exfalso; omega)
            refine sc_cV3i (u2 := uu30 + 3) (w2 := ww30 + 18) C dL_gaps_96 lkL_94 moX7_clash mvX7_clash (kX7_clash i30_4 i30_3 (by omega) (by omega) (by omega)) sh_0 ⟨_, _, rfl⟩ (Nat.le_of_ble_eq_true rfl) (Nat.le_of_ble_eq_true rfl) ⟨rfl, rfl⟩ ⟨(show uu30 + 3 ≤ 4000 by omega), (show ww30 + 18 ≤ 24000 by omega)⟩ (fun En σ9 h => absurd h (px3_no o96)) (fun r96 σ_96 hp96 => ?_)
            obtain ⟨-, v96, N96, T96, F96⟩ := hp96
            replace v96 : r96 = clR (sD S g) k9 (b9 + 1).toNat 0 := by first | exact v96 | (rw [h_D]; exact v96)
            replace N96 : RN σ_96 (uL S l) := by first | exact N96 | (rw [h_D]; exact N96)
            replace T96 : StOK (uL S l) := by first | exact T96 | (rw [h_D]; exact T96)
            have c96 := cl_sp hD (c := k9) (z := b9) (by omega)
            rw [← v96] at c96
            refine s_istore (ls2 := [some (vR 0), some (vI g), some (vI k9), some (vI b9), some (vI r3), some (vI b5), some (vI r96), none, none, none, none]) C dL_gaps_99 (by decide) rfl ?_
            refine s_iload C dL_gaps_101 rfl ?_
            refine s_if_lt (tgt := 111) C dL_gaps_103 (by decide) (by omega) (fun c103 => ?_) (fun c103 => ?_)
            · have y103 : r96 = -1 := c96.elim id (fun z => by omega)
              refine s_iload C dL_gaps_111 rfl ?_
              refine s_if_eq (tgt := 126) C dL_gaps_113 (by decide) (by omega) (fun c113 => ?_) (fun c113 => ?_)
              · exfalso; omega -- done
              · refine s_iload C dL_gaps_116 rfl ?_
                refine s_iconst C dL_gaps_118 ?_
                refine s_icmp_ne (tgt := 126) C dL_gaps_119 (by decide) (by omega) (by omega) (fun c119 => ?_) (fun c119 => ?_)
                · exfalso; omega -- done
                · refine s_iconst C dL_gaps_122 ?_
                  refine s_goto (tgt := 127) C dL_gaps_123 (by decide) ?_
                  refine s_zret C hR dL_gaps_127 rfl (by omega) ⟨_, rfl, ?_⟩ ⟨(show uu30 + 3 ≤ 4000 by omega), (show ww30 + 18 ≤ 24000 by omega)⟩
                  exact ⟨rfl, l, N96, T96⟩
            · have c96 := c96.resolve_left (fun z => by omega)
              refine s_iload C dL_gaps_106 rfl ?_
              refine s_if_ne (tgt := 128) C dL_gaps_108 (by decide) (by omega) (fun c108 => ?_) (fun c108 => ?_)
              · refine s_bipush C dL_gaps_128 (by decide) ?_
                refine s_newW C he dL_gaps_130 ⟨(show uu30 + 3 + 1 ≤ 4000 by omega), (show ww30 + 18 + 20 ≤ 24000 by omega)⟩ (fun j => ?_)
                refine s_nameG (fun σ_130 hσ_130 => ?_)
                have C0 := C
                replace C := sx_wE (j := j) C
                have N130 : RN σ_130 (uL S l) := by rw [hσ_130]; exact N96.wZ T96
                refine s_astore (ls2 := [some (vR 0), some (vI g), some (vI k9), some (vI b9), some (vI r3), some (vI b5), some (vI r96), some (vR (195 + j)), none, none, none]) C dL_gaps_132 (by decide) rfl ?_
                refine s_aload_n C dL_gaps_134 rfl ?_
                refine s_iload_n C dL_gaps_135 rfl ?_
                refine s_iload C dL_gaps_136 rfl ?_
                refine s_iload_n C dL_gaps_138 rfl ?_
                have o139 : (op_say (uL S l) g r96 k9).1 = 0 := by unfold op_say; dsimp only; (repeat' split) <;> first | rfl | (exfalso; omega)
                refine sc_cV3i (u2 := uu30 + 7) (w2 := ww30 + 56) C dL_gaps_139 lkL_58 moX7_say mvX7_say (kX7_say T96 N130 (by omega) (by omega) (by omega)) sh_0 ⟨_, _, rfl⟩ (Nat.le_of_ble_eq_true rfl) (Nat.le_of_ble_eq_true rfl) ⟨rfl, rfl⟩ ⟨(show uu30 + 7 ≤ 4000 by omega), (show ww30 + 56 ≤ 24000 by omega)⟩ (fun En σ9 h => absurd h (px3_no o139)) (fun r139 σ_139 hp139 => ?_)
                obtain ⟨-, v139, N139, T139, F139⟩ := hp139
                replace v139 : r139 = (spF (sD S g) r96 k9).length := by first | exact v139 | (rw [h_D]; exact v139)
                replace N139 : RN σ_139 (uL S (spF (sD S g) r96 k9)) := by first | exact N139 | (rw [h_D]; exact N139)
                replace T139 : StOK (uL S (spF (sD S g) r96 k9)) := by first | exact T139 | (rw [h_D]; exact T139)
                have l139 : (spF (sD S g) r96 k9).length ≤ 20 := T139.2.1.2
                have w139 : wOK (spF (sD S g) r96 k9) := T139.2.1.1
                have p139 := len_pos.mpr c96.2.1
                refine s_istore (ls2 := [some (vR 0), some (vI g), some (vI k9), some (vI b9), some (vI r3), some (vI b5), some (vI r96), some (vR (195 + j)), some (vI r139), none, none]) C dL_gaps_142 (by decide) rfl ?_
                refine s_iconst C dL_gaps_144 ?_
                refine s_istore (ls2 := [some (vR 0), some (vI g), some (vI k9), some (vI b9), some (vI r3), some (vI b5), some (vI r96), some (vR (195 + j)), some (vI r139), some (vI 0), none]) C dL_gaps_145 (by decide) rfl ?_
                refine s_aload_n C dL_gaps_147 rfl ?_
                refine s_iload C dL_gaps_148 rfl ?_
                refine s_aload C dL_gaps_150 rfl ?_
                refine s_mS3i (u2 := uu30 + 207) (w2 := ww30 + 1256) C dL_gaps_152 lkL_61 moL_keeps mvL_keeps (kL_keeps T139 N139 v139) (Nat.le_of_ble_eq_true rfl) (Nat.le_of_ble_eq_true rfl) ⟨rfl, rfl⟩ ⟨(show uu30 + 207 ≤ 4000 by omega), (show ww30 + 1256 ≤ 24000 by omega)⟩ (fun r152 σ_152 hp152 => ?_)
                obtain ⟨v152, N152, W152⟩ := hp152
                replace N152 : RN σ_152 (uL S (spF (sD S g) r96 k9)) := N152
                replace W152 : WA σ_152 j (spF (sD S g) r96 k9) := W152
                refine s_istore (ls2 := [some (vR 0), some (vI g), some (vI k9), some (vI b9), some (vI r3), some (vI r152), some (vI r96), some (vR (195 + j)), some (vI r139), some (vI 0), none]) C dL_gaps_155 (by decide) rfl ?_
                refine s_iconst C dL_gaps_157 ?_
                refine s_istore (ls2 := [some (vR 0), some (vI g), some (vI k9), some (vI b9), some (vI r3), some (vI r152), some (vI r96), some (vR (195 + j)), some (vI r139), some (vI 0), some (vI 0)]) C dL_gaps_158 (by decide) rfl ?_
                have L160 : ∀ (n : Nat) (s9 : Int) (i10 : Int) (τ : sv_G) (l2 : List Int) (uu160 ww160 : Nat), (r96 - i10).toNat < n → ((uu160 : Int) + 43 * (r96 - i10) ≤ 3800 ∧ (ww160 : Int) + 258 * (r96 - i10) ≤ 22800) → (0 ≤ i10 ∧ i10 ≤ r96) → (s9 = ftN (sD S g) k9 (spF (sD S g) r96 k9) i10.toNat) → (RN τ (uL S l2)) → (StOK (uL S l2)) → (WA τ j (spF (sD S g) r96 k9)) → SW X (wE E j) Q uu160 ww160 160 [some (vR 0), some (vI g), some (vI k9), some (vI b9), some (vI r3), some (vI r152), some (vI r96), some (vR (195 + j)), some (vI r139), some (vI s9), some (vI i10)] [] τ := by
                  intro n
                  induction n with
                  | zero => intro s9 i10 τ l2 uu160 ww160 hm; exact absurd hm (Nat.not_lt_zero _)
                  | succ n ih160 =>
                    intro s9 i10 τ l2 uu160 ww160 hm160 i160_0 i160_1 i160_2 i160_3 i160_4 i160_5
                    refine s_iload C dL_gaps_160 rfl ?_
                    refine s_iload C dL_gaps_162 rfl ?_
                    refine s_icmp_ge (tgt := 207) C dL_gaps_164 (by decide) (by omega) (by omega) (fun c164 => ?_) (fun c164 => ?_)
                    · have e164 : s9 = 1 := by rw [i160_2, show i10 = r96 by omega]; exact c96.2.2
                      refine s_iload C dL_gaps_207 rfl ?_
                      refine s_if_eq (tgt := 233) C dL_gaps_209 (by decide) (by omega) (fun c209 => ?_) (fun c209 => ?_)
                      · exfalso; omega -- done
                      · refine s_iload C dL_gaps_212 rfl ?_
                        refine s_if_le (tgt := 233) C dL_gaps_214 (by decide) (by omega) (fun c214 => ?_) (fun c214 => ?_)
                        · exfalso; omega -- done
                        · refine s_iload C dL_gaps_217 rfl ?_
                          refine s_iconst C dL_gaps_219 ?_
                          refine s_icmp_ne (tgt := 233) C dL_gaps_220 (by decide) (by omega) (by omega) (fun c220 => ?_) (fun c220 => ?_)
                          · exfalso; omega -- done
                          · refine s_iload C dL_gaps_223 rfl ?_
                            refine s_iload_n C dL_gaps_225 rfl ?_
                            refine s_icmp_gt (tgt := 233) C dL_gaps_226 (by decide) (by omega) (by omega) (fun c226 => ?_) (fun c226 => ?_)
                            · exfalso; omega -- done
                            · refine s_iconst C dL_gaps_229 ?_
                              refine s_goto (tgt := 234) C dL_gaps_230 (by decide) ?_
                              refine s_dropW he ?_
                              refine s_zret C0 hR dL_gaps_234 rfl (by omega) ⟨_, rfl, ?_⟩ ⟨(show uu160 ≤ 4000 by omega), (show ww160 ≤ 24000 by omega)⟩
                              exact ⟨rfl, l2, i160_3, i160_4⟩
                    · refine s_iload C dL_gaps_167 rfl ?_
                      refine s_aload_n C dL_gaps_169 rfl ?_
                      refine s_iload_n C dL_gaps_170 rfl ?_
                      refine s_iload C dL_gaps_171 rfl ?_
                      refine s_iload_n C dL_gaps_173 rfl ?_
                      have o174 : (op_say (uL S l2) g i10 k9).1 = 0 := by unfold op_say; dsimp only; (repeat' split) <;> first | rfl | (exfalso; omega)
                      refine sc_cV3i (u2 := uu160 + 3) (w2 := ww160 + 18) C dL_gaps_174 lkL_58 moX7_say mvX7_say (kX7_say i160_4 i160_3 (by omega) (by omega) (by omega)) sh_0 ⟨_, _, rfl⟩ (Nat.le_of_ble_eq_true rfl) (Nat.le_of_ble_eq_true rfl) ⟨rfl, rfl⟩ ⟨(show uu160 + 3 ≤ 4000 by omega), (show ww160 + 18 ≤ 24000 by omega)⟩ (fun En σ9 h => absurd h (px3_no o174)) (fun r174 σ_174 hp174 => ?_)
                      obtain ⟨-, v174, N174, T174, F174⟩ := hp174
                      replace v174 : r174 = (spF (sD S g) i10 k9).length := by first | exact v174 | (rw [h_D]; exact v174)
                      replace N174 : RN σ_174 (uL S (spF (sD S g) i10 k9)) := by first | exact N174 | (rw [h_D]; exact N174)
                      replace T174 : StOK (uL S (spF (sD S g) i10 k9)) := by first | exact T174 | (rw [h_D]; exact T174)
                      have l174 : (spF (sD S g) i10 k9).length ≤ 20 := T174.2.1.2
                      have h174 := hr_all (D := sD S g) (c := k9) (n := i10) w139 c96.2.1
                      have W174 : WA σ_174 j (spF (sD S g) r96 k9) := i160_5.fr F174
                      refine s_iload C dL_gaps_177 rfl ?_
                      refine s_icmp_ne (tgt := 197) C dL_gaps_179 (by decide) (by omega) (by omega) (fun c179 => ?_) (fun c179 => ?_)
                      · have hr10 : hrI (sD S g) k9 (spF (sD S g) r96 k9) i10 = 0 := h174.elim (fun z => by rw [z.2] at v174; omega) (fun z => z.1)
                        have W9 := W174
                        have N9 := N174
                        refine s_iconst C dL_gaps_197 ?_
                        refine s_iadd C dL_gaps_198 ?_
                        refine s_topI (fun x9_199 ex9_199 => ?_)
                        refine s_istore (ls2 := [some (vR 0), some (vI g), some (vI k9), some (vI b9), some (vI r3), some (vI r152), some (vI r96), some (vR (195 + j)), some (vI r139), some (vI x9_199), some (vI i10)]) C dL_gaps_199 (by decide) rfl ?_
                        obtain ⟨x10_201, ex10_201⟩ : ∃ y : Int, y = i10 + 1 := ⟨_, rfl⟩
                        refine s_iinc (z2 := x10_201) (ls2 := [some (vR 0), some (vI g), some (vI k9), some (vI b9), some (vI r3), some (vI r152), some (vI r96), some (vR (195 + j)), some (vI r139), some (vI x9_199), some (vI x10_201)]) C dL_gaps_201 (by decide) rfl ex10_201 rfl ?_
                        refine s_goto (tgt := 160) C dL_gaps_204 (by decide) ?_
                        refine ih160 x9_199 x10_201 σ_174 (spF (sD S g) i10 k9) (uu160 + 3) (ww160 + 18) (by omega) (by omega) (by first | assumption | omega) ?_ ?_ ?_ ?_
                        · rw [show x10_201 = i10 + 1 by omega, ftN_s (by omega), hr10]; omega
                        · exact N9
                        · exact T174
                        · exact W9
                      · refine s_aload_n C dL_gaps_182 rfl ?_
                        refine s_iload C dL_gaps_183 rfl ?_
                        refine s_aload C dL_gaps_185 rfl ?_
                        refine s_mS3i (u2 := uu160 + 43) (w2 := ww160 + 258) C dL_gaps_187 lkL_65 moL_isSame mvL_isSame (kL_isSame T174 N174 (ws := spF (sD S g) r96 k9) (show r139 = ((spF (sD S g) i10 k9).length : Int) by omega) v139.symm W174) (Nat.le_of_ble_eq_true rfl) (Nat.le_of_ble_eq_true rfl) ⟨rfl, rfl⟩ ⟨(show uu160 + 43 ≤ 4000 by omega), (show ww160 + 258 ≤ 24000 by omega)⟩ (fun r187 σ_187 hp187 => ?_)
                        obtain ⟨N187, F187, q187⟩ := hp187
                        replace N187 : RN σ_187 (uL S (spF (sD S g) i10 k9)) := N187
                        replace q187 : (r187 = 1 ∧ spF (sD S g) i10 k9 = spF (sD S g) r96 k9) ∨ (r187 = 0 ∧ spF (sD S g) i10 k9 ≠ spF (sD S g) r96 k9) := q187
                        refine s_if_eq (tgt := 197) C dL_gaps_190 (by decide) (by omega) (fun c190 => ?_) (fun c190 => ?_)
                        · have hr10 : hrI (sD S g) k9 (spF (sD S g) r96 k9) i10 = 0 := h174.elim (fun z => q187.elim (fun y => by omega) (fun y => absurd z.2 y.2)) (fun z => z.1)
                          have W9 := W174.fr F187
                          have N9 := N187
                          refine s_iconst C dL_gaps_197 ?_
                          refine s_iadd C dL_gaps_198 ?_
                          refine s_topI (fun x9_199 ex9_199 => ?_)
                          refine s_istore (ls2 := [some (vR 0), some (vI g), some (vI k9), some (vI b9), some (vI r3), some (vI r152), some (vI r96), some (vR (195 + j)), some (vI r139), some (vI x9_199), some (vI i10)]) C dL_gaps_199 (by decide) rfl ?_
                          obtain ⟨x10_201, ex10_201⟩ : ∃ y : Int, y = i10 + 1 := ⟨_, rfl⟩
                          refine s_iinc (z2 := x10_201) (ls2 := [some (vR 0), some (vI g), some (vI k9), some (vI b9), some (vI r3), some (vI r152), some (vI r96), some (vR (195 + j)), some (vI r139), some (vI x9_199), some (vI x10_201)]) C dL_gaps_201 (by decide) rfl ex10_201 rfl ?_
                          refine s_goto (tgt := 160) C dL_gaps_204 (by decide) ?_
                          refine ih160 x9_199 x10_201 σ_187 (spF (sD S g) i10 k9) (uu160 + 43) (ww160 + 258) (by omega) (by omega) (by first | assumption | omega) ?_ ?_ ?_ ?_
                          · rw [show x10_201 = i10 + 1 by omega, ftN_s (by omega), hr10]; omega
                          · exact N9
                          · exact T174
                          · exact W9
                        · have hr10 : hrI (sD S g) k9 (spF (sD S g) r96 k9) i10 = 1 := h174.elim (fun z => z.1) (fun z => q187.elim (fun y => absurd y.2 z.2) (fun y => by omega))
                          have W9 := W174.fr F187
                          have N9 := N187
                          refine s_iconst C dL_gaps_193 ?_
                          refine s_goto (tgt := 198) C dL_gaps_194 (by decide) ?_
                          refine s_iadd C dL_gaps_198 ?_
                          refine s_topI (fun x9_199 ex9_199 => ?_)
                          refine s_istore (ls2 := [some (vR 0), some (vI g), some (vI k9), some (vI b9), some (vI r3), some (vI r152), some (vI r96), some (vR (195 + j)), some (vI r139), some (vI x9_199), some (vI i10)]) C dL_gaps_199 (by decide) rfl ?_
                          obtain ⟨x10_201, ex10_201⟩ : ∃ y : Int, y = i10 + 1 := ⟨_, rfl⟩
                          refine s_iinc (z2 := x10_201) (ls2 := [some (vR 0), some (vI g), some (vI k9), some (vI b9), some (vI r3), some (vI r152), some (vI r96), some (vR (195 + j)), some (vI r139), some (vI x9_199), some (vI x10_201)]) C dL_gaps_201 (by decide) rfl ex10_201 rfl ?_
                          refine s_goto (tgt := 160) C dL_gaps_204 (by decide) ?_
                          refine ih160 x9_199 x10_201 σ_187 (spF (sD S g) i10 k9) (uu160 + 43) (ww160 + 258) (by omega) (by omega) (by first | assumption | omega) ?_ ?_ ?_ ?_
                          · rw [show x10_201 = i10 + 1 by omega, ftN_s (by omega), hr10]; omega
                          · exact N9
                          · exact T174
                          · exact W9
                refine L160 _ 0 0 σ_152 (spF (sD S g) r96 k9) (uu30 + 207) (ww30 + 1256) (Nat.lt_succ_self _) (by omega) (by first | assumption | omega) ?_ ?_ ?_ ?_
                · rfl
                · exact N152
                · exact T139
                · exact W152
              · exfalso; omega -- done
          · refine s_iload C dL_gaps_36 rfl ?_
            refine s_if_eq (tgt := 92) C dL_gaps_38 (by decide) (by omega) (fun c38 => ?_) (fun c38 => ?_)
            · exfalso; omega -- done
            · refine s_aload_n C dL_gaps_41 rfl ?_
              refine s_iload_n C dL_gaps_42 rfl ?_
              refine s_iload C dL_gaps_43 rfl ?_
              refine s_iload_n C dL_gaps_45 rfl ?_
              have o46 : (op_say (uL S l) g i6 k9).1 = 0 := by unfold op_say; dsimp only; (repeat' split) <;> first | rfl | (exfalso; omega)
              refine sc_cV3i (u2 := uu30 + 3) (w2 := ww30 + 18) C dL_gaps_46 lkL_58 moX7_say mvX7_say (kX7_say i30_4 i30_3 (by omega) (by omega) (by omega)) sh_0 ⟨_, _, rfl⟩ (Nat.le_of_ble_eq_true rfl) (Nat.le_of_ble_eq_true rfl) ⟨rfl, rfl⟩ ⟨(show uu30 + 3 ≤ 4000 by omega), (show ww30 + 18 ≤ 24000 by omega)⟩ (fun En σ9 h => absurd h (px3_no o46)) (fun r46 σ_46 hp46 => ?_)
              obtain ⟨-, v46, N46, T46, F46⟩ := hp46
              replace v46 : r46 = (spF (sD S g) i6 k9).length := by first | exact v46 | (rw [h_D]; exact v46)
              replace N46 : RN σ_46 (uL S (spF (sD S g) i6 k9)) := by first | exact N46 | (rw [h_D]; exact N46)
              replace T46 : StOK (uL S (spF (sD S g) i6 k9)) := by first | exact T46 | (rw [h_D]; exact T46)
              have g46 := ga_sp hD (z := b9) (c := k9) (x := i6) (by omega) (by omega) (by omega)
              rw [← v3] at g46
              have l46 : (spF (sD S g) i6 k9).length ≤ 20 := T46.2.1.2
              refine s_if_le (tgt := 67) C dL_gaps_49 (by decide) (by omega) (fun c49 => ?_) (fun c49 => ?_)
              · have y49 := g46.2 (len_0.mp (by omega))
                refine s_iload C dL_gaps_67 rfl ?_
                refine s_if_lt (tgt := 83) C dL_gaps_69 (by decide) (by omega) (fun c69 => ?_) (fun c69 => ?_)
                · exfalso; omega -- done
                · refine s_iload C dL_gaps_72 rfl ?_
                  refine s_iload C dL_gaps_74 rfl ?_
                  refine s_icmp_gt (tgt := 83) C dL_gaps_76 (by decide) (by omega) (by omega) (fun c76 => ?_) (fun c76 => ?_)
                  · exfalso; omega -- done
                  · refine s_iconst C dL_gaps_79 ?_
                    refine s_goto (tgt := 84) C dL_gaps_80 (by decide) ?_
                    refine s_istore (ls2 := [some (vR 0), some (vI g), some (vI k9), some (vI b9), some (vI r3), some (vI 1), some (vI i6), none, none, none, none]) C dL_gaps_84 (by decide) rfl ?_
                    obtain ⟨x6_86, ex6_86⟩ : ∃ y : Int, y = i6 + 1 := ⟨_, rfl⟩
                    refine s_iinc (z2 := x6_86) (ls2 := [some (vR 0), some (vI g), some (vI k9), some (vI b9), some (vI r3), some (vI 1), some (vI x6_86), none, none, none, none]) C dL_gaps_86 (by decide) rfl ex6_86 rfl ?_
                    refine s_goto (tgt := 30) C dL_gaps_89 (by decide) ?_
                    refine ih30 1 x6_86 σ_46 (spF (sD S g) i6 k9) (uu30 + 3) (ww30 + 18) (by omega) (by omega) (by first | assumption | omega) (by first | assumption | omega) ?_ ?_
                    · exact N46
                    · exact T46
              · have y49 := g46.1 (len_pos.mp (by omega))
                refine s_iload C dL_gaps_52 rfl ?_
                refine s_iload C dL_gaps_54 rfl ?_
                refine s_icmp_eq (tgt := 63) C dL_gaps_56 (by decide) (by omega) (by omega) (fun c56 => ?_) (fun c56 => ?_)
                · exfalso; omega -- done
                · refine s_iconst C dL_gaps_59 ?_
                  refine s_goto (tgt := 84) C dL_gaps_60 (by decide) ?_
                  refine s_istore (ls2 := [some (vR 0), some (vI g), some (vI k9), some (vI b9), some (vI r3), some (vI 1), some (vI i6), none, none, none, none]) C dL_gaps_84 (by decide) rfl ?_
                  obtain ⟨x6_86, ex6_86⟩ : ∃ y : Int, y = i6 + 1 := ⟨_, rfl⟩
                  refine s_iinc (z2 := x6_86) (ls2 := [some (vR 0), some (vI g), some (vI k9), some (vI b9), some (vI r3), some (vI 1), some (vI x6_86), none, none, none, none]) C dL_gaps_86 (by decide) rfl ex6_86 rfl ?_
                  refine s_goto (tgt := 30) C dL_gaps_89 (by decide) ?_
                  refine ih30 1 x6_86 σ_46 (spF (sD S g) i6 k9) (uu30 + 3) (ww30 + 18) (by omega) (by omega) (by first | assumption | omega) (by first | assumption | omega) ?_ ?_
                  · exact N46
                  · exact T46
      refine L30 _ 1 0 σ_3 (sL S) 2 12 (Nat.lt_succ_self _) (by omega) (by first | assumption | omega) (by first | assumption | omega) ?_ ?_
      · exact N3
      · exact hS
