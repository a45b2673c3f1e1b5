/-! The law's learns. -/
abbrev sZ3 (S : st_T) (l h : List Int) (e : List (Int × List Int)) : st_T := (S.1, l, h, e, S.2.2.2.2)
set_option maxRecDepth 100000 in
set_option maxHeartbeats 8000000 in
theorem kL_learns {E : sv_E} {σ : sv_G} (he : E.2.1.2 = []) {S : st_T} (hS : StOK S) (hN : RN σ S) {g p9 jt x : Int} (hg : 0 ≤ g ∧ g ≤ 3) (hp : 0 ≤ p9 ∧ p9 < gC (sD S g) 1) (hjt : 0 ≤ jt ∧ jt ≤ 199) (hx : 0 ≤ x ∧ x ≤ 1073741823) : CT E ML_learns 99 [(vR 0), (vI g), (vI p9), (vI jt), (vI x)] σ (PI fun r σ9 => r = 1 ∧ ∃ S' : st_T, RN σ9 S' ∧ StOK S' ∧ S'.2.2.2.2 = S.2.2.2.2) := by
  refine CT.of (RL, cL_learns, 13, (some .boolean), [], 99, 600, 3600) rfl moL_learns (Nat.le_of_ble_eq_true rfl) (ls0 := [some (vR 0), some (vI g), some (vI p9), some (vI jt), some (vI x), none, none, none, none, none, none, none, none]) rfl ?_
  intro X Q C hR
  have hD := hS.1 g hg.1 hg.2
  have hgc := hD.2.2.2.1
  have hE20 := hS.2.2.2.1.1
  have hbs := hD.2.2.2.2.2.2.2.1 p9 hp.1 hp.2
  have hb3 := hbs.2.2.2.1
  have hb4 := hbs.2.2.2.2.1
  refine s_aload_n C dL_learns_0 rfl ?_
  refine s_iload_n C dL_learns_1 rfl ?_
  refine s_iload_n C dL_learns_2 rfl ?_
  refine s_iconst C dL_learns_3 ?_
  have o4 : (op_baseTold S g p9 3).1 = 0 := by unfold op_baseTold; dsimp only; (repeat' split) <;> first | rfl | (exfalso; omega)
  refine sc_cV3i (u2 := 3) (w2 := 18) C dL_learns_4 lkL_97 moX7_baseTold mvX7_baseTold (kX7_baseTold hS hN (by omega) (by omega) (by omega)) sh_0 ⟨_, _, rfl⟩ (Nat.le_of_ble_eq_true rfl) (Nat.le_of_ble_eq_true rfl) ⟨rfl, rfl⟩ ⟨(show 3 ≤ 600 by omega), (show 18 ≤ 3600 by omega)⟩ (fun En σ9 h => absurd h (px3_no o4)) (fun r4 σ_4 hp4 => ?_)
  obtain ⟨-, v4, N4, T4, F4⟩ := hp4
  replace v4 : r4 = gB (sD S g) p9 3 := by first | exact v4 | (rw [h_D]; exact v4)
  replace N4 : RN σ_4 S := by first | exact N4 | (rw [h_D]; exact N4)
  replace T4 : StOK S := by first | exact T4 | (rw [h_D]; exact T4)
  refine s_istore (ls2 := [some (vR 0), some (vI g), some (vI p9), some (vI jt), some (vI x), some (vI r4), none, none, none, none, none, none, none]) C dL_learns_7 (by decide) rfl ?_
  refine s_aload_n C dL_learns_9 rfl ?_
  refine s_iload_n C dL_learns_10 rfl ?_
  refine s_iload_n C dL_learns_11 rfl ?_
  refine s_iconst C dL_learns_12 ?_
  have o13 : (op_baseTold S g p9 4).1 = 0 := by unfold op_baseTold; dsimp only; (repeat' split) <;> first | rfl | (exfalso; omega)
  refine sc_cV3i (u2 := 6) (w2 := 36) C dL_learns_13 lkL_97 moX7_baseTold mvX7_baseTold (kX7_baseTold T4 N4 (by omega) (by omega) (by omega)) sh_0 ⟨_, _, rfl⟩ (Nat.le_of_ble_eq_true rfl) (Nat.le_of_ble_eq_true rfl) ⟨rfl, rfl⟩ ⟨(show 6 ≤ 600 by omega), (show 36 ≤ 3600 by omega)⟩ (fun En σ9 h => absurd h (px3_no o13)) (fun r13 σ_13 hp13 => ?_)
  obtain ⟨-, v13, N13, T13, F13⟩ := hp13
  replace v13 : r13 = gB (sD S g) p9 4 := by first | exact v13 | (rw [h_D]; exact v13)
  replace N13 : RN σ_13 S := by first | exact N13 | (rw [h_D]; exact N13)
  replace T13 : StOK S := by first | exact T13 | (rw [h_D]; exact T13)
  refine s_istore (ls2 := [some (vR 0), some (vI g), some (vI p9), some (vI jt), some (vI x), some (vI r4), some (vI r13), none, none, none, none, none, none]) C dL_learns_16 (by decide) rfl ?_
  refine s_aload_n C dL_learns_18 rfl ?_
  refine s_cV0i C dL_learns_19 lkL_100 moX7_dropExamples mvX7_dropExamples (kX7_dropExamples T13 N13) sh_0 ⟨_, _, rfl⟩ (Nat.le_of_ble_eq_true rfl) (Nat.le_of_ble_eq_true rfl) rfl ⟨(show 6 ≤ 600 by omega), (show 36 ≤ 3600 by omega)⟩ (fun r19 σ_19 hp19 => ?_)
  obtain ⟨-, v19, N19, T19, F19⟩ := hp19
  replace v19 : r19 = ((sE S).length : Int) := by first | exact v19 | (rw [h_D]; exact v19)
  replace N19 : RN σ_19 (uE S []) := by first | exact N19 | (rw [h_D]; exact N19)
  replace T19 : StOK (uE S []) := by first | exact T19 | (rw [h_D]; exact T19)
  refine s_istore (ls2 := [some (vR 0), some (vI g), some (vI p9), some (vI jt), some (vI x), some (vI r4), some (vI r13), some (vI r19), none, none, none, none, none]) C dL_learns_22 (by decide) rfl ?_
  refine s_aload_n C dL_learns_24 rfl ?_
  refine s_iload_n C dL_learns_25 rfl ?_
  refine s_iload_n C dL_learns_26 rfl ?_
  refine s_iload_n C dL_learns_27 rfl ?_
  have o28 : (op_settings (uE S []) g p9 jt).1 = 0 := by show (if ¬ ((0 ≤ g ∧ g ≤ 3 ∧ 0 ≤ p9 ∧ p9 < gC (sD S g) 1) ∧ 0 ≤ jt ∧ jt ≤ 199) then (1 : Int) else 0) = 0; rw [if_neg (by omega)]
  refine sc_cV3i (u2 := 9) (w2 := 54) C dL_learns_28 lkL_103 moX7_settings mvX7_settings (kX7_settings T19 N19 (by omega) (by omega) (by omega)) sh_0 ⟨_, _, rfl⟩ (Nat.le_of_ble_eq_true rfl) (Nat.le_of_ble_eq_true rfl) ⟨rfl, rfl⟩ ⟨(show 9 ≤ 600 by omega), (show 54 ≤ 3600 by omega)⟩ (fun En σ9 h => absurd h (px3_no o28)) (fun r28 σ_28 hp28 => ?_)
  obtain ⟨-, v28, N28, T28, F28⟩ := hp28
  replace v28 : r28 = ((fsL (sD S g) p9 jt []).length : Int) := by first | exact v28 | (rw [h_D]; exact v28)
  replace N28 : RN σ_28 (uE S []) := by first | exact N28 | (rw [h_D]; exact N28)
  replace T28 : StOK (uE S []) := by first | exact T28 | (rw [h_D]; exact T28)
  have y28 : r28 = 32 := by
    rw [v28]
    unfold fsL
    rw [fs_nil]
    rfl
  refine s_bipush C dL_learns_31 (by decide) ?_
  refine s_icmp_ne (tgt := 45) C dL_learns_33 (by decide) (by omega) (by omega) (fun c33 => ?_) (fun c33 => ?_)
  · exfalso; omega -- done
  · refine s_iload C dL_learns_36 rfl ?_
    refine s_if_lt (tgt := 45) C dL_learns_38 (by decide) (by omega) (fun c38 => ?_) (fun c38 => ?_)
    · exfalso; omega -- done
    · refine s_iconst C dL_learns_41 ?_
      refine s_goto (tgt := 46) C dL_learns_42 (by decide) ?_
      refine s_istore (ls2 := [some (vR 0), some (vI g), some (vI p9), some (vI jt), some (vI x), some (vI r4), some (vI r13), some (vI r19), some (vI 1), none, none, none, none]) C dL_learns_46 (by decide) rfl ?_
      refine s_iconst C dL_learns_48 ?_
      refine s_istore (ls2 := [some (vR 0), some (vI g), some (vI p9), some (vI jt), some (vI x), some (vI r4), some (vI r13), some (vI r19), some (vI 1), some (vI 0), none, none, none]) C dL_learns_49 (by decide) rfl ?_
      refine s_iconst C dL_learns_51 ?_
      refine s_istore (ls2 := [some (vR 0), some (vI g), some (vI p9), some (vI jt), some (vI x), some (vI r4), some (vI r13), some (vI r19), some (vI 1), some (vI 0), some (vI 0), none, none]) C dL_learns_52 (by decide) rfl ?_
      have L54 : ∀ (n : Nat) (b8 : Int) (m9 : Int) (i10 : Int) (τ : sv_G) (Z : List Int × List Int × List (Int × List Int)) (uu54 ww54 : Nat), (4 - i10).toNat < n → ((uu54 : Int) + 12 * (4 - i10) ≤ 200 ∧ (ww54 : Int) + 72 * (4 - i10) ≤ 1200) → (b8 = 1) → (0 ≤ i10 ∧ i10 ≤ 4) → (m9 = (Z.2.2.length : Int) ∧ m9 ≤ i10) → (RN τ (sZ3 S Z.1 Z.2.1 Z.2.2)) → (StOK (sZ3 S Z.1 Z.2.1 Z.2.2)) → (meE (sD S g) Z.2.2) → SW X E Q uu54 ww54 54 [some (vR 0), some (vI g), some (vI p9), some (vI jt), some (vI x), some (vI r4), some (vI r13), some (vI r19), some (vI b8), some (vI m9), some (vI i10), none, none] [] τ := by
        intro n
        induction n with
        | zero => intro b8 m9 i10 τ Z uu54 ww54 hm; exact absurd hm (Nat.not_lt_zero _)
        | succ n ih54 =>
          intro b8 m9 i10 τ Z uu54 ww54 hm54 i54_0 i54_1 i54_2 i54_3 i54_4 i54_5 i54_6
          refine s_iload C dL_learns_54 rfl ?_
          refine s_iconst C dL_learns_56 ?_
          refine s_icmp_ge (tgt := 131) C dL_learns_57 (by decide) (by omega) (by omega) (fun c57 => ?_) (fun c57 => ?_)
          · refine s_aload_n C dL_learns_131 rfl ?_
            refine s_iload_n C dL_learns_132 rfl ?_
            refine s_iload_n C dL_learns_133 rfl ?_
            refine s_iload_n C dL_learns_134 rfl ?_
            have o135 : (op_settings (sZ3 S Z.1 Z.2.1 Z.2.2) g p9 jt).1 = 0 := by show (if ¬ ((0 ≤ g ∧ g ≤ 3 ∧ 0 ≤ p9 ∧ p9 < gC (sD S g) 1) ∧ 0 ≤ jt ∧ jt ≤ 199) then (1 : Int) else 0) = 0; rw [if_neg (by omega)]
            refine sc_cV3i (u2 := uu54 + 3) (w2 := ww54 + 18) C dL_learns_135 lkL_103 moX7_settings mvX7_settings (kX7_settings i54_5 i54_4 (by omega) (by omega) (by omega)) sh_0 ⟨_, _, rfl⟩ (Nat.le_of_ble_eq_true rfl) (Nat.le_of_ble_eq_true rfl) ⟨rfl, rfl⟩ ⟨(show uu54 + 3 ≤ 600 by omega), (show ww54 + 18 ≤ 3600 by omega)⟩ (fun En σ9 h => absurd h (px3_no o135)) (fun r135 σ_135 hp135 => ?_)
            obtain ⟨-, v135, N135, T135, F135⟩ := hp135
            replace v135 : r135 = ((fsL (sD S g) p9 jt Z.2.2).length : Int) := by first | exact v135 | (rw [h_D]; exact v135)
            replace N135 : RN σ_135 (sZ3 S Z.1 Z.2.1 Z.2.2) := by first | exact N135 | (rw [h_D]; exact N135)
            replace T135 : StOK (sZ3 S Z.1 Z.2.1 Z.2.2) := by first | exact T135 | (rw [h_D]; exact T135)
            have b135 := (fs_b (D := sD S g) (p := p9) (j := jt) (E := Z.2.2)).1
            refine s_istore (ls2 := [some (vR 0), some (vI g), some (vI p9), some (vI jt), some (vI x), some (vI r4), some (vI r13), some (vI r19), some (vI b8), some (vI m9), some (vI r135), none, none]) C dL_learns_138 (by decide) rfl ?_
            refine s_aload_n C dL_learns_140 rfl ?_
            refine s_iload_n C dL_learns_141 rfl ?_
            refine s_iload_n C dL_learns_142 rfl ?_
            refine s_iload_n C dL_learns_143 rfl ?_
            refine s_bipush C dL_learns_144 (by decide) ?_
            have o146 : (op_askNumber (sZ3 S Z.1 Z.2.1 Z.2.2) g p9 jt 30).1 = 0 := by show (if ¬ ((0 ≤ g ∧ g ≤ 3 ∧ 0 ≤ p9 ∧ p9 < gC (sD S g) 1) ∧ 0 ≤ jt ∧ jt ≤ 199) then (1 : Int) else if ¬ ((0 : Int) ≤ 30 ∧ (30 : Int) ≤ 99) then 2 else 0) = 0; rw [if_neg (by omega), if_neg (by decide)]
            refine sc_cV4i (u2 := uu54 + 7) (w2 := ww54 + 42) C dL_learns_146 lkL_106 moX7_askNumber mvX7_askNumber (kX7_askNumber T135 N135 (by omega) (by omega) (by omega) (by omega)) sh_0 ⟨_, _, rfl⟩ (Nat.le_of_ble_eq_true rfl) (Nat.le_of_ble_eq_true rfl) ⟨rfl, rfl⟩ ⟨(show uu54 + 7 ≤ 600 by omega), (show ww54 + 42 ≤ 3600 by omega)⟩ (fun En σ9 h => absurd h (px3_no o146)) (fun r146 σ_146 hp146 => ?_)
            obtain ⟨-, v146, N146, T146, F146⟩ := hp146
            replace v146 : r146 = (anS (sD S g) p9 jt (fsL (sD S g) p9 jt Z.2.2) 31).1 := by first | exact v146 | (rw [h_D]; exact v146)
            replace N146 : RN σ_146 (sZ3 S Z.1 Z.2.1 Z.2.2) := by first | exact N146 | (rw [h_D]; exact N146)
            replace T146 : StOK (sZ3 S Z.1 Z.2.1 Z.2.2) := by first | exact T146 | (rw [h_D]; exact T146)
            have b146 := an_in (D := sD S g) (p := p9) (j := jt) (F := (fsL (sD S g) p9 jt Z.2.2)) 31
            rw [← v146] at b146
            have f146 : r135 ≤ 1 → r146 = -1 := fun z => by rw [v146, an_few (by omega) 31]
            refine s_istore (ls2 := [some (vR 0), some (vI g), some (vI p9), some (vI jt), some (vI x), some (vI r4), some (vI r13), some (vI r19), some (vI b8), some (vI m9), some (vI r135), some (vI r146), none]) C dL_learns_149 (by decide) rfl ?_
            refine s_iload C dL_learns_151 rfl ?_
            refine s_if_eq (tgt := 237) C dL_learns_153 (by decide) (by omega) (fun c153 => ?_) (fun c153 => ?_)
            · exfalso; omega -- done
            · refine s_iload C dL_learns_156 rfl ?_
              refine s_if_lt (tgt := 237) C dL_learns_158 (by decide) (by omega) (fun c158 => ?_) (fun c158 => ?_)
              · exfalso; omega -- done
              · refine s_iload C dL_learns_161 rfl ?_
                refine s_bipush C dL_learns_163 (by decide) ?_
                refine s_icmp_gt (tgt := 237) C dL_learns_165 (by decide) (by omega) (by omega) (fun c165 => ?_) (fun c165 => ?_)
                · exfalso; omega -- done
                · refine s_iload C dL_learns_168 rfl ?_
                  refine s_iconst C dL_learns_170 ?_
                  refine s_icmp_lt (tgt := 237) C dL_learns_171 (by decide) (by omega) (by omega) (fun c171 => ?_) (fun c171 => ?_)
                  · exfalso; omega -- done
                  · refine s_iload C dL_learns_174 rfl ?_
                    refine s_bipush C dL_learns_176 (by decide) ?_
                    refine s_icmp_gt (tgt := 237) C dL_learns_178 (by decide) (by omega) (by omega) (fun c178 => ?_) (fun c178 => ?_)
                    · exfalso; omega -- done
                    · refine s_iload C dL_learns_181 rfl ?_
                      refine s_iconst C dL_learns_183 ?_
                      have J193 : SW X E Q (uu54 + 7) (ww54 + 42) 193 [some (vR 0), some (vI g), some (vI p9), some (vI jt), some (vI x), some (vI r4), some (vI r13), some (vI r19), some (vI b8), some (vI m9), some (vI r135), some (vI r146), none] [] σ_146 := by
                        refine s_aload_n C dL_learns_193 rfl ?_
                        refine s_iload_n C dL_learns_194 rfl ?_
                        refine s_iload_n C dL_learns_195 rfl ?_
                        refine s_iconst C dL_learns_196 ?_
                        have o197 : (op_baseTold (sZ3 S Z.1 Z.2.1 Z.2.2) g p9 3).1 = 0 := by show (if ¬ (0 ≤ g ∧ g ≤ 3 ∧ 0 ≤ p9 ∧ p9 < gC (sD S g) 1) then (1 : Int) else if ¬ ((0 : Int) ≤ 3 ∧ (3 : Int) ≤ 6) then 2 else 0) = 0; rw [if_neg (by omega), if_neg (by decide)]
                        refine sc_cV3i (u2 := uu54 + 10) (w2 := ww54 + 60) C dL_learns_197 lkL_97 moX7_baseTold mvX7_baseTold (kX7_baseTold T146 N146 (by omega) (by omega) (by omega)) sh_0 ⟨_, _, rfl⟩ (Nat.le_of_ble_eq_true rfl) (Nat.le_of_ble_eq_true rfl) ⟨rfl, rfl⟩ ⟨(show uu54 + 10 ≤ 600 by omega), (show ww54 + 60 ≤ 3600 by omega)⟩ (fun En σ9 h => absurd h (px3_no o197)) (fun r197 σ_197 hp197 => ?_)
                        obtain ⟨-, v197, N197, T197, F197⟩ := hp197
                        replace v197 : r197 = gB (sD S g) p9 3 := by first | exact v197 | (rw [h_D]; exact v197)
                        replace N197 : RN σ_197 (sZ3 S Z.1 Z.2.1 Z.2.2) := by first | exact N197 | (rw [h_D]; exact N197)
                        replace T197 : StOK (sZ3 S Z.1 Z.2.1 Z.2.2) := by first | exact T197 | (rw [h_D]; exact T197)
                        refine s_iload C dL_learns_200 rfl ?_
                        refine s_icmp_ne (tgt := 237) C dL_learns_202 (by decide) (by omega) (by omega) (fun c202 => ?_) (fun c202 => ?_)
                        · exfalso; omega -- done
                        · refine s_aload_n C dL_learns_205 rfl ?_
                          refine s_iload_n C dL_learns_206 rfl ?_
                          refine s_iload_n C dL_learns_207 rfl ?_
                          refine s_iconst C dL_learns_208 ?_
                          have o209 : (op_baseTold (sZ3 S Z.1 Z.2.1 Z.2.2) g p9 4).1 = 0 := by show (if ¬ (0 ≤ g ∧ g ≤ 3 ∧ 0 ≤ p9 ∧ p9 < gC (sD S g) 1) then (1 : Int) else if ¬ ((0 : Int) ≤ 4 ∧ (4 : Int) ≤ 6) then 2 else 0) = 0; rw [if_neg (by omega), if_neg (by decide)]
                          refine sc_cV3i (u2 := uu54 + 13) (w2 := ww54 + 78) C dL_learns_209 lkL_97 moX7_baseTold mvX7_baseTold (kX7_baseTold T197 N197 (by omega) (by omega) (by omega)) sh_0 ⟨_, _, rfl⟩ (Nat.le_of_ble_eq_true rfl) (Nat.le_of_ble_eq_true rfl) ⟨rfl, rfl⟩ ⟨(show uu54 + 13 ≤ 600 by omega), (show ww54 + 78 ≤ 3600 by omega)⟩ (fun En σ9 h => absurd h (px3_no o209)) (fun r209 σ_209 hp209 => ?_)
                          obtain ⟨-, v209, N209, T209, F209⟩ := hp209
                          replace v209 : r209 = gB (sD S g) p9 4 := by first | exact v209 | (rw [h_D]; exact v209)
                          replace N209 : RN σ_209 (sZ3 S Z.1 Z.2.1 Z.2.2) := by first | exact N209 | (rw [h_D]; exact N209)
                          replace T209 : StOK (sZ3 S Z.1 Z.2.1 Z.2.2) := by first | exact T209 | (rw [h_D]; exact T209)
                          refine s_iload C dL_learns_212 rfl ?_
                          refine s_icmp_ne (tgt := 237) C dL_learns_214 (by decide) (by omega) (by omega) (fun c214 => ?_) (fun c214 => ?_)
                          · exfalso; omega -- done
                          · refine s_iload C dL_learns_217 rfl ?_
                            have J233 : SW X E Q (uu54 + 13) (ww54 + 78) 233 [some (vR 0), some (vI g), some (vI p9), some (vI jt), some (vI x), some (vI r4), some (vI r13), some (vI r19), some (vI b8), some (vI m9), some (vI r135), some (vI r146), none] [] σ_209 := by
                              refine s_iconst C dL_learns_233 ?_
                              refine s_goto (tgt := 238) C dL_learns_234 (by decide) ?_
                              refine s_istore (ls2 := [some (vR 0), some (vI g), some (vI p9), some (vI jt), some (vI x), some (vI r4), some (vI r13), some (vI r19), some (vI 1), some (vI m9), some (vI r135), some (vI r146), none]) C dL_learns_238 (by decide) rfl ?_
                              refine s_aload_n C dL_learns_240 rfl ?_
                              refine s_bipush C dL_learns_241 (by decide) ?_
                              refine s_iload_n C dL_learns_243 rfl ?_
                              refine s_iload_n C dL_learns_244 rfl ?_
                              refine s_iload_n C dL_learns_245 rfl ?_
                              refine s_iconst C dL_learns_246 ?_
                              refine s_iconst C dL_learns_247 ?_
                              refine s_cW7i (u2 := uu54 + 22) (w2 := ww54 + 132) C dL_learns_248 lkL_52 moL_asks mvL_asks (kL_asks_learn T209 N209 (by omega) (by omega) (by omega)) (Nat.le_of_ble_eq_true rfl) (Nat.le_of_ble_eq_true rfl) ⟨rfl, rfl⟩ ⟨(show uu54 + 22 ≤ 600 by omega), (show ww54 + 132 ≤ 3600 by omega)⟩ (fun r248 σ_248 hp248 => ?_)
                              obtain ⟨S2, hS2⟩ : ∃ S2 : st_T, S2 = uD (sZ3 S Z.1 Z.2.1 Z.2.2) g (dSet (sD S g) p9 ((fsL (sD S g) p9 jt Z.2.2).getD 0 0) jt) := ⟨_, rfl⟩
                              have q248 : ((fsL (sD S g) p9 jt Z.2.2).length = 0 ∧ r248 = -70008 ∧ RN σ_248 (sZ3 S Z.1 Z.2.1 Z.2.2)) ∨ ((fsL (sD S g) p9 jt Z.2.2).length ≠ 0 ∧ r248 = (fsL (sD S g) p9 jt Z.2.2).getD 0 0 ∧ (0 ≤ r248 ∧ r248 < 32) ∧ RN σ_248 S2 ∧ StOK S2) := by
                                by_cases z : (fsL (sD S g) p9 jt Z.2.2).length = 0
                                · have o : (op_learn (sZ3 S Z.1 Z.2.1 Z.2.2) g p9 jt).1 = 2 := by
                                    show (if ¬ ((0 ≤ g ∧ g ≤ 3 ∧ 0 ≤ p9 ∧ p9 < gC (sD S g) 1) ∧ 0 ≤ jt ∧ jt ≤ 199) then (1 : Int) else if (fsL (sD S g) p9 jt Z.2.2).length = 0 then 2 else 0) = 2
                                    rw [if_neg (by omega), if_pos z]
                                  exact Or.inl ⟨z, hp248.2.2.2.1 o, hp248.2.1 (by omega)⟩
                                · have o : (op_learn (sZ3 S Z.1 Z.2.1 Z.2.2) g p9 jt).1 = 0 := by
                                    show (if ¬ ((0 ≤ g ∧ g ≤ 3 ∧ 0 ≤ p9 ∧ p9 < gC (sD S g) 1) ∧ 0 ≤ jt ∧ jt ≤ 199) then (1 : Int) else if (fsL (sD S g) p9 jt Z.2.2).length = 0 then 2 else 0) = 0
                                    rw [if_neg (by omega), if_neg z]
                                  obtain ⟨y1, y2, y3⟩ := hp248.1 o
                                  have y4 : r248 = (fsL (sD S g) p9 jt Z.2.2).getD 0 0 := y1
                                  have y5 := (fs_b (D := sD S g) (p := p9) (j := jt) (E := Z.2.2)).2 _ (getD_mem2 (d := 0) (i := 0) (by omega))
                                  exact Or.inr ⟨z, y4, by omega, by rw [hS2]; exact y2, by rw [hS2]; exact y3⟩
                              have b248 : -70008 ≤ r248 ∧ r248 ≤ 31 := by rcases q248 with z | z <;> omega
                              refine s_istore (ls2 := [some (vR 0), some (vI g), some (vI p9), some (vI jt), some (vI x), some (vI r4), some (vI r13), some (vI r19), some (vI 1), some (vI m9), some (vI r135), some (vI r146), some (vI r248)]) C dL_learns_251 (by decide) rfl ?_
                              refine s_iload C dL_learns_253 rfl ?_
                              refine s_ldc (n := (-70008)) C dL_learns_255 lcc_51 rfl ?_
                              refine s_icmp_eq (tgt := 265) C dL_learns_257 (by decide) (by omega) (by omega) (fun c257 => ?_) (fun c257 => ?_)
                              · obtain ⟨y1, y2, y3⟩ := q248.resolve_right (fun z => by omega)
                                refine s_iload C dL_learns_265 rfl ?_
                                refine s_if_eq (tgt := 288) C dL_learns_267 (by decide) (by omega) (fun c267 => ?_) (fun c267 => ?_)
                                · exfalso; omega -- done
                                · refine s_iload C dL_learns_270 rfl ?_
                                  refine s_if_ne (tgt := 288) C dL_learns_272 (by decide) (by omega) (fun c272 => ?_) (fun c272 => ?_)
                                  · exfalso; omega -- done
                                  · refine s_aload_n C dL_learns_275 rfl ?_
                                    refine s_cV0i C dL_learns_276 lkL_100 moX7_dropExamples mvX7_dropExamples (kX7_dropExamples T209 y3) sh_0 ⟨_, _, rfl⟩ (Nat.le_of_ble_eq_true rfl) (Nat.le_of_ble_eq_true rfl) rfl ⟨(show uu54 + 22 ≤ 600 by omega), (show ww54 + 132 ≤ 3600 by omega)⟩ (fun r276 σ_276 hp276 => ?_)
                                    obtain ⟨-, v276, N276, T276, F276⟩ := hp276
                                    replace v276 : r276 = (Z.2.2.length : Int) := by first | exact v276 | (rw [h_D]; exact v276)
                                    replace N276 : RN σ_276 (sZ3 S Z.1 Z.2.1 ([])) := by first | exact N276 | (rw [h_D]; exact N276)
                                    replace T276 : StOK (sZ3 S Z.1 Z.2.1 ([])) := by first | exact T276 | (rw [h_D]; exact T276)
                                    refine s_iload C dL_learns_279 rfl ?_
                                    refine s_icmp_ne (tgt := 288) C dL_learns_281 (by decide) (by omega) (by omega) (fun c281 => ?_) (fun c281 => ?_)
                                    · exfalso; omega -- done
                                    · refine s_iconst C dL_learns_284 ?_
                                      refine s_goto (tgt := 289) C dL_learns_285 (by decide) ?_
                                      refine s_zret C hR dL_learns_289 rfl (by omega) ⟨_, rfl, ?_⟩ ⟨(show uu54 + 22 ≤ 600 by omega), (show ww54 + 132 ≤ 3600 by omega)⟩
                                      exact ⟨rfl, _, N276, T276, rfl⟩
                              · obtain ⟨y1, y2, y3, y4, y5⟩ := q248.resolve_left (fun z => by omega)
                                have D2 : sD S2 g = dSet (sD S g) p9 r248 jt := by rw [hS2, y2]; exact if_pos rfl
                                have E2 : sE S2 = Z.2.2 := by rw [hS2]; rfl
                                have C2 : S2.2.2.2.2 = S.2.2.2.2 := by rw [hS2]; rfl
                                have G2 : gC (sD S2 g) 1 = gC (sD S g) 1 := by rw [D2]; rfl
                                refine s_iload C dL_learns_260 rfl ?_
                                refine s_if_ne (tgt := 290) C dL_learns_262 (by decide) (by omega) (fun c262 => ?_) (fun c262 => ?_)
                                · refine s_iload C dL_learns_290 rfl ?_
                                  refine s_if_le (tgt := 391) C dL_learns_292 (by decide) (by omega) (fun c292 => ?_) (fun c292 => ?_)
                                  · exfalso; omega -- done
                                  · refine s_iload C dL_learns_295 rfl ?_
                                    refine s_if_lt (tgt := 391) C dL_learns_297 (by decide) (by omega) (fun c297 => ?_) (fun c297 => ?_)
                                    · exfalso; omega -- done
                                    · refine s_iload C dL_learns_300 rfl ?_
                                      refine s_bipush C dL_learns_302 (by decide) ?_
                                      refine s_icmp_ge (tgt := 391) C dL_learns_304 (by decide) (by omega) (by omega) (fun c304 => ?_) (fun c304 => ?_)
                                      · exfalso; omega -- done
                                      · refine s_aload_n C dL_learns_307 rfl ?_
                                        refine s_iload_n C dL_learns_308 rfl ?_
                                        refine s_iload_n C dL_learns_309 rfl ?_
                                        refine s_iconst C dL_learns_310 ?_
                                        have o311 : (op_baseTold S2 g p9 3).1 = 0 := by unfold op_baseTold; dsimp only; (repeat' split) <;> first | rfl | (exfalso; omega)
                                        refine sc_cV3i (u2 := uu54 + 25) (w2 := ww54 + 150) C dL_learns_311 lkL_97 moX7_baseTold mvX7_baseTold (kX7_baseTold y5 y4 (by omega) (by omega) (by omega)) sh_0 ⟨_, _, rfl⟩ (Nat.le_of_ble_eq_true rfl) (Nat.le_of_ble_eq_true rfl) ⟨rfl, rfl⟩ ⟨(show uu54 + 25 ≤ 600 by omega), (show ww54 + 150 ≤ 3600 by omega)⟩ (fun En σ9 h => absurd h (px3_no o311)) (fun r311 σ_311 hp311 => ?_)
                                        obtain ⟨-, v311, N311, T311, F311⟩ := hp311
                                        replace v311 : r311 = gB (sD S2 g) p9 3 := by first | exact v311 | (rw [h_D]; exact v311)
                                        replace N311 : RN σ_311 S2 := by first | exact N311 | (rw [h_D]; exact N311)
                                        replace T311 : StOK S2 := by first | exact T311 | (rw [h_D]; exact T311)
                                        rw [D2, dSet_3] at v311
                                        refine s_iload C dL_learns_314 rfl ?_
                                        refine s_iconst C dL_learns_316 ?_
                                        refine s_idiv C dL_learns_317 (by omega) (by omega) ?_
                                        refine s_icmp_ne (tgt := 391) C dL_learns_318 (by decide) (by omega) (by omega) (fun c318 => ?_) (fun c318 => ?_)
                                        · exfalso; omega -- done
                                        · refine s_aload_n C dL_learns_321 rfl ?_
                                          refine s_iload_n C dL_learns_322 rfl ?_
                                          refine s_iload_n C dL_learns_323 rfl ?_
                                          refine s_iconst C dL_learns_324 ?_
                                          have o325 : (op_baseTold S2 g p9 4).1 = 0 := by unfold op_baseTold; dsimp only; (repeat' split) <;> first | rfl | (exfalso; omega)
                                          refine sc_cV3i (u2 := uu54 + 28) (w2 := ww54 + 168) C dL_learns_325 lkL_97 moX7_baseTold mvX7_baseTold (kX7_baseTold T311 N311 (by omega) (by omega) (by omega)) sh_0 ⟨_, _, rfl⟩ (Nat.le_of_ble_eq_true rfl) (Nat.le_of_ble_eq_true rfl) ⟨rfl, rfl⟩ ⟨(show uu54 + 28 ≤ 600 by omega), (show ww54 + 168 ≤ 3600 by omega)⟩ (fun En σ9 h => absurd h (px3_no o325)) (fun r325 σ_325 hp325 => ?_)
                                          obtain ⟨-, v325, N325, T325, F325⟩ := hp325
                                          replace v325 : r325 = gB (sD S2 g) p9 4 := by first | exact v325 | (rw [h_D]; exact v325)
                                          replace N325 : RN σ_325 S2 := by first | exact N325 | (rw [h_D]; exact N325)
                                          replace T325 : StOK S2 := by first | exact T325 | (rw [h_D]; exact T325)
                                          rw [D2, dSet_4] at v325
                                          have b325 : -1 ≤ r325 ∧ r325 ≤ 199 := by rw [v325]; split <;> omega
                                          refine s_iload C dL_learns_328 rfl ?_
                                          refine s_iconst C dL_learns_330 ?_
                                          refine s_irem C dL_learns_331 (by omega) (by omega) ?_
                                          refine s_iconst C dL_learns_332 ?_
                                          have J341 : ∀ (y9 : Int), (y9 = r325) → SW X E Q (uu54 + 28) (ww54 + 168) 341 [some (vR 0), some (vI g), some (vI p9), some (vI jt), some (vI x), some (vI r4), some (vI r13), some (vI r19), some (vI 1), some (vI m9), some (vI r135), some (vI r146), some (vI r248)] [(vI y9), (vI r325)] σ_325 := by
                                            intro y9 j341_0
                                            refine s_icmp_ne (tgt := 391) C dL_learns_341 (by decide) (by omega) (by omega) (fun c341 => ?_) (fun c341 => ?_)
                                            · exfalso; omega -- done
                                            · refine s_iload C dL_learns_344 rfl ?_
                                              have J375 : SW X E Q (uu54 + 28) (ww54 + 168) 375 [some (vR 0), some (vI g), some (vI p9), some (vI jt), some (vI x), some (vI r4), some (vI r13), some (vI r19), some (vI 1), some (vI m9), some (vI r135), some (vI r146), some (vI r248)] [] σ_325 := by
                                                refine s_aload_n C dL_learns_375 rfl ?_
                                                refine s_iload_n C dL_learns_376 rfl ?_
                                                refine s_iload_n C dL_learns_377 rfl ?_
                                                refine s_iload_n C dL_learns_378 rfl ?_
                                                have o379 : (op_settings S2 g p9 jt).1 = 0 := by show (if ¬ ((0 ≤ g ∧ g ≤ 3 ∧ 0 ≤ p9 ∧ p9 < gC (sD S2 g) 1) ∧ 0 ≤ jt ∧ jt ≤ 199) then (1 : Int) else 0) = 0; rw [if_neg (by omega)]
                                                refine sc_cV3i (u2 := uu54 + 31) (w2 := ww54 + 186) C dL_learns_379 lkL_103 moX7_settings mvX7_settings (kX7_settings T325 N325 (by omega) (by omega) (by omega)) sh_0 ⟨_, _, rfl⟩ (Nat.le_of_ble_eq_true rfl) (Nat.le_of_ble_eq_true rfl) ⟨rfl, rfl⟩ ⟨(show uu54 + 31 ≤ 600 by omega), (show ww54 + 186 ≤ 3600 by omega)⟩ (fun En σ9 h => absurd h (px3_no o379)) (fun r379 σ_379 hp379 => ?_)
                                                obtain ⟨-, v379, N379, T379, F379⟩ := hp379
                                                replace v379 : r379 = ((fsL (sD S2 g) p9 jt (sE S2)).length : Int) := by first | exact v379 | (rw [h_D]; exact v379)
                                                replace N379 : RN σ_379 S2 := by first | exact N379 | (rw [h_D]; exact N379)
                                                replace T379 : StOK S2 := by first | exact T379 | (rw [h_D]; exact T379)
                                                have y379 : r379 = r135 := by
                                                  rw [v379, v135, D2, E2]
                                                  unfold fsL
                                                  rw [fs_2]
                                                refine s_iload C dL_learns_382 rfl ?_
                                                refine s_icmp_ne (tgt := 391) C dL_learns_384 (by decide) (by omega) (by omega) (fun c384 => ?_) (fun c384 => ?_)
                                                · exfalso; omega -- done
                                                · refine s_iconst C dL_learns_387 ?_
                                                  refine s_goto (tgt := 392) C dL_learns_388 (by decide) ?_
                                                  refine s_istore (ls2 := [some (vR 0), some (vI g), some (vI p9), some (vI jt), some (vI x), some (vI r4), some (vI r13), some (vI r19), some (vI 1), some (vI m9), some (vI r135), some (vI r146), some (vI r248)]) C dL_learns_392 (by decide) rfl ?_
                                                  refine s_iload C dL_learns_394 rfl ?_
                                                  refine s_if_eq (tgt := 412) C dL_learns_396 (by decide) (by omega) (fun c396 => ?_) (fun c396 => ?_)
                                                  · exfalso; omega -- done
                                                  · refine s_aload_n C dL_learns_399 rfl ?_
                                                    refine s_cV0i C dL_learns_400 lkL_100 moX7_dropExamples mvX7_dropExamples (kX7_dropExamples T379 N379) sh_0 ⟨_, _, rfl⟩ (Nat.le_of_ble_eq_true rfl) (Nat.le_of_ble_eq_true rfl) rfl ⟨(show uu54 + 31 ≤ 600 by omega), (show ww54 + 186 ≤ 3600 by omega)⟩ (fun r400 σ_400 hp400 => ?_)
                                                    obtain ⟨-, v400, N400, T400, F400⟩ := hp400
                                                    replace v400 : r400 = ((sE S2).length : Int) := by first | exact v400 | (rw [h_D]; exact v400)
                                                    replace N400 : RN σ_400 (uE S2 []) := by first | exact N400 | (rw [h_D]; exact N400)
                                                    replace T400 : StOK (uE S2 []) := by first | exact T400 | (rw [h_D]; exact T400)
                                                    rw [E2] at v400
                                                    refine s_iload C dL_learns_403 rfl ?_
                                                    refine s_icmp_ne (tgt := 412) C dL_learns_405 (by decide) (by omega) (by omega) (fun c405 => ?_) (fun c405 => ?_)
                                                    · exfalso; omega -- done
                                                    · refine s_iconst C dL_learns_408 ?_
                                                      refine s_goto (tgt := 413) C dL_learns_409 (by decide) ?_
                                                      refine s_zret C hR dL_learns_413 rfl (by omega) ⟨_, rfl, ?_⟩ ⟨(show uu54 + 31 ≤ 600 by omega), (show ww54 + 186 ≤ 3600 by omega)⟩
                                                      exact ⟨rfl, _, N400, T400, C2⟩
                                              have J355 : (r13 < 0 ∨ r13 = jt) → SW X E Q (uu54 + 28) (ww54 + 168) 355 [some (vR 0), some (vI g), some (vI p9), some (vI jt), some (vI x), some (vI r4), some (vI r13), some (vI r19), some (vI 1), some (vI m9), some (vI r135), some (vI r146), some (vI r248)] [] σ_325 := by
                                                intro  j355_0
                                                refine s_iload C dL_learns_355 rfl ?_
                                                have w355 := (fs_now (D := sD S g) (p := p9) (j := jt) (E := Z.2.2) hbs i54_6 (by omega) hjt.1).2
                                                rw [← y2, ← v4, ← v13] at w355
                                                refine s_iconst C dL_learns_357 ?_
                                                refine s_iload C dL_learns_358 rfl ?_
                                                refine s_imul C dL_learns_360 ?_
                                                refine s_iload C dL_learns_361 rfl ?_
                                                refine s_if_lt (tgt := 370) C dL_learns_363 (by decide) (by omega) (fun c363 => ?_) (fun c363 => ?_)
                                                · rw [if_neg (by omega)] at w355
                                                  refine s_iconst C dL_learns_370 ?_
                                                  refine s_iadd C dL_learns_371 ?_
                                                  refine s_icmp_gt (tgt := 391) C dL_learns_372 (by decide) (by omega) (by omega) (fun c372 => ?_) (fun c372 => ?_)
                                                  · exfalso; omega -- done
                                                  · exact J375 
                                                · rw [if_pos (by omega)] at w355
                                                  refine s_iconst C dL_learns_366 ?_
                                                  refine s_goto (tgt := 371) C dL_learns_367 (by decide) ?_
                                                  refine s_iadd C dL_learns_371 ?_
                                                  refine s_icmp_gt (tgt := 391) C dL_learns_372 (by decide) (by omega) (by omega) (fun c372 => ?_) (fun c372 => ?_)
                                                  · exfalso; omega -- done
                                                  · exact J375 
                                              refine s_if_lt (tgt := 355) C dL_learns_346 (by decide) (by omega) (fun c346 => ?_) (fun c346 => ?_)
                                              · exact J355 (by first | assumption | omega)
                                              · refine s_iload C dL_learns_349 rfl ?_
                                                refine s_iload_n C dL_learns_351 rfl ?_
                                                refine s_icmp_ne (tgt := 375) C dL_learns_352 (by decide) (by omega) (by omega) (fun c352 => ?_) (fun c352 => ?_)
                                                · exact J375 
                                                · exact J355 (by first | assumption | omega)
                                          refine s_icmp_ne (tgt := 340) C dL_learns_333 (by decide) (by omega) (by omega) (fun c333 => ?_) (fun c333 => ?_)
                                          · rw [if_neg c333] at v325
                                            refine s_iconst C dL_learns_340 ?_
                                            exact J341 (-1) (by first | assumption | omega)
                                          · rw [if_pos (by omega)] at v325
                                            refine s_iload_n C dL_learns_336 rfl ?_
                                            refine s_goto (tgt := 341) C dL_learns_337 (by decide) ?_
                                            exact J341 jt (by first | assumption | omega)
                                · exfalso; omega -- done
                            have J228 : (r13 < 0 ∨ r13 = jt) → SW X E Q (uu54 + 13) (ww54 + 78) 228 [some (vR 0), some (vI g), some (vI p9), some (vI jt), some (vI x), some (vI r4), some (vI r13), some (vI r19), some (vI b8), some (vI m9), some (vI r135), some (vI r146), none] [] σ_209 := by
                              intro  j228_0
                              refine s_iload C dL_learns_228 rfl ?_
                              have y228 : 0 < r135 := by
                                have z := (fs_now (D := sD S g) (p := p9) (j := jt) (E := Z.2.2) hbs i54_6 (by omega) hjt.1).1
                                have z2 : (fsL (sD S g) p9 jt Z.2.2).length ≠ 0 := fun y => z (List.eq_nil_of_length_eq_zero y)
                                omega
                              refine s_if_le (tgt := 237) C dL_learns_230 (by decide) (by omega) (fun c230 => ?_) (fun c230 => ?_)
                              · exfalso; omega -- done
                              · exact J233 
                            refine s_if_lt (tgt := 228) C dL_learns_219 (by decide) (by omega) (fun c219 => ?_) (fun c219 => ?_)
                            · exact J228 (by first | assumption | omega)
                            · refine s_iload C dL_learns_222 rfl ?_
                              refine s_iload_n C dL_learns_224 rfl ?_
                              refine s_icmp_ne (tgt := 233) C dL_learns_225 (by decide) (by omega) (by omega) (fun c225 => ?_) (fun c225 => ?_)
                              · exact J233 
                              · exact J228 (by first | assumption | omega)
                      refine s_icmp_gt (tgt := 193) C dL_learns_184 (by decide) (by omega) (by omega) (fun c184 => ?_) (fun c184 => ?_)
                      · exact J193 
                      · refine s_iload C dL_learns_187 rfl ?_
                        refine s_iconst C dL_learns_189 ?_
                        refine s_icmp_ne (tgt := 237) C dL_learns_190 (by decide) (by omega) (by omega) (fun c190 => ?_) (fun c190 => ?_)
                        · exfalso; omega -- done
                        · exact J193 
          · refine s_iload C dL_learns_60 rfl ?_
            refine s_iconst C dL_learns_62 ?_
            refine s_bipush C dL_learns_63 (by decide) ?_
            refine s_iload C dL_learns_65 rfl ?_
            refine s_imul C dL_learns_67 ?_
            refine s_iadd C dL_learns_68 ?_
            have hq1 := Int.ediv_nonneg hx.1 (show 0 ≤ 1 + 7 * i10 by omega)
            have hq2 := Int.ediv_le_self (1 + 7 * i10) hx.1
            refine s_idiv C dL_learns_69 (by omega) (by omega) ?_
            refine s_bipush C dL_learns_70 (by decide) ?_
            refine s_irem C dL_learns_72 (by omega) (by decide) ?_
            refine s_topI (fun x11_73 ex11_73 => ?_)
            refine s_istore (ls2 := [some (vR 0), some (vI g), some (vI p9), some (vI jt), some (vI x), some (vI r4), some (vI r13), some (vI r19), some (vI b8), some (vI m9), some (vI i10), some (vI x11_73), none]) C dL_learns_73 (by decide) rfl ?_
            have hnum : 0 ≤ x11_73 ∧ x11_73 ≤ 119 := by
              have z1 := Int.emod_nonneg (x / (1 + 7 * i10)) (show (120 : Int) ≠ 0 by decide)
              have z2 := Int.emod_lt_of_pos (x / (1 + 7 * i10)) (show (0 : Int) < 120 by decide)
              omega
            refine s_aload_n C dL_learns_75 rfl ?_
            refine s_iload_n C dL_learns_76 rfl ?_
            refine s_iload C dL_learns_77 rfl ?_
            refine s_iconst C dL_learns_79 ?_
            have o80 : (op_say (sZ3 S Z.1 Z.2.1 Z.2.2) g x11_73 0).1 = 0 := by unfold op_say; dsimp only; (repeat' split) <;> first | rfl | (exfalso; omega)
            refine sc_cV3i (u2 := uu54 + 3) (w2 := ww54 + 18) C dL_learns_80 lkL_58 moX7_say mvX7_say (kX7_say i54_5 i54_4 (by omega) (by omega) (by omega)) sh_0 ⟨_, _, rfl⟩ (Nat.le_of_ble_eq_true rfl) (Nat.le_of_ble_eq_true rfl) ⟨rfl, rfl⟩ ⟨(show uu54 + 3 ≤ 600 by omega), (show ww54 + 18 ≤ 3600 by omega)⟩ (fun En σ9 h => absurd h (px3_no o80)) (fun r80 σ_80 hp80 => ?_)
            obtain ⟨-, v80, N80, T80, F80⟩ := hp80
            replace v80 : r80 = ((spF (sD S g) x11_73 0).length : Int) := by first | exact v80 | (rw [h_D]; exact v80)
            replace N80 : RN σ_80 (sZ3 S ((spF (sD S g) x11_73 0)) Z.2.1 Z.2.2) := by first | exact N80 | (rw [h_D]; exact N80)
            replace T80 : StOK (sZ3 S ((spF (sD S g) x11_73 0)) Z.2.1 Z.2.2) := by first | exact T80 | (rw [h_D]; exact T80)
            have l80 : (spF (sD S g) x11_73 0).length ≤ 20 := T80.2.1.2
            have w80 : wOK (spF (sD S g) x11_73 0) := T80.2.1.1
            refine s_if_le (tgt := 125) C dL_learns_83 (by decide) (by omega) (fun c83 => ?_) (fun c83 => ?_)
            · obtain ⟨Z2, hZ2⟩ : ∃ Z2 : List Int × List Int × List (Int × List Int), Z2 = ((spF (sD S g) x11_73 0), Z.2.1, Z.2.2) := ⟨_, rfl⟩
              have N9 : RN σ_80 (sZ3 S Z2.1 Z2.2.1 Z2.2.2) := by rw [hZ2]; exact N80
              have T9 : StOK (sZ3 S Z2.1 Z2.2.1 Z2.2.2) := by rw [hZ2]; exact T80
              have L9 : m9 = (Z2.2.2.length : Int) := by rw [hZ2]; exact i54_3.1
              have M9 : meE (sD S g) Z2.2.2 := by rw [hZ2]; exact i54_6
              obtain ⟨x10_125, ex10_125⟩ : ∃ y : Int, y = i10 + 1 := ⟨_, rfl⟩
              refine s_iinc (z2 := x10_125) (ls2 := [some (vR 0), some (vI g), some (vI p9), some (vI jt), some (vI x), some (vI r4), some (vI r13), some (vI r19), some (vI b8), some (vI m9), some (vI x10_125), some (vI x11_73), none]) C dL_learns_125 (by decide) rfl ex10_125 rfl ?_
              refine s_goto (tgt := 54) C dL_learns_128 (by decide) ?_
              refine s_weak (ls2 := [some (vR 0), some (vI g), some (vI p9), some (vI jt), some (vI x), some (vI r4), some (vI r13), some (vI r19), some (vI b8), some (vI m9), some (vI x10_125), none, none]) (sv_wk_c (sv_wk_c (sv_wk_c (sv_wk_c (sv_wk_c (sv_wk_c (sv_wk_c (sv_wk_c (sv_wk_c (sv_wk_c (sv_wk_c (sv_wk_n (sv_wk_n sv_wk_0))))))))))))) ?_
              refine ih54 b8 m9 x10_125 σ_80 Z2 (uu54 + 3) (ww54 + 18) (by omega) (by omega) (by first | assumption | omega) (by first | assumption | omega) ?_ ?_ ?_ ?_
              · exact ⟨L9, by omega⟩
              · exact N9
              · exact T9
              · exact M9
            · have hne := len_pos.mp (show (0 : Int) < (spF (sD S g) x11_73 0).length by omega)
              refine s_aload_n C dL_learns_86 rfl ?_
              refine s_cV0i C dL_learns_87 lkL_75 moX7_hearSaid mvX7_hearSaid (kX7_hearSaid T80 N80) sh_0 ⟨_, _, rfl⟩ (Nat.le_of_ble_eq_true rfl) (Nat.le_of_ble_eq_true rfl) rfl ⟨(show uu54 + 3 ≤ 600 by omega), (show ww54 + 18 ≤ 3600 by omega)⟩ (fun r87 σ_87 hp87 => ?_)
              obtain ⟨-, v87, N87, T87, F87⟩ := hp87
              replace v87 : r87 = ((spF (sD S g) x11_73 0).length : Int) := by first | exact v87 | (rw [h_D]; exact v87)
              replace N87 : RN σ_87 (sZ3 S ((spF (sD S g) x11_73 0)) ((spF (sD S g) x11_73 0)) Z.2.2) := by first | exact N87 | (rw [h_D]; exact N87)
              replace T87 : StOK (sZ3 S ((spF (sD S g) x11_73 0)) ((spF (sD S g) x11_73 0)) Z.2.2) := by first | exact T87 | (rw [h_D]; exact T87)
              refine s_if_le (tgt := 125) C dL_learns_90 (by decide) (by omega) (fun c90 => ?_) (fun c90 => ?_)
              · exfalso; omega -- done
              · obtain ⟨x9_93, ex9_93⟩ : ∃ y : Int, y = m9 + 1 := ⟨_, rfl⟩
                refine s_iinc (z2 := x9_93) (ls2 := [some (vR 0), some (vI g), some (vI p9), some (vI jt), some (vI x), some (vI r4), some (vI r13), some (vI r19), some (vI b8), some (vI x9_93), some (vI i10), some (vI x11_73), none]) C dL_learns_93 (by decide) rfl ex9_93 rfl ?_
                refine s_iload C dL_learns_96 rfl ?_
                refine s_if_eq (tgt := 122) C dL_learns_98 (by decide) (by omega) (fun c98 => ?_) (fun c98 => ?_)
                · exfalso; omega -- done
                · refine s_aload_n C dL_learns_101 rfl ?_
                  refine s_bipush C dL_learns_102 (by decide) ?_
                  refine s_iload C dL_learns_104 rfl ?_
                  refine s_iconst C dL_learns_106 ?_
                  refine s_iconst C dL_learns_107 ?_
                  refine s_iconst C dL_learns_108 ?_
                  refine s_iconst C dL_learns_109 ?_
                  have o110 : (op_example (sZ3 S ((spF (sD S g) x11_73 0)) ((spF (sD S g) x11_73 0)) Z.2.2) x11_73).1 = 0 := by
                    show (if ¬ (0 ≤ x11_73 ∧ x11_73 ≤ 9999) then (1 : Int) else if Z.2.2.length = 20 ∨ okH (spF (sD S g) x11_73 0) = 0 then 2 else 0) = 0
                    have z := okH_ok w80 hne
                    rw [if_neg (by omega), if_neg (by omega)]
                  refine s_cW7i (u2 := uu54 + 12) (w2 := ww54 + 72) C dL_learns_110 lkL_52 moL_asks mvL_asks (kL_asks_example T87 N87 (by omega)) (Nat.le_of_ble_eq_true rfl) (Nat.le_of_ble_eq_true rfl) ⟨rfl, rfl⟩ ⟨(show uu54 + 12 ≤ 600 by omega), (show ww54 + 72 ≤ 3600 by omega)⟩ (fun r110 σ_110 hp110 => ?_)
                  obtain ⟨v110, N110, T110⟩ := hp110.1 o110
                  replace v110 : r110 = (Z.2.2.length : Int) + 1 := v110
                  obtain ⟨Z2, hZ2⟩ : ∃ Z2 : List Int × List Int × List (Int × List Int), Z2 = ((spF (sD S g) x11_73 0), (spF (sD S g) x11_73 0), (Z.2.2 ++ [(x11_73, (spF (sD S g) x11_73 0))])) := ⟨_, rfl⟩
                  have N9 : RN σ_110 (sZ3 S Z2.1 Z2.2.1 Z2.2.2) := by rw [hZ2]; exact N110
                  have T9 : StOK (sZ3 S Z2.1 Z2.2.1 Z2.2.2) := by rw [hZ2]; exact T110
                  have L9 : x9_93 = (Z2.2.2.length : Int) := by
                    rw [hZ2]
                    show x9_93 = (((Z.2.2 ++ [(x11_73, (spF (sD S g) x11_73 0))]).length : Nat) : Int)
                    rw [List.length_append]
                    show x9_93 = ((Z.2.2.length + 1 : Nat) : Int)
                    omega
                  have M9 : meE (sD S g) Z2.2.2 := by
                    rw [hZ2]
                    intro e he9
                    rcases List.mem_append.mp he9 with z | z
                    · exact i54_6 e z
                    · rw [List.mem_singleton.mp z]
                  refine s_iload C dL_learns_113 rfl ?_
                  refine s_icmp_ne (tgt := 122) C dL_learns_115 (by decide) (by omega) (by omega) (fun c115 => ?_) (fun c115 => ?_)
                  · exfalso; omega -- done
                  · refine s_iconst C dL_learns_118 ?_
                    refine s_goto (tgt := 123) C dL_learns_119 (by decide) ?_
                    refine s_istore (ls2 := [some (vR 0), some (vI g), some (vI p9), some (vI jt), some (vI x), some (vI r4), some (vI r13), some (vI r19), some (vI 1), some (vI x9_93), some (vI i10), some (vI x11_73), none]) C dL_learns_123 (by decide) rfl ?_
                    obtain ⟨x10_125, ex10_125⟩ : ∃ y : Int, y = i10 + 1 := ⟨_, rfl⟩
                    refine s_iinc (z2 := x10_125) (ls2 := [some (vR 0), some (vI g), some (vI p9), some (vI jt), some (vI x), some (vI r4), some (vI r13), some (vI r19), some (vI 1), some (vI x9_93), some (vI x10_125), some (vI x11_73), none]) C dL_learns_125 (by decide) rfl ex10_125 rfl ?_
                    refine s_goto (tgt := 54) C dL_learns_128 (by decide) ?_
                    refine s_weak (ls2 := [some (vR 0), some (vI g), some (vI p9), some (vI jt), some (vI x), some (vI r4), some (vI r13), some (vI r19), some (vI 1), some (vI x9_93), some (vI x10_125), none, none]) (sv_wk_c (sv_wk_c (sv_wk_c (sv_wk_c (sv_wk_c (sv_wk_c (sv_wk_c (sv_wk_c (sv_wk_c (sv_wk_c (sv_wk_c (sv_wk_n (sv_wk_n sv_wk_0))))))))))))) ?_
                    refine ih54 1 x9_93 x10_125 σ_110 Z2 (uu54 + 12) (ww54 + 72) (by omega) (by omega) (by first | assumption | omega) (by first | assumption | omega) ?_ ?_ ?_ ?_
                    · exact ⟨L9, by omega⟩
                    · exact N9
                    · exact T9
                    · exact M9
      refine L54 _ 1 0 0 σ_28 (sL S, sH S, []) 9 54 (Nat.lt_succ_self _) (by omega) (by first | assumption | omega) (by first | assumption | omega) ?_ ?_ ?_ ?_
      · exact ⟨rfl, by omega⟩
      · exact N28
      · exact T28
      · exact fun e h => absurd h List.not_mem_nil
