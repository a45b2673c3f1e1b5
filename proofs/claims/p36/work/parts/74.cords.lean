/-! The law's cords. -/
abbrev sY (S : st_T) (Y : (Int → Int) × (Int → Int) × Int) : st_T := (S.1, S.2.1, S.2.2.1, S.2.2.2.1, Y)
abbrev cZ (B : Int → Int) (a v : Int) : (Int → Int) × (Int → Int) × Int := (fun i => if i = a then v else B i, fun _ => 0, 0)
theorem lost_bd {L W t s M : Int} (h : L * W + t = s) (hW : 1 ≤ W) (ht : 0 ≤ t ∧ t < W) (hs : -M ≤ s ∧ s ≤ M) : -M ≤ L ∧ L ≤ M := by
  rcases Int.lt_or_le L 0 with q | q
  · have h1 := Int.mul_le_mul_of_nonneg_left hW (show 0 ≤ -L - 1 by omega)
    have h2 : (-L - 1) * W = -(L * W) - W := by rw [Int.sub_mul, Int.neg_mul, Int.one_mul]
    omega
  · have h1 := Int.mul_le_mul_of_nonneg_left hW q
    omega
theorem mul_bd {a f m : Int} (ha : -536870912 ≤ a ∧ a ≤ 536870912) (hf : 0 ≤ f ∧ f ≤ m) : -(536870912 * m) ≤ a * f ∧ a * f ≤ 536870912 * m := by
  have h1 := Int.mul_le_mul_of_nonneg_right ha.2 hf.1
  have h2 := Int.mul_le_mul_of_nonneg_right ha.1 hf.1
  omega
set_option maxRecDepth 100000 in
set_option maxHeartbeats 8000000 in
theorem kL_cords {E : sv_E} {σ : sv_G} {S : st_T} (hS : StOK S) (hN : RN σ S) {at9 : Int} (hat : 0 ≤ at9 ∧ at9 ≤ 10000) (hB : ∀ i, 0 ≤ i → i < 6 → sB S i = 10) : CT E ML_cords 12 [(vR 0), vS, (vI at9)] σ (PI fun r σ9 => r = 1) := by
  refine CT.of (RL, cL_cords, 16, (some .boolean), [], 12, 400, 2400) rfl moL_cords (Nat.le_of_ble_eq_true rfl) (ls0 := [some (vR 0), some vS, some (vI at9), none, none, none, none, none, none, none, none, none, none, none, none, none]) rfl ?_
  intro X Q C hR
  refine s_iconst C dL_cords_0 ?_
  refine s_istore_n (ls2 := [some (vR 0), some vS, some (vI at9), some (vI 1), none, none, none, none, none, none, none, none, none, none, none, none]) C dL_cords_1 (by decide) rfl ?_
  refine s_lconst C dL_cords_2 ?_
  refine s_lstore (ls2 := [some (vR 0), some vS, some (vI at9), some (vI 1), some (vL 1), none, none, none, none, none, none, none, none, none, none, none]) C dL_cords_3 (by decide) rfl ?_
  refine s_iconst C dL_cords_5 ?_
  refine s_istore (ls2 := [some (vR 0), some vS, some (vI at9), some (vI 1), some (vL 1), none, some (vI 0), none, none, none, none, none, none, none, none, none]) C dL_cords_6 (by decide) rfl ?_
  have L8 : ∀ (n : Nat) (b3 : Int) (wh : Int) (i6 : Int) (τ : sv_G) (Y : (Int → Int) × (Int → Int) × Int) (uu8 ww8 : Nat), (6 - i6).toNat < n → ((uu8 : Int) + 2 * (6 - i6) ≤ 100 ∧ (ww8 : Int) + 12 * (6 - i6) ≤ 600) → (b3 = 1) → (0 ≤ i6 ∧ i6 ≤ 6) → (wh = cdW Y.1 i6.toNat) → (∀ i, i6 ≤ i → i < 6 → Y.1 i = 10) → (i6 = 0 ∨ Y.2 = (fun _ => 0, 0)) → (RN τ (sY S Y)) → (StOK (sY S Y)) → SW X E Q uu8 ww8 8 [some (vR 0), some vS, some (vI at9), some (vI b3), some (vL wh), none, some (vI i6), none, none, none, none, none, none, none, none, none] [] τ := by
    intro n
    induction n with
    | zero => intro b3 wh i6 τ Y uu8 ww8 hm; exact absurd hm (Nat.not_lt_zero _)
    | succ n ih8 =>
      intro b3 wh i6 τ Y uu8 ww8 hm8 i8_0 i8_1 i8_2 i8_3 i8_4 i8_5 i8_6 i8_7
      refine s_iload C dL_cords_8 rfl ?_
      refine s_bipush C dL_cords_10 (by decide) ?_
      refine s_icmp_ge (tgt := 66) C dL_cords_12 (by decide) (by omega) (by omega) (fun c12 => ?_) (fun c12 => ?_)
      · have hi6 : i6 = 6 := by omega
        have hW6 : wh = cdW Y.1 6 := by rw [i8_3, hi6]; rfl
        have hB6 := i8_7.2.2.2.2.1
        have hWb := cdW_b (b := Y.1) 6 (fun i h1 h2 => ⟨(hB6 i h1 (by omega)).1, (hB6 i h1 (by omega)).2.1⟩)
        have hY2 : Y.2 = (fun _ => 0, 0) := i8_5.resolve_left (by omega)
        have h60 : (60 : Int) ^ 6 = 46656000000 := by decide
        refine s_lconst C dL_cords_66 ?_
        refine s_lstore (ls2 := [some (vR 0), some vS, some (vI at9), some (vI b3), some (vL wh), none, some (vL 0), none, none, none, none, none, none, none, none, none]) C dL_cords_67 (by decide) rfl ?_
        refine s_iconst C dL_cords_69 ?_
        refine s_istore (ls2 := [some (vR 0), some vS, some (vI at9), some (vI b3), some (vL wh), none, some (vL 0), none, some (vI 0), none, none, none, none, none, none, none]) C dL_cords_70 (by decide) rfl ?_
        have L72 : ∀ (n : Nat) (b5 : Int) (sm : Int) (k8 : Int) (τ2 : sv_G) (T : (Int → Int) × Int) (uu72 ww72 : Nat), (20 - k8).toNat < n → ((uu72 : Int) + 6 * (20 - k8) ≤ 380 ∧ (ww72 : Int) + 36 * (20 - k8) ≤ 2280) → (b5 = 1) → (0 ≤ k8 ∧ k8 ≤ 20) → (T.2 * cdW Y.1 6 + cdT Y.1 T.1 6 = sm) → (-(k8 * 1073741824 + (k8 + 2) / 3 * 576460752303423488) ≤ sm ∧ sm ≤ k8 * 1073741824 + (k8 + 2) / 3 * 576460752303423488) → (RN τ2 (sY S (Y.1, T.1, T.2))) → (StOK (sY S (Y.1, T.1, T.2))) → SW X E Q uu72 ww72 72 [some (vR 0), some vS, some (vI at9), some (vI b5), some (vL wh), none, some (vL sm), none, some (vI k8), none, none, none, none, none, none, none] [] τ2 := by
          intro n
          induction n with
          | zero => intro b5 sm k8 τ2 T uu72 ww72 hm; exact absurd hm (Nat.not_lt_zero _)
          | succ n ih72 =>
            intro b5 sm k8 τ2 T uu72 ww72 hm72 i72_0 i72_1 i72_2 i72_3 i72_4 i72_5 i72_6
            refine s_iload C dL_cords_72 rfl ?_
            refine s_bipush C dL_cords_74 (by decide) ?_
            refine s_icmp_ge (tgt := 261) C dL_cords_76 (by decide) (by omega) (by omega) (fun c76 => ?_) (fun c76 => ?_)
            · refine s_iload_n C dL_cords_261 rfl ?_
              refine s_if_eq (tgt := 298) C dL_cords_262 (by decide) (by omega) (fun c262 => ?_) (fun c262 => ?_)
              · exfalso; omega -- done
              · refine s_aload_n C dL_cords_265 rfl ?_
                refine s_iconst C dL_cords_266 ?_
                refine s_bipush C dL_cords_267 (by decide) ?_
                have o269 : (op_cord (sY S (Y.1, T.1, T.2)) 3 10).1 = 0 := by unfold op_cord; dsimp only; (repeat' split) <;> first | rfl | (exfalso; omega)
                refine sc_cV2i (u2 := uu72 + 2) (w2 := ww72 + 12) C dL_cords_269 lkL_113 moX7_cord mvX7_cord (kX7_cord i72_6 i72_5 (by omega) (by omega)) sh_0 ⟨_, _, rfl⟩ (Nat.le_of_ble_eq_true rfl) (Nat.le_of_ble_eq_true rfl) ⟨rfl, rfl⟩ ⟨(show uu72 + 2 ≤ 400 by omega), (show ww72 + 12 ≤ 2400 by omega)⟩ (fun En σ9 h => absurd h (px3_no o269)) (fun r269 σ_269 hp269 => ?_)
                obtain ⟨-, v269, N269, T269, F269⟩ := hp269
                replace v269 : r269 = Y.1 3 := by first | exact v269 | (rw [h_D]; exact v269)
                replace N269 : RN σ_269 (sY S (cZ Y.1 3 10)) := by first | exact N269 | (rw [h_D]; exact N269)
                replace T269 : StOK (sY S (cZ Y.1 3 10)) := by first | exact T269 | (rw [h_D]; exact T269)
                have y269 := hB6 3 (by decide) (by decide)
                have z269 : 2 ≤ r269 ∧ r269 ≤ 60 := by rw [v269]; exact ⟨y269.1, y269.2.1⟩
                refine s_iconst C dL_cords_272 ?_
                refine s_icmp_lt (tgt := 298) C dL_cords_273 (by decide) (by omega) (by omega) (fun c273 => ?_) (fun c273 => ?_)
                · exfalso; omega -- done
                · refine s_aload_n C dL_cords_276 rfl ?_
                  refine s_cV0l C dL_cords_277 lkL_127 moX7_shown mvX7_shown (kX7_shown T269 N269) sh_0 ⟨_, _, rfl⟩ (Nat.le_of_ble_eq_true rfl) (Nat.le_of_ble_eq_true rfl) rfl ⟨(show uu72 + 2 ≤ 400 by omega), (show ww72 + 12 ≤ 2400 by omega)⟩ (fun r277 σ_277 hp277 => ?_)
                  obtain ⟨-, v277, N277, T277, F277⟩ := hp277
                  replace v277 : r277 = cdT ((cZ Y.1 3 10)).1 (fun _ => 0) 6 := v277
                  replace N277 : RN σ_277 (sY S (cZ Y.1 3 10)) := N277
                  replace T277 : StOK (sY S (cZ Y.1 3 10)) := T277
                  rw [cdT_0] at v277
                  refine s_lconst C dL_cords_280 ?_
                  refine s_lcmp C dL_cords_281 (by omega) (by omega) ?_
                  refine s_if_ne (tgt := 298) C dL_cords_282 (by decide) (by exact cmpL_rng) (fun c282 => ?_) (fun c282 => ?_)
                  · exfalso; exact c282 (cmpL_eq.mpr v277) -- done
                  · refine s_aload_n C dL_cords_285 rfl ?_
                    refine s_cV0l C dL_cords_286 lkL_119 moX7_lost mvX7_lost (kX7_lost T277 N277) sh_0 ⟨_, _, rfl⟩ (Nat.le_of_ble_eq_true rfl) (Nat.le_of_ble_eq_true rfl) rfl ⟨(show uu72 + 2 ≤ 400 by omega), (show ww72 + 12 ≤ 2400 by omega)⟩ (fun r286 σ_286 hp286 => ?_)
                    obtain ⟨g286, -, v286, N286, T286, F286⟩ := hp286
                    replace v286 : r286 = 0 := v286
                    replace N286 : RN σ_286 (sY S (cZ Y.1 3 10)) := N286
                    replace T286 : StOK (sY S (cZ Y.1 3 10)) := T286
                    refine s_lconst C dL_cords_289 ?_
                    refine s_lcmp C dL_cords_290 (by omega) (by omega) ?_
                    refine s_if_ne (tgt := 298) C dL_cords_291 (by decide) (by exact cmpL_rng) (fun c291 => ?_) (fun c291 => ?_)
                    · exfalso; exact c291 (cmpL_eq.mpr v286) -- done
                    · refine s_iconst C dL_cords_294 ?_
                      refine s_goto (tgt := 299) C dL_cords_295 (by decide) ?_
                      refine s_zret C hR dL_cords_299 rfl (by omega) ⟨_, rfl, ?_⟩ ⟨(show uu72 + 2 ≤ 400 by omega), (show ww72 + 12 ≤ 2400 by omega)⟩
                      exact rfl
            · refine s_iload_n C dL_cords_79 rfl ?_
              refine s_if_eq (tgt := 261) C dL_cords_80 (by decide) (by omega) (fun c80 => ?_) (fun c80 => ?_)
              · exfalso; omega -- done
              · refine s_aloadS_n C dL_cords_83 rfl ?_
                refine s_iload_n C dL_cords_84 rfl ?_
                refine s_bipush C dL_cords_85 (by decide) ?_
                refine s_iadd C dL_cords_87 ?_
                refine s_iconst C dL_cords_88 ?_
                refine s_iload C dL_cords_89 rfl ?_
                refine s_imul C dL_cords_91 ?_
                refine s_iadd C dL_cords_92 ?_
                refine s_ldc (n := 1073741824) C dL_cords_93 lcc_116 rfl ?_
                refine s_cS3i C dL_cords_95 lkL_109 moL_draw mvL_draw (kL_draw (by omega) (by omega)) (Nat.le_of_ble_eq_true rfl) (Nat.le_of_ble_eq_true rfl) rfl ⟨(show uu72 ≤ 400 by omega), (show ww72 ≤ 2400 by omega)⟩ (kpI (fun r95 hp95 => ?_))
                refine s_i2l C dL_cords_98 (by omega) ?_
                refine s_ldc2 (n := 536870912) C dL_cords_99 lc2_117 rfl ?_
                refine s_lsub C dL_cords_102 ?_
                refine s_topL (fun x9_103 ex9_103 => ?_)
                refine s_lstore (ls2 := [some (vR 0), some vS, some (vI at9), some (vI b5), some (vL wh), none, some (vL sm), none, some (vI k8), some (vL x9_103), none, none, none, none, none, none]) C dL_cords_103 (by decide) rfl ?_
                refine s_lload C dL_cords_105 rfl ?_
                refine s_iload C dL_cords_107 rfl ?_
                refine s_iconst C dL_cords_109 ?_
                refine s_irem C dL_cords_110 (by omega) (by omega) ?_
                have J140 : ∀ (f9 : Int), ((k8 % 3 = 0 ∧ 1 ≤ f9 ∧ f9 ≤ 1073741824) ∨ (1 ≤ f9 ∧ f9 ≤ 2 ∧ k8 % 3 ≠ 0)) → SW X E Q uu72 ww72 140 [some (vR 0), some vS, some (vI at9), some (vI b5), some (vL wh), none, some (vL sm), none, some (vI k8), some (vL x9_103), none, none, none, none, none, none] [(vL f9), (vL x9_103)] τ2 := by
                  intro f9 j140_0
                  refine s_lmul C dL_cords_140 ?_
                  refine s_topL (fun x9_141 ex9_141 => ?_)
                  refine s_lstore (ls2 := [some (vR 0), some vS, some (vI at9), some (vI b5), some (vL wh), none, some (vL sm), none, some (vI k8), some (vL x9_141), none, none, none, none, none, none]) C dL_cords_141 (by decide) rfl ?_
                  have hby : (k8 % 3 = 0 → -576460752303423488 ≤ x9_141 ∧ x9_141 ≤ 576460752303423488) ∧ (k8 % 3 ≠ 0 → -1073741824 ≤ x9_141 ∧ x9_141 ≤ 1073741824) := by
                    rw [ex9_141]
                    refine ⟨fun z => ?_, fun z => ?_⟩
                    · have z2 := mul_bd (a := x9_103) (f := f9) (m := 1073741824) (by omega) (by omega)
                      omega
                    · have z2 := mul_bd (a := x9_103) (f := f9) (m := 2) (by omega) (by omega)
                      omega
                  obtain ⟨Mk, hMk⟩ : ∃ M : Int, M = (k8 + 1) * 1073741824 + (k8 + 3) / 3 * 576460752303423488 := ⟨_, rfl⟩
                  have hMb : 0 ≤ Mk ∧ Mk ≤ 4611686018427387904 := by omega
                  have hsb : -Mk ≤ sm + x9_141 ∧ sm + x9_141 ≤ Mk := by
                    by_cases z : k8 % 3 = 0
                    · have z2 := hby.1 z; omega
                    · have z2 := hby.2 z; omega
                  refine s_aload_n C dL_cords_143 rfl ?_
                  refine s_cV0l C dL_cords_144 lkL_119 moX7_lost mvX7_lost (kX7_lost i72_6 i72_5) sh_0 ⟨_, _, rfl⟩ (Nat.le_of_ble_eq_true rfl) (Nat.le_of_ble_eq_true rfl) rfl ⟨(show uu72 ≤ 400 by omega), (show ww72 ≤ 2400 by omega)⟩ (fun r144 σ_144 hp144 => ?_)
                  obtain ⟨g144, -, v144, N144, T144, F144⟩ := hp144
                  replace v144 : r144 = T.2 := v144
                  replace N144 : RN σ_144 (sY S (Y.1, T.1, T.2)) := N144
                  replace T144 : StOK (sY S (Y.1, T.1, T.2)) := T144
                  refine s_lstore (ls2 := [some (vR 0), some vS, some (vI at9), some (vI b5), some (vL wh), none, some (vL sm), none, some (vI k8), some (vL x9_141), none, some (vL r144), none, none, none, none]) C dL_cords_147 (by decide) rfl ?_
                  refine s_aload_n C dL_cords_149 rfl ?_
                  refine s_lload C dL_cords_150 rfl ?_
                  refine s_cV1l C dL_cords_152 lkL_123 moX7_count mvX7_count (kX7_count T144 N144 (by omega)) sh_0 ⟨_, _, rfl⟩ (Nat.le_of_ble_eq_true rfl) (Nat.le_of_ble_eq_true rfl) rfl ⟨(show uu72 ≤ 400 by omega), (show ww72 ≤ 2400 by omega)⟩ (fun r152 σ_152 hp152 => ?_)
                  obtain ⟨g152, -, v152, N152, T152, F152⟩ := hp152
                  replace v152 : r152 = cdC Y.1 T.1 x9_141 6 := v152
                  replace N152 : RN σ_152 (sY S (Y.1, (((fun i => (T.1 i + cdC Y.1 T.1 x9_141 i.toNat) % Y.1 i), wrL (T.2 + cdC Y.1 T.1 x9_141 6))).1, (((fun i => (T.1 i + cdC Y.1 T.1 x9_141 i.toNat) % Y.1 i), wrL (T.2 + cdC Y.1 T.1 x9_141 6))).2)) := N152
                  replace T152 : StOK (sY S (Y.1, (((fun i => (T.1 i + cdC Y.1 T.1 x9_141 i.toNat) % Y.1 i), wrL (T.2 + cdC Y.1 T.1 x9_141 6))).1, (((fun i => (T.1 i + cdC Y.1 T.1 x9_141 i.toNat) % Y.1 i), wrL (T.2 + cdC Y.1 T.1 x9_141 6))).2)) := T152
                  obtain ⟨T2, hT2⟩ : ∃ T2 : (Int → Int) × Int, T2 = ((fun i => (T.1 i + cdC Y.1 T.1 x9_141 i.toNat) % Y.1 i), wrL (T.2 + cdC Y.1 T.1 x9_141 6)) := ⟨_, rfl⟩
                  rw [← hT2] at N152 T152
                  have hcd := cdT_b (b := Y.1) (t := T2.1) 6 (fun i h1 h2 => T152.2.2.2.2.1 i h1 (by omega))
                  have hcs := cd_sum (b := Y.1) (t := T.1) (c := x9_141) 6
                  have hcs2 : cdT Y.1 T2.1 6 + r152 * cdW Y.1 6 = cdT Y.1 T.1 6 + x9_141 := by rw [hT2, v152]; exact hcs
                  have hls : (T.2 + r152) * cdW Y.1 6 + cdT Y.1 T2.1 6 = sm + x9_141 := by rw [Int.add_mul]; omega
                  have hlb := lost_bd hls hWb.1 hcd hsb
                  have hl2 : T2.2 = T.2 + r152 := by
                    rw [hT2, v152]
                    exact wrL_in (by rw [← v152]; omega)
                  have hls2 : T2.2 * cdW Y.1 6 + cdT Y.1 T2.1 6 = sm + x9_141 := by rw [hl2]; exact hls
                  refine s_lstore (ls2 := [some (vR 0), some vS, some (vI at9), some (vI b5), some (vL wh), none, some (vL sm), none, some (vI k8), some (vL x9_141), none, some (vL r144), none, some (vL r152), none, none]) C dL_cords_155 (by decide) rfl ?_
                  refine s_lload C dL_cords_157 rfl ?_
                  refine s_lload C dL_cords_159 rfl ?_
                  refine s_ladd C dL_cords_161 ?_
                  refine s_topL (fun x6_162 ex6_162 => ?_)
                  refine s_lstore (ls2 := [some (vR 0), some vS, some (vI at9), some (vI b5), some (vL wh), none, some (vL x6_162), none, some (vI k8), some (vL x9_141), none, some (vL r144), none, some (vL r152), none, none]) C dL_cords_162 (by decide) rfl ?_
                  refine s_aload_n C dL_cords_164 rfl ?_
                  refine s_cV0l C dL_cords_165 lkL_119 moX7_lost mvX7_lost (kX7_lost T152 N152) sh_0 ⟨_, _, rfl⟩ (Nat.le_of_ble_eq_true rfl) (Nat.le_of_ble_eq_true rfl) rfl ⟨(show uu72 ≤ 400 by omega), (show ww72 ≤ 2400 by omega)⟩ (fun r165 σ_165 hp165 => ?_)
                  obtain ⟨g165, -, v165, N165, T165, F165⟩ := hp165
                  replace v165 : r165 = T2.2 := v165
                  replace N165 : RN σ_165 (sY S (Y.1, T2.1, T2.2)) := N165
                  replace T165 : StOK (sY S (Y.1, T2.1, T2.2)) := T165
                  refine s_lload C dL_cords_168 rfl ?_
                  refine s_lload C dL_cords_170 rfl ?_
                  refine s_ladd C dL_cords_172 ?_
                  refine s_lcmp C dL_cords_173 (by omega) (by omega) ?_
                  refine s_if_ne (tgt := 218) C dL_cords_174 (by decide) (by exact cmpL_rng) (fun c174 => ?_) (fun c174 => ?_)
                  · exfalso; exact c174 (cmpL_eq.mpr (by omega)) -- done
                  · refine s_aload_n C dL_cords_177 rfl ?_
                    refine s_cV0l C dL_cords_178 lkL_127 moX7_shown mvX7_shown (kX7_shown T165 N165) sh_0 ⟨_, _, rfl⟩ (Nat.le_of_ble_eq_true rfl) (Nat.le_of_ble_eq_true rfl) rfl ⟨(show uu72 ≤ 400 by omega), (show ww72 ≤ 2400 by omega)⟩ (fun r178 σ_178 hp178 => ?_)
                    obtain ⟨-, v178, N178, T178, F178⟩ := hp178
                    replace v178 : r178 = cdT Y.1 T2.1 6 := v178
                    replace N178 : RN σ_178 (sY S (Y.1, T2.1, T2.2)) := N178
                    replace T178 : StOK (sY S (Y.1, T2.1, T2.2)) := T178
                    refine s_lconst C dL_cords_181 ?_
                    refine s_lcmp C dL_cords_182 (by omega) (by omega) ?_
                    refine s_if_lt (tgt := 218) C dL_cords_183 (by decide) (by exact cmpL_rng) (fun c183 => ?_) (fun c183 => ?_)
                    · exfalso; exact absurd (cmpL_ge.mpr (show (0 : Int) ≤ r178 by omega)) (Int.not_le.mpr c183) -- done
                    · refine s_aload_n C dL_cords_186 rfl ?_
                      refine s_cV0l C dL_cords_187 lkL_127 moX7_shown mvX7_shown (kX7_shown T178 N178) sh_0 ⟨_, _, rfl⟩ (Nat.le_of_ble_eq_true rfl) (Nat.le_of_ble_eq_true rfl) rfl ⟨(show uu72 ≤ 400 by omega), (show ww72 ≤ 2400 by omega)⟩ (fun r187 σ_187 hp187 => ?_)
                      obtain ⟨-, v187, N187, T187, F187⟩ := hp187
                      replace v187 : r187 = cdT Y.1 T2.1 6 := v187
                      replace N187 : RN σ_187 (sY S (Y.1, T2.1, T2.2)) := N187
                      replace T187 : StOK (sY S (Y.1, T2.1, T2.2)) := T187
                      refine s_lload C dL_cords_190 rfl ?_
                      refine s_lcmp C dL_cords_192 (by omega) (by omega) ?_
                      refine s_if_ge (tgt := 218) C dL_cords_193 (by decide) (by exact cmpL_rng) (fun c193 => ?_) (fun c193 => ?_)
                      · exfalso; have z := cmpL_ge (x := r187) (y := wh); omega -- done
                      · refine s_aload_n C dL_cords_196 rfl ?_
                        refine s_cV0l C dL_cords_197 lkL_127 moX7_shown mvX7_shown (kX7_shown T187 N187) sh_0 ⟨_, _, rfl⟩ (Nat.le_of_ble_eq_true rfl) (Nat.le_of_ble_eq_true rfl) rfl ⟨(show uu72 ≤ 400 by omega), (show ww72 ≤ 2400 by omega)⟩ (fun r197 σ_197 hp197 => ?_)
                        obtain ⟨-, v197, N197, T197, F197⟩ := hp197
                        replace v197 : r197 = cdT Y.1 T2.1 6 := v197
                        replace N197 : RN σ_197 (sY S (Y.1, T2.1, T2.2)) := N197
                        replace T197 : StOK (sY S (Y.1, T2.1, T2.2)) := T197
                        refine s_aload_n C dL_cords_200 rfl ?_
                        refine s_cV0l C dL_cords_201 lkL_119 moX7_lost mvX7_lost (kX7_lost T197 N197) sh_0 ⟨_, _, rfl⟩ (Nat.le_of_ble_eq_true rfl) (Nat.le_of_ble_eq_true rfl) rfl ⟨(show uu72 ≤ 400 by omega), (show ww72 ≤ 2400 by omega)⟩ (fun r201 σ_201 hp201 => ?_)
                        obtain ⟨g201, -, v201, N201, T201, F201⟩ := hp201
                        replace v201 : r201 = T2.2 := v201
                        replace N201 : RN σ_201 (sY S (Y.1, T2.1, T2.2)) := N201
                        replace T201 : StOK (sY S (Y.1, T2.1, T2.2)) := T201
                        have y201 : r197 + r201 * wh = x6_162 := by rw [v197, v201, hW6, ex6_162]; omega
                        refine s_lload C dL_cords_204 rfl ?_
                        refine s_lmul C dL_cords_206 ?_
                        refine s_ladd C dL_cords_207 ?_
                        refine s_lload C dL_cords_208 rfl ?_
                        refine s_lcmp C dL_cords_210 (by omega) (by omega) ?_
                        refine s_if_ne (tgt := 218) C dL_cords_211 (by decide) (by exact cmpL_rng) (fun c211 => ?_) (fun c211 => ?_)
                        · exfalso; exact c211 (cmpL_eq.mpr y201) -- done
                        · refine s_iconst C dL_cords_214 ?_
                          refine s_goto (tgt := 219) C dL_cords_215 (by decide) ?_
                          refine s_istore_n (ls2 := [some (vR 0), some vS, some (vI at9), some (vI 1), some (vL wh), none, some (vL x6_162), none, some (vI k8), some (vL x9_141), none, some (vL r144), none, some (vL r152), none, none]) C dL_cords_219 (by decide) rfl ?_
                          refine s_iconst C dL_cords_220 ?_
                          refine s_istore (ls2 := [some (vR 0), some vS, some (vI at9), some (vI 1), some (vL wh), none, some (vL x6_162), none, some (vI k8), some (vL x9_141), none, some (vL r144), none, some (vL r152), none, some (vI 0)]) C dL_cords_221 (by decide) rfl ?_
                          have L223 : ∀ (n : Nat) (b6 : Int) (j15 : Int) (τ3 : sv_G) (uu223 ww223 : Nat), (6 - j15).toNat < n → ((uu223 : Int) + 1 * (6 - j15) ≤ (uu72 : Int) + 6 ∧ (ww223 : Int) + 6 * (6 - j15) ≤ (ww72 : Int) + 36) → (b6 = 1) → (0 ≤ j15 ∧ j15 ≤ 6) → (RN τ3 (sY S (Y.1, T2.1, T2.2))) → SW X E Q uu223 ww223 223 [some (vR 0), some vS, some (vI at9), some (vI b6), some (vL wh), none, some (vL x6_162), none, some (vI k8), some (vL x9_141), none, some (vL r144), none, some (vL r152), none, some (vI j15)] [] τ3 := by
                            intro n
                            induction n with
                            | zero => intro b6 j15 τ3 uu223 ww223 hm; exact absurd hm (Nat.not_lt_zero _)
                            | succ n ih223 =>
                              intro b6 j15 τ3 uu223 ww223 hm223 i223_0 i223_1 i223_2 i223_3
                              refine s_iload C dL_cords_223 rfl ?_
                              refine s_bipush C dL_cords_225 (by decide) ?_
                              refine s_icmp_ge (tgt := 255) C dL_cords_227 (by decide) (by omega) (by omega) (fun c227 => ?_) (fun c227 => ?_)
                              · obtain ⟨x8_255, ex8_255⟩ : ∃ y : Int, y = k8 + 1 := ⟨_, rfl⟩
                                refine s_iinc (z2 := x8_255) (ls2 := [some (vR 0), some vS, some (vI at9), some (vI b6), some (vL wh), none, some (vL x6_162), none, some (vI x8_255), some (vL x9_141), none, some (vL r144), none, some (vL r152), none, some (vI j15)]) C dL_cords_255 (by decide) rfl ex8_255 rfl ?_
                                refine s_goto (tgt := 72) C dL_cords_258 (by decide) ?_
                                refine s_weak (ls2 := [some (vR 0), some vS, some (vI at9), some (vI b6), some (vL wh), none, some (vL x6_162), none, some (vI x8_255), none, none, none, none, none, none, none]) (sv_wk_c (sv_wk_c (sv_wk_c (sv_wk_c (sv_wk_c (sv_wk_n (sv_wk_c (sv_wk_n (sv_wk_c (sv_wk_n (sv_wk_n (sv_wk_n (sv_wk_n (sv_wk_n (sv_wk_n (sv_wk_n sv_wk_0)))))))))))))))) ?_
                                refine ih72 b6 x6_162 x8_255 τ3 T2 uu223 ww223 (by omega) (by omega) (by first | assumption | omega) (by first | assumption | omega) ?_ ?_ ?_ ?_
                                · rw [ex6_162]; exact hls2
                                · rw [ex6_162, ex8_255]; omega
                                · exact i223_3
                                · exact T201
                              · refine s_iload_n C dL_cords_230 rfl ?_
                                refine s_if_eq (tgt := 247) C dL_cords_231 (by decide) (by omega) (fun c231 => ?_) (fun c231 => ?_)
                                · exfalso; omega -- done
                                · refine s_aload_n C dL_cords_234 rfl ?_
                                  refine s_iload C dL_cords_235 rfl ?_
                                  have o237 : (op_knots (sY S (Y.1, T2.1, T2.2)) j15).1 = 0 := by unfold op_knots; dsimp only; (repeat' split) <;> first | rfl | (exfalso; omega)
                                  refine sc_cV1i (u2 := uu223 + 1) (w2 := ww223 + 6) C dL_cords_237 lkL_130 moX7_knots mvX7_knots (kX7_knots T201 i223_3 (by omega)) sh_0 ⟨_, _, rfl⟩ (Nat.le_of_ble_eq_true rfl) (Nat.le_of_ble_eq_true rfl) ⟨rfl, rfl⟩ ⟨(show uu223 + 1 ≤ 400 by omega), (show ww223 + 6 ≤ 2400 by omega)⟩ (fun En σ9 h => absurd h (px3_no o237)) (fun r237 σ_237 hp237 => ?_)
                                  obtain ⟨-, v237, N237, T237, F237⟩ := hp237
                                  replace v237 : r237 = T2.1 j15 := by first | exact v237 | (rw [h_D]; exact v237)
                                  replace N237 : RN σ_237 (sY S (Y.1, T2.1, T2.2)) := by first | exact N237 | (rw [h_D]; exact N237)
                                  replace T237 : StOK (sY S (Y.1, T2.1, T2.2)) := by first | exact T237 | (rw [h_D]; exact T237)
                                  have y237 : 2 ≤ Y.1 j15 ∧ Y.1 j15 ≤ 60 ∧ 0 ≤ T2.1 j15 ∧ T2.1 j15 < Y.1 j15 := T201.2.2.2.2.1 j15 (by omega) (by omega)
                                  have z237 : 0 ≤ r237 ∧ r237 ≤ 60 := by rw [v237]; omega
                                  refine s_if_lt (tgt := 247) C dL_cords_240 (by decide) (by omega) (fun c240 => ?_) (fun c240 => ?_)
                                  · exfalso; omega -- done
                                  · refine s_iconst C dL_cords_243 ?_
                                    refine s_goto (tgt := 248) C dL_cords_244 (by decide) ?_
                                    refine s_istore_n (ls2 := [some (vR 0), some vS, some (vI at9), some (vI 1), some (vL wh), none, some (vL x6_162), none, some (vI k8), some (vL x9_141), none, some (vL r144), none, some (vL r152), none, some (vI j15)]) C dL_cords_248 (by decide) rfl ?_
                                    obtain ⟨x15_249, ex15_249⟩ : ∃ y : Int, y = j15 + 1 := ⟨_, rfl⟩
                                    refine s_iinc (z2 := x15_249) (ls2 := [some (vR 0), some vS, some (vI at9), some (vI 1), some (vL wh), none, some (vL x6_162), none, some (vI k8), some (vL x9_141), none, some (vL r144), none, some (vL r152), none, some (vI x15_249)]) C dL_cords_249 (by decide) rfl ex15_249 rfl ?_
                                    refine s_goto (tgt := 223) C dL_cords_252 (by decide) ?_
                                    refine ih223 1 x15_249 σ_237 (uu223 + 1) (ww223 + 6) (by omega) (by omega) (by first | assumption | omega) (by first | assumption | omega) ?_
                                    · exact N237
                          refine L223 _ 1 0 σ_201 uu72 ww72 (Nat.lt_succ_self _) (by omega) (by first | assumption | omega) (by first | assumption | omega) ?_
                          · exact N201
                refine s_if_ne (tgt := 135) C dL_cords_111 (by decide) (by omega) (fun c111 => ?_) (fun c111 => ?_)
                · refine s_iload C dL_cords_135 rfl ?_
                  refine s_iconst C dL_cords_137 ?_
                  refine s_irem C dL_cords_138 (by omega) (by omega) ?_
                  refine s_i2l C dL_cords_139 (by omega) ?_
                  exact J140 (k8 % 3) (by first | assumption | omega)
                · refine s_iconst C dL_cords_114 ?_
                  refine s_aloadS_n C dL_cords_115 rfl ?_
                  refine s_iload_n C dL_cords_116 rfl ?_
                  refine s_bipush C dL_cords_117 (by decide) ?_
                  refine s_iadd C dL_cords_119 ?_
                  refine s_iconst C dL_cords_120 ?_
                  refine s_iload C dL_cords_121 rfl ?_
                  refine s_imul C dL_cords_123 ?_
                  refine s_iadd C dL_cords_124 ?_
                  refine s_ldc (n := 1073741824) C dL_cords_125 lcc_116 rfl ?_
                  refine s_cS3i C dL_cords_127 lkL_109 moL_draw mvL_draw (kL_draw (by omega) (by omega)) (Nat.le_of_ble_eq_true rfl) (Nat.le_of_ble_eq_true rfl) rfl ⟨(show uu72 ≤ 400 by omega), (show ww72 ≤ 2400 by omega)⟩ (kpI (fun r127 hp127 => ?_))
                  refine s_iadd C dL_cords_130 ?_
                  refine s_i2l C dL_cords_131 (by omega) ?_
                  refine s_goto (tgt := 140) C dL_cords_132 (by decide) ?_
                  exact J140 (1 + r127) (by first | assumption | omega)
        refine L72 _ b3 0 0 τ ((fun _ => 0, 0) : (Int → Int) × Int) uu8 ww8 (Nat.lt_succ_self _) (by omega) (by first | assumption | omega) (by first | assumption | omega) ?_ ?_ ?_ ?_
        · show (0 : Int) * cdW Y.1 6 + cdT Y.1 (fun _ => 0) 6 = 0
          rw [cdT_0, Int.zero_mul]; rfl
        · decide
        · rw [← hY2]; exact i8_6
        · rw [← hY2]; exact i8_7
      · refine s_iconst C dL_cords_15 ?_
        refine s_aloadS_n C dL_cords_16 rfl ?_
        refine s_iload_n C dL_cords_17 rfl ?_
        refine s_iload C dL_cords_18 rfl ?_
        refine s_iadd C dL_cords_20 ?_
        refine s_bipush C dL_cords_21 (by decide) ?_
        refine s_cS3i C dL_cords_23 lkL_109 moL_draw mvL_draw (kL_draw (by omega) (by omega)) (Nat.le_of_ble_eq_true rfl) (Nat.le_of_ble_eq_true rfl) rfl ⟨(show uu8 ≤ 400 by omega), (show ww8 ≤ 2400 by omega)⟩ (kpI (fun r23 hp23 => ?_))
        refine s_iadd C dL_cords_26 ?_
        refine s_topI (fun x7_27 ex7_27 => ?_)
        refine s_istore (ls2 := [some (vR 0), some vS, some (vI at9), some (vI b3), some (vL wh), none, some (vI i6), some (vI x7_27), none, none, none, none, none, none, none, none]) C dL_cords_27 (by decide) rfl ?_
        refine s_lload C dL_cords_29 rfl ?_
        refine s_iload C dL_cords_31 rfl ?_
        refine s_i2l C dL_cords_33 (by omega) ?_
        refine s_lmul C dL_cords_34 ?_
        refine s_topL (fun x4_35 ex4_35 => ?_)
        refine s_lstore (ls2 := [some (vR 0), some vS, some (vI at9), some (vI b3), some (vL x4_35), none, some (vI i6), some (vI x7_27), none, none, none, none, none, none, none, none]) C dL_cords_35 (by decide) rfl ?_
        refine s_iload_n C dL_cords_37 rfl ?_
        refine s_if_eq (tgt := 58) C dL_cords_38 (by decide) (by omega) (fun c38 => ?_) (fun c38 => ?_)
        · exfalso; omega -- done
        · refine s_aload_n C dL_cords_41 rfl ?_
          refine s_iload C dL_cords_42 rfl ?_
          refine s_iload C dL_cords_44 rfl ?_
          have o46 : (op_cord (sY S Y) i6 x7_27).1 = 0 := by unfold op_cord; dsimp only; (repeat' split) <;> first | rfl | (exfalso; omega)
          refine sc_cV2i (u2 := uu8 + 2) (w2 := ww8 + 12) C dL_cords_46 lkL_113 moX7_cord mvX7_cord (kX7_cord i8_7 i8_6 (by omega) (by omega)) sh_0 ⟨_, _, rfl⟩ (Nat.le_of_ble_eq_true rfl) (Nat.le_of_ble_eq_true rfl) ⟨rfl, rfl⟩ ⟨(show uu8 + 2 ≤ 400 by omega), (show ww8 + 12 ≤ 2400 by omega)⟩ (fun En σ9 h => absurd h (px3_no o46)) (fun r46 σ_46 hp46 => ?_)
          obtain ⟨-, v46, N46, T46, F46⟩ := hp46
          replace v46 : r46 = Y.1 i6 := by first | exact v46 | (rw [h_D]; exact v46)
          replace N46 : RN σ_46 (sY S (cZ Y.1 i6 x7_27)) := by first | exact N46 | (rw [h_D]; exact N46)
          replace T46 : StOK (sY S (cZ Y.1 i6 x7_27)) := by first | exact T46 | (rw [h_D]; exact T46)
          have y46 : r46 = 10 := by rw [v46]; exact i8_4 i6 (by omega) (by omega)
          refine s_bipush C dL_cords_49 (by decide) ?_
          refine s_icmp_ne (tgt := 58) C dL_cords_51 (by decide) (by omega) (by omega) (fun c51 => ?_) (fun c51 => ?_)
          · exfalso; omega -- done
          · refine s_iconst C dL_cords_54 ?_
            refine s_goto (tgt := 59) C dL_cords_55 (by decide) ?_
            refine s_istore_n (ls2 := [some (vR 0), some vS, some (vI at9), some (vI 1), some (vL x4_35), none, some (vI i6), some (vI x7_27), none, none, none, none, none, none, none, none]) C dL_cords_59 (by decide) rfl ?_
            obtain ⟨x6_60, ex6_60⟩ : ∃ y : Int, y = i6 + 1 := ⟨_, rfl⟩
            refine s_iinc (z2 := x6_60) (ls2 := [some (vR 0), some vS, some (vI at9), some (vI 1), some (vL x4_35), none, some (vI x6_60), some (vI x7_27), none, none, none, none, none, none, none, none]) C dL_cords_60 (by decide) rfl ex6_60 rfl ?_
            refine s_goto (tgt := 8) C dL_cords_63 (by decide) ?_
            refine s_weak (ls2 := [some (vR 0), some vS, some (vI at9), some (vI 1), some (vL x4_35), none, some (vI x6_60), none, none, none, none, none, none, none, none, none]) (sv_wk_c (sv_wk_c (sv_wk_c (sv_wk_c (sv_wk_c (sv_wk_n (sv_wk_c (sv_wk_n (sv_wk_n (sv_wk_n (sv_wk_n (sv_wk_n (sv_wk_n (sv_wk_n (sv_wk_n (sv_wk_n sv_wk_0)))))))))))))))) ?_
            refine ih8 1 x4_35 x6_60 σ_46 (cZ Y.1 i6 x7_27) (uu8 + 2) (ww8 + 12) (by omega) (by omega) (by first | assumption | omega) (by first | assumption | omega) ?_ ?_ ?_ ?_ ?_
            · rw [show x6_60.toNat = i6.toNat + 1 by omega]
              show x4_35 = cdW (fun i => if i = i6 then x7_27 else Y.1 i) i6.toNat * (if (i6.toNat : Int) = i6 then x7_27 else Y.1 (i6.toNat : Int))
              rw [if_pos (by omega), cdW_cg (b := fun i => if i = i6 then x7_27 else Y.1 i) (b' := Y.1) i6.toNat (fun i h1 h2 => if_neg (by omega)), ← i8_3]
              exact ex4_35
            · intro i h1 h2
              show (if i = i6 then x7_27 else Y.1 i) = 10
              rw [if_neg (by omega)]
              exact i8_4 i (by omega) h2
            · exact Or.inr rfl
            · exact N46
            · exact T46
  refine L8 _ 1 1 0 σ S.2.2.2.2 0 0 (Nat.lt_succ_self _) (by omega) (by first | assumption | omega) (by first | assumption | omega) ?_ ?_ ?_ ?_ ?_
  · rfl
  · exact fun i h1 h2 => hB i h1 h2
  · exact Or.inl rfl
  · exact hN
  · exact hS
