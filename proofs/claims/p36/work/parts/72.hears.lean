set_option maxRecDepth 100000 in
set_option maxHeartbeats 8000000 in
theorem kL_hears {E : sv_E} {σ : sv_G} (he : E.2.1.2 = []) {S : st_T} (hS : StOK S) (hN : RN σ S) {g n9 k9 b9 lo : Int} (hg : 0 ≤ g ∧ g ≤ 3) (hn : 0 ≤ n9 ∧ n9 ≤ 9999) (hk : 0 ≤ k9 ∧ k9 ≤ 2) (hb : 0 ≤ b9 ∧ b9 ≤ 60) (hlo9 : 0 ≤ lo ∧ lo ≤ 19) : CT E ML_hears 99 [(vR 0), (vI g), (vI n9), (vI k9), (vI b9), (vI lo)] σ (PI fun r σ9 => r = 1 ∧ ∃ l h, RN σ9 (uH (uL S l) h) ∧ StOK (uH (uL S l) h)) := by
  refine CT.of (RL, cL_hears, 16, (some .boolean), [], 99, 4000, 24000) rfl moL_hears (Nat.le_of_ble_eq_true rfl) (ls0 := [some (vR 0), some (vI g), some (vI n9), some (vI k9), some (vI b9), some (vI lo), none, none, none, none, none, none, none, none, none, none]) rfl ?_
  intro X Q C hR
  have hD := hS.1 g hg.1 hg.2
  obtain ⟨l, h_l⟩ : ∃ l, l = spF (sD S g) n9 k9 := ⟨_, rfl⟩
  refine s_aload_n C dL_hears_0 rfl ?_
  refine s_iload_n C dL_hears_1 rfl ?_
  refine s_iload_n C dL_hears_2 rfl ?_
  refine s_iload_n C dL_hears_3 rfl ?_
  have o4 : (op_say S g n9 k9).1 = 0 := by unfold op_say; dsimp only; (repeat' split) <;> first | rfl | (exfalso; omega)
  refine sc_cV3i (u2 := 3) (w2 := 18) C dL_hears_4 lkL_58 moX7_say mvX7_say (kX7_say hS hN (by omega) (by omega) (by omega)) sh_0 ⟨_, _, rfl⟩ (Nat.le_of_ble_eq_true rfl) (Nat.le_of_ble_eq_true rfl) ⟨rfl, rfl⟩ ⟨(show 3 ≤ 4000 by omega), (show 18 ≤ 24000 by omega)⟩ (fun En σ9 h => absurd h (px3_no o4)) (fun r4 σ_4 hp4 => ?_)
  obtain ⟨-, v4, N4, T4, F4⟩ := hp4
  replace v4 : r4 = (l.length : Int) := by first | exact v4 | (rw [h_l]; exact v4)
  replace N4 : RN σ_4 (uL S l) := by first | exact N4 | (rw [h_l]; exact N4)
  replace T4 : StOK (uL S l) := by first | exact T4 | (rw [h_l]; exact T4)
  have hl20 : l.length ≤ 20 := T4.2.1.2
  have hlo : wOK l := T4.2.1.1
  refine s_istore (ls2 := [some (vR 0), some (vI g), some (vI n9), some (vI k9), some (vI b9), some (vI lo), some (vI r4), none, none, none, none, none, none, none, none, none]) C dL_hears_7 (by decide) rfl ?_
  refine s_aload_n C dL_hears_9 rfl ?_
  refine s_cV0i C dL_hears_10 lkL_75 moX7_hearSaid mvX7_hearSaid (kX7_hearSaid T4 N4) sh_0 ⟨_, _, rfl⟩ (Nat.le_of_ble_eq_true rfl) (Nat.le_of_ble_eq_true rfl) rfl ⟨(show 3 ≤ 4000 by omega), (show 18 ≤ 24000 by omega)⟩ (fun r10 σ_10 hp10 => ?_)
  obtain ⟨-, v10, N10, T10, F10⟩ := hp10
  replace v10 : r10 = (l.length : Int) := by first | exact v10 | (rw [h_l]; exact v10)
  replace N10 : RN σ_10 (uH (uL S l) l) := by first | exact N10 | (rw [h_l]; exact N10)
  replace T10 : StOK (uH (uL S l) l) := by first | exact T10 | (rw [h_l]; exact T10)
  refine s_istore (ls2 := [some (vR 0), some (vI g), some (vI n9), some (vI k9), some (vI b9), some (vI lo), some (vI r4), some (vI r10), none, none, none, none, none, none, none, none]) C dL_hears_13 (by decide) rfl ?_
  refine s_iload C dL_hears_15 rfl ?_
  refine s_if_ne (tgt := 83) C dL_hears_17 (by decide) (by omega) (fun c17 => ?_) (fun c17 => ?_)
  · have hne : l ≠ [] := fun z => by rw [z] at v4; exact c17 v4
    have hpl := len_pos.mpr hne
    refine s_bipush C dL_hears_83 (by decide) ?_
    refine s_newW C he dL_hears_85 ⟨(show 3 + 1 ≤ 4000 by omega), (show 18 + 20 ≤ 24000 by omega)⟩ (fun j => ?_)
    refine s_nameG (fun σ_85 hσ_85 => ?_)
    have C0 := C
    replace C := sx_wE (j := j) C
    have N85 : RN σ_85 (uH (uL S l) l) := by rw [hσ_85]; exact N10.wZ T10
    refine s_astore (ls2 := [some (vR 0), some (vI g), some (vI n9), some (vI k9), some (vI b9), some (vI lo), some (vI r4), some (vI r10), some (vR (195 + j)), none, none, none, none, none, none, none]) C dL_hears_87 (by decide) rfl ?_
    refine s_iconst C dL_hears_89 ?_
    refine s_istore (ls2 := [some (vR 0), some (vI g), some (vI n9), some (vI k9), some (vI b9), some (vI lo), some (vI r4), some (vI r10), some (vR (195 + j)), some (vI 0), none, none, none, none, none, none]) C dL_hears_90 (by decide) rfl ?_
    refine s_iconst C dL_hears_92 ?_
    refine s_istore (ls2 := [some (vR 0), some (vI g), some (vI n9), some (vI k9), some (vI b9), some (vI lo), some (vI r4), some (vI r10), some (vR (195 + j)), some (vI 0), some (vI (-1)), none, none, none, none, none]) C dL_hears_93 (by decide) rfl ?_
    refine s_aload_n C dL_hears_95 rfl ?_
    refine s_iload C dL_hears_96 rfl ?_
    refine s_aload C dL_hears_98 rfl ?_
    refine s_mS3i (u2 := 204) (w2 := 1238) C dL_hears_100 lkL_61 moL_keeps mvL_keeps (kL_keeps T10 N85 v4) (Nat.le_of_ble_eq_true rfl) (Nat.le_of_ble_eq_true rfl) ⟨rfl, rfl⟩ ⟨(show 204 ≤ 4000 by omega), (show 1238 ≤ 24000 by omega)⟩ (fun r100 σ_100 hp100 => ?_)
    obtain ⟨v100, N100, W100⟩ := hp100
    replace N100 : RN σ_100 (uH (uL S l) l) := N100
    replace W100 : WA σ_100 j l := W100
    refine s_istore (ls2 := [some (vR 0), some (vI g), some (vI n9), some (vI k9), some (vI b9), some (vI lo), some (vI r4), some (vI r10), some (vR (195 + j)), some (vI 0), some (vI (-1)), some (vI r100), none, none, none, none]) C dL_hears_103 (by decide) rfl ?_
    refine s_iconst C dL_hears_105 ?_
    refine s_istore (ls2 := [some (vR 0), some (vI g), some (vI n9), some (vI k9), some (vI b9), some (vI lo), some (vI r4), some (vI r10), some (vR (195 + j)), some (vI 0), some (vI (-1)), some (vI r100), some (vI 0), none, none, none]) C dL_hears_106 (by decide) rfl ?_
    have L108 : ∀ (n : Nat) (m9 : Int) (f10 : Int) (i12 : Int) (τ : sv_G) (l5 : List Int) (uu108 ww108 : Nat), (b9 + 1 - i12).toNat < n → ((uu108 : Int) + 43 * (b9 + 1 - i12) ≤ 3300 ∧ (ww108 : Int) + 258 * (b9 + 1 - i12) ≤ 19800) → (0 ≤ i12 ∧ i12 ≤ b9 + 1) → (m9 = ftN (sD S g) k9 l i12.toNat) → (fsI (sD S g) k9 l i12 f10) → (RN τ (uH (uL S l5) l)) → (StOK (uH (uL S l5) l)) → (WA τ j l) → SW X (wE E j) Q uu108 ww108 108 [some (vR 0), some (vI g), some (vI n9), some (vI k9), some (vI b9), some (vI lo), some (vI r4), some (vI r10), some (vR (195 + j)), some (vI m9), some (vI f10), some (vI r100), some (vI i12), none, none, none] [] τ := by
      intro n
      induction n with
      | zero => intro m9 f10 i12 τ l5 uu108 ww108 hm; exact absurd hm (Nat.not_lt_zero _)
      | succ n ih108 =>
        intro m9 f10 i12 τ l5 uu108 ww108 hm108 i108_0 i108_1 i108_2 i108_3 i108_4 i108_5 i108_6
        have p108 : -1 ≤ f10 ∧ f10 ≤ 61 := by rcases i108_3 with z | z <;> omega
        refine s_iload C dL_hears_108 rfl ?_
        refine s_iload C dL_hears_110 rfl ?_
        refine s_icmp_gt (tgt := 186) C dL_hears_112 (by decide) (by omega) (by omega) (fun c112 => ?_) (fun c112 => ?_)
        · have e112 : m9 = ftN (sD S g) k9 l (b9 + 1).toNat := by rw [i108_2, show i12 = b9 + 1 by omega]
          have n112 : 0 ≤ m9 := by rw [e112]; exact ft_nn _
          have b112 : m9 ≤ 61 := by
            have z := ft_b (D := sD S g) (c := k9) (H := l) (b9 + 1).toNat
            omega
          have f112 : fiR (sD S g) k9 l 0 (b9 + 1).toNat 0 = f10 := fsI_end (by omega) (by omega) i108_3
          have p112 : -1 ≤ f10 ∧ f10 ≤ 61 := by rcases i108_3 with z | z <;> omega
          refine s_iload C dL_hears_186 rfl ?_
          refine s_if_eq (tgt := 266) C dL_hears_188 (by decide) (by omega) (fun c188 => ?_) (fun c188 => ?_)
          · exfalso; omega -- done
          · refine s_iload C dL_hears_191 rfl ?_
            refine s_iload C dL_hears_193 rfl ?_
            refine s_icmp_ne (tgt := 266) C dL_hears_195 (by decide) (by omega) (by omega) (fun c195 => ?_) (fun c195 => ?_)
            · exfalso; omega -- done
            · refine s_aload_n C dL_hears_198 rfl ?_
              refine s_iload_n C dL_hears_199 rfl ?_
              refine s_iload_n C dL_hears_200 rfl ?_
              refine s_iload C dL_hears_201 rfl ?_
              have o203 : (op_fits (uH (uL S l5) l) g k9 b9).1 = 0 := by unfold op_fits; dsimp only; (repeat' split) <;> first | rfl | (exfalso; omega)
              refine sc_cV3i (u2 := uu108 + 3) (w2 := ww108 + 18) C dL_hears_203 lkL_79 moX7_fits mvX7_fits (kX7_fits i108_5 i108_4 (by omega) (by omega) (by omega)) sh_0 ⟨_, _, rfl⟩ (Nat.le_of_ble_eq_true rfl) (Nat.le_of_ble_eq_true rfl) ⟨rfl, rfl⟩ ⟨(show uu108 + 3 ≤ 4000 by omega), (show ww108 + 18 ≤ 24000 by omega)⟩ (fun En σ9 h => absurd h (px3_no o203)) (fun r203 σ_203 hp203 => ?_)
              obtain ⟨-, v203, N203, T203, F203⟩ := hp203
              replace v203 : r203 = ftN (sD S g) k9 l (b9 + 1).toNat := by first | exact v203 | (rw [h_l]; exact v203)
              replace N203 : RN σ_203 (uH (uL S l5) l) := by first | exact N203 | (rw [h_l]; exact N203)
              replace T203 : StOK (uH (uL S l5) l) := by first | exact T203 | (rw [h_l]; exact T203)
              refine s_iload C dL_hears_206 rfl ?_
              refine s_icmp_ne (tgt := 266) C dL_hears_208 (by decide) (by omega) (by omega) (fun c208 => ?_) (fun c208 => ?_)
              · exfalso; omega -- done
              · refine s_aload_n C dL_hears_211 rfl ?_
                refine s_iload_n C dL_hears_212 rfl ?_
                refine s_iload_n C dL_hears_213 rfl ?_
                refine s_iload C dL_hears_214 rfl ?_
                refine s_iconst C dL_hears_216 ?_
                have o217 : (op_fit (uH (uL S l5) l) g k9 b9 0).1 = 0 := by unfold op_fit; dsimp only; (repeat' split) <;> first | rfl | (exfalso; omega)
                refine sc_cV4i (u2 := uu108 + 7) (w2 := ww108 + 42) C dL_hears_217 lkL_85 moX7_fit mvX7_fit (kX7_fit T203 N203 (by omega) (by omega) (by omega) (by omega)) sh_0 ⟨_, _, rfl⟩ (Nat.le_of_ble_eq_true rfl) (Nat.le_of_ble_eq_true rfl) ⟨rfl, rfl⟩ ⟨(show uu108 + 7 ≤ 4000 by omega), (show ww108 + 42 ≤ 24000 by omega)⟩ (fun En σ9 h => absurd h (px3_no o217)) (fun r217 σ_217 hp217 => ?_)
                obtain ⟨-, v217, N217, T217, F217⟩ := hp217
                replace v217 : r217 = fiR (sD S g) k9 l 0 (b9 + 1).toNat 0 := by first | exact v217 | (rw [h_l]; exact v217)
                replace N217 : RN σ_217 (uH (uL S l5) l) := by first | exact N217 | (rw [h_l]; exact N217)
                replace T217 : StOK (uH (uL S l5) l) := by first | exact T217 | (rw [h_l]; exact T217)
                refine s_iload C dL_hears_220 rfl ?_
                refine s_icmp_ne (tgt := 266) C dL_hears_222 (by decide) (by omega) (by omega) (fun c222 => ?_) (fun c222 => ?_)
                · exfalso; omega -- done
                · refine s_aload_n C dL_hears_225 rfl ?_
                  refine s_iload_n C dL_hears_226 rfl ?_
                  refine s_iload_n C dL_hears_227 rfl ?_
                  refine s_iload C dL_hears_228 rfl ?_
                  refine s_iload C dL_hears_230 rfl ?_
                  have o232 : (op_fit (uH (uL S l5) l) g k9 b9 m9).1 = 0 := by unfold op_fit; dsimp only; (repeat' split) <;> first | rfl | (exfalso; omega)
                  refine sc_cV4i (u2 := uu108 + 11) (w2 := ww108 + 66) C dL_hears_232 lkL_85 moX7_fit mvX7_fit (kX7_fit T217 N217 (by omega) (by omega) (by omega) (by omega)) sh_0 ⟨_, _, rfl⟩ (Nat.le_of_ble_eq_true rfl) (Nat.le_of_ble_eq_true rfl) ⟨rfl, rfl⟩ ⟨(show uu108 + 11 ≤ 4000 by omega), (show ww108 + 66 ≤ 24000 by omega)⟩ (fun En σ9 h => absurd h (px3_no o232)) (fun r232 σ_232 hp232 => ?_)
                  obtain ⟨-, v232, N232, T232, F232⟩ := hp232
                  replace v232 : r232 = fiR (sD S g) k9 l m9 (b9 + 1).toNat 0 := by first | exact v232 | (rw [h_l]; exact v232)
                  replace N232 : RN σ_232 (uH (uL S l5) l) := by first | exact N232 | (rw [h_l]; exact N232)
                  replace T232 : StOK (uH (uL S l5) l) := by first | exact T232 | (rw [h_l]; exact T232)
                  have y232 : r232 = -1 := by rw [v232]; exact fit_none (by omega)
                  refine s_iconst C dL_hears_235 ?_
                  refine s_icmp_ne (tgt := 266) C dL_hears_236 (by decide) (by omega) (by omega) (fun c236 => ?_) (fun c236 => ?_)
                  · exfalso; omega -- done
                  · refine s_aload_n C dL_hears_239 rfl ?_
                    refine s_iload_n C dL_hears_240 rfl ?_
                    refine s_iload_n C dL_hears_241 rfl ?_
                    refine s_iload C dL_hears_242 rfl ?_
                    have o244 : (op_askWord (uH (uL S l5) l) g k9 b9).1 = 0 := by unfold op_askWord; dsimp only; (repeat' split) <;> first | rfl | (exfalso; omega)
                    refine sc_cV3i (u2 := uu108 + 14) (w2 := ww108 + 84) C dL_hears_244 lkL_82 moX7_askWord mvX7_askWord (kX7_askWord T232 N232 (by omega) (by omega) (by omega)) sh_0 ⟨_, _, rfl⟩ (Nat.le_of_ble_eq_true rfl) (Nat.le_of_ble_eq_true rfl) ⟨rfl, rfl⟩ ⟨(show uu108 + 14 ≤ 4000 by omega), (show ww108 + 84 ≤ 24000 by omega)⟩ (fun En σ9 h => absurd h (px3_no o244)) (fun r244 σ_244 hp244 => ?_)
                    obtain ⟨-, v244, N244, T244, F244⟩ := hp244
                    replace v244 : r244 = if ftN (sD S g) k9 l (b9 + 1).toNat < 2 then -1 else (bpR l (fun pl => gtR (sD S g) k9 l pl (b9 + 1).toNat) l.length).1 := by first | exact v244 | (rw [h_l]; exact v244)
                    replace N244 : RN σ_244 (uH (uL S l5) l) := by first | exact N244 | (rw [h_l]; exact N244)
                    replace T244 : StOK (uH (uL S l5) l) := by first | exact T244 | (rw [h_l]; exact T244)
                    have y244 : r244 = -1 := by rw [v244]; exact ask_all hlo
                    refine s_iconst C dL_hears_247 ?_
                    refine s_icmp_ne (tgt := 266) C dL_hears_248 (by decide) (by omega) (by omega) (fun c248 => ?_) (fun c248 => ?_)
                    · exfalso; omega -- done
                    · refine s_iload_n C dL_hears_251 rfl ?_
                      refine s_iload C dL_hears_252 rfl ?_
                      have J262 : SW X (wE E j) Q (uu108 + 14) (ww108 + 84) 262 [some (vR 0), some (vI g), some (vI n9), some (vI k9), some (vI b9), some (vI lo), some (vI r4), some (vI r10), some (vR (195 + j)), some (vI m9), some (vI f10), some (vI r100), some (vI i12), none, none, none] [] σ_244 := by
                        refine s_iconst C dL_hears_262 ?_
                        refine s_goto (tgt := 267) C dL_hears_263 (by decide) ?_
                        refine s_istore (ls2 := [some (vR 0), some (vI g), some (vI n9), some (vI k9), some (vI b9), some (vI lo), some (vI r4), some (vI r10), some (vR (195 + j)), some (vI m9), some (vI f10), some (vI r100), some (vI 1), none, none, none]) C dL_hears_267 (by decide) rfl ?_
                        refine s_aload_n C dL_hears_269 rfl ?_
                        refine s_iload_n C dL_hears_270 rfl ?_
                        refine s_iload_n C dL_hears_271 rfl ?_
                        refine s_iload_n C dL_hears_272 rfl ?_
                        have o273 : (op_say (uH (uL S l5) l) g n9 k9).1 = 0 := by unfold op_say; dsimp only; (repeat' split) <;> first | rfl | (exfalso; omega)
                        refine sc_cV3i (u2 := uu108 + 17) (w2 := ww108 + 102) C dL_hears_273 lkL_58 moX7_say mvX7_say (kX7_say T244 N244 (by omega) (by omega) (by omega)) sh_0 ⟨_, _, rfl⟩ (Nat.le_of_ble_eq_true rfl) (Nat.le_of_ble_eq_true rfl) ⟨rfl, rfl⟩ ⟨(show uu108 + 17 ≤ 4000 by omega), (show ww108 + 102 ≤ 24000 by omega)⟩ (fun En σ9 h => absurd h (px3_no o273)) (fun r273 σ_273 hp273 => ?_)
                        obtain ⟨-, v273, N273, T273, F273⟩ := hp273
                        replace v273 : r273 = ((spF (sD S g) n9 k9).length : Int) := by first | exact v273 | (rw [h_l]; exact v273)
                        replace N273 : RN σ_273 (uH (uL S (spF (sD S g) n9 k9)) l) := by first | exact N273 | (rw [h_l]; exact N273)
                        replace T273 : StOK (uH (uL S (spF (sD S g) n9 k9)) l) := by first | exact T273 | (rw [h_l]; exact T273)
                        rw [← h_l] at v273 N273 T273
                        refine s_iload C dL_hears_276 rfl ?_
                        refine s_icmp_ne (tgt := 294) C dL_hears_278 (by decide) (by omega) (by omega) (fun c278 => ?_) (fun c278 => ?_)
                        · exfalso; omega -- done
                        · refine s_aload_n C dL_hears_281 rfl ?_
                          refine s_cV0i C dL_hears_282 lkL_88 moX7_forget mvX7_forget (kX7_forget T273 N273) sh_0 ⟨_, _, rfl⟩ (Nat.le_of_ble_eq_true rfl) (Nat.le_of_ble_eq_true rfl) rfl ⟨(show uu108 + 17 ≤ 4000 by omega), (show ww108 + 102 ≤ 24000 by omega)⟩ (fun r282 σ_282 hp282 => ?_)
                          obtain ⟨-, v282, N282, T282, F282⟩ := hp282
                          replace v282 : r282 = (l.length : Int) := by first | exact v282 | (rw [h_l]; exact v282)
                          replace N282 : RN σ_282 (uH (uL S l) ([])) := by first | exact N282 | (rw [h_l]; exact N282)
                          replace T282 : StOK (uH (uL S l) ([])) := by first | exact T282 | (rw [h_l]; exact T282)
                          refine s_iload C dL_hears_285 rfl ?_
                          refine s_icmp_ne (tgt := 294) C dL_hears_287 (by decide) (by omega) (by omega) (fun c287 => ?_) (fun c287 => ?_)
                          · exfalso; omega -- done
                          · have hlm := Int.emod_nonneg lo (show r4 ≠ 0 by omega)
                            have hlm2 := Int.emod_lt_of_pos lo (show 0 < r4 by omega)
                            have hpp : (lo % r4).toNat < l.length := by omega
                            have hsl : (l.set (lo % r4).toNat (-1)).length = l.length := by simp
                            refine s_iconst C dL_hears_290 ?_
                            refine s_goto (tgt := 295) C dL_hears_291 (by decide) ?_
                            refine s_istore (ls2 := [some (vR 0), some (vI g), some (vI n9), some (vI k9), some (vI b9), some (vI lo), some (vI r4), some (vI r10), some (vR (195 + j)), some (vI m9), some (vI f10), some (vI r100), some (vI 1), some (vI 1), none, none]) C dL_hears_295 (by decide) rfl ?_
                            refine s_iconst C dL_hears_297 ?_
                            refine s_istore (ls2 := [some (vR 0), some (vI g), some (vI n9), some (vI k9), some (vI b9), some (vI lo), some (vI r4), some (vI r10), some (vR (195 + j)), some (vI m9), some (vI f10), some (vI r100), some (vI 1), some (vI 1), some (vI 0), none]) C dL_hears_298 (by decide) rfl ?_
                            have L300 : ∀ (n : Nat) (b12 : Int) (i14 : Int) (τ : sv_G) (uu300 ww300 : Nat), (r4 - i14).toNat < n → ((uu300 : Int) + 10 * (r4 - i14) ≤ 3700 ∧ (ww300 : Int) + 60 * (r4 - i14) ≤ 22200) → (b12 = 1) → (0 ≤ i14 ∧ i14 ≤ r4) → (RN τ (uH (uL S l) ((List.take i14.toNat (l.set (lo % r4).toNat (-1)))))) → (StOK (uH (uL S l) ((List.take i14.toNat (l.set (lo % r4).toNat (-1)))))) → SW X (wE E j) Q uu300 ww300 300 [some (vR 0), some (vI g), some (vI n9), some (vI k9), some (vI b9), some (vI lo), some (vI r4), some (vI r10), some (vR (195 + j)), some (vI m9), some (vI f10), some (vI r100), some (vI b12), some (vI 1), some (vI i14), none] [] τ := by
                              intro n
                              induction n with
                              | zero => intro b12 i14 τ uu300 ww300 hm; exact absurd hm (Nat.not_lt_zero _)
                              | succ n ih300 =>
                                intro b12 i14 τ uu300 ww300 hm300 i300_0 i300_1 i300_2 i300_3 i300_4
                                refine s_iload C dL_hears_300 rfl ?_
                                refine s_iload C dL_hears_302 rfl ?_
                                refine s_icmp_ge (tgt := 365) C dL_hears_304 (by decide) (by omega) (by omega) (fun c304 => ?_) (fun c304 => ?_)
                                · have e304 : (List.take i14.toNat (l.set (lo % r4).toNat (-1))) = (l.set (lo % r4).toNat (-1)) := List.take_of_length_le (by omega)
                                  have N304 : RN τ (uH (uL S l) ((l.set (lo % r4).toNat (-1)))) := by rw [← e304]; exact i300_3
                                  have T304 : StOK (uH (uL S l) ((l.set (lo % r4).toNat (-1)))) := by rw [← e304]; exact i300_4
                                  refine s_aload_n C dL_hears_365 rfl ?_
                                  refine s_iload_n C dL_hears_366 rfl ?_
                                  refine s_iload_n C dL_hears_367 rfl ?_
                                  refine s_iload C dL_hears_368 rfl ?_
                                  have o370 : (op_fits (uH (uL S l) ((l.set (lo % r4).toNat (-1)))) g k9 b9).1 = 0 := by unfold op_fits; dsimp only; (repeat' split) <;> first | rfl | (exfalso; omega)
                                  refine sc_cV3i (u2 := uu300 + 3) (w2 := ww300 + 18) C dL_hears_370 lkL_79 moX7_fits mvX7_fits (kX7_fits T304 N304 (by omega) (by omega) (by omega)) sh_0 ⟨_, _, rfl⟩ (Nat.le_of_ble_eq_true rfl) (Nat.le_of_ble_eq_true rfl) ⟨rfl, rfl⟩ ⟨(show uu300 + 3 ≤ 4000 by omega), (show ww300 + 18 ≤ 24000 by omega)⟩ (fun En σ9 h => absurd h (px3_no o370)) (fun r370 σ_370 hp370 => ?_)
                                  obtain ⟨-, v370, N370, T370, F370⟩ := hp370
                                  replace v370 : r370 = ftN (sD S g) k9 ((l.set (lo % r4).toNat (-1))) (b9 + 1).toNat := by first | exact v370 | (rw [h_l]; exact v370)
                                  replace N370 : RN σ_370 (uH (uL S l) ((l.set (lo % r4).toNat (-1)))) := by first | exact N370 | (rw [h_l]; exact N370)
                                  replace T370 : StOK (uH (uL S l) ((l.set (lo % r4).toNat (-1)))) := by first | exact T370 | (rw [h_l]; exact T370)
                                  have y370 : m9 ≤ r370 := by rw [v370, e112]; exact ft_more hlo hne _
                                  have z370 : r370 ≤ 61 := by
                                    have z := ft_b (D := sD S g) (c := k9) (H := (l.set (lo % r4).toNat (-1))) (b9 + 1).toNat
                                    omega
                                  refine s_istore (ls2 := [some (vR 0), some (vI g), some (vI n9), some (vI k9), some (vI b9), some (vI lo), some (vI r4), some (vI r10), some (vR (195 + j)), some (vI m9), some (vI f10), some (vI r100), some (vI b12), some (vI 1), some (vI r370), none]) C dL_hears_373 (by decide) rfl ?_
                                  refine s_aload_n C dL_hears_375 rfl ?_
                                  refine s_iload_n C dL_hears_376 rfl ?_
                                  refine s_iload_n C dL_hears_377 rfl ?_
                                  refine s_iload C dL_hears_378 rfl ?_
                                  have o380 : (op_askWord (uH (uL S l) ((l.set (lo % r4).toNat (-1)))) g k9 b9).1 = 0 := by unfold op_askWord; dsimp only; (repeat' split) <;> first | rfl | (exfalso; omega)
                                  refine sc_cV3i (u2 := uu300 + 6) (w2 := ww300 + 36) C dL_hears_380 lkL_82 moX7_askWord mvX7_askWord (kX7_askWord T370 N370 (by omega) (by omega) (by omega)) sh_0 ⟨_, _, rfl⟩ (Nat.le_of_ble_eq_true rfl) (Nat.le_of_ble_eq_true rfl) ⟨rfl, rfl⟩ ⟨(show uu300 + 6 ≤ 4000 by omega), (show ww300 + 36 ≤ 24000 by omega)⟩ (fun En σ9 h => absurd h (px3_no o380)) (fun r380 σ_380 hp380 => ?_)
                                  obtain ⟨-, v380, N380, T380, F380⟩ := hp380
                                  replace v380 : r380 = if ftN (sD S g) k9 ((l.set (lo % r4).toNat (-1))) (b9 + 1).toNat < 2 then -1 else (bpR (l.set (lo % r4).toNat (-1)) (fun pl => gtR (sD S g) k9 (l.set (lo % r4).toNat (-1)) pl (b9 + 1).toNat) (l.set (lo % r4).toNat (-1)).length).1 := by first | exact v380 | (rw [h_l]; exact v380)
                                  replace N380 : RN σ_380 (uH (uL S l) ((l.set (lo % r4).toNat (-1)))) := by first | exact N380 | (rw [h_l]; exact N380)
                                  replace T380 : StOK (uH (uL S l) ((l.set (lo % r4).toNat (-1)))) := by first | exact T380 | (rw [h_l]; exact T380)
                                  have y380 : r380 = if 1 < r370 then (((lo % r4).toNat : Nat) : Int) else -1 := by rw [v380, v370]; exact ask_one (z := 0) (D := sD S g) (c := 0) hlo hpp
                                  have z380 : -1 ≤ r380 ∧ r380 ≤ 20 := by rw [y380]; split <;> omega
                                  refine s_istore (ls2 := [some (vR 0), some (vI g), some (vI n9), some (vI k9), some (vI b9), some (vI lo), some (vI r4), some (vI r10), some (vR (195 + j)), some (vI m9), some (vI f10), some (vI r100), some (vI b12), some (vI 1), some (vI r370), some (vI r380)]) C dL_hears_383 (by decide) rfl ?_
                                  refine s_iload C dL_hears_385 rfl ?_
                                  refine s_if_eq (tgt := 442) C dL_hears_387 (by decide) (by omega) (fun c387 => ?_) (fun c387 => ?_)
                                  · exfalso; omega -- done
                                  · refine s_iload C dL_hears_390 rfl ?_
                                    refine s_if_eq (tgt := 442) C dL_hears_392 (by decide) (by omega) (fun c392 => ?_) (fun c392 => ?_)
                                    · exfalso; omega -- done
                                    · refine s_iload C dL_hears_395 rfl ?_
                                      refine s_iload C dL_hears_397 rfl ?_
                                      refine s_icmp_lt (tgt := 442) C dL_hears_399 (by decide) (by omega) (by omega) (fun c399 => ?_) (fun c399 => ?_)
                                      · exfalso; omega -- done
                                      · refine s_iload C dL_hears_402 rfl ?_
                                        refine s_iload C dL_hears_404 rfl ?_
                                        refine s_iconst C dL_hears_406 ?_
                                        refine s_icmp_le (tgt := 418) C dL_hears_407 (by decide) (by omega) (by omega) (fun c407 => ?_) (fun c407 => ?_)
                                        · have y407 : r380 = -1 := by rw [y380, if_neg (by omega)]
                                          refine s_iconst C dL_hears_418 ?_
                                          refine s_icmp_ne (tgt := 442) C dL_hears_419 (by decide) (by omega) (by omega) (fun c419 => ?_) (fun c419 => ?_)
                                          · exfalso; omega -- done
                                          · refine s_aload_n C dL_hears_422 rfl ?_
                                            refine s_bipush C dL_hears_423 (by decide) ?_
                                            refine s_iload_n C dL_hears_425 rfl ?_
                                            refine s_iconst C dL_hears_426 ?_
                                            refine s_iconst C dL_hears_427 ?_
                                            refine s_iconst C dL_hears_428 ?_
                                            refine s_iconst C dL_hears_429 ?_
                                            have o430 : (op_example (uH (uL S l) ((l.set (lo % r4).toNat (-1)))) n9).1 = 2 := by
                                              show (if ¬ (0 ≤ n9 ∧ n9 ≤ 9999) then (1 : Int) else if (sE S).length = 20 ∨ okH (l.set (lo % r4).toNat (-1)) = 0 then 2 else 0) = 2
                                              rw [if_neg (by omega), if_pos (Or.inr (okH_set hpp))]
                                            refine s_cW7i (u2 := uu300 + 15) (w2 := ww300 + 90) C dL_hears_430 lkL_52 moL_asks mvL_asks (kL_asks_example T380 N380 (by omega)) (Nat.le_of_ble_eq_true rfl) (Nat.le_of_ble_eq_true rfl) ⟨rfl, rfl⟩ ⟨(show uu300 + 15 ≤ 4000 by omega), (show ww300 + 90 ≤ 24000 by omega)⟩ (fun r430 σ_430 hp430 => ?_)
                                            have v430 : r430 = -70008 := hp430.2.2.2.1 o430
                                            have N430 := hp430.2.1 (by omega)
                                            refine s_ldc (n := (-70008)) C dL_hears_433 lcc_51 rfl ?_
                                            refine s_icmp_ne (tgt := 442) C dL_hears_435 (by decide) (by omega) (by omega) (fun c435 => ?_) (fun c435 => ?_)
                                            · exfalso; omega -- done
                                            · refine s_iconst C dL_hears_438 ?_
                                              refine s_goto (tgt := 443) C dL_hears_439 (by decide) ?_
                                              refine s_dropW he ?_
                                              refine s_zret C0 hR dL_hears_443 rfl (by omega) ⟨_, rfl, ?_⟩ ⟨(show uu300 + 15 ≤ 4000 by omega), (show ww300 + 90 ≤ 24000 by omega)⟩
                                              exact ⟨rfl, _, _, N430, T380⟩
                                        · have y407 : r380 = lo % r4 := by rw [y380, if_pos (by omega)]; omega
                                          refine s_iload C dL_hears_410 rfl ?_
                                          refine s_iload C dL_hears_412 rfl ?_
                                          refine s_irem C dL_hears_414 (by omega) (by omega) ?_
                                          refine s_goto (tgt := 419) C dL_hears_415 (by decide) ?_
                                          refine s_icmp_ne (tgt := 442) C dL_hears_419 (by decide) (by omega) (by omega) (fun c419 => ?_) (fun c419 => ?_)
                                          · exfalso; omega -- done
                                          · refine s_aload_n C dL_hears_422 rfl ?_
                                            refine s_bipush C dL_hears_423 (by decide) ?_
                                            refine s_iload_n C dL_hears_425 rfl ?_
                                            refine s_iconst C dL_hears_426 ?_
                                            refine s_iconst C dL_hears_427 ?_
                                            refine s_iconst C dL_hears_428 ?_
                                            refine s_iconst C dL_hears_429 ?_
                                            have o430 : (op_example (uH (uL S l) ((l.set (lo % r4).toNat (-1)))) n9).1 = 2 := by
                                              show (if ¬ (0 ≤ n9 ∧ n9 ≤ 9999) then (1 : Int) else if (sE S).length = 20 ∨ okH (l.set (lo % r4).toNat (-1)) = 0 then 2 else 0) = 2
                                              rw [if_neg (by omega), if_pos (Or.inr (okH_set hpp))]
                                            refine s_cW7i (u2 := uu300 + 15) (w2 := ww300 + 90) C dL_hears_430 lkL_52 moL_asks mvL_asks (kL_asks_example T380 N380 (by omega)) (Nat.le_of_ble_eq_true rfl) (Nat.le_of_ble_eq_true rfl) ⟨rfl, rfl⟩ ⟨(show uu300 + 15 ≤ 4000 by omega), (show ww300 + 90 ≤ 24000 by omega)⟩ (fun r430 σ_430 hp430 => ?_)
                                            have v430 : r430 = -70008 := hp430.2.2.2.1 o430
                                            have N430 := hp430.2.1 (by omega)
                                            refine s_ldc (n := (-70008)) C dL_hears_433 lcc_51 rfl ?_
                                            refine s_icmp_ne (tgt := 442) C dL_hears_435 (by decide) (by omega) (by omega) (fun c435 => ?_) (fun c435 => ?_)
                                            · exfalso; omega -- done
                                            · refine s_iconst C dL_hears_438 ?_
                                              refine s_goto (tgt := 443) C dL_hears_439 (by decide) ?_
                                              refine s_dropW he ?_
                                              refine s_zret C0 hR dL_hears_443 rfl (by omega) ⟨_, rfl, ?_⟩ ⟨(show uu300 + 15 ≤ 4000 by omega), (show ww300 + 90 ≤ 24000 by omega)⟩
                                              exact ⟨rfl, _, _, N430, T380⟩
                                · refine s_iload C dL_hears_307 rfl ?_
                                  refine s_if_eq (tgt := 365) C dL_hears_309 (by decide) (by omega) (fun c309 => ?_) (fun c309 => ?_)
                                  · exfalso; omega -- done
                                  · refine s_aload_n C dL_hears_312 rfl ?_
                                    refine s_iload C dL_hears_313 rfl ?_
                                    have g315 := wOK_getD hlo (i := i14.toNat) (by omega)
                                    have o315 : (op_said (uH (uL S l) ((List.take i14.toNat (l.set (lo % r4).toNat (-1))))) i14).1 = 0 := by show (if ¬ (0 ≤ i14 ∧ i14 < (l.length : Int)) then (1 : Int) else 0) = 0; rw [if_neg (by omega)]
                                    refine sc_cV1i (u2 := uu300 + 1) (w2 := ww300 + 6) C dL_hears_315 lkL_27 moX7_said mvX7_said (kX7_said i300_4 i300_3 (by omega)) sh_0 ⟨_, _, rfl⟩ (Nat.le_of_ble_eq_true rfl) (Nat.le_of_ble_eq_true rfl) ⟨rfl, rfl⟩ ⟨(show uu300 + 1 ≤ 4000 by omega), (show ww300 + 6 ≤ 24000 by omega)⟩ (fun En σ9 h => absurd h (px3_no o315)) (fun r315 σ_315 hp315 => ?_)
                                    obtain ⟨-, v315, N315, T315, F315⟩ := hp315
                                    replace v315 : r315 = l.getD i14.toNat 0 := by first | exact v315 | (rw [h_l]; exact v315)
                                    replace N315 : RN σ_315 (uH (uL S l) ((List.take i14.toNat (l.set (lo % r4).toNat (-1))))) := by first | exact N315 | (rw [h_l]; exact N315)
                                    replace T315 : StOK (uH (uL S l) ((List.take i14.toNat (l.set (lo % r4).toNat (-1))))) := by first | exact T315 | (rw [h_l]; exact T315)
                                    refine s_istore (ls2 := [some (vR 0), some (vI g), some (vI n9), some (vI k9), some (vI b9), some (vI lo), some (vI r4), some (vI r10), some (vR (195 + j)), some (vI m9), some (vI f10), some (vI r100), some (vI b12), some (vI 1), some (vI i14), some (vI r315)]) C dL_hears_318 (by decide) rfl ?_
                                    refine s_aload_n C dL_hears_320 rfl ?_
                                    refine s_iconst C dL_hears_321 ?_
                                    refine s_iload C dL_hears_322 rfl ?_
                                    refine s_iload C dL_hears_324 rfl ?_
                                    refine s_iload C dL_hears_326 rfl ?_
                                    refine s_irem C dL_hears_328 (by omega) (by omega) ?_
                                    have J338 : ∀ (y5 : Int), (y5 = (l.set (lo % r4).toNat (-1)).getD i14.toNat 0) → (-1 ≤ y5 ∧ y5 ≤ 199) → SW X (wE E j) Q (uu300 + 1) (ww300 + 6) 338 [some (vR 0), some (vI g), some (vI n9), some (vI k9), some (vI b9), some (vI lo), some (vI r4), some (vI r10), some (vR (195 + j)), some (vI m9), some (vI f10), some (vI r100), some (vI b12), some (vI 1), some (vI i14), some (vI r315)] [(vI y5), (vI 5), (vR 0)] σ_315 := by
                                      intro y5 j338_0 j338_1
                                      refine s_iconst C dL_hears_338 ?_
                                      refine s_iconst C dL_hears_339 ?_
                                      refine s_iconst C dL_hears_340 ?_
                                      refine s_iconst C dL_hears_341 ?_
                                      have l342 : (List.take i14.toNat (l.set (lo % r4).toNat (-1))).length = i14.toNat := by rw [List.length_take, hsl]; omega
                                      have o342 : (op_hear (uH (uL S l) ((List.take i14.toNat (l.set (lo % r4).toNat (-1))))) y5).1 = 0 := by
                                        show (if ¬ (-1 ≤ y5 ∧ y5 ≤ 199) then (1 : Int) else if (List.take i14.toNat (l.set (lo % r4).toNat (-1))).length = 20 then 2 else 0) = 0
                                        rw [if_neg (by omega), if_neg (by omega)]
                                      refine s_cW7i (u2 := uu300 + 10) (w2 := ww300 + 60) C dL_hears_342 lkL_52 moL_asks mvL_asks (kL_asks_hear T315 N315 (by omega)) (Nat.le_of_ble_eq_true rfl) (Nat.le_of_ble_eq_true rfl) ⟨rfl, rfl⟩ ⟨(show uu300 + 10 ≤ 4000 by omega), (show ww300 + 60 ≤ 24000 by omega)⟩ (fun r342 σ_342 hp342 => ?_)
                                      obtain ⟨v342, N342, T342⟩ := hp342.1 o342
                                      replace v342 : r342 = ((List.take i14.toNat (l.set (lo % r4).toNat (-1))).length : Int) + 1 := v342
                                      have e342 : (List.take i14.toNat (l.set (lo % r4).toNat (-1))) ++ [y5] = (List.take (i14.toNat + 1) (l.set (lo % r4).toNat (-1))) := by rw [j338_0]; exact take_s (by omega)
                                      replace N342 : RN σ_342 (uH (uL S l) ((List.take (i14.toNat + 1) (l.set (lo % r4).toNat (-1))))) := by rw [← e342]; exact N342
                                      replace T342 : StOK (uH (uL S l) ((List.take (i14.toNat + 1) (l.set (lo % r4).toNat (-1))))) := by rw [← e342]; exact T342
                                      refine s_iload C dL_hears_345 rfl ?_
                                      refine s_iconst C dL_hears_347 ?_
                                      refine s_iadd C dL_hears_348 ?_
                                      refine s_icmp_ne (tgt := 356) C dL_hears_349 (by decide) (by omega) (by omega) (fun c349 => ?_) (fun c349 => ?_)
                                      · exfalso; omega -- done
                                      · refine s_iconst C dL_hears_352 ?_
                                        refine s_goto (tgt := 357) C dL_hears_353 (by decide) ?_
                                        refine s_istore (ls2 := [some (vR 0), some (vI g), some (vI n9), some (vI k9), some (vI b9), some (vI lo), some (vI r4), some (vI r10), some (vR (195 + j)), some (vI m9), some (vI f10), some (vI r100), some (vI 1), some (vI 1), some (vI i14), some (vI r315)]) C dL_hears_357 (by decide) rfl ?_
                                        obtain ⟨x14_359, ex14_359⟩ : ∃ y : Int, y = i14 + 1 := ⟨_, rfl⟩
                                        refine s_iinc (z2 := x14_359) (ls2 := [some (vR 0), some (vI g), some (vI n9), some (vI k9), some (vI b9), some (vI lo), some (vI r4), some (vI r10), some (vR (195 + j)), some (vI m9), some (vI f10), some (vI r100), some (vI 1), some (vI 1), some (vI x14_359), some (vI r315)]) C dL_hears_359 (by decide) rfl ex14_359 rfl ?_
                                        refine s_goto (tgt := 300) C dL_hears_362 (by decide) ?_
                                        refine s_weak (ls2 := [some (vR 0), some (vI g), some (vI n9), some (vI k9), some (vI b9), some (vI lo), some (vI r4), some (vI r10), some (vR (195 + j)), some (vI m9), some (vI f10), some (vI r100), some (vI 1), some (vI 1), some (vI x14_359), none]) (sv_wk_c (sv_wk_c (sv_wk_c (sv_wk_c (sv_wk_c (sv_wk_c (sv_wk_c (sv_wk_c (sv_wk_c (sv_wk_c (sv_wk_c (sv_wk_c (sv_wk_c (sv_wk_c (sv_wk_c (sv_wk_n sv_wk_0)))))))))))))))) ?_
                                        refine ih300 1 x14_359 σ_342 (uu300 + 10) (ww300 + 60) (by omega) (by omega) (by first | assumption | omega) (by first | assumption | omega) ?_ ?_
                                        · rw [show x14_359.toNat = i14.toNat + 1 by omega]; exact N342
                                        · rw [show x14_359.toNat = i14.toNat + 1 by omega]; exact T342
                                    refine s_icmp_ne (tgt := 336) C dL_hears_329 (by decide) (by omega) (by omega) (fun c329 => ?_) (fun c329 => ?_)
                                    · refine s_iload C dL_hears_336 rfl ?_
                                      refine J338 r315 ?_ ?_
                                      · rw [sgD_p, if_neg (fun z => c329 (by omega)), v315]
                                      · omega
                                    · refine s_iconst C dL_hears_332 ?_
                                      refine s_goto (tgt := 338) C dL_hears_333 (by decide) ?_
                                      refine J338 (-1) ?_ (by first | assumption | omega)
                                      · rw [sgD_p, if_pos ⟨by omega, hpp⟩]
                            refine L300 _ 1 0 σ_282 (uu108 + 17) (ww108 + 102) (Nat.lt_succ_self _) (by omega) (by first | assumption | omega) (by first | assumption | omega) ?_ ?_
                            · exact N282
                            · exact T282
                      refine s_icmp_gt (tgt := 262) C dL_hears_254 (by decide) (by omega) (by omega) (fun c254 => ?_) (fun c254 => ?_)
                      · exact J262 
                      · have y254 : 1 ≤ m9 := by
                          rw [e112]
                          exact ft_has (x := n9) (by omega) (by
                            rcases hr_all (D := sD S g) (c := k9) (n := n9) hlo hne with ⟨z, -⟩ | ⟨-, z⟩
                            · exact z
                            · exact absurd h_l.symm z)
                        refine s_iload C dL_hears_257 rfl ?_
                        refine s_if_le (tgt := 266) C dL_hears_259 (by decide) (by omega) (fun c259 => ?_) (fun c259 => ?_)
                        · exfalso; omega -- done
                        · exact J262 
        · refine s_aload_n C dL_hears_115 rfl ?_
          refine s_iload_n C dL_hears_116 rfl ?_
          refine s_iload C dL_hears_117 rfl ?_
          refine s_iload_n C dL_hears_119 rfl ?_
          have o120 : (op_say (uH (uL S l5) l) g i12 k9).1 = 0 := by unfold op_say; dsimp only; (repeat' split) <;> first | rfl | (exfalso; omega)
          refine sc_cV3i (u2 := uu108 + 3) (w2 := ww108 + 18) C dL_hears_120 lkL_58 moX7_say mvX7_say (kX7_say i108_5 i108_4 (by omega) (by omega) (by omega)) sh_0 ⟨_, _, rfl⟩ (Nat.le_of_ble_eq_true rfl) (Nat.le_of_ble_eq_true rfl) ⟨rfl, rfl⟩ ⟨(show uu108 + 3 ≤ 4000 by omega), (show ww108 + 18 ≤ 24000 by omega)⟩ (fun En σ9 h => absurd h (px3_no o120)) (fun r120 σ_120 hp120 => ?_)
          obtain ⟨-, v120, N120, T120, F120⟩ := hp120
          replace v120 : r120 = (spF (sD S g) i12 k9).length := by first | exact v120 | (rw [h_l]; exact v120)
          replace N120 : RN σ_120 (uH (uL S (spF (sD S g) i12 k9)) l) := by first | exact N120 | (rw [h_l]; exact N120)
          replace T120 : StOK (uH (uL S (spF (sD S g) i12 k9)) l) := by first | exact T120 | (rw [h_l]; exact T120)
          have l120 : (spF (sD S g) i12 k9).length ≤ 20 := T120.2.1.2
          have h120 := hr_all (D := sD S g) (c := k9) (n := i12) hlo hne
          have W120 : WA σ_120 j l := i108_6.fr F120
          refine s_iload C dL_hears_123 rfl ?_
          refine s_icmp_ne (tgt := 143) C dL_hears_125 (by decide) (by omega) (by omega) (fun c125 => ?_) (fun c125 => ?_)
          · have hr12 : hrI (sD S g) k9 l i12 = 0 := h120.elim (fun z => by rw [z.2] at v120; omega) (fun z => z.1)
            have W9 := W120
            have N9 := N120
            refine s_iconst C dL_hears_143 ?_
            refine s_istore (ls2 := [some (vR 0), some (vI g), some (vI n9), some (vI k9), some (vI b9), some (vI lo), some (vI r4), some (vI r10), some (vR (195 + j)), some (vI m9), some (vI f10), some (vI r100), some (vI i12), some (vI 0), none, none]) C dL_hears_144 (by decide) rfl ?_
            refine s_iload C dL_hears_146 rfl ?_
            refine s_if_eq (tgt := 161) C dL_hears_148 (by decide) (by omega) (fun c148 => ?_) (fun c148 => ?_)
            · refine s_iload C dL_hears_161 rfl ?_
              refine s_istore (ls2 := [some (vR 0), some (vI g), some (vI n9), some (vI k9), some (vI b9), some (vI lo), some (vI r4), some (vI r10), some (vR (195 + j)), some (vI m9), some (vI f10), some (vI r100), some (vI i12), some (vI 0), none, none]) C dL_hears_163 (by decide) rfl ?_
              refine s_iload C dL_hears_165 rfl ?_
              refine s_iload C dL_hears_167 rfl ?_
              refine s_if_eq (tgt := 176) C dL_hears_169 (by decide) (by omega) (fun c169 => ?_) (fun c169 => ?_)
              · refine s_iconst C dL_hears_176 ?_
                refine s_iadd C dL_hears_177 ?_
                refine s_topI (fun x9_178 ex9_178 => ?_)
                refine s_istore (ls2 := [some (vR 0), some (vI g), some (vI n9), some (vI k9), some (vI b9), some (vI lo), some (vI r4), some (vI r10), some (vR (195 + j)), some (vI x9_178), some (vI f10), some (vI r100), some (vI i12), some (vI 0), none, none]) C dL_hears_178 (by decide) rfl ?_
                obtain ⟨x12_180, ex12_180⟩ : ∃ y : Int, y = i12 + 1 := ⟨_, rfl⟩
                refine s_iinc (z2 := x12_180) (ls2 := [some (vR 0), some (vI g), some (vI n9), some (vI k9), some (vI b9), some (vI lo), some (vI r4), some (vI r10), some (vR (195 + j)), some (vI x9_178), some (vI f10), some (vI r100), some (vI x12_180), some (vI 0), none, none]) C dL_hears_180 (by decide) rfl ex12_180 rfl ?_
                refine s_goto (tgt := 108) C dL_hears_183 (by decide) ?_
                refine s_weak (ls2 := [some (vR 0), some (vI g), some (vI n9), some (vI k9), some (vI b9), some (vI lo), some (vI r4), some (vI r10), some (vR (195 + j)), some (vI x9_178), some (vI f10), some (vI r100), some (vI x12_180), none, none, none]) (sv_wk_c (sv_wk_c (sv_wk_c (sv_wk_c (sv_wk_c (sv_wk_c (sv_wk_c (sv_wk_c (sv_wk_c (sv_wk_c (sv_wk_c (sv_wk_c (sv_wk_c (sv_wk_n (sv_wk_n (sv_wk_n sv_wk_0)))))))))))))))) ?_
                refine ih108 x9_178 f10 x12_180 σ_120 (spF (sD S g) i12 k9) (uu108 + 3) (ww108 + 18) (by omega) (by omega) (by first | assumption | omega) ?_ ?_ ?_ ?_ ?_
                · rw [show x12_180 = i12 + 1 by omega, ftN_s (by omega), hr12]; omega
                · rw [show x12_180 = i12 + 1 by omega]
                  first
                    | exact fsI_y (by omega) i108_3 hr12 (by omega)
                    | exact fsI_n (by omega) i108_3 hr12
                · exact N9
                · exact T120
                · exact W9
              · exfalso; omega -- done
            · exfalso; omega -- done
          · refine s_aload_n C dL_hears_128 rfl ?_
            refine s_iload C dL_hears_129 rfl ?_
            refine s_aload C dL_hears_131 rfl ?_
            refine s_mS3i (u2 := uu108 + 43) (w2 := ww108 + 258) C dL_hears_133 lkL_65 moL_isSame mvL_isSame (kL_isSame T120 N120 (ws := l) (show r4 = ((spF (sD S g) i12 k9).length : Int) by omega) v4.symm W120) (Nat.le_of_ble_eq_true rfl) (Nat.le_of_ble_eq_true rfl) ⟨rfl, rfl⟩ ⟨(show uu108 + 43 ≤ 4000 by omega), (show ww108 + 258 ≤ 24000 by omega)⟩ (fun r133 σ_133 hp133 => ?_)
            obtain ⟨N133, F133, q133⟩ := hp133
            replace N133 : RN σ_133 (uH (uL S (spF (sD S g) i12 k9)) l) := N133
            replace q133 : (r133 = 1 ∧ spF (sD S g) i12 k9 = l) ∨ (r133 = 0 ∧ spF (sD S g) i12 k9 ≠ l) := q133
            refine s_if_eq (tgt := 143) C dL_hears_136 (by decide) (by omega) (fun c136 => ?_) (fun c136 => ?_)
            · have hr12 : hrI (sD S g) k9 l i12 = 0 := h120.elim (fun z => q133.elim (fun y => by omega) (fun y => absurd z.2 y.2)) (fun z => z.1)
              have W9 := W120.fr F133
              have N9 := N133
              refine s_iconst C dL_hears_143 ?_
              refine s_istore (ls2 := [some (vR 0), some (vI g), some (vI n9), some (vI k9), some (vI b9), some (vI lo), some (vI r4), some (vI r10), some (vR (195 + j)), some (vI m9), some (vI f10), some (vI r100), some (vI i12), some (vI 0), none, none]) C dL_hears_144 (by decide) rfl ?_
              refine s_iload C dL_hears_146 rfl ?_
              refine s_if_eq (tgt := 161) C dL_hears_148 (by decide) (by omega) (fun c148 => ?_) (fun c148 => ?_)
              · refine s_iload C dL_hears_161 rfl ?_
                refine s_istore (ls2 := [some (vR 0), some (vI g), some (vI n9), some (vI k9), some (vI b9), some (vI lo), some (vI r4), some (vI r10), some (vR (195 + j)), some (vI m9), some (vI f10), some (vI r100), some (vI i12), some (vI 0), none, none]) C dL_hears_163 (by decide) rfl ?_
                refine s_iload C dL_hears_165 rfl ?_
                refine s_iload C dL_hears_167 rfl ?_
                refine s_if_eq (tgt := 176) C dL_hears_169 (by decide) (by omega) (fun c169 => ?_) (fun c169 => ?_)
                · refine s_iconst C dL_hears_176 ?_
                  refine s_iadd C dL_hears_177 ?_
                  refine s_topI (fun x9_178 ex9_178 => ?_)
                  refine s_istore (ls2 := [some (vR 0), some (vI g), some (vI n9), some (vI k9), some (vI b9), some (vI lo), some (vI r4), some (vI r10), some (vR (195 + j)), some (vI x9_178), some (vI f10), some (vI r100), some (vI i12), some (vI 0), none, none]) C dL_hears_178 (by decide) rfl ?_
                  obtain ⟨x12_180, ex12_180⟩ : ∃ y : Int, y = i12 + 1 := ⟨_, rfl⟩
                  refine s_iinc (z2 := x12_180) (ls2 := [some (vR 0), some (vI g), some (vI n9), some (vI k9), some (vI b9), some (vI lo), some (vI r4), some (vI r10), some (vR (195 + j)), some (vI x9_178), some (vI f10), some (vI r100), some (vI x12_180), some (vI 0), none, none]) C dL_hears_180 (by decide) rfl ex12_180 rfl ?_
                  refine s_goto (tgt := 108) C dL_hears_183 (by decide) ?_
                  refine s_weak (ls2 := [some (vR 0), some (vI g), some (vI n9), some (vI k9), some (vI b9), some (vI lo), some (vI r4), some (vI r10), some (vR (195 + j)), some (vI x9_178), some (vI f10), some (vI r100), some (vI x12_180), none, none, none]) (sv_wk_c (sv_wk_c (sv_wk_c (sv_wk_c (sv_wk_c (sv_wk_c (sv_wk_c (sv_wk_c (sv_wk_c (sv_wk_c (sv_wk_c (sv_wk_c (sv_wk_c (sv_wk_n (sv_wk_n (sv_wk_n sv_wk_0)))))))))))))))) ?_
                  refine ih108 x9_178 f10 x12_180 σ_133 (spF (sD S g) i12 k9) (uu108 + 43) (ww108 + 258) (by omega) (by omega) (by first | assumption | omega) ?_ ?_ ?_ ?_ ?_
                  · rw [show x12_180 = i12 + 1 by omega, ftN_s (by omega), hr12]; omega
                  · rw [show x12_180 = i12 + 1 by omega]
                    first
                      | exact fsI_y (by omega) i108_3 hr12 (by omega)
                      | exact fsI_n (by omega) i108_3 hr12
                  · exact N9
                  · exact T120
                  · exact W9
                · exfalso; omega -- done
              · exfalso; omega -- done
            · have hr12 : hrI (sD S g) k9 l i12 = 1 := h120.elim (fun z => z.1) (fun z => q133.elim (fun y => absurd y.2 z.2) (fun y => by omega))
              have W9 := W120.fr F133
              have N9 := N133
              refine s_iconst C dL_hears_139 ?_
              refine s_goto (tgt := 144) C dL_hears_140 (by decide) ?_
              refine s_istore (ls2 := [some (vR 0), some (vI g), some (vI n9), some (vI k9), some (vI b9), some (vI lo), some (vI r4), some (vI r10), some (vR (195 + j)), some (vI m9), some (vI f10), some (vI r100), some (vI i12), some (vI 1), none, none]) C dL_hears_144 (by decide) rfl ?_
              refine s_iload C dL_hears_146 rfl ?_
              refine s_if_eq (tgt := 161) C dL_hears_148 (by decide) (by omega) (fun c148 => ?_) (fun c148 => ?_)
              · exfalso; omega -- done
              · refine s_iload C dL_hears_151 rfl ?_
                refine s_if_ge (tgt := 161) C dL_hears_153 (by decide) (by omega) (fun c153 => ?_) (fun c153 => ?_)
                · refine s_iload C dL_hears_161 rfl ?_
                  refine s_istore (ls2 := [some (vR 0), some (vI g), some (vI n9), some (vI k9), some (vI b9), some (vI lo), some (vI r4), some (vI r10), some (vR (195 + j)), some (vI m9), some (vI f10), some (vI r100), some (vI i12), some (vI 1), none, none]) C dL_hears_163 (by decide) rfl ?_
                  refine s_iload C dL_hears_165 rfl ?_
                  refine s_iload C dL_hears_167 rfl ?_
                  refine s_if_eq (tgt := 176) C dL_hears_169 (by decide) (by omega) (fun c169 => ?_) (fun c169 => ?_)
                  · exfalso; omega -- done
                  · refine s_iconst C dL_hears_172 ?_
                    refine s_goto (tgt := 177) C dL_hears_173 (by decide) ?_
                    refine s_iadd C dL_hears_177 ?_
                    refine s_topI (fun x9_178 ex9_178 => ?_)
                    refine s_istore (ls2 := [some (vR 0), some (vI g), some (vI n9), some (vI k9), some (vI b9), some (vI lo), some (vI r4), some (vI r10), some (vR (195 + j)), some (vI x9_178), some (vI f10), some (vI r100), some (vI i12), some (vI 1), none, none]) C dL_hears_178 (by decide) rfl ?_
                    obtain ⟨x12_180, ex12_180⟩ : ∃ y : Int, y = i12 + 1 := ⟨_, rfl⟩
                    refine s_iinc (z2 := x12_180) (ls2 := [some (vR 0), some (vI g), some (vI n9), some (vI k9), some (vI b9), some (vI lo), some (vI r4), some (vI r10), some (vR (195 + j)), some (vI x9_178), some (vI f10), some (vI r100), some (vI x12_180), some (vI 1), none, none]) C dL_hears_180 (by decide) rfl ex12_180 rfl ?_
                    refine s_goto (tgt := 108) C dL_hears_183 (by decide) ?_
                    refine s_weak (ls2 := [some (vR 0), some (vI g), some (vI n9), some (vI k9), some (vI b9), some (vI lo), some (vI r4), some (vI r10), some (vR (195 + j)), some (vI x9_178), some (vI f10), some (vI r100), some (vI x12_180), none, none, none]) (sv_wk_c (sv_wk_c (sv_wk_c (sv_wk_c (sv_wk_c (sv_wk_c (sv_wk_c (sv_wk_c (sv_wk_c (sv_wk_c (sv_wk_c (sv_wk_c (sv_wk_c (sv_wk_n (sv_wk_n (sv_wk_n sv_wk_0)))))))))))))))) ?_
                    refine ih108 x9_178 f10 x12_180 σ_133 (spF (sD S g) i12 k9) (uu108 + 43) (ww108 + 258) (by omega) (by omega) (by first | assumption | omega) ?_ ?_ ?_ ?_ ?_
                    · rw [show x12_180 = i12 + 1 by omega, ftN_s (by omega), hr12]; omega
                    · rw [show x12_180 = i12 + 1 by omega]
                      first
                        | exact fsI_y (by omega) i108_3 hr12 (by omega)
                        | exact fsI_n (by omega) i108_3 hr12
                    · exact N9
                    · exact T120
                    · exact W9
                · refine s_iload C dL_hears_156 rfl ?_
                  refine s_goto (tgt := 163) C dL_hears_158 (by decide) ?_
                  refine s_istore (ls2 := [some (vR 0), some (vI g), some (vI n9), some (vI k9), some (vI b9), some (vI lo), some (vI r4), some (vI r10), some (vR (195 + j)), some (vI m9), some (vI i12), some (vI r100), some (vI i12), some (vI 1), none, none]) C dL_hears_163 (by decide) rfl ?_
                  refine s_iload C dL_hears_165 rfl ?_
                  refine s_iload C dL_hears_167 rfl ?_
                  refine s_if_eq (tgt := 176) C dL_hears_169 (by decide) (by omega) (fun c169 => ?_) (fun c169 => ?_)
                  · exfalso; omega -- done
                  · refine s_iconst C dL_hears_172 ?_
                    refine s_goto (tgt := 177) C dL_hears_173 (by decide) ?_
                    refine s_iadd C dL_hears_177 ?_
                    refine s_topI (fun x9_178 ex9_178 => ?_)
                    refine s_istore (ls2 := [some (vR 0), some (vI g), some (vI n9), some (vI k9), some (vI b9), some (vI lo), some (vI r4), some (vI r10), some (vR (195 + j)), some (vI x9_178), some (vI i12), some (vI r100), some (vI i12), some (vI 1), none, none]) C dL_hears_178 (by decide) rfl ?_
                    obtain ⟨x12_180, ex12_180⟩ : ∃ y : Int, y = i12 + 1 := ⟨_, rfl⟩
                    refine s_iinc (z2 := x12_180) (ls2 := [some (vR 0), some (vI g), some (vI n9), some (vI k9), some (vI b9), some (vI lo), some (vI r4), some (vI r10), some (vR (195 + j)), some (vI x9_178), some (vI i12), some (vI r100), some (vI x12_180), some (vI 1), none, none]) C dL_hears_180 (by decide) rfl ex12_180 rfl ?_
                    refine s_goto (tgt := 108) C dL_hears_183 (by decide) ?_
                    refine s_weak (ls2 := [some (vR 0), some (vI g), some (vI n9), some (vI k9), some (vI b9), some (vI lo), some (vI r4), some (vI r10), some (vR (195 + j)), some (vI x9_178), some (vI i12), some (vI r100), some (vI x12_180), none, none, none]) (sv_wk_c (sv_wk_c (sv_wk_c (sv_wk_c (sv_wk_c (sv_wk_c (sv_wk_c (sv_wk_c (sv_wk_c (sv_wk_c (sv_wk_c (sv_wk_c (sv_wk_c (sv_wk_n (sv_wk_n (sv_wk_n sv_wk_0)))))))))))))))) ?_
                    refine ih108 x9_178 i12 x12_180 σ_133 (spF (sD S g) i12 k9) (uu108 + 43) (ww108 + 258) (by omega) (by omega) (by first | assumption | omega) ?_ ?_ ?_ ?_ ?_
                    · rw [show x12_180 = i12 + 1 by omega, ftN_s (by omega), hr12]; omega
                    · rw [show x12_180 = i12 + 1 by omega]
                      first
                        | exact fsI_y (by omega) i108_3 hr12 (by omega)
                        | exact fsI_n (by omega) i108_3 hr12
                    · exact N9
                    · exact T120
                    · exact W9
    refine L108 _ 0 (-1) 0 σ_100 l 204 1238 (Nat.lt_succ_self _) (by omega) (by first | assumption | omega) ?_ ?_ ?_ ?_ ?_
    · rfl
    · exact fsI_0
    · exact N100
    · exact T10
    · exact W100
  · have hl0 : l = [] := len_0.mp (by omega)
    refine s_iload C dL_hears_20 rfl ?_
    refine s_if_ne (tgt := 81) C dL_hears_22 (by decide) (by omega) (fun c22 => ?_) (fun c22 => ?_)
    · exfalso; omega -- done
    · refine s_aload_n C dL_hears_25 rfl ?_
      refine s_iload_n C dL_hears_26 rfl ?_
      refine s_iload_n C dL_hears_27 rfl ?_
      refine s_iload C dL_hears_28 rfl ?_
      have o30 : (op_fits (uH (uL S l) l) g k9 b9).1 = 0 := by unfold op_fits; dsimp only; (repeat' split) <;> first | rfl | (exfalso; omega)
      refine sc_cV3i (u2 := 6) (w2 := 36) C dL_hears_30 lkL_79 moX7_fits mvX7_fits (kX7_fits T10 N10 (by omega) (by omega) (by omega)) sh_0 ⟨_, _, rfl⟩ (Nat.le_of_ble_eq_true rfl) (Nat.le_of_ble_eq_true rfl) ⟨rfl, rfl⟩ ⟨(show 6 ≤ 4000 by omega), (show 36 ≤ 24000 by omega)⟩ (fun En σ9 h => absurd h (px3_no o30)) (fun r30 σ_30 hp30 => ?_)
      obtain ⟨-, v30, N30, T30, F30⟩ := hp30
      replace v30 : r30 = ftN (sD S g) k9 l (b9 + 1).toNat := by first | exact v30 | (rw [h_l]; exact v30)
      replace N30 : RN σ_30 (uH (uL S l) l) := by first | exact N30 | (rw [h_l]; exact N30)
      replace T30 : StOK (uH (uL S l) l) := by first | exact T30 | (rw [h_l]; exact T30)
      have y30 : r30 = 0 := by rw [v30, hl0]; exact ft_nil _
      refine s_if_ne (tgt := 81) C dL_hears_33 (by decide) (by omega) (fun c33 => ?_) (fun c33 => ?_)
      · exfalso; omega -- done
      · refine s_aload_n C dL_hears_36 rfl ?_
        refine s_iload_n C dL_hears_37 rfl ?_
        refine s_iload_n C dL_hears_38 rfl ?_
        refine s_iload C dL_hears_39 rfl ?_
        have o41 : (op_askWord (uH (uL S l) l) g k9 b9).1 = 0 := by unfold op_askWord; dsimp only; (repeat' split) <;> first | rfl | (exfalso; omega)
        refine sc_cV3i (u2 := 9) (w2 := 54) C dL_hears_41 lkL_82 moX7_askWord mvX7_askWord (kX7_askWord T30 N30 (by omega) (by omega) (by omega)) sh_0 ⟨_, _, rfl⟩ (Nat.le_of_ble_eq_true rfl) (Nat.le_of_ble_eq_true rfl) ⟨rfl, rfl⟩ ⟨(show 9 ≤ 4000 by omega), (show 54 ≤ 24000 by omega)⟩ (fun En σ9 h => absurd h (px3_no o41)) (fun r41 σ_41 hp41 => ?_)
        obtain ⟨-, v41, N41, T41, F41⟩ := hp41
        replace v41 : r41 = if ftN (sD S g) k9 l (b9 + 1).toNat < 2 then -1 else (bpR l (fun pl => gtR (sD S g) k9 l pl (b9 + 1).toNat) l.length).1 := by first | exact v41 | (rw [h_l]; exact v41)
        replace N41 : RN σ_41 (uH (uL S l) l) := by first | exact N41 | (rw [h_l]; exact N41)
        replace T41 : StOK (uH (uL S l) l) := by first | exact T41 | (rw [h_l]; exact T41)
        have y41 : r41 = -1 := by rw [v41]; exact ask_all hlo
        refine s_iconst C dL_hears_44 ?_
        refine s_icmp_ne (tgt := 81) C dL_hears_45 (by decide) (by omega) (by omega) (fun c45 => ?_) (fun c45 => ?_)
        · exfalso; omega -- done
        · refine s_aload_n C dL_hears_48 rfl ?_
          refine s_iload_n C dL_hears_49 rfl ?_
          refine s_iload_n C dL_hears_50 rfl ?_
          refine s_iload C dL_hears_51 rfl ?_
          refine s_iconst C dL_hears_53 ?_
          have o54 : (op_fit (uH (uL S l) l) g k9 b9 0).1 = 0 := by unfold op_fit; dsimp only; (repeat' split) <;> first | rfl | (exfalso; omega)
          refine sc_cV4i (u2 := 13) (w2 := 78) C dL_hears_54 lkL_85 moX7_fit mvX7_fit (kX7_fit T41 N41 (by omega) (by omega) (by omega) (by omega)) sh_0 ⟨_, _, rfl⟩ (Nat.le_of_ble_eq_true rfl) (Nat.le_of_ble_eq_true rfl) ⟨rfl, rfl⟩ ⟨(show 13 ≤ 4000 by omega), (show 78 ≤ 24000 by omega)⟩ (fun En σ9 h => absurd h (px3_no o54)) (fun r54 σ_54 hp54 => ?_)
          obtain ⟨-, v54, N54, T54, F54⟩ := hp54
          replace v54 : r54 = fiR (sD S g) k9 l 0 (b9 + 1).toNat 0 := by first | exact v54 | (rw [h_l]; exact v54)
          replace N54 : RN σ_54 (uH (uL S l) l) := by first | exact N54 | (rw [h_l]; exact N54)
          replace T54 : StOK (uH (uL S l) l) := by first | exact T54 | (rw [h_l]; exact T54)
          have y54 : r54 = -1 := by rw [v54, hl0]; exact fit_none (by rw [ft_nil]; exact Int.le_refl _)
          refine s_iconst C dL_hears_57 ?_
          refine s_icmp_ne (tgt := 81) C dL_hears_58 (by decide) (by omega) (by omega) (fun c58 => ?_) (fun c58 => ?_)
          · exfalso; omega -- done
          · refine s_aload_n C dL_hears_61 rfl ?_
            refine s_bipush C dL_hears_62 (by decide) ?_
            refine s_iload_n C dL_hears_64 rfl ?_
            refine s_iconst C dL_hears_65 ?_
            refine s_iconst C dL_hears_66 ?_
            refine s_iconst C dL_hears_67 ?_
            refine s_iconst C dL_hears_68 ?_
            have o69 : (op_example (uH (uL S l) l) n9).1 = 2 := by
              show (if ¬ (0 ≤ n9 ∧ n9 ≤ 9999) then (1 : Int) else if (sE S).length = 20 ∨ okH l = 0 then 2 else 0) = 2
              rw [if_neg (by omega), if_pos (Or.inr (by rw [hl0]; exact okH_nil))]
            refine s_cW7i (u2 := 22) (w2 := 132) C dL_hears_69 lkL_52 moL_asks mvL_asks (kL_asks_example T54 N54 (by omega)) (Nat.le_of_ble_eq_true rfl) (Nat.le_of_ble_eq_true rfl) ⟨rfl, rfl⟩ ⟨(show 22 ≤ 4000 by omega), (show 132 ≤ 24000 by omega)⟩ (fun r69 σ_69 hp69 => ?_)
            have v69 : r69 = -70008 := hp69.2.2.2.1 o69
            have N69 := hp69.2.1 (by omega)
            refine s_ldc (n := (-70008)) C dL_hears_72 lcc_51 rfl ?_
            refine s_icmp_ne (tgt := 81) C dL_hears_74 (by decide) (by omega) (by omega) (fun c74 => ?_) (fun c74 => ?_)
            · exfalso; omega -- done
            · refine s_iconst C dL_hears_77 ?_
              refine s_goto (tgt := 82) C dL_hears_78 (by decide) ?_
              refine s_zret C hR dL_hears_82 rfl (by omega) ⟨_, rfl, ?_⟩ ⟨(show 22 ≤ 4000 by omega), (show 132 ≤ 24000 by omega)⟩
              exact ⟨rfl, _, _, N69, T54⟩
