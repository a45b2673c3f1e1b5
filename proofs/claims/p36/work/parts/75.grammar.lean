/-! The law's grammar. -/
theorem uD_s {S : st_T} {g : Int} {D : gd_T} : sD (uD S g D) g = D := if_pos rfl
def gK (D : gd_T) (n1 n2 n4 : Int) : Prop := gC D 1 = n1 ∧ gC D 2 ≤ n2 ∧ gC D 3 = -1 ∧ gC D 4 = n4
def gA0 (D : gd_T) (k : Int) : Prop := gC D 0 = k ∧ ∀ y, k ≤ y → gF D y = -1
theorem gK_clr {D : gd_T} : gK (dClr D) 0 0 0 ∧ gA0 (dClr D) 0 := ⟨⟨rfl, Int.le_refl _, rfl, rfl⟩, rfl, fun _ _ => rfl⟩
theorem gK_at {D : gd_T} {n1 n2 n4 k v c : Int} (h : gK D n1 n2 n4 ∧ gA0 D k) (hc : c = k + 1) : gK (dAt D k v c) n1 n2 n4 ∧ gA0 (dAt D k v c) (k + 1) := by
  obtain ⟨h, -, h2⟩ := h
  refine ⟨h, hc, fun y hy => ?_⟩
  show (if y = k then v else gF D y) = -1
  rw [if_neg (by omega)]
  exact h2 y (by omega)
theorem gK_base {D : gd_T} {n1 n2 n4 : Int} {b : Nat → Int} (h : gK D n1 n2 n4) : gK (dBase D b) (n1 + 1) n2 n4 := ⟨(show gC D 1 + 1 = n1 + 1 by rw [h.1]), h.2⟩
theorem gB_base {D : gd_T} {b : Nat → Int} {i : Int} : gB (dBase D b) i = if i = gC D 1 then b else gB D i := rfl
theorem gK_bs {D : gd_T} {n1 n2 n4 p : Int} {b : Nat → Int} (h : gK D n1 n2 n4) : gK (dBs D p b) n1 n2 n4 := h
theorem gB_bs {D : gd_T} {p i : Int} {b : Nat → Int} : gB (dBs D p b) i = if i = p then b else gB D i := rfl
theorem gK_fm {D : gd_T} {n1 n2 n4 w k v c : Int} (h : gK D n1 n2 n4) (hc : c ≤ n2 + 1) : gK (dFm D w k v c) n1 (n2 + 1) n4 := ⟨h.1, hc, h.2.2⟩
theorem gK_seam {D : gd_T} {n1 n2 n4 x y z : Int} (h : gK D n1 n2 n4) : gK (dSeam D x y z) n1 n2 (n4 + 1) := ⟨h.1, h.2.1, h.2.2.1, (show gC D 4 + 1 = n4 + 1 by rw [h.2.2.2])⟩
theorem hb_none {D : gd_T} {x : Int} (h : gC D 1 = 0) : hb D x = 0 := by
  unfold hb
  rw [h]
  rfl
theorem hb_yes {D : gd_T} {x : Int} (h : gC D 1 = 1) (hx : gB D 0 0 = x) : hb D x = 1 := by
  unfold hb
  rw [h]
  exact hasR_1 0 (by decide) (by decide) hx
theorem hb_no {D : gd_T} {x : Int} (h : gC D 1 = 1) (hx : gB D 0 0 ≠ x) : hb D x = 0 := by
  unfold hb
  rw [h]
  refine hasR_0 fun i h1 h2 => ?_
  have h3 : i < 1 := h2
  rw [show i = 0 by omega]
  exact hx
theorem sp_none {D : gd_T} (hD : GDok D) (h : gF D 0 = -1) (h1 : gC D 1 = 0) : spF D 0 0 = [] := by
  rw [spF_nil hD, nfF_none (by decide), nm_unf hD (by decide) (by decide)]
  have hc : cnt D 0 = -1 := by unfold cnt; rw [h1]; rfl
  unfold nmU
  rw [if_neg (fun z => z h), if_pos hc]
  rfl
theorem ga_0 {D : gd_T} (h : spF D 0 0 = []) (m : Nat) : gaR D (m + 1) 0 = 0 := by
  have := (ga_in (D := D) (m + 1) 0).2 0 (by decide) (by omega) h
  omega
set_option maxRecDepth 100000 in
set_option maxHeartbeats 8000000 in
theorem kL_grammar {E : sv_E} {σ : sv_G} {S : st_T} (hS : StOK S) (hN : RN σ S) {g at9 : Int} (hg : 0 ≤ g ∧ g ≤ 3) (hat : 0 ≤ at9 ∧ at9 ≤ 10000) : CT E ML_grammar 99 [(vR 0), (vI g), vS, (vI at9)] σ (PI fun r σ9 => r = 1 ∧ ∃ S' : st_T, RN σ9 S' ∧ StOK S' ∧ S'.2 = S.2 ∧ gC (sD S' g) 1 = 2) := by
  refine CT.of (RL, cL_grammar, 8, (some .boolean), [], 99, 600, 3600) rfl moL_grammar (Nat.le_of_ble_eq_true rfl) (ls0 := [some (vR 0), some (vI g), some vS, some (vI at9), none, none, none, none]) rfl ?_
  intro X Q C hR
  have hD := hS.1 g hg.1 hg.2
  have hgc0 := hD.2.2.1
  have hgc1 := hD.2.2.2.1
  refine s_iconst C dL_grammar_0 ?_
  refine s_aloadS_n C dL_grammar_1 rfl ?_
  refine s_iload_n C dL_grammar_2 rfl ?_
  refine s_bipush C dL_grammar_3 (by decide) ?_
  refine s_cS3i C dL_grammar_5 lkL_109 moL_draw mvL_draw (kL_draw (by omega) (by omega)) (Nat.le_of_ble_eq_true rfl) (Nat.le_of_ble_eq_true rfl) rfl ⟨(show 0 ≤ 600 by omega), (show 0 ≤ 3600 by omega)⟩ (kpI (fun r5 hp5 => ?_))
  refine s_iadd C dL_grammar_8 ?_
  refine s_topI (fun x4_9 ex4_9 => ?_)
  refine s_istore (ls2 := [some (vR 0), some (vI g), some vS, some (vI at9), some (vI x4_9), none, none, none]) C dL_grammar_9 (by decide) rfl ?_
  refine s_aload_n C dL_grammar_11 rfl ?_
  refine s_iload_n C dL_grammar_12 rfl ?_
  have o13 : (op_empty S g).1 = 0 := by unfold op_empty; dsimp only; rw [if_neg (by omega)]
  refine sc_cV1i (u2 := 1) (w2 := 6) C dL_grammar_13 lkL_133 moX7_empty mvX7_empty (kX7_empty hS hN (by omega)) sh_0 ⟨_, _, rfl⟩ (Nat.le_of_ble_eq_true rfl) (Nat.le_of_ble_eq_true rfl) ⟨rfl, rfl⟩ ⟨(show 1 ≤ 600 by omega), (show 6 ≤ 3600 by omega)⟩ (fun En σ9 h => absurd h (px3_no o13)) (fun r13 σ_13 hp13 => ?_)
  obtain ⟨-, v13, N13, T13, F13⟩ := hp13
  replace v13 : r13 = gC (sD S g) 0 + gC (sD S g) 1 := v13
  obtain ⟨S13, hS13⟩ : ∃ S9 : st_T, S9 = uD S g (dClr (sD S g)) := ⟨_, rfl⟩
  replace N13 : RN σ_13 S13 := by rw [hS13]; exact N13
  replace T13 : StOK S13 := by rw [hS13]; exact T13
  have D13 : sD S13 g = dClr (sD S g) := by rw [hS13]; exact if_pos rfl
  have R13 : S13.2 = S.2 := by rw [hS13]; exact rfl
  have hD13 := T13.1 g hg.1 hg.2
  have K13 : gK (sD S13 g) 0 0 0 ∧ gA0 (sD S13 g) 0 := by rw [D13]; exact gK_clr
  refine s_if_lt (tgt := 32) C dL_grammar_16 (by decide) (by omega) (fun c16 => ?_) (fun c16 => ?_)
  · exfalso; omega -- done
  · refine s_aload_n C dL_grammar_19 rfl ?_
    refine s_iload_n C dL_grammar_20 rfl ?_
    refine s_iconst C dL_grammar_21 ?_
    have o22 : (op_gap S13 g 5).1 = 0 := by unfold op_gap; dsimp only; rw [if_neg (by omega), if_neg (by decide)]
    refine sc_cV2i (u2 := 3) (w2 := 18) C dL_grammar_22 lkL_91 moX7_gap mvX7_gap (kX7_gap T13 N13 (by omega) (by omega)) sh_0 ⟨_, _, rfl⟩ (Nat.le_of_ble_eq_true rfl) (Nat.le_of_ble_eq_true rfl) ⟨rfl, rfl⟩ ⟨(show 3 ≤ 600 by omega), (show 18 ≤ 3600 by omega)⟩ (fun En σ9 h => absurd h (px3_no o22)) (fun r22 σ_22 hp22 => ?_)
    obtain ⟨-, v22, N22, T22, F22⟩ := hp22
    replace v22 : r22 = gaR (sD S13 g) 6 0 := v22
    replace N22 : RN σ_22 S13 := N22
    have y22 : r22 = 0 := by rw [v22]; exact ga_0 (sp_none hD13 (K13.2.2 0 (Int.le_refl _)) K13.1.1) 5
    refine s_if_ne (tgt := 32) C dL_grammar_25 (by decide) (by omega) (fun c25 => ?_) (fun c25 => ?_)
    · exfalso; omega -- done
    · refine s_iconst C dL_grammar_28 ?_
      refine s_goto (tgt := 33) C dL_grammar_29 (by decide) ?_
      refine s_istore (ls2 := [some (vR 0), some (vI g), some vS, some (vI at9), some (vI x4_9), some (vI 1), none, none]) C dL_grammar_33 (by decide) rfl ?_
      refine s_iconst C dL_grammar_35 ?_
      refine s_istore (ls2 := [some (vR 0), some (vI g), some vS, some (vI at9), some (vI x4_9), some (vI 1), some (vI 0), none]) C dL_grammar_36 (by decide) rfl ?_
      have L38 : ∀ (n : Nat) (b5 : Int) (i6 : Int) (τ : sv_G) (S1 : st_T) (uu38 ww38 : Nat), (x4_9 + 1 - i6).toNat < n → ((uu38 : Int) + 9 * (x4_9 + 1 - i6) ≤ 200 ∧ (ww38 : Int) + 54 * (x4_9 + 1 - i6) ≤ 1200) → (b5 = 1) → (0 ≤ i6 ∧ i6 ≤ x4_9 + 1) → (RN τ S1) → (StOK S1) → (S1.2 = S.2) → (gK (sD S1 g) 0 0 0 ∧ gA0 (sD S1 g) i6) → SW X E Q uu38 ww38 38 [some (vR 0), some (vI g), some vS, some (vI at9), some (vI x4_9), some (vI b5), some (vI i6), none] [] τ := by
        intro n
        induction n with
        | zero => intro b5 i6 τ S1 uu38 ww38 hm; exact absurd hm (Nat.not_lt_zero _)
        | succ n ih38 =>
          intro b5 i6 τ S1 uu38 ww38 hm38 i38_0 i38_1 i38_2 i38_3 i38_4 i38_5 i38_6
          refine s_iload C dL_grammar_38 rfl ?_
          refine s_iload C dL_grammar_40 rfl ?_
          refine s_icmp_gt (tgt := 93) C dL_grammar_42 (by decide) (by omega) (by omega) (fun c42 => ?_) (fun c42 => ?_)
          · refine s_iload C dL_grammar_93 rfl ?_
            refine s_iconst C dL_grammar_95 ?_
            refine s_iadd C dL_grammar_96 ?_
            refine s_aloadS_n C dL_grammar_97 rfl ?_
            refine s_iload_n C dL_grammar_98 rfl ?_
            refine s_bipush C dL_grammar_99 (by decide) ?_
            refine s_iadd C dL_grammar_101 ?_
            refine s_iconst C dL_grammar_102 ?_
            refine s_cS3i C dL_grammar_103 lkL_109 moL_draw mvL_draw (kL_draw (by omega) (by omega)) (Nat.le_of_ble_eq_true rfl) (Nat.le_of_ble_eq_true rfl) rfl ⟨(show uu38 ≤ 600 by omega), (show ww38 ≤ 3600 by omega)⟩ (kpI (fun r103 hp103 => ?_))
            refine s_isub C dL_grammar_106 ?_
            refine s_topI (fun x6_107 ex6_107 => ?_)
            refine s_istore (ls2 := [some (vR 0), some (vI g), some vS, some (vI at9), some (vI x4_9), some (vI b5), some (vI x6_107), none]) C dL_grammar_107 (by decide) rfl ?_
            refine s_iload C dL_grammar_109 rfl ?_
            refine s_if_eq (tgt := 237) C dL_grammar_111 (by decide) (by omega) (fun c111 => ?_) (fun c111 => ?_)
            · exfalso; omega -- done
            · refine s_aload_n C dL_grammar_114 rfl ?_
              refine s_iconst C dL_grammar_115 ?_
              refine s_iload_n C dL_grammar_116 rfl ?_
              refine s_iload C dL_grammar_117 rfl ?_
              refine s_iconst C dL_grammar_119 ?_
              refine s_icmp_ge (tgt := 127) C dL_grammar_120 (by decide) (by omega) (by omega) (fun c120 => ?_) (fun c120 => ?_)
              · refine s_iload C dL_grammar_127 rfl ?_
                refine s_bipush C dL_grammar_129 (by decide) ?_
                refine s_iconst C dL_grammar_131 ?_
                refine s_aloadS_n C dL_grammar_132 rfl ?_
                refine s_iload_n C dL_grammar_133 rfl ?_
                refine s_bipush C dL_grammar_134 (by decide) ?_
                refine s_iadd C dL_grammar_136 ?_
                refine s_bipush C dL_grammar_137 (by decide) ?_
                refine s_cS3i C dL_grammar_139 lkL_109 moL_draw mvL_draw (kL_draw (by omega) (by omega)) (Nat.le_of_ble_eq_true rfl) (Nat.le_of_ble_eq_true rfl) rfl ⟨(show uu38 ≤ 600 by omega), (show ww38 ≤ 3600 by omega)⟩ (kpI (fun r139 hp139 => ?_))
                refine s_iadd C dL_grammar_142 ?_
                refine s_aloadS_n C dL_grammar_143 rfl ?_
                refine s_iload_n C dL_grammar_144 rfl ?_
                refine s_bipush C dL_grammar_145 (by decide) ?_
                refine s_iadd C dL_grammar_147 ?_
                refine s_bipush C dL_grammar_148 (by decide) ?_
                refine s_cS3i C dL_grammar_150 lkL_109 moL_draw mvL_draw (kL_draw (by omega) (by omega)) (Nat.le_of_ble_eq_true rfl) (Nat.le_of_ble_eq_true rfl) rfl ⟨(show uu38 ≤ 600 by omega), (show ww38 ≤ 3600 by omega)⟩ (kpI (fun r150 hp150 => ?_))
                have hg1 := i38_6.1.1
                have hh153 := hb_none (x := x6_107) hg1
                have o153 : (op_base S1 g x6_107 30 (1 + r139) r150).1 = 0 := by unfold op_base; dsimp only; rw [if_neg (by omega), if_neg (by omega), if_neg (by omega)]
                refine s_cW7i (u2 := uu38 + 9) (w2 := ww38 + 54) C dL_grammar_153 lkL_52 moL_asks mvL_asks (kL_asks_base i38_4 i38_3 (by omega) (by omega) (by omega) (by omega) (by omega)) (Nat.le_of_ble_eq_true rfl) (Nat.le_of_ble_eq_true rfl) ⟨rfl, rfl⟩ ⟨(show uu38 + 9 ≤ 600 by omega), (show ww38 + 54 ≤ 3600 by omega)⟩ (fun r153 σ_153 hp153 => ?_)
                obtain ⟨v153, N153, T153⟩ := hp153.1 o153
                replace v153 : r153 = gC (sD S1 g) 1 := v153
                obtain ⟨S153, hS153⟩ : ∃ S9 : st_T, S9 = uD S1 g (dBase (sD S1 g) (bsN x6_107 30 (1 + r139) r150)) := ⟨_, rfl⟩
                replace N153 : RN σ_153 S153 := by rw [hS153]; exact N153
                replace T153 : StOK S153 := by rw [hS153]; exact T153
                have D153 : sD S153 g = dBase (sD S1 g) (bsN x6_107 30 (1 + r139) r150) := by rw [hS153]; exact if_pos rfl
                have R153 : S153.2 = S.2 := by rw [hS153]; exact i38_5
                have hD153 := T153.1 g hg.1 hg.2
                have K153 : gK (sD S153 g) 1 0 0 := by rw [D153]; exact gK_base i38_6.1
                have B153 : gB (sD S153 g) 0 = bsN x6_107 30 (1 + r139) r150 := by rw [D153, gB_base, if_pos (by omega)]
                refine s_if_ne (tgt := 237) C dL_grammar_156 (by decide) (by omega) (fun c156 => ?_) (fun c156 => ?_)
                · exfalso; omega -- done
                · refine s_aload_n C dL_grammar_159 rfl ?_
                  refine s_iconst C dL_grammar_160 ?_
                  refine s_iload_n C dL_grammar_161 rfl ?_
                  refine s_iload C dL_grammar_162 rfl ?_
                  refine s_iconst C dL_grammar_164 ?_
                  refine s_icmp_ge (tgt := 172) C dL_grammar_165 (by decide) (by omega) (by omega) (fun c165 => ?_) (fun c165 => ?_)
                  · refine s_iload C dL_grammar_172 rfl ?_
                    refine s_bipush C dL_grammar_174 (by decide) ?_
                    refine s_iconst C dL_grammar_176 ?_
                    refine s_iconst C dL_grammar_177 ?_
                    have hh178 : hb (sD S153 g) x6_107 = 1 := hb_yes K153.1 (by rw [B153]; rfl)
                    have o178 : (op_base S153 g x6_107 31 1 1).1 = 3 := by unfold op_base; dsimp only; rw [if_neg (by omega), if_neg (by omega), if_pos (by omega)]
                    refine s_cW7i (u2 := uu38 + 18) (w2 := ww38 + 108) C dL_grammar_178 lkL_52 moL_asks mvL_asks (kL_asks_base T153 N153 (by omega) (by omega) (by omega) (by omega) (by omega)) (Nat.le_of_ble_eq_true rfl) (Nat.le_of_ble_eq_true rfl) ⟨rfl, rfl⟩ ⟨(show uu38 + 18 ≤ 600 by omega), (show ww38 + 108 ≤ 3600 by omega)⟩ (fun r178 σ_178 hp178 => ?_)
                    have v178 : r178 = -70008 := hp178.2.2.2.2.1 o178
                    have N178 := hp178.2.1 (by omega)
                    refine s_ldc (n := (-70008)) C dL_grammar_181 lcc_51 rfl ?_
                    refine s_icmp_ne (tgt := 237) C dL_grammar_183 (by decide) (by omega) (by omega) (fun c183 => ?_) (fun c183 => ?_)
                    · exfalso; omega -- done
                    · refine s_aload_n C dL_grammar_186 rfl ?_
                      refine s_iconst C dL_grammar_187 ?_
                      refine s_iload_n C dL_grammar_188 rfl ?_
                      refine s_bipush C dL_grammar_189 (by decide) ?_
                      refine s_aloadS_n C dL_grammar_191 rfl ?_
                      refine s_iload_n C dL_grammar_192 rfl ?_
                      refine s_bipush C dL_grammar_193 (by decide) ?_
                      refine s_iadd C dL_grammar_195 ?_
                      refine s_bipush C dL_grammar_196 (by decide) ?_
                      refine s_cS3i C dL_grammar_198 lkL_109 moL_draw mvL_draw (kL_draw (by omega) (by omega)) (Nat.le_of_ble_eq_true rfl) (Nat.le_of_ble_eq_true rfl) rfl ⟨(show uu38 + 18 ≤ 600 by omega), (show ww38 + 108 ≤ 3600 by omega)⟩ (kpI (fun r198 hp198 => ?_))
                      refine s_iadd C dL_grammar_201 ?_
                      refine s_bipush C dL_grammar_202 (by decide) ?_
                      refine s_iconst C dL_grammar_204 ?_
                      refine s_aloadS_n C dL_grammar_205 rfl ?_
                      refine s_iload_n C dL_grammar_206 rfl ?_
                      refine s_bipush C dL_grammar_207 (by decide) ?_
                      refine s_iadd C dL_grammar_209 ?_
                      refine s_bipush C dL_grammar_210 (by decide) ?_
                      refine s_cS3i C dL_grammar_212 lkL_109 moL_draw mvL_draw (kL_draw (by omega) (by omega)) (Nat.le_of_ble_eq_true rfl) (Nat.le_of_ble_eq_true rfl) rfl ⟨(show uu38 + 18 ≤ 600 by omega), (show ww38 + 108 ≤ 3600 by omega)⟩ (kpI (fun r212 hp212 => ?_))
                      refine s_iadd C dL_grammar_215 ?_
                      refine s_aloadS_n C dL_grammar_216 rfl ?_
                      refine s_iload_n C dL_grammar_217 rfl ?_
                      refine s_bipush C dL_grammar_218 (by decide) ?_
                      refine s_iadd C dL_grammar_220 ?_
                      refine s_bipush C dL_grammar_221 (by decide) ?_
                      refine s_cS3i C dL_grammar_223 lkL_109 moL_draw mvL_draw (kL_draw (by omega) (by omega)) (Nat.le_of_ble_eq_true rfl) (Nat.le_of_ble_eq_true rfl) rfl ⟨(show uu38 + 18 ≤ 600 by omega), (show ww38 + 108 ≤ 3600 by omega)⟩ (kpI (fun r223 hp223 => ?_))
                      have hh226 : hb (sD S153 g) (40 + r198) = 0 := hb_no K153.1 (by rw [B153]; show x6_107 ≠ 40 + r198; omega)
                      have hg226 := K153.1
                      have o226 : (op_base S153 g (40 + r198) 31 (1 + r212) r223).1 = 0 := by unfold op_base; dsimp only; rw [if_neg (by omega), if_neg (by omega), if_neg (by omega)]
                      refine s_cW7i (u2 := uu38 + 27) (w2 := ww38 + 162) C dL_grammar_226 lkL_52 moL_asks mvL_asks (kL_asks_base T153 N178 (by omega) (by omega) (by omega) (by omega) (by omega)) (Nat.le_of_ble_eq_true rfl) (Nat.le_of_ble_eq_true rfl) ⟨rfl, rfl⟩ ⟨(show uu38 + 27 ≤ 600 by omega), (show ww38 + 162 ≤ 3600 by omega)⟩ (fun r226 σ_226 hp226 => ?_)
                      obtain ⟨v226, N226, T226⟩ := hp226.1 o226
                      replace v226 : r226 = gC (sD S153 g) 1 := v226
                      obtain ⟨S226, hS226⟩ : ∃ S9 : st_T, S9 = uD S153 g (dBase (sD S153 g) (bsN (40 + r198) 31 (1 + r212) r223)) := ⟨_, rfl⟩
                      replace N226 : RN σ_226 S226 := by rw [hS226]; exact N226
                      replace T226 : StOK S226 := by rw [hS226]; exact T226
                      have D226 : sD S226 g = dBase (sD S153 g) (bsN (40 + r198) 31 (1 + r212) r223) := by rw [hS226]; exact if_pos rfl
                      have R226 : S226.2 = S.2 := by rw [hS226]; exact R153
                      have hD226 := T226.1 g hg.1 hg.2
                      have K226 : gK (sD S226 g) 2 0 0 := by rw [D226]; exact gK_base K153
                      have B0 : gB (sD S226 g) 0 = bsN x6_107 30 (1 + r139) r150 := by rw [D226, gB_base, if_neg (by omega)]; exact B153
                      have B1 : gB (sD S226 g) 1 = bsN (40 + r198) 31 (1 + r212) r223 := by rw [D226, gB_base, if_pos (by omega)]
                      refine s_iconst C dL_grammar_229 ?_
                      refine s_icmp_ne (tgt := 237) C dL_grammar_230 (by decide) (by omega) (by omega) (fun c230 => ?_) (fun c230 => ?_)
                      · exfalso; omega -- done
                      · refine s_iconst C dL_grammar_233 ?_
                        refine s_goto (tgt := 238) C dL_grammar_234 (by decide) ?_
                        refine s_istore (ls2 := [some (vR 0), some (vI g), some vS, some (vI at9), some (vI x4_9), some (vI 1), some (vI x6_107), none]) C dL_grammar_238 (by decide) rfl ?_
                        refine s_iload C dL_grammar_240 rfl ?_
                        refine s_if_eq (tgt := 311) C dL_grammar_242 (by decide) (by omega) (fun c242 => ?_) (fun c242 => ?_)
                        · exfalso; omega -- done
                        · refine s_aload_n C dL_grammar_245 rfl ?_
                          refine s_bipush C dL_grammar_246 (by decide) ?_
                          refine s_iload_n C dL_grammar_248 rfl ?_
                          refine s_aloadS_n C dL_grammar_249 rfl ?_
                          refine s_iload_n C dL_grammar_250 rfl ?_
                          refine s_bipush C dL_grammar_251 (by decide) ?_
                          refine s_iadd C dL_grammar_253 ?_
                          refine s_iconst C dL_grammar_254 ?_
                          refine s_cS3i C dL_grammar_255 lkL_109 moL_draw mvL_draw (kL_draw (by omega) (by omega)) (Nat.le_of_ble_eq_true rfl) (Nat.le_of_ble_eq_true rfl) rfl ⟨(show uu38 + 27 ≤ 600 by omega), (show ww38 + 162 ≤ 3600 by omega)⟩ (kpI (fun r255 hp255 => ?_))
                          refine s_bipush C dL_grammar_258 (by decide) ?_
                          refine s_aloadS_n C dL_grammar_260 rfl ?_
                          refine s_iload_n C dL_grammar_261 rfl ?_
                          refine s_bipush C dL_grammar_262 (by decide) ?_
                          refine s_iadd C dL_grammar_264 ?_
                          refine s_iconst C dL_grammar_265 ?_
                          refine s_cS3i C dL_grammar_266 lkL_109 moL_draw mvL_draw (kL_draw (by omega) (by omega)) (Nat.le_of_ble_eq_true rfl) (Nat.le_of_ble_eq_true rfl) rfl ⟨(show uu38 + 27 ≤ 600 by omega), (show ww38 + 162 ≤ 3600 by omega)⟩ (kpI (fun r266 hp266 => ?_))
                          refine s_iadd C dL_grammar_269 ?_
                          refine s_iconst C dL_grammar_270 ?_
                          refine s_iconst C dL_grammar_271 ?_
                          have hg272 := K226.1
                          have hy272 : r255 = 0 ∨ r255 = 1 := by omega
                          have o272 : (op_joint S226 g r255 (40 + r266)).1 = 0 := by unfold op_joint; dsimp only; rw [if_neg (by omega)]
                          refine s_cW7i (u2 := uu38 + 36) (w2 := ww38 + 216) C dL_grammar_272 lkL_52 moL_asks mvL_asks (kL_asks_joint T226 N226 (by omega) (by omega) (by omega)) (Nat.le_of_ble_eq_true rfl) (Nat.le_of_ble_eq_true rfl) ⟨rfl, rfl⟩ ⟨(show uu38 + 36 ≤ 600 by omega), (show ww38 + 216 ≤ 3600 by omega)⟩ (fun r272 σ_272 hp272 => ?_)
                          obtain ⟨v272, N272, T272⟩ := hp272.1 o272
                          replace v272 : r272 = gB (sD S226 g) r255 4 := v272
                          obtain ⟨S272, hS272⟩ : ∃ S9 : st_T, S9 = uD S226 g (dBs (sD S226 g) r255 (bU (gB (sD S226 g) r255) 4 (40 + r266))) := ⟨_, rfl⟩
                          replace N272 : RN σ_272 S272 := by rw [hS272]; exact N272
                          replace T272 : StOK S272 := by rw [hS272]; exact T272
                          have D272 : sD S272 g = dBs (sD S226 g) r255 (bU (gB (sD S226 g) r255) 4 (40 + r266)) := by rw [hS272]; exact if_pos rfl
                          have R272 : S272.2 = S.2 := by rw [hS272]; exact R226
                          have hD272 := T272.1 g hg.1 hg.2
                          have K272 : gK (sD S272 g) 2 0 0 := by rw [D272]; exact gK_bs K226
                          have y272 : r272 = -1 := by
                            rw [v272]
                            rcases hy272 with z | z
                            · rw [z, B0]; rfl
                            · rw [z, B1]; rfl
                          have w272 : ∀ i : Int, i = 0 ∨ i = 1 → gB (sD S272 g) i 5 = 0 := by
                            intro i hi
                            have e : gB (sD S272 g) i 5 = gB (sD S226 g) i 5 := by
                              rw [D272, gB_bs]
                              by_cases z : i = r255
                              · rw [if_pos z, z]; rfl
                              · rw [if_neg z]
                            rw [e]
                            rcases hi with z | z
                            · rw [z, B0]; rfl
                            · rw [z, B1]; rfl
                          refine s_iconst C dL_grammar_275 ?_
                          refine s_icmp_ne (tgt := 311) C dL_grammar_276 (by decide) (by omega) (by omega) (fun c276 => ?_) (fun c276 => ?_)
                          · exfalso; omega -- done
                          · refine s_aload_n C dL_grammar_279 rfl ?_
                            refine s_iload_n C dL_grammar_280 rfl ?_
                            refine s_aloadS_n C dL_grammar_281 rfl ?_
                            refine s_iload_n C dL_grammar_282 rfl ?_
                            refine s_bipush C dL_grammar_283 (by decide) ?_
                            refine s_iadd C dL_grammar_285 ?_
                            refine s_iconst C dL_grammar_286 ?_
                            refine s_cS3i C dL_grammar_287 lkL_109 moL_draw mvL_draw (kL_draw (by omega) (by omega)) (Nat.le_of_ble_eq_true rfl) (Nat.le_of_ble_eq_true rfl) rfl ⟨(show uu38 + 36 ≤ 600 by omega), (show ww38 + 216 ≤ 3600 by omega)⟩ (kpI (fun r287 hp287 => ?_))
                            refine s_aloadS_n C dL_grammar_290 rfl ?_
                            refine s_iload_n C dL_grammar_291 rfl ?_
                            refine s_bipush C dL_grammar_292 (by decide) ?_
                            refine s_iadd C dL_grammar_294 ?_
                            refine s_iconst C dL_grammar_295 ?_
                            refine s_cS3i C dL_grammar_296 lkL_109 moL_draw mvL_draw (kL_draw (by omega) (by omega)) (Nat.le_of_ble_eq_true rfl) (Nat.le_of_ble_eq_true rfl) rfl ⟨(show uu38 + 36 ≤ 600 by omega), (show ww38 + 216 ≤ 3600 by omega)⟩ (kpI (fun r296 hp296 => ?_))
                            refine s_bipush C dL_grammar_299 (by decide) ?_
                            have hg301 := K272.1
                            have o301 : (op_less S272 g r287 r296 41).1 = 0 := by unfold op_less; dsimp only; rw [if_neg (by omega), if_neg (by omega)]
                            refine sc_cV4i (u2 := uu38 + 40) (w2 := ww38 + 240) C dL_grammar_301 lkL_136 moX7_less mvX7_less (kX7_less T272 N272 (by omega) (by omega) (by omega) (by omega)) sh_0 ⟨_, _, rfl⟩ (Nat.le_of_ble_eq_true rfl) (Nat.le_of_ble_eq_true rfl) ⟨rfl, rfl⟩ ⟨(show uu38 + 40 ≤ 600 by omega), (show ww38 + 240 ≤ 3600 by omega)⟩ (fun En σ9 h => absurd h (px3_no o301)) (fun r301 σ_301 hp301 => ?_)
                            obtain ⟨-, v301, N301, T301, F301⟩ := hp301
                            replace v301 : r301 = gB (sD S272 g) r287 5 := v301
                            obtain ⟨S301, hS301⟩ : ∃ S9 : st_T, S9 = uD S272 g (dBs (sD S272 g) r287 (bU (bU (gB (sD S272 g) r287) 5 r296) 6 41)) := ⟨_, rfl⟩
                            replace N301 : RN σ_301 S301 := by rw [hS301]; exact N301
                            replace T301 : StOK S301 := by rw [hS301]; exact T301
                            have D301 : sD S301 g = dBs (sD S272 g) r287 (bU (bU (gB (sD S272 g) r287) 5 r296) 6 41) := by rw [hS301]; exact if_pos rfl
                            have R301 : S301.2 = S.2 := by rw [hS301]; exact R272
                            have hD301 := T301.1 g hg.1 hg.2
                            have K301 : gK (sD S301 g) 2 0 0 := by rw [D301]; exact gK_bs K272
                            have y301 : r301 = 0 := by rw [v301]; exact w272 r287 (by omega)
                            refine s_if_ne (tgt := 311) C dL_grammar_304 (by decide) (by omega) (fun c304 => ?_) (fun c304 => ?_)
                            · exfalso; omega -- done
                            · refine s_iconst C dL_grammar_307 ?_
                              refine s_goto (tgt := 312) C dL_grammar_308 (by decide) ?_
                              refine s_istore (ls2 := [some (vR 0), some (vI g), some vS, some (vI at9), some (vI x4_9), some (vI 1), some (vI x6_107), none]) C dL_grammar_312 (by decide) rfl ?_
                              refine s_iconst C dL_grammar_314 ?_
                              refine s_istore (ls2 := [some (vR 0), some (vI g), some vS, some (vI at9), some (vI x4_9), some (vI 1), some (vI x6_107), some (vI 0)]) C dL_grammar_315 (by decide) rfl ?_
                              have L317 : ∀ (n : Nat) (b6 : Int) (i7 : Int) (τ : sv_G) (S3 : st_T) (uu317 ww317 : Nat), (4 - i7).toNat < n → ((uu317 : Int) + 18 * (4 - i7) ≤ 500 ∧ (ww317 : Int) + 108 * (4 - i7) ≤ 3000) → (b6 = 1) → (0 ≤ i7 ∧ i7 ≤ 4) → (RN τ S3) → (StOK S3) → (S3.2 = S.2) → (gK (sD S3 g) 2 i7 i7) → SW X E Q uu317 ww317 317 [some (vR 0), some (vI g), some vS, some (vI at9), some (vI x4_9), some (vI b6), some (vI x6_107), some (vI i7)] [] τ := by
                                intro n
                                induction n with
                                | zero => intro b6 i7 τ S3 uu317 ww317 hm; exact absurd hm (Nat.not_lt_zero _)
                                | succ n ih317 =>
                                  intro b6 i7 τ S3 uu317 ww317 hm317 i317_0 i317_1 i317_2 i317_3 i317_4 i317_5 i317_6
                                  refine s_iload C dL_grammar_317 rfl ?_
                                  refine s_iconst C dL_grammar_319 ?_
                                  refine s_icmp_ge (tgt := 454) C dL_grammar_320 (by decide) (by omega) (by omega) (fun c320 => ?_) (fun c320 => ?_)
                                  · refine s_iload C dL_grammar_454 rfl ?_
                                    refine s_if_eq (tgt := 483) C dL_grammar_456 (by decide) (by omega) (fun c456 => ?_) (fun c456 => ?_)
                                    · exfalso; omega -- done
                                    · refine s_aload_n C dL_grammar_459 rfl ?_
                                      refine s_iload_n C dL_grammar_460 rfl ?_
                                      refine s_aloadS_n C dL_grammar_461 rfl ?_
                                      refine s_iload_n C dL_grammar_462 rfl ?_
                                      refine s_bipush C dL_grammar_463 (by decide) ?_
                                      refine s_iadd C dL_grammar_465 ?_
                                      refine s_iconst C dL_grammar_466 ?_
                                      refine s_cS3i C dL_grammar_467 lkL_109 moL_draw mvL_draw (kL_draw (by omega) (by omega)) (Nat.le_of_ble_eq_true rfl) (Nat.le_of_ble_eq_true rfl) rfl ⟨(show uu317 ≤ 600 by omega), (show ww317 ≤ 3600 by omega)⟩ (kpI (fun r467 hp467 => ?_))
                                      refine s_iconst C dL_grammar_470 ?_
                                      refine s_isub C dL_grammar_471 ?_
                                      have o472 : (op_ordinal S3 g (r467 - 1)).1 = 0 := by unfold op_ordinal; dsimp only; rw [if_neg (by omega)]
                                      refine sc_cV2i (u2 := uu317 + 2) (w2 := ww317 + 12) C dL_grammar_472 lkL_139 moX7_ordinal mvX7_ordinal (kX7_ordinal i317_4 i317_3 (by omega) (by omega)) sh_0 ⟨_, _, rfl⟩ (Nat.le_of_ble_eq_true rfl) (Nat.le_of_ble_eq_true rfl) ⟨rfl, rfl⟩ ⟨(show uu317 + 2 ≤ 600 by omega), (show ww317 + 12 ≤ 3600 by omega)⟩ (fun En σ9 h => absurd h (px3_no o472)) (fun r472 σ_472 hp472 => ?_)
                                      obtain ⟨-, v472, N472, T472, F472⟩ := hp472
                                      replace v472 : r472 = gC (sD S3 g) 3 := v472
                                      obtain ⟨S472, hS472⟩ : ∃ S9 : st_T, S9 = uD S3 g (dCs (sD S3 g) 3 (r467 - 1)) := ⟨_, rfl⟩
                                      replace N472 : RN σ_472 S472 := by rw [hS472]; exact N472
                                      replace T472 : StOK S472 := by rw [hS472]; exact T472
                                      have D472 : sD S472 g = dCs (sD S3 g) 3 (r467 - 1) := by rw [hS472]; exact if_pos rfl
                                      have R472 : S472.2 = S.2 := by rw [hS472]; exact i317_5
                                      have hD472 := T472.1 g hg.1 hg.2
                                      have y472 : r472 = -1 := by rw [v472]; exact i317_6.2.2.1
                                      have K472 : gC (sD S472 g) 1 = 2 := by rw [D472]; exact i317_6.1
                                      refine s_iconst C dL_grammar_475 ?_
                                      refine s_icmp_ne (tgt := 483) C dL_grammar_476 (by decide) (by omega) (by omega) (fun c476 => ?_) (fun c476 => ?_)
                                      · exfalso; omega -- done
                                      · refine s_iconst C dL_grammar_479 ?_
                                        refine s_goto (tgt := 484) C dL_grammar_480 (by decide) ?_
                                        refine s_zret C hR dL_grammar_484 rfl (by omega) ⟨_, rfl, ?_⟩ ⟨(show uu317 + 2 ≤ 600 by omega), (show ww317 + 12 ≤ 3600 by omega)⟩
                                        exact ⟨rfl, S472, N472, T472, R472, K472⟩
                                  · refine s_iload C dL_grammar_323 rfl ?_
                                    refine s_if_eq (tgt := 445) C dL_grammar_325 (by decide) (by omega) (fun c325 => ?_) (fun c325 => ?_)
                                    · exfalso; omega -- done
                                    · refine s_aload_n C dL_grammar_328 rfl ?_
                                      refine s_iconst C dL_grammar_329 ?_
                                      refine s_iload_n C dL_grammar_330 rfl ?_
                                      refine s_aloadS_n C dL_grammar_331 rfl ?_
                                      refine s_iload_n C dL_grammar_332 rfl ?_
                                      refine s_bipush C dL_grammar_333 (by decide) ?_
                                      refine s_iadd C dL_grammar_335 ?_
                                      refine s_iconst C dL_grammar_336 ?_
                                      refine s_iload C dL_grammar_337 rfl ?_
                                      refine s_imul C dL_grammar_339 ?_
                                      refine s_iadd C dL_grammar_340 ?_
                                      refine s_bipush C dL_grammar_341 (by decide) ?_
                                      refine s_cS3i C dL_grammar_343 lkL_109 moL_draw mvL_draw (kL_draw (by omega) (by omega)) (Nat.le_of_ble_eq_true rfl) (Nat.le_of_ble_eq_true rfl) rfl ⟨(show uu317 ≤ 600 by omega), (show ww317 ≤ 3600 by omega)⟩ (kpI (fun r343 hp343 => ?_))
                                      refine s_aloadS_n C dL_grammar_346 rfl ?_
                                      refine s_iload_n C dL_grammar_347 rfl ?_
                                      refine s_bipush C dL_grammar_348 (by decide) ?_
                                      refine s_iadd C dL_grammar_350 ?_
                                      refine s_iconst C dL_grammar_351 ?_
                                      refine s_iload C dL_grammar_352 rfl ?_
                                      refine s_imul C dL_grammar_354 ?_
                                      refine s_iadd C dL_grammar_355 ?_
                                      refine s_iconst C dL_grammar_356 ?_
                                      refine s_cS3i C dL_grammar_357 lkL_109 moL_draw mvL_draw (kL_draw (by omega) (by omega)) (Nat.le_of_ble_eq_true rfl) (Nat.le_of_ble_eq_true rfl) rfl ⟨(show uu317 ≤ 600 by omega), (show ww317 ≤ 3600 by omega)⟩ (kpI (fun r357 hp357 => ?_))
                                      refine s_bipush C dL_grammar_360 (by decide) ?_
                                      refine s_aloadS_n C dL_grammar_362 rfl ?_
                                      refine s_iload_n C dL_grammar_363 rfl ?_
                                      refine s_bipush C dL_grammar_364 (by decide) ?_
                                      refine s_iadd C dL_grammar_366 ?_
                                      refine s_iconst C dL_grammar_367 ?_
                                      refine s_iload C dL_grammar_368 rfl ?_
                                      refine s_imul C dL_grammar_370 ?_
                                      refine s_iadd C dL_grammar_371 ?_
                                      refine s_bipush C dL_grammar_372 (by decide) ?_
                                      refine s_cS3i C dL_grammar_374 lkL_109 moL_draw mvL_draw (kL_draw (by omega) (by omega)) (Nat.le_of_ble_eq_true rfl) (Nat.le_of_ble_eq_true rfl) rfl ⟨(show uu317 ≤ 600 by omega), (show ww317 ≤ 3600 by omega)⟩ (kpI (fun r374 hp374 => ?_))
                                      refine s_iadd C dL_grammar_377 ?_
                                      refine s_iconst C dL_grammar_378 ?_
                                      have hg379 := i317_6.2.1
                                      have hq379 := (i317_4.1 g hg.1 hg.2).2.2.2.2.2.2.2.2.1 r343 r357
                                      have o379 : (op_form S3 g r343 r357 (50 + r374)).1 = 0 := by unfold op_form; dsimp only; rw [if_neg (by omega), if_neg (by omega), if_neg (by omega)]
                                      refine s_cW7i (u2 := uu317 + 9) (w2 := ww317 + 54) C dL_grammar_379 lkL_52 moL_asks mvL_asks (kL_asks_form i317_4 i317_3 (by omega) (by omega) (by omega) (by omega)) (Nat.le_of_ble_eq_true rfl) (Nat.le_of_ble_eq_true rfl) ⟨rfl, rfl⟩ ⟨(show uu317 + 9 ≤ 600 by omega), (show ww317 + 54 ≤ 3600 by omega)⟩ (fun r379 σ_379 hp379 => ?_)
                                      obtain ⟨v379, N379, T379⟩ := hp379.1 o379
                                      replace v379 : r379 = gP (sD S3 g) r343 r357 := v379
                                      obtain ⟨S379, hS379⟩ : ∃ S9 : st_T, S9 = uD S3 g (dFm (sD S3 g) r343 r357 (50 + r374) (if gP (sD S3 g) r343 r357 = -1 then gC (sD S3 g) 2 + 1 else gC (sD S3 g) 2)) := ⟨_, rfl⟩
                                      replace N379 : RN σ_379 S379 := by rw [hS379]; exact N379
                                      replace T379 : StOK S379 := by rw [hS379]; exact T379
                                      have D379 : sD S379 g = dFm (sD S3 g) r343 r357 (50 + r374) (if gP (sD S3 g) r343 r357 = -1 then gC (sD S3 g) 2 + 1 else gC (sD S3 g) 2) := by rw [hS379]; exact if_pos rfl
                                      have R379 : S379.2 = S.2 := by rw [hS379]; exact i317_5
                                      have hD379 := T379.1 g hg.1 hg.2
                                      have K379 : gK (sD S379 g) 2 (i7 + 1) i7 := by rw [D379]; exact gK_fm i317_6 (by split <;> omega)
                                      refine s_iconst C dL_grammar_382 ?_
                                      refine s_icmp_lt (tgt := 445) C dL_grammar_383 (by decide) (by omega) (by omega) (fun c383 => ?_) (fun c383 => ?_)
                                      · exfalso; omega -- done
                                      · refine s_aload_n C dL_grammar_386 rfl ?_
                                        refine s_iconst C dL_grammar_387 ?_
                                        refine s_iload_n C dL_grammar_388 rfl ?_
                                        refine s_iconst C dL_grammar_389 ?_
                                        refine s_aloadS_n C dL_grammar_390 rfl ?_
                                        refine s_iload_n C dL_grammar_391 rfl ?_
                                        refine s_bipush C dL_grammar_392 (by decide) ?_
                                        refine s_iadd C dL_grammar_394 ?_
                                        refine s_iconst C dL_grammar_395 ?_
                                        refine s_iload C dL_grammar_396 rfl ?_
                                        refine s_imul C dL_grammar_398 ?_
                                        refine s_iadd C dL_grammar_399 ?_
                                        refine s_bipush C dL_grammar_400 (by decide) ?_
                                        refine s_cS3i C dL_grammar_402 lkL_109 moL_draw mvL_draw (kL_draw (by omega) (by omega)) (Nat.le_of_ble_eq_true rfl) (Nat.le_of_ble_eq_true rfl) rfl ⟨(show uu317 + 9 ≤ 600 by omega), (show ww317 + 54 ≤ 3600 by omega)⟩ (kpI (fun r402 hp402 => ?_))
                                        refine s_iadd C dL_grammar_405 ?_
                                        refine s_bipush C dL_grammar_406 (by decide) ?_
                                        refine s_iload C dL_grammar_408 rfl ?_
                                        refine s_iconst C dL_grammar_410 ?_
                                        refine s_irem C dL_grammar_411 (by omega) (by decide) ?_
                                        refine s_iadd C dL_grammar_412 ?_
                                        refine s_iconst C dL_grammar_413 ?_
                                        refine s_aloadS_n C dL_grammar_414 rfl ?_
                                        refine s_iload_n C dL_grammar_415 rfl ?_
                                        refine s_bipush C dL_grammar_416 (by decide) ?_
                                        refine s_iadd C dL_grammar_418 ?_
                                        refine s_iconst C dL_grammar_419 ?_
                                        refine s_iload C dL_grammar_420 rfl ?_
                                        refine s_imul C dL_grammar_422 ?_
                                        refine s_iadd C dL_grammar_423 ?_
                                        refine s_bipush C dL_grammar_424 (by decide) ?_
                                        refine s_cS3i C dL_grammar_426 lkL_109 moL_draw mvL_draw (kL_draw (by omega) (by omega)) (Nat.le_of_ble_eq_true rfl) (Nat.le_of_ble_eq_true rfl) rfl ⟨(show uu317 + 9 ≤ 600 by omega), (show ww317 + 54 ≤ 3600 by omega)⟩ (kpI (fun r426 hp426 => ?_))
                                        refine s_iadd C dL_grammar_429 ?_
                                        refine s_iconst C dL_grammar_430 ?_
                                        have hg431 := K379.2.2.2
                                        have o431 : (op_seam S379 g (1 + r402) (30 + i7 % 2) (1 + r426)).1 = 0 := by unfold op_seam; dsimp only; rw [if_neg (by omega), if_neg (by omega)]
                                        refine s_cW7i (u2 := uu317 + 18) (w2 := ww317 + 108) C dL_grammar_431 lkL_52 moL_asks mvL_asks (kL_asks_seam T379 N379 (by omega) (by omega) (by omega) (by omega)) (Nat.le_of_ble_eq_true rfl) (Nat.le_of_ble_eq_true rfl) ⟨rfl, rfl⟩ ⟨(show uu317 + 18 ≤ 600 by omega), (show ww317 + 108 ≤ 3600 by omega)⟩ (fun r431 σ_431 hp431 => ?_)
                                        obtain ⟨v431, N431, T431⟩ := hp431.1 o431
                                        replace v431 : r431 = gC (sD S379 g) 4 + 1 := v431
                                        obtain ⟨S431, hS431⟩ : ∃ S9 : st_T, S9 = uD S379 g (dSeam (sD S379 g) (1 + r402) (30 + i7 % 2) (1 + r426)) := ⟨_, rfl⟩
                                        replace N431 : RN σ_431 S431 := by rw [hS431]; exact N431
                                        replace T431 : StOK S431 := by rw [hS431]; exact T431
                                        have D431 : sD S431 g = dSeam (sD S379 g) (1 + r402) (30 + i7 % 2) (1 + r426) := by rw [hS431]; exact if_pos rfl
                                        have R431 : S431.2 = S.2 := by rw [hS431]; exact R379
                                        have hD431 := T431.1 g hg.1 hg.2
                                        have K431 : gK (sD S431 g) 2 (i7 + 1) (i7 + 1) := by rw [D431]; exact gK_seam K379
                                        refine s_iload C dL_grammar_434 rfl ?_
                                        refine s_iconst C dL_grammar_436 ?_
                                        refine s_iadd C dL_grammar_437 ?_
                                        refine s_icmp_ne (tgt := 445) C dL_grammar_438 (by decide) (by omega) (by omega) (fun c438 => ?_) (fun c438 => ?_)
                                        · exfalso; omega -- done
                                        · refine s_iconst C dL_grammar_441 ?_
                                          refine s_goto (tgt := 446) C dL_grammar_442 (by decide) ?_
                                          refine s_istore (ls2 := [some (vR 0), some (vI g), some vS, some (vI at9), some (vI x4_9), some (vI 1), some (vI x6_107), some (vI i7)]) C dL_grammar_446 (by decide) rfl ?_
                                          obtain ⟨x7_448, ex7_448⟩ : ∃ y : Int, y = i7 + 1 := ⟨_, rfl⟩
                                          refine s_iinc (z2 := x7_448) (ls2 := [some (vR 0), some (vI g), some vS, some (vI at9), some (vI x4_9), some (vI 1), some (vI x6_107), some (vI x7_448)]) C dL_grammar_448 (by decide) rfl ex7_448 rfl ?_
                                          refine s_goto (tgt := 317) C dL_grammar_451 (by decide) ?_
                                          refine ih317 1 x7_448 σ_431 S431 (uu317 + 18) (ww317 + 108) (by omega) (by omega) (by first | assumption | omega) (by first | assumption | omega) ?_ ?_ ?_ ?_
                                          · exact N431
                                          · exact T431
                                          · exact R431
                                          · rw [show x7_448 = i7 + 1 by omega]; exact K431
                              refine L317 _ 1 0 σ_301 S301 (uu38 + 40) (ww38 + 240) (Nat.lt_succ_self _) (by omega) (by first | assumption | omega) (by first | assumption | omega) ?_ ?_ ?_ ?_
                              · exact N301
                              · exact T301
                              · exact R301
                              · exact K301
                  · exfalso; omega -- done
              · exfalso; omega -- done
          · refine s_iload C dL_grammar_45 rfl ?_
            refine s_if_eq (tgt := 84) C dL_grammar_47 (by decide) (by omega) (fun c47 => ?_) (fun c47 => ?_)
            · exfalso; omega -- done
            · refine s_aload_n C dL_grammar_50 rfl ?_
              refine s_iconst C dL_grammar_51 ?_
              refine s_iload_n C dL_grammar_52 rfl ?_
              refine s_iload C dL_grammar_53 rfl ?_
              refine s_iconst C dL_grammar_55 ?_
              refine s_iload C dL_grammar_56 rfl ?_
              refine s_iadd C dL_grammar_58 ?_
              refine s_aloadS_n C dL_grammar_59 rfl ?_
              refine s_iload_n C dL_grammar_60 rfl ?_
              refine s_iconst C dL_grammar_61 ?_
              refine s_iadd C dL_grammar_62 ?_
              refine s_iload C dL_grammar_63 rfl ?_
              refine s_iadd C dL_grammar_65 ?_
              refine s_iconst C dL_grammar_66 ?_
              refine s_cS3i C dL_grammar_67 lkL_109 moL_draw mvL_draw (kL_draw (by omega) (by omega)) (Nat.le_of_ble_eq_true rfl) (Nat.le_of_ble_eq_true rfl) rfl ⟨(show uu38 ≤ 600 by omega), (show ww38 ≤ 3600 by omega)⟩ (kpI (fun r67 hp67 => ?_))
              refine s_iadd C dL_grammar_70 ?_
              refine s_iconst C dL_grammar_71 ?_
              refine s_iconst C dL_grammar_72 ?_
              have hA0 := i38_6.2.1
              have hAf := i38_6.2.2 i6 (Int.le_refl _)
              have o73 : (op_atom S1 g i6 (1 + i6 + r67)).1 = 0 := by unfold op_atom; dsimp only; rw [if_neg (by omega), if_neg (by omega), if_neg (by omega)]
              refine s_cW7i (u2 := uu38 + 9) (w2 := ww38 + 54) C dL_grammar_73 lkL_52 moL_asks mvL_asks (kL_asks_atom i38_4 i38_3 (by omega) (by omega) (by omega)) (Nat.le_of_ble_eq_true rfl) (Nat.le_of_ble_eq_true rfl) ⟨rfl, rfl⟩ ⟨(show uu38 + 9 ≤ 600 by omega), (show ww38 + 54 ≤ 3600 by omega)⟩ (fun r73 σ_73 hp73 => ?_)
              obtain ⟨v73, N73, T73⟩ := hp73.1 o73
              replace v73 : r73 = gF (sD S1 g) i6 := v73
              obtain ⟨S73, hS73⟩ : ∃ S9 : st_T, S9 = uD S1 g (dAt (sD S1 g) i6 (1 + i6 + r67) (if gF (sD S1 g) i6 = -1 then gC (sD S1 g) 0 + 1 else gC (sD S1 g) 0)) := ⟨_, rfl⟩
              replace N73 : RN σ_73 S73 := by rw [hS73]; exact N73
              replace T73 : StOK S73 := by rw [hS73]; exact T73
              have D73 : sD S73 g = dAt (sD S1 g) i6 (1 + i6 + r67) (if gF (sD S1 g) i6 = -1 then gC (sD S1 g) 0 + 1 else gC (sD S1 g) 0) := by rw [hS73]; exact if_pos rfl
              have R73 : S73.2 = S.2 := by rw [hS73]; exact i38_5
              have hD73 := T73.1 g hg.1 hg.2
              have K73 : gK (sD S73 g) 0 0 0 ∧ gA0 (sD S73 g) (i6 + 1) := by rw [D73]; exact gK_at i38_6 (by rw [if_pos hAf, hA0])
              refine s_iconst C dL_grammar_76 ?_
              refine s_icmp_ne (tgt := 84) C dL_grammar_77 (by decide) (by omega) (by omega) (fun c77 => ?_) (fun c77 => ?_)
              · exfalso; omega -- done
              · refine s_iconst C dL_grammar_80 ?_
                refine s_goto (tgt := 85) C dL_grammar_81 (by decide) ?_
                refine s_istore (ls2 := [some (vR 0), some (vI g), some vS, some (vI at9), some (vI x4_9), some (vI 1), some (vI i6), none]) C dL_grammar_85 (by decide) rfl ?_
                obtain ⟨x6_87, ex6_87⟩ : ∃ y : Int, y = i6 + 1 := ⟨_, rfl⟩
                refine s_iinc (z2 := x6_87) (ls2 := [some (vR 0), some (vI g), some vS, some (vI at9), some (vI x4_9), some (vI 1), some (vI x6_87), none]) C dL_grammar_87 (by decide) rfl ex6_87 rfl ?_
                refine s_goto (tgt := 38) C dL_grammar_90 (by decide) ?_
                refine ih38 1 x6_87 σ_73 S73 (uu38 + 9) (ww38 + 54) (by omega) (by omega) (by first | assumption | omega) (by first | assumption | omega) ?_ ?_ ?_ ?_
                · exact N73
                · exact T73
                · exact R73
                · rw [show x6_87 = i6 + 1 by omega]; exact K73
      refine L38 _ 1 0 σ_22 S13 3 18 (Nat.lt_succ_self _) (by omega) (by first | assumption | omega) (by first | assumption | omega) ?_ ?_ ?_ ?_
      · exact N22
      · exact T13
      · exact R13
      · exact K13
