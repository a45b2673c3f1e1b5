/-! The law's cases. -/
theorem i32_rng (x : Int32) : -2147483648 ≤ x.toInt ∧ x.toInt ≤ 2147483647 := by
  have h1 := Int32.le_toInt x
  have h2 := Int32.toInt_lt x
  omega
theorem s_widen {X : sx_T} {E : sv_E} {Q : State → Prop} {u w u2 w2 pc : Nat} {ls : List (Option sv_V)} {st : List sv_V} {σ : sv_G} (hu : u ≤ u2) (hw : w ≤ w2) (kk : SW X E Q u2 w2 pc ls st σ) : SW X E Q u w pc ls st σ := by
  obtain ⟨p, l, e, R, s, m, args, below, meth, c⟩ := X
  intro H locs lsA hR hL
  exact W.widen hu hw (kk H locs lsA hR hL)
abbrev DL (tb9 : List ExceptionTableEntry) : sd_T := (RL, cL_law, 7, some .boolean, tb9, 200, 601024, 7293034)
abbrev lsL (i : Int) : List (Option sv_V) := [some vS, some (vR 0), some (vR 195), some (vR 228), some (vI i), none, none]
theorem RN.low {σ σ9 : sv_G} {S : st_T} (hS : StOK S) (h : RN σ S) (hf : frM σ σ9) : RN σ9 S := h.fr hS fun b k q => hf b k (by omega)
theorem RO.out {σ σ9 : sv_G} {S : st_T} (h : RO σ S) (hf : ∀ b k, 195 ≤ b → b ≠ 228 → σ9 b k = σ b k) : RO σ9 S := h.fr fun b k q => hf b k (by omega) (by omega)
theorem cdW_b (b : Int → Int) (hb : ∀ i, 0 ≤ i → i < 6 → 2 ≤ b i ∧ b i ≤ 60) : ∀ n : Nat, n ≤ 6 → 0 ≤ cdW b n ∧ cdW b n ≤ 60 ^ n
  | 0, _ => ⟨(by decide : (0 : Int) ≤ 1), (by decide : (1 : Int) ≤ 60 ^ 0)⟩
  | n + 1, h => by
    have ih := cdW_b b hb n (by omega)
    have hn := hb n (by omega) (by omega)
    show 0 ≤ cdW b n * b n ∧ cdW b n * b n ≤ 60 ^ (n + 1)
    refine ⟨Int.mul_nonneg ih.1 (by omega), ?_⟩
    rw [Int.pow_succ]
    exact Int.mul_le_mul ih.2 hn.2 (by omega) (by have z := ih.1; omega)
theorem cdT_b (b t : Int → Int) (hb : ∀ i, 0 ≤ i → i < 6 → 2 ≤ b i ∧ b i ≤ 60 ∧ 0 ≤ t i ∧ t i < b i) : 0 ≤ cdT b t 6 ∧ cdT b t 6 ≤ 9223372036854775807 := by
  have hs : ∀ n : Nat, n ≤ 6 → 0 ≤ cdT b t n ∧ cdT b t n ≤ n * (60 * 60 ^ 6) := fun n => by
    induction n with
    | zero => intro _; exact ⟨(by decide : (0 : Int) ≤ 0), (by decide : (0 : Int) ≤ ((0 : Nat) : Int) * (60 * 60 ^ 6))⟩
    | succ n ih =>
      intro h
      have ih := ih (by omega)
      have hn := hb n (by omega) (by omega)
      have hw := cdW_b b (fun i a c => ⟨(hb i a c).1, (hb i a c).2.1⟩) n (by omega)
      have h6 : cdW b n ≤ 60 ^ 6 := by
        refine Int.le_trans hw.2 ?_
        have hn6 : n = 0 ∨ n = 1 ∨ n = 2 ∨ n = 3 ∨ n = 4 ∨ n = 5 := by omega
        rcases hn6 with q | q | q | q | q | q <;> rw [q] <;> decide
      have h7 : t n * cdW b n ≤ 60 * 60 ^ 6 := Int.mul_le_mul (by omega) h6 hw.1 (by omega)
      have h8 : 0 ≤ t n * cdW b n := Int.mul_nonneg hn.2.2.1 hw.1
      show 0 ≤ cdT b t n + t n * cdW b n ∧ cdT b t n + t n * cdW b n ≤ ((n + 1 : Nat) : Int) * (60 * 60 ^ 6)
      refine ⟨by omega, ?_⟩
      rw [show ((n + 1 : Nat) : Int) * (60 * 60 ^ 6 : Int) = (n : Int) * (60 * 60 ^ 6) + 60 * 60 ^ 6 by rw [Int.natCast_add, Int.add_mul]; rfl]
      omega
  have h := hs 6 (Nat.le_refl _)
  refine ⟨h.1, Int.le_trans h.2 (by decide)⟩
set_option maxRecDepth 100000 in
set_option maxHeartbeats 8000000 in
theorem law_0 {X : sx_T} {E : sv_E} {Q : State → Prop} {L : Nat} {xs : Nat → Int32} {u w : Nat} {σ : sv_G} {S : st_T} {i : Int} {tb9 : List ExceptionTableEntry} (C : sx_ok X E (DL tb9)) (hX : sv_X X E L xs) (hL9 : L ≤ 20000) (hu : u + 6 ≤ 601024 ∧ w + 36 ≤ 7293034) (hi : 0 ≤ i ∧ i + 6 ≤ L) (hS : StOK S) (hN : RN σ S) (hO : RO σ S) (kk : ∀ (σ9 : sv_G) (S9 : st_T), StOK S9 → RN σ9 S9 → RO σ9 S9 → SW X E Q (u + 6) (w + 36) 2377 (lsL i) [] σ9) : SW X E Q u w 188 (lsL i) [] σ := by
  obtain ⟨a1, ha1⟩ : ∃ z : Int, z = (xs (i + 1).toNat).toInt := ⟨_, rfl⟩
  have r1 : -2147483648 ≤ a1 ∧ a1 ≤ 2147483647 := by rw [ha1]; exact i32_rng _
  obtain ⟨a2, ha2⟩ : ∃ z : Int, z = (xs (i + 2).toNat).toInt := ⟨_, rfl⟩
  have r2 : -2147483648 ≤ a2 ∧ a2 ≤ 2147483647 := by rw [ha2]; exact i32_rng _
  obtain ⟨a3, ha3⟩ : ∃ z : Int, z = (xs (i + 3).toNat).toInt := ⟨_, rfl⟩
  have r3 : -2147483648 ≤ a3 ∧ a3 ≤ 2147483647 := by rw [ha3]; exact i32_rng _
  refine s_aload_n C dL_law_188 rfl ?_
  refine s_aloadS_n C dL_law_189 rfl ?_
  refine s_iload C dL_law_190 rfl ?_
  refine s_iconst C dL_law_192 ?_
  refine s_iadd C dL_law_193 ?_
  refine s_sld C hX (by omega) dL_law_194 (by omega) ?_
  rw [← ha1]
  refine s_aloadS_n C dL_law_195 rfl ?_
  refine s_iload C dL_law_196 rfl ?_
  refine s_iconst C dL_law_198 ?_
  refine s_iadd C dL_law_199 ?_
  refine s_sld C hX (by omega) dL_law_200 (by omega) ?_
  rw [← ha2]
  refine s_aloadS_n C dL_law_201 rfl ?_
  refine s_iload C dL_law_202 rfl ?_
  refine s_iconst C dL_law_204 ?_
  refine s_iadd C dL_law_205 ?_
  refine s_sld C hX (by omega) dL_law_206 (by omega) ?_
  rw [← ha3]
  refine s_aload_n C dL_law_207 rfl ?_
  refine s_cW5i (u2 := u + 4) (w2 := w + 24) C dL_law_208 lkL_105 moL_atom mvL_atom (kL_atom hS hN r1 r2 r3) (Nat.le_of_ble_eq_true rfl) (Nat.le_of_ble_eq_true rfl) ⟨rfl, rfl⟩ ⟨(show u + 4 ≤ 601024 by omega), (show w + 24 ≤ 7293034 by omega)⟩ (fun k9 σ1 hp => ?_)
  have hop : 0 ≤ (op_atom S a1 a2 a3).1 ∧ (op_atom S a1 a2 a3).1 ≤ 3 := by unfold op_atom; dsimp only; (repeat' split) <;> omega
  obtain ⟨p1, p2, p3, p4⟩ := hp
  have hO1 := hO.out p4
  refine s_istore (ls2 := [some vS, some (vR 0), some (vR 195), some (vR 228), some (vI i), some (vI k9), none]) C dL_law_211 (show 5 < 7 by decide) rfl ?_
  refine s_aload_n C dL_law_213 rfl ?_
  refine s_aloadS_n C dL_law_214 rfl ?_
  refine s_iload C dL_law_215 rfl ?_
  refine s_iconst C dL_law_217 ?_
  refine s_iadd C dL_law_218 ?_
  refine s_sld C hX (by omega) dL_law_219 (by omega) ?_
  rw [← ha1]
  refine s_aloadS_n C dL_law_220 rfl ?_
  refine s_iload C dL_law_221 rfl ?_
  refine s_iconst C dL_law_223 ?_
  refine s_iadd C dL_law_224 ?_
  refine s_sld C hX (by omega) dL_law_225 (by omega) ?_
  rw [← ha2]
  refine s_aloadS_n C dL_law_226 rfl ?_
  refine s_iload C dL_law_227 rfl ?_
  refine s_iconst C dL_law_229 ?_
  refine s_iadd C dL_law_230 ?_
  refine s_sld C hX (by omega) dL_law_231 (by omega) ?_
  rw [← ha3]
  refine s_cV3i C dL_law_232 lkL_110 moX8_atom mvX8_atom (kX8_atom hS hO1 r1 r2 r3) sh_195 ⟨_, _, rfl⟩ (Nat.le_of_ble_eq_true rfl) (Nat.le_of_ble_eq_true rfl) rfl ⟨(show u + 4 ≤ 601024 by omega), (show w + 24 ≤ 7293034 by omega)⟩ (fun b9 σ2 hm => ?_)
  obtain ⟨m1, m2, m3, m4⟩ := hm
  refine s_istore (ls2 := [some vS, some (vR 0), some (vR 195), some (vR 228), some (vI i), some (vI k9), some (vI b9)]) C dL_law_235 (show 6 < 7 by decide) rfl ?_
  refine s_aload_n C dL_law_237 rfl ?_
  refine s_cV0i C dL_law_238 lkL_111 moX8_thrown mvX8_thrown kX8_thrown sh_195 ⟨_, _, rfl⟩ (Nat.le_of_ble_eq_true rfl) (Nat.le_of_ble_eq_true rfl) rfl ⟨(show u + 4 ≤ 601024 by omega), (show w + 24 ≤ 7293034 by omega)⟩ (kpI (fun t9 ht => ?_))
  refine s_iload C dL_law_241 rfl ?_
  refine s_icmp_eq (tgt := 248) C dL_law_243 (by decide) (by omega) (by omega) (fun c1 => ?_) (fun c1 => ?_)
  · refine s_iload C dL_law_248 rfl ?_
    refine s_if_ne (tgt := 265) C dL_law_250 (by decide) (by omega) (fun c2 => ?_) (fun c2 => ?_)
    · refine s_goto (tgt := 2377) C dL_law_265 (by decide) ?_
      refine s_weak (ls2 := lsL i) (sv_wk_c (sv_wk_c (sv_wk_c (sv_wk_c (sv_wk_c (sv_wk_n (sv_wk_n sv_wk_0))))))) ?_
      refine s_widen (by omega) (by omega) (kk σ2 S ?_ ?_ ?_)
      · exact hS
      · exact (p3 (by omega)).low hS m4
      · exact m3 (by omega)
    · refine s_aload_n C dL_law_253 rfl ?_
      have h0 : (op_atom S a1 a2 a3).1 = 0 := by omega
      obtain ⟨q1, q2, q3⟩ := p2 h0
      obtain ⟨q4, q5⟩ := m2 h0
      refine s_iconst C dL_law_254 ?_
      refine s_lald C dL_law_255 sh_228 (by decide) (fun g9 => ?_)
      refine s_iload C dL_law_256 rfl ?_
      refine s_asI (wrI_ofInt _) ?_
      refine s_i2l C dL_law_258 (wrI_rng _) ?_
      refine s_lcmp C dL_law_259 (by omega) (by have z := wrI_rng b9; omega) ?_
      refine s_if_eq (tgt := 265) C dL_law_260 (by decide) cmpL_rng (fun c3 => ?_) (fun c3 => ?_)
      · refine s_goto (tgt := 2377) C dL_law_265 (by decide) ?_
        refine s_weak (ls2 := lsL i) (sv_wk_c (sv_wk_c (sv_wk_c (sv_wk_c (sv_wk_c (sv_wk_n (sv_wk_n sv_wk_0))))))) ?_
        refine s_widen (by omega) (by omega) (kk σ2 (op_atom S a1 a2 a3).2.2 ?_ ?_ ?_)
        · exact q3
        · exact q2.low q3 m4
        · exact q5
      · exact absurd (cmpL_eq.mpr (by rw [m4 228 0 (by decide), q1, q4])) c3
  · exfalso; omega
set_option maxRecDepth 100000 in
set_option maxHeartbeats 8000000 in
theorem law_1 {X : sx_T} {E : sv_E} {Q : State → Prop} {L : Nat} {xs : Nat → Int32} {u w : Nat} {σ : sv_G} {S : st_T} {i : Int} {tb9 : List ExceptionTableEntry} (C : sx_ok X E (DL tb9)) (hX : sv_X X E L xs) (hL9 : L ≤ 20000) (hu : u + 6 ≤ 601024 ∧ w + 36 ≤ 7293034) (hi : 0 ≤ i ∧ i + 6 ≤ L) (hS : StOK S) (hN : RN σ S) (hO : RO σ S) (kk : ∀ (σ9 : sv_G) (S9 : st_T), StOK S9 → RN σ9 S9 → RO σ9 S9 → SW X E Q (u + 6) (w + 36) 2377 (lsL i) [] σ9) : SW X E Q u w 268 (lsL i) [] σ := by
  obtain ⟨a1, ha1⟩ : ∃ z : Int, z = (xs (i + 1).toNat).toInt := ⟨_, rfl⟩
  have r1 : -2147483648 ≤ a1 ∧ a1 ≤ 2147483647 := by rw [ha1]; exact i32_rng _
  obtain ⟨a2, ha2⟩ : ∃ z : Int, z = (xs (i + 2).toNat).toInt := ⟨_, rfl⟩
  have r2 : -2147483648 ≤ a2 ∧ a2 ≤ 2147483647 := by rw [ha2]; exact i32_rng _
  refine s_aload_n C dL_law_268 rfl ?_
  refine s_aloadS_n C dL_law_269 rfl ?_
  refine s_iload C dL_law_270 rfl ?_
  refine s_iconst C dL_law_272 ?_
  refine s_iadd C dL_law_273 ?_
  refine s_sld C hX (by omega) dL_law_274 (by omega) ?_
  rw [← ha1]
  refine s_aloadS_n C dL_law_275 rfl ?_
  refine s_iload C dL_law_276 rfl ?_
  refine s_iconst C dL_law_278 ?_
  refine s_iadd C dL_law_279 ?_
  refine s_sld C hX (by omega) dL_law_280 (by omega) ?_
  rw [← ha2]
  refine s_aload_n C dL_law_281 rfl ?_
  refine s_cW4i (u2 := u + 1) (w2 := w + 6) C dL_law_282 lkL_115 moL_dropAtom mvL_dropAtom (kL_dropAtom hS hN r1 r2) (Nat.le_of_ble_eq_true rfl) (Nat.le_of_ble_eq_true rfl) ⟨rfl, rfl⟩ ⟨(show u + 1 ≤ 601024 by omega), (show w + 6 ≤ 7293034 by omega)⟩ (fun k9 σ1 hp => ?_)
  have hop : 0 ≤ (op_dropAtom S a1 a2).1 ∧ (op_dropAtom S a1 a2).1 ≤ 3 := by unfold op_dropAtom; dsimp only; (repeat' split) <;> omega
  obtain ⟨p1, p2, p3, p4⟩ := hp
  have hO1 := hO.out p4
  refine s_istore (ls2 := [some vS, some (vR 0), some (vR 195), some (vR 228), some (vI i), some (vI k9), none]) C dL_law_285 (show 5 < 7 by decide) rfl ?_
  refine s_aload_n C dL_law_287 rfl ?_
  refine s_aloadS_n C dL_law_288 rfl ?_
  refine s_iload C dL_law_289 rfl ?_
  refine s_iconst C dL_law_291 ?_
  refine s_iadd C dL_law_292 ?_
  refine s_sld C hX (by omega) dL_law_293 (by omega) ?_
  rw [← ha1]
  refine s_aloadS_n C dL_law_294 rfl ?_
  refine s_iload C dL_law_295 rfl ?_
  refine s_iconst C dL_law_297 ?_
  refine s_iadd C dL_law_298 ?_
  refine s_sld C hX (by omega) dL_law_299 (by omega) ?_
  rw [← ha2]
  refine s_cV2i C dL_law_300 lkL_118 moX8_dropAtom mvX8_dropAtom (kX8_dropAtom hS hO1 r1 r2) sh_195 ⟨_, _, rfl⟩ (Nat.le_of_ble_eq_true rfl) (Nat.le_of_ble_eq_true rfl) rfl ⟨(show u + 1 ≤ 601024 by omega), (show w + 6 ≤ 7293034 by omega)⟩ (fun b9 σ2 hm => ?_)
  obtain ⟨m1, m2, m3, m4⟩ := hm
  refine s_istore (ls2 := [some vS, some (vR 0), some (vR 195), some (vR 228), some (vI i), some (vI k9), some (vI b9)]) C dL_law_303 (show 6 < 7 by decide) rfl ?_
  refine s_aload_n C dL_law_305 rfl ?_
  refine s_cV0i C dL_law_306 lkL_111 moX8_thrown mvX8_thrown kX8_thrown sh_195 ⟨_, _, rfl⟩ (Nat.le_of_ble_eq_true rfl) (Nat.le_of_ble_eq_true rfl) rfl ⟨(show u + 1 ≤ 601024 by omega), (show w + 6 ≤ 7293034 by omega)⟩ (kpI (fun t9 ht => ?_))
  refine s_iload C dL_law_309 rfl ?_
  refine s_icmp_eq (tgt := 316) C dL_law_311 (by decide) (by omega) (by omega) (fun c1 => ?_) (fun c1 => ?_)
  · refine s_iload C dL_law_316 rfl ?_
    refine s_if_ne (tgt := 333) C dL_law_318 (by decide) (by omega) (fun c2 => ?_) (fun c2 => ?_)
    · refine s_goto (tgt := 2377) C dL_law_333 (by decide) ?_
      refine s_weak (ls2 := lsL i) (sv_wk_c (sv_wk_c (sv_wk_c (sv_wk_c (sv_wk_c (sv_wk_n (sv_wk_n sv_wk_0))))))) ?_
      refine s_widen (by omega) (by omega) (kk σ2 S ?_ ?_ ?_)
      · exact hS
      · exact (p3 (by omega)).low hS m4
      · exact m3 (by omega)
    · refine s_aload_n C dL_law_321 rfl ?_
      have h0 : (op_dropAtom S a1 a2).1 = 0 := by omega
      obtain ⟨q1, q2, q3⟩ := p2 h0
      obtain ⟨q4, q5⟩ := m2 h0
      refine s_iconst C dL_law_322 ?_
      refine s_lald C dL_law_323 sh_228 (by decide) (fun g9 => ?_)
      refine s_iload C dL_law_324 rfl ?_
      refine s_asI (wrI_ofInt _) ?_
      refine s_i2l C dL_law_326 (wrI_rng _) ?_
      refine s_lcmp C dL_law_327 (by omega) (by have z := wrI_rng b9; omega) ?_
      refine s_if_eq (tgt := 333) C dL_law_328 (by decide) cmpL_rng (fun c3 => ?_) (fun c3 => ?_)
      · refine s_goto (tgt := 2377) C dL_law_333 (by decide) ?_
        refine s_weak (ls2 := lsL i) (sv_wk_c (sv_wk_c (sv_wk_c (sv_wk_c (sv_wk_c (sv_wk_n (sv_wk_n sv_wk_0))))))) ?_
        refine s_widen (by omega) (by omega) (kk σ2 (op_dropAtom S a1 a2).2.2 ?_ ?_ ?_)
        · exact q3
        · exact q2.low q3 m4
        · exact q5
      · exact absurd (cmpL_eq.mpr (by rw [m4 228 0 (by decide), q1, q4])) c3
  · exfalso; omega
set_option maxRecDepth 100000 in
set_option maxHeartbeats 8000000 in
theorem law_2 {X : sx_T} {E : sv_E} {Q : State → Prop} {L : Nat} {xs : Nat → Int32} {u w : Nat} {σ : sv_G} {S : st_T} {i : Int} {tb9 : List ExceptionTableEntry} (C : sx_ok X E (DL tb9)) (hX : sv_X X E L xs) (hL9 : L ≤ 20000) (hu : u + 6 ≤ 601024 ∧ w + 36 ≤ 7293034) (hi : 0 ≤ i ∧ i + 6 ≤ L) (hS : StOK S) (hN : RN σ S) (hO : RO σ S) (kk : ∀ (σ9 : sv_G) (S9 : st_T), StOK S9 → RN σ9 S9 → RO σ9 S9 → SW X E Q (u + 6) (w + 36) 2377 (lsL i) [] σ9) : SW X E Q u w 336 (lsL i) [] σ := by
  obtain ⟨a1, ha1⟩ : ∃ z : Int, z = (xs (i + 1).toNat).toInt := ⟨_, rfl⟩
  have r1 : -2147483648 ≤ a1 ∧ a1 ≤ 2147483647 := by rw [ha1]; exact i32_rng _
  obtain ⟨a2, ha2⟩ : ∃ z : Int, z = (xs (i + 2).toNat).toInt := ⟨_, rfl⟩
  have r2 : -2147483648 ≤ a2 ∧ a2 ≤ 2147483647 := by rw [ha2]; exact i32_rng _
  obtain ⟨a3, ha3⟩ : ∃ z : Int, z = (xs (i + 3).toNat).toInt := ⟨_, rfl⟩
  have r3 : -2147483648 ≤ a3 ∧ a3 ≤ 2147483647 := by rw [ha3]; exact i32_rng _
  obtain ⟨a4, ha4⟩ : ∃ z : Int, z = (xs (i + 4).toNat).toInt := ⟨_, rfl⟩
  have r4 : -2147483648 ≤ a4 ∧ a4 ≤ 2147483647 := by rw [ha4]; exact i32_rng _
  obtain ⟨a5, ha5⟩ : ∃ z : Int, z = (xs (i + 5).toNat).toInt := ⟨_, rfl⟩
  have r5 : -2147483648 ≤ a5 ∧ a5 ≤ 2147483647 := by rw [ha5]; exact i32_rng _
  refine s_aload_n C dL_law_336 rfl ?_
  refine s_aloadS_n C dL_law_337 rfl ?_
  refine s_iload C dL_law_338 rfl ?_
  refine s_iconst C dL_law_340 ?_
  refine s_iadd C dL_law_341 ?_
  refine s_sld C hX (by omega) dL_law_342 (by omega) ?_
  rw [← ha1]
  refine s_aloadS_n C dL_law_343 rfl ?_
  refine s_iload C dL_law_344 rfl ?_
  refine s_iconst C dL_law_346 ?_
  refine s_iadd C dL_law_347 ?_
  refine s_sld C hX (by omega) dL_law_348 (by omega) ?_
  rw [← ha2]
  refine s_aloadS_n C dL_law_349 rfl ?_
  refine s_iload C dL_law_350 rfl ?_
  refine s_iconst C dL_law_352 ?_
  refine s_iadd C dL_law_353 ?_
  refine s_sld C hX (by omega) dL_law_354 (by omega) ?_
  rw [← ha3]
  refine s_aloadS_n C dL_law_355 rfl ?_
  refine s_iload C dL_law_356 rfl ?_
  refine s_iconst C dL_law_358 ?_
  refine s_iadd C dL_law_359 ?_
  refine s_sld C hX (by omega) dL_law_360 (by omega) ?_
  rw [← ha4]
  refine s_aloadS_n C dL_law_361 rfl ?_
  refine s_iload C dL_law_362 rfl ?_
  refine s_iconst C dL_law_364 ?_
  refine s_iadd C dL_law_365 ?_
  refine s_sld C hX (by omega) dL_law_366 (by omega) ?_
  rw [← ha5]
  refine s_aload_n C dL_law_367 rfl ?_
  refine s_cW7i (u2 := u + 6) (w2 := w + 36) C dL_law_368 lkL_119 moL_base mvL_base (kL_base hS hN r1 r2 r3 r4 r5) (Nat.le_of_ble_eq_true rfl) (Nat.le_of_ble_eq_true rfl) ⟨rfl, rfl⟩ ⟨(show u + 6 ≤ 601024 by omega), (show w + 36 ≤ 7293034 by omega)⟩ (fun k9 σ1 hp => ?_)
  have hop : 0 ≤ (op_base S a1 a2 a3 a4 a5).1 ∧ (op_base S a1 a2 a3 a4 a5).1 ≤ 3 := by unfold op_base; dsimp only; (repeat' split) <;> omega
  obtain ⟨p1, p2, p3, p4⟩ := hp
  have hO1 := hO.out p4
  refine s_istore (ls2 := [some vS, some (vR 0), some (vR 195), some (vR 228), some (vI i), some (vI k9), none]) C dL_law_371 (show 5 < 7 by decide) rfl ?_
  refine s_aload_n C dL_law_373 rfl ?_
  refine s_aloadS_n C dL_law_374 rfl ?_
  refine s_iload C dL_law_375 rfl ?_
  refine s_iconst C dL_law_377 ?_
  refine s_iadd C dL_law_378 ?_
  refine s_sld C hX (by omega) dL_law_379 (by omega) ?_
  rw [← ha1]
  refine s_aloadS_n C dL_law_380 rfl ?_
  refine s_iload C dL_law_381 rfl ?_
  refine s_iconst C dL_law_383 ?_
  refine s_iadd C dL_law_384 ?_
  refine s_sld C hX (by omega) dL_law_385 (by omega) ?_
  rw [← ha2]
  refine s_aloadS_n C dL_law_386 rfl ?_
  refine s_iload C dL_law_387 rfl ?_
  refine s_iconst C dL_law_389 ?_
  refine s_iadd C dL_law_390 ?_
  refine s_sld C hX (by omega) dL_law_391 (by omega) ?_
  rw [← ha3]
  refine s_aloadS_n C dL_law_392 rfl ?_
  refine s_iload C dL_law_393 rfl ?_
  refine s_iconst C dL_law_395 ?_
  refine s_iadd C dL_law_396 ?_
  refine s_sld C hX (by omega) dL_law_397 (by omega) ?_
  rw [← ha4]
  refine s_aloadS_n C dL_law_398 rfl ?_
  refine s_iload C dL_law_399 rfl ?_
  refine s_iconst C dL_law_401 ?_
  refine s_iadd C dL_law_402 ?_
  refine s_sld C hX (by omega) dL_law_403 (by omega) ?_
  rw [← ha5]
  refine s_cV5i C dL_law_404 lkL_122 moX8_base mvX8_base (kX8_base hS hO1 r1 r2 r3 r4 r5) sh_195 ⟨_, _, rfl⟩ (Nat.le_of_ble_eq_true rfl) (Nat.le_of_ble_eq_true rfl) rfl ⟨(show u + 6 ≤ 601024 by omega), (show w + 36 ≤ 7293034 by omega)⟩ (fun b9 σ2 hm => ?_)
  obtain ⟨m1, m2, m3, m4⟩ := hm
  refine s_istore (ls2 := [some vS, some (vR 0), some (vR 195), some (vR 228), some (vI i), some (vI k9), some (vI b9)]) C dL_law_407 (show 6 < 7 by decide) rfl ?_
  refine s_aload_n C dL_law_409 rfl ?_
  refine s_cV0i C dL_law_410 lkL_111 moX8_thrown mvX8_thrown kX8_thrown sh_195 ⟨_, _, rfl⟩ (Nat.le_of_ble_eq_true rfl) (Nat.le_of_ble_eq_true rfl) rfl ⟨(show u + 6 ≤ 601024 by omega), (show w + 36 ≤ 7293034 by omega)⟩ (kpI (fun t9 ht => ?_))
  refine s_iload C dL_law_413 rfl ?_
  refine s_icmp_eq (tgt := 420) C dL_law_415 (by decide) (by omega) (by omega) (fun c1 => ?_) (fun c1 => ?_)
  · refine s_iload C dL_law_420 rfl ?_
    refine s_if_ne (tgt := 437) C dL_law_422 (by decide) (by omega) (fun c2 => ?_) (fun c2 => ?_)
    · refine s_goto (tgt := 2377) C dL_law_437 (by decide) ?_
      refine s_weak (ls2 := lsL i) (sv_wk_c (sv_wk_c (sv_wk_c (sv_wk_c (sv_wk_c (sv_wk_n (sv_wk_n sv_wk_0))))))) ?_
      refine s_widen (by omega) (by omega) (kk σ2 S ?_ ?_ ?_)
      · exact hS
      · exact (p3 (by omega)).low hS m4
      · exact m3 (by omega)
    · refine s_aload_n C dL_law_425 rfl ?_
      have h0 : (op_base S a1 a2 a3 a4 a5).1 = 0 := by omega
      obtain ⟨q1, q2, q3⟩ := p2 h0
      obtain ⟨q4, q5⟩ := m2 h0
      refine s_iconst C dL_law_426 ?_
      refine s_lald C dL_law_427 sh_228 (by decide) (fun g9 => ?_)
      refine s_iload C dL_law_428 rfl ?_
      refine s_asI (wrI_ofInt _) ?_
      refine s_i2l C dL_law_430 (wrI_rng _) ?_
      refine s_lcmp C dL_law_431 (by omega) (by have z := wrI_rng b9; omega) ?_
      refine s_if_eq (tgt := 437) C dL_law_432 (by decide) cmpL_rng (fun c3 => ?_) (fun c3 => ?_)
      · refine s_goto (tgt := 2377) C dL_law_437 (by decide) ?_
        refine s_weak (ls2 := lsL i) (sv_wk_c (sv_wk_c (sv_wk_c (sv_wk_c (sv_wk_c (sv_wk_n (sv_wk_n sv_wk_0))))))) ?_
        refine s_widen (by omega) (by omega) (kk σ2 (op_base S a1 a2 a3 a4 a5).2.2 ?_ ?_ ?_)
        · exact q3
        · exact q2.low q3 m4
        · exact q5
      · exact absurd (cmpL_eq.mpr (by rw [m4 228 0 (by decide), q1, q4])) c3
  · exfalso; omega
set_option maxRecDepth 100000 in
set_option maxHeartbeats 8000000 in
theorem law_3 {X : sx_T} {E : sv_E} {Q : State → Prop} {L : Nat} {xs : Nat → Int32} {u w : Nat} {σ : sv_G} {S : st_T} {i : Int} {tb9 : List ExceptionTableEntry} (C : sx_ok X E (DL tb9)) (hX : sv_X X E L xs) (hL9 : L ≤ 20000) (hu : u + 6 ≤ 601024 ∧ w + 36 ≤ 7293034) (hi : 0 ≤ i ∧ i + 6 ≤ L) (hS : StOK S) (hN : RN σ S) (hO : RO σ S) (kk : ∀ (σ9 : sv_G) (S9 : st_T), StOK S9 → RN σ9 S9 → RO σ9 S9 → SW X E Q (u + 6) (w + 36) 2377 (lsL i) [] σ9) : SW X E Q u w 440 (lsL i) [] σ := by
  obtain ⟨a1, ha1⟩ : ∃ z : Int, z = (xs (i + 1).toNat).toInt := ⟨_, rfl⟩
  have r1 : -2147483648 ≤ a1 ∧ a1 ≤ 2147483647 := by rw [ha1]; exact i32_rng _
  obtain ⟨a2, ha2⟩ : ∃ z : Int, z = (xs (i + 2).toNat).toInt := ⟨_, rfl⟩
  have r2 : -2147483648 ≤ a2 ∧ a2 ≤ 2147483647 := by rw [ha2]; exact i32_rng _
  obtain ⟨a3, ha3⟩ : ∃ z : Int, z = (xs (i + 3).toNat).toInt := ⟨_, rfl⟩
  have r3 : -2147483648 ≤ a3 ∧ a3 ≤ 2147483647 := by rw [ha3]; exact i32_rng _
  refine s_aload_n C dL_law_440 rfl ?_
  refine s_aloadS_n C dL_law_441 rfl ?_
  refine s_iload C dL_law_442 rfl ?_
  refine s_iconst C dL_law_444 ?_
  refine s_iadd C dL_law_445 ?_
  refine s_sld C hX (by omega) dL_law_446 (by omega) ?_
  rw [← ha1]
  refine s_aloadS_n C dL_law_447 rfl ?_
  refine s_iload C dL_law_448 rfl ?_
  refine s_iconst C dL_law_450 ?_
  refine s_iadd C dL_law_451 ?_
  refine s_sld C hX (by omega) dL_law_452 (by omega) ?_
  rw [← ha2]
  refine s_aloadS_n C dL_law_453 rfl ?_
  refine s_iload C dL_law_454 rfl ?_
  refine s_iconst C dL_law_456 ?_
  refine s_iadd C dL_law_457 ?_
  refine s_sld C hX (by omega) dL_law_458 (by omega) ?_
  rw [← ha3]
  refine s_aload_n C dL_law_459 rfl ?_
  refine s_cW5i (u2 := u + 3) (w2 := w + 18) C dL_law_460 lkL_123 moL_joint mvL_joint (kL_joint hS hN r1 r2 r3) (Nat.le_of_ble_eq_true rfl) (Nat.le_of_ble_eq_true rfl) ⟨rfl, rfl⟩ ⟨(show u + 3 ≤ 601024 by omega), (show w + 18 ≤ 7293034 by omega)⟩ (fun k9 σ1 hp => ?_)
  have hop : 0 ≤ (op_joint S a1 a2 a3).1 ∧ (op_joint S a1 a2 a3).1 ≤ 3 := by unfold op_joint; dsimp only; (repeat' split) <;> omega
  obtain ⟨p1, p2, p3, p4⟩ := hp
  have hO1 := hO.out p4
  refine s_istore (ls2 := [some vS, some (vR 0), some (vR 195), some (vR 228), some (vI i), some (vI k9), none]) C dL_law_463 (show 5 < 7 by decide) rfl ?_
  refine s_aload_n C dL_law_465 rfl ?_
  refine s_aloadS_n C dL_law_466 rfl ?_
  refine s_iload C dL_law_467 rfl ?_
  refine s_iconst C dL_law_469 ?_
  refine s_iadd C dL_law_470 ?_
  refine s_sld C hX (by omega) dL_law_471 (by omega) ?_
  rw [← ha1]
  refine s_aloadS_n C dL_law_472 rfl ?_
  refine s_iload C dL_law_473 rfl ?_
  refine s_iconst C dL_law_475 ?_
  refine s_iadd C dL_law_476 ?_
  refine s_sld C hX (by omega) dL_law_477 (by omega) ?_
  rw [← ha2]
  refine s_aloadS_n C dL_law_478 rfl ?_
  refine s_iload C dL_law_479 rfl ?_
  refine s_iconst C dL_law_481 ?_
  refine s_iadd C dL_law_482 ?_
  refine s_sld C hX (by omega) dL_law_483 (by omega) ?_
  rw [← ha3]
  refine s_cV3i C dL_law_484 lkL_125 moX8_joint mvX8_joint (kX8_joint hS hO1 r1 r2 r3) sh_195 ⟨_, _, rfl⟩ (Nat.le_of_ble_eq_true rfl) (Nat.le_of_ble_eq_true rfl) rfl ⟨(show u + 3 ≤ 601024 by omega), (show w + 18 ≤ 7293034 by omega)⟩ (fun b9 σ2 hm => ?_)
  obtain ⟨m1, m2, m3, m4⟩ := hm
  refine s_istore (ls2 := [some vS, some (vR 0), some (vR 195), some (vR 228), some (vI i), some (vI k9), some (vI b9)]) C dL_law_487 (show 6 < 7 by decide) rfl ?_
  refine s_aload_n C dL_law_489 rfl ?_
  refine s_cV0i C dL_law_490 lkL_111 moX8_thrown mvX8_thrown kX8_thrown sh_195 ⟨_, _, rfl⟩ (Nat.le_of_ble_eq_true rfl) (Nat.le_of_ble_eq_true rfl) rfl ⟨(show u + 3 ≤ 601024 by omega), (show w + 18 ≤ 7293034 by omega)⟩ (kpI (fun t9 ht => ?_))
  refine s_iload C dL_law_493 rfl ?_
  refine s_icmp_eq (tgt := 500) C dL_law_495 (by decide) (by omega) (by omega) (fun c1 => ?_) (fun c1 => ?_)
  · refine s_iload C dL_law_500 rfl ?_
    refine s_if_ne (tgt := 517) C dL_law_502 (by decide) (by omega) (fun c2 => ?_) (fun c2 => ?_)
    · refine s_goto (tgt := 2377) C dL_law_517 (by decide) ?_
      refine s_weak (ls2 := lsL i) (sv_wk_c (sv_wk_c (sv_wk_c (sv_wk_c (sv_wk_c (sv_wk_n (sv_wk_n sv_wk_0))))))) ?_
      refine s_widen (by omega) (by omega) (kk σ2 S ?_ ?_ ?_)
      · exact hS
      · exact (p3 (by omega)).low hS m4
      · exact m3 (by omega)
    · refine s_aload_n C dL_law_505 rfl ?_
      have h0 : (op_joint S a1 a2 a3).1 = 0 := by omega
      obtain ⟨q1, q2, q3⟩ := p2 h0
      obtain ⟨q4, q5⟩ := m2 h0
      refine s_iconst C dL_law_506 ?_
      refine s_lald C dL_law_507 sh_228 (by decide) (fun g9 => ?_)
      refine s_iload C dL_law_508 rfl ?_
      refine s_asI (wrI_ofInt _) ?_
      refine s_i2l C dL_law_510 (wrI_rng _) ?_
      refine s_lcmp C dL_law_511 (by omega) (by have z := wrI_rng b9; omega) ?_
      refine s_if_eq (tgt := 517) C dL_law_512 (by decide) cmpL_rng (fun c3 => ?_) (fun c3 => ?_)
      · refine s_goto (tgt := 2377) C dL_law_517 (by decide) ?_
        refine s_weak (ls2 := lsL i) (sv_wk_c (sv_wk_c (sv_wk_c (sv_wk_c (sv_wk_c (sv_wk_n (sv_wk_n sv_wk_0))))))) ?_
        refine s_widen (by omega) (by omega) (kk σ2 (op_joint S a1 a2 a3).2.2 ?_ ?_ ?_)
        · exact q3
        · exact q2.low q3 m4
        · exact q5
      · exact absurd (cmpL_eq.mpr (by rw [m4 228 0 (by decide), q1, q4])) c3
  · exfalso; omega
set_option maxRecDepth 100000 in
set_option maxHeartbeats 8000000 in
theorem law_4 {X : sx_T} {E : sv_E} {Q : State → Prop} {L : Nat} {xs : Nat → Int32} {u w : Nat} {σ : sv_G} {S : st_T} {i : Int} {tb9 : List ExceptionTableEntry} (C : sx_ok X E (DL tb9)) (hX : sv_X X E L xs) (hL9 : L ≤ 20000) (hu : u + 6 ≤ 601024 ∧ w + 36 ≤ 7293034) (hi : 0 ≤ i ∧ i + 6 ≤ L) (hS : StOK S) (hN : RN σ S) (hO : RO σ S) (kk : ∀ (σ9 : sv_G) (S9 : st_T), StOK S9 → RN σ9 S9 → RO σ9 S9 → SW X E Q (u + 6) (w + 36) 2377 (lsL i) [] σ9) : SW X E Q u w 520 (lsL i) [] σ := by
  obtain ⟨a1, ha1⟩ : ∃ z : Int, z = (xs (i + 1).toNat).toInt := ⟨_, rfl⟩
  have r1 : -2147483648 ≤ a1 ∧ a1 ≤ 2147483647 := by rw [ha1]; exact i32_rng _
  obtain ⟨a2, ha2⟩ : ∃ z : Int, z = (xs (i + 2).toNat).toInt := ⟨_, rfl⟩
  have r2 : -2147483648 ≤ a2 ∧ a2 ≤ 2147483647 := by rw [ha2]; exact i32_rng _
  obtain ⟨a3, ha3⟩ : ∃ z : Int, z = (xs (i + 3).toNat).toInt := ⟨_, rfl⟩
  have r3 : -2147483648 ≤ a3 ∧ a3 ≤ 2147483647 := by rw [ha3]; exact i32_rng _
  obtain ⟨a4, ha4⟩ : ∃ z : Int, z = (xs (i + 4).toNat).toInt := ⟨_, rfl⟩
  have r4 : -2147483648 ≤ a4 ∧ a4 ≤ 2147483647 := by rw [ha4]; exact i32_rng _
  refine s_aload_n C dL_law_520 rfl ?_
  refine s_aloadS_n C dL_law_521 rfl ?_
  refine s_iload C dL_law_522 rfl ?_
  refine s_iconst C dL_law_524 ?_
  refine s_iadd C dL_law_525 ?_
  refine s_sld C hX (by omega) dL_law_526 (by omega) ?_
  rw [← ha1]
  refine s_aloadS_n C dL_law_527 rfl ?_
  refine s_iload C dL_law_528 rfl ?_
  refine s_iconst C dL_law_530 ?_
  refine s_iadd C dL_law_531 ?_
  refine s_sld C hX (by omega) dL_law_532 (by omega) ?_
  rw [← ha2]
  refine s_aloadS_n C dL_law_533 rfl ?_
  refine s_iload C dL_law_534 rfl ?_
  refine s_iconst C dL_law_536 ?_
  refine s_iadd C dL_law_537 ?_
  refine s_sld C hX (by omega) dL_law_538 (by omega) ?_
  rw [← ha3]
  refine s_aloadS_n C dL_law_539 rfl ?_
  refine s_iload C dL_law_540 rfl ?_
  refine s_iconst C dL_law_542 ?_
  refine s_iadd C dL_law_543 ?_
  refine s_sld C hX (by omega) dL_law_544 (by omega) ?_
  rw [← ha4]
  refine s_aload_n C dL_law_545 rfl ?_
  refine s_cW6i (u2 := u + 4) (w2 := w + 24) C dL_law_546 lkL_126 moL_less mvL_less (kL_less hS hN r1 r2 r3 r4) (Nat.le_of_ble_eq_true rfl) (Nat.le_of_ble_eq_true rfl) ⟨rfl, rfl⟩ ⟨(show u + 4 ≤ 601024 by omega), (show w + 24 ≤ 7293034 by omega)⟩ (fun k9 σ1 hp => ?_)
  have hop : 0 ≤ (op_less S a1 a2 a3 a4).1 ∧ (op_less S a1 a2 a3 a4).1 ≤ 3 := by unfold op_less; dsimp only; (repeat' split) <;> omega
  obtain ⟨p1, p2, p3, p4⟩ := hp
  have hO1 := hO.out p4
  refine s_istore (ls2 := [some vS, some (vR 0), some (vR 195), some (vR 228), some (vI i), some (vI k9), none]) C dL_law_549 (show 5 < 7 by decide) rfl ?_
  refine s_aload_n C dL_law_551 rfl ?_
  refine s_aloadS_n C dL_law_552 rfl ?_
  refine s_iload C dL_law_553 rfl ?_
  refine s_iconst C dL_law_555 ?_
  refine s_iadd C dL_law_556 ?_
  refine s_sld C hX (by omega) dL_law_557 (by omega) ?_
  rw [← ha1]
  refine s_aloadS_n C dL_law_558 rfl ?_
  refine s_iload C dL_law_559 rfl ?_
  refine s_iconst C dL_law_561 ?_
  refine s_iadd C dL_law_562 ?_
  refine s_sld C hX (by omega) dL_law_563 (by omega) ?_
  rw [← ha2]
  refine s_aloadS_n C dL_law_564 rfl ?_
  refine s_iload C dL_law_565 rfl ?_
  refine s_iconst C dL_law_567 ?_
  refine s_iadd C dL_law_568 ?_
  refine s_sld C hX (by omega) dL_law_569 (by omega) ?_
  rw [← ha3]
  refine s_aloadS_n C dL_law_570 rfl ?_
  refine s_iload C dL_law_571 rfl ?_
  refine s_iconst C dL_law_573 ?_
  refine s_iadd C dL_law_574 ?_
  refine s_sld C hX (by omega) dL_law_575 (by omega) ?_
  rw [← ha4]
  refine s_cV4i C dL_law_576 lkL_129 moX8_less mvX8_less (kX8_less hS hO1 r1 r2 r3 r4) sh_195 ⟨_, _, rfl⟩ (Nat.le_of_ble_eq_true rfl) (Nat.le_of_ble_eq_true rfl) rfl ⟨(show u + 4 ≤ 601024 by omega), (show w + 24 ≤ 7293034 by omega)⟩ (fun b9 σ2 hm => ?_)
  obtain ⟨m1, m2, m3, m4⟩ := hm
  refine s_istore (ls2 := [some vS, some (vR 0), some (vR 195), some (vR 228), some (vI i), some (vI k9), some (vI b9)]) C dL_law_579 (show 6 < 7 by decide) rfl ?_
  refine s_aload_n C dL_law_581 rfl ?_
  refine s_cV0i C dL_law_582 lkL_111 moX8_thrown mvX8_thrown kX8_thrown sh_195 ⟨_, _, rfl⟩ (Nat.le_of_ble_eq_true rfl) (Nat.le_of_ble_eq_true rfl) rfl ⟨(show u + 4 ≤ 601024 by omega), (show w + 24 ≤ 7293034 by omega)⟩ (kpI (fun t9 ht => ?_))
  refine s_iload C dL_law_585 rfl ?_
  refine s_icmp_eq (tgt := 592) C dL_law_587 (by decide) (by omega) (by omega) (fun c1 => ?_) (fun c1 => ?_)
  · refine s_iload C dL_law_592 rfl ?_
    refine s_if_ne (tgt := 609) C dL_law_594 (by decide) (by omega) (fun c2 => ?_) (fun c2 => ?_)
    · refine s_goto (tgt := 2377) C dL_law_609 (by decide) ?_
      refine s_weak (ls2 := lsL i) (sv_wk_c (sv_wk_c (sv_wk_c (sv_wk_c (sv_wk_c (sv_wk_n (sv_wk_n sv_wk_0))))))) ?_
      refine s_widen (by omega) (by omega) (kk σ2 S ?_ ?_ ?_)
      · exact hS
      · exact (p3 (by omega)).low hS m4
      · exact m3 (by omega)
    · refine s_aload_n C dL_law_597 rfl ?_
      have h0 : (op_less S a1 a2 a3 a4).1 = 0 := by omega
      obtain ⟨q1, q2, q3⟩ := p2 h0
      obtain ⟨q4, q5⟩ := m2 h0
      refine s_iconst C dL_law_598 ?_
      refine s_lald C dL_law_599 sh_228 (by decide) (fun g9 => ?_)
      refine s_iload C dL_law_600 rfl ?_
      refine s_asI (wrI_ofInt _) ?_
      refine s_i2l C dL_law_602 (wrI_rng _) ?_
      refine s_lcmp C dL_law_603 (by omega) (by have z := wrI_rng b9; omega) ?_
      refine s_if_eq (tgt := 609) C dL_law_604 (by decide) cmpL_rng (fun c3 => ?_) (fun c3 => ?_)
      · refine s_goto (tgt := 2377) C dL_law_609 (by decide) ?_
        refine s_weak (ls2 := lsL i) (sv_wk_c (sv_wk_c (sv_wk_c (sv_wk_c (sv_wk_c (sv_wk_n (sv_wk_n sv_wk_0))))))) ?_
        refine s_widen (by omega) (by omega) (kk σ2 (op_less S a1 a2 a3 a4).2.2 ?_ ?_ ?_)
        · exact q3
        · exact q2.low q3 m4
        · exact q5
      · exact absurd (cmpL_eq.mpr (by rw [m4 228 0 (by decide), q1, q4])) c3
  · exfalso; omega
set_option maxRecDepth 100000 in
set_option maxHeartbeats 8000000 in
theorem law_5 {X : sx_T} {E : sv_E} {Q : State → Prop} {L : Nat} {xs : Nat → Int32} {u w : Nat} {σ : sv_G} {S : st_T} {i : Int} {tb9 : List ExceptionTableEntry} (C : sx_ok X E (DL tb9)) (hX : sv_X X E L xs) (hL9 : L ≤ 20000) (hu : u + 6 ≤ 601024 ∧ w + 36 ≤ 7293034) (hi : 0 ≤ i ∧ i + 6 ≤ L) (hS : StOK S) (hN : RN σ S) (hO : RO σ S) (kk : ∀ (σ9 : sv_G) (S9 : st_T), StOK S9 → RN σ9 S9 → RO σ9 S9 → SW X E Q (u + 6) (w + 36) 2377 (lsL i) [] σ9) : SW X E Q u w 612 (lsL i) [] σ := by
  obtain ⟨a1, ha1⟩ : ∃ z : Int, z = (xs (i + 1).toNat).toInt := ⟨_, rfl⟩
  have r1 : -2147483648 ≤ a1 ∧ a1 ≤ 2147483647 := by rw [ha1]; exact i32_rng _
  obtain ⟨a2, ha2⟩ : ∃ z : Int, z = (xs (i + 2).toNat).toInt := ⟨_, rfl⟩
  have r2 : -2147483648 ≤ a2 ∧ a2 ≤ 2147483647 := by rw [ha2]; exact i32_rng _
  obtain ⟨a3, ha3⟩ : ∃ z : Int, z = (xs (i + 3).toNat).toInt := ⟨_, rfl⟩
  have r3 : -2147483648 ≤ a3 ∧ a3 ≤ 2147483647 := by rw [ha3]; exact i32_rng _
  obtain ⟨a4, ha4⟩ : ∃ z : Int, z = (xs (i + 4).toNat).toInt := ⟨_, rfl⟩
  have r4 : -2147483648 ≤ a4 ∧ a4 ≤ 2147483647 := by rw [ha4]; exact i32_rng _
  refine s_aload_n C dL_law_612 rfl ?_
  refine s_aloadS_n C dL_law_613 rfl ?_
  refine s_iload C dL_law_614 rfl ?_
  refine s_iconst C dL_law_616 ?_
  refine s_iadd C dL_law_617 ?_
  refine s_sld C hX (by omega) dL_law_618 (by omega) ?_
  rw [← ha1]
  refine s_aloadS_n C dL_law_619 rfl ?_
  refine s_iload C dL_law_620 rfl ?_
  refine s_iconst C dL_law_622 ?_
  refine s_iadd C dL_law_623 ?_
  refine s_sld C hX (by omega) dL_law_624 (by omega) ?_
  rw [← ha2]
  refine s_aloadS_n C dL_law_625 rfl ?_
  refine s_iload C dL_law_626 rfl ?_
  refine s_iconst C dL_law_628 ?_
  refine s_iadd C dL_law_629 ?_
  refine s_sld C hX (by omega) dL_law_630 (by omega) ?_
  rw [← ha3]
  refine s_aloadS_n C dL_law_631 rfl ?_
  refine s_iload C dL_law_632 rfl ?_
  refine s_iconst C dL_law_634 ?_
  refine s_iadd C dL_law_635 ?_
  refine s_sld C hX (by omega) dL_law_636 (by omega) ?_
  rw [← ha4]
  refine s_aload_n C dL_law_637 rfl ?_
  refine s_cW6i (u2 := u + 5) (w2 := w + 30) C dL_law_638 lkL_130 moL_form mvL_form (kL_form hS hN r1 r2 r3 r4) (Nat.le_of_ble_eq_true rfl) (Nat.le_of_ble_eq_true rfl) ⟨rfl, rfl⟩ ⟨(show u + 5 ≤ 601024 by omega), (show w + 30 ≤ 7293034 by omega)⟩ (fun k9 σ1 hp => ?_)
  have hop : 0 ≤ (op_form S a1 a2 a3 a4).1 ∧ (op_form S a1 a2 a3 a4).1 ≤ 3 := by unfold op_form; dsimp only; (repeat' split) <;> omega
  obtain ⟨p1, p2, p3, p4⟩ := hp
  have hO1 := hO.out p4
  refine s_istore (ls2 := [some vS, some (vR 0), some (vR 195), some (vR 228), some (vI i), some (vI k9), none]) C dL_law_641 (show 5 < 7 by decide) rfl ?_
  refine s_aload_n C dL_law_643 rfl ?_
  refine s_aloadS_n C dL_law_644 rfl ?_
  refine s_iload C dL_law_645 rfl ?_
  refine s_iconst C dL_law_647 ?_
  refine s_iadd C dL_law_648 ?_
  refine s_sld C hX (by omega) dL_law_649 (by omega) ?_
  rw [← ha1]
  refine s_aloadS_n C dL_law_650 rfl ?_
  refine s_iload C dL_law_651 rfl ?_
  refine s_iconst C dL_law_653 ?_
  refine s_iadd C dL_law_654 ?_
  refine s_sld C hX (by omega) dL_law_655 (by omega) ?_
  rw [← ha2]
  refine s_aloadS_n C dL_law_656 rfl ?_
  refine s_iload C dL_law_657 rfl ?_
  refine s_iconst C dL_law_659 ?_
  refine s_iadd C dL_law_660 ?_
  refine s_sld C hX (by omega) dL_law_661 (by omega) ?_
  rw [← ha3]
  refine s_aloadS_n C dL_law_662 rfl ?_
  refine s_iload C dL_law_663 rfl ?_
  refine s_iconst C dL_law_665 ?_
  refine s_iadd C dL_law_666 ?_
  refine s_sld C hX (by omega) dL_law_667 (by omega) ?_
  rw [← ha4]
  refine s_cV4i C dL_law_668 lkL_132 moX8_form mvX8_form (kX8_form hS hO1 r1 r2 r3 r4) sh_195 ⟨_, _, rfl⟩ (Nat.le_of_ble_eq_true rfl) (Nat.le_of_ble_eq_true rfl) rfl ⟨(show u + 5 ≤ 601024 by omega), (show w + 30 ≤ 7293034 by omega)⟩ (fun b9 σ2 hm => ?_)
  obtain ⟨m1, m2, m3, m4⟩ := hm
  refine s_istore (ls2 := [some vS, some (vR 0), some (vR 195), some (vR 228), some (vI i), some (vI k9), some (vI b9)]) C dL_law_671 (show 6 < 7 by decide) rfl ?_
  refine s_aload_n C dL_law_673 rfl ?_
  refine s_cV0i C dL_law_674 lkL_111 moX8_thrown mvX8_thrown kX8_thrown sh_195 ⟨_, _, rfl⟩ (Nat.le_of_ble_eq_true rfl) (Nat.le_of_ble_eq_true rfl) rfl ⟨(show u + 5 ≤ 601024 by omega), (show w + 30 ≤ 7293034 by omega)⟩ (kpI (fun t9 ht => ?_))
  refine s_iload C dL_law_677 rfl ?_
  refine s_icmp_eq (tgt := 684) C dL_law_679 (by decide) (by omega) (by omega) (fun c1 => ?_) (fun c1 => ?_)
  · refine s_iload C dL_law_684 rfl ?_
    refine s_if_ne (tgt := 701) C dL_law_686 (by decide) (by omega) (fun c2 => ?_) (fun c2 => ?_)
    · refine s_goto (tgt := 2377) C dL_law_701 (by decide) ?_
      refine s_weak (ls2 := lsL i) (sv_wk_c (sv_wk_c (sv_wk_c (sv_wk_c (sv_wk_c (sv_wk_n (sv_wk_n sv_wk_0))))))) ?_
      refine s_widen (by omega) (by omega) (kk σ2 S ?_ ?_ ?_)
      · exact hS
      · exact (p3 (by omega)).low hS m4
      · exact m3 (by omega)
    · refine s_aload_n C dL_law_689 rfl ?_
      have h0 : (op_form S a1 a2 a3 a4).1 = 0 := by omega
      obtain ⟨q1, q2, q3⟩ := p2 h0
      obtain ⟨q4, q5⟩ := m2 h0
      refine s_iconst C dL_law_690 ?_
      refine s_lald C dL_law_691 sh_228 (by decide) (fun g9 => ?_)
      refine s_iload C dL_law_692 rfl ?_
      refine s_asI (wrI_ofInt _) ?_
      refine s_i2l C dL_law_694 (wrI_rng _) ?_
      refine s_lcmp C dL_law_695 (by omega) (by have z := wrI_rng b9; omega) ?_
      refine s_if_eq (tgt := 701) C dL_law_696 (by decide) cmpL_rng (fun c3 => ?_) (fun c3 => ?_)
      · refine s_goto (tgt := 2377) C dL_law_701 (by decide) ?_
        refine s_weak (ls2 := lsL i) (sv_wk_c (sv_wk_c (sv_wk_c (sv_wk_c (sv_wk_c (sv_wk_n (sv_wk_n sv_wk_0))))))) ?_
        refine s_widen (by omega) (by omega) (kk σ2 (op_form S a1 a2 a3 a4).2.2 ?_ ?_ ?_)
        · exact q3
        · exact q2.low q3 m4
        · exact q5
      · exact absurd (cmpL_eq.mpr (by rw [m4 228 0 (by decide), q1, q4])) c3
  · exfalso; omega
set_option maxRecDepth 100000 in
set_option maxHeartbeats 8000000 in
theorem law_6 {X : sx_T} {E : sv_E} {Q : State → Prop} {L : Nat} {xs : Nat → Int32} {u w : Nat} {σ : sv_G} {S : st_T} {i : Int} {tb9 : List ExceptionTableEntry} (C : sx_ok X E (DL tb9)) (hX : sv_X X E L xs) (hL9 : L ≤ 20000) (hu : u + 6 ≤ 601024 ∧ w + 36 ≤ 7293034) (hi : 0 ≤ i ∧ i + 6 ≤ L) (hS : StOK S) (hN : RN σ S) (hO : RO σ S) (kk : ∀ (σ9 : sv_G) (S9 : st_T), StOK S9 → RN σ9 S9 → RO σ9 S9 → SW X E Q (u + 6) (w + 36) 2377 (lsL i) [] σ9) : SW X E Q u w 704 (lsL i) [] σ := by
  obtain ⟨a1, ha1⟩ : ∃ z : Int, z = (xs (i + 1).toNat).toInt := ⟨_, rfl⟩
  have r1 : -2147483648 ≤ a1 ∧ a1 ≤ 2147483647 := by rw [ha1]; exact i32_rng _
  obtain ⟨a2, ha2⟩ : ∃ z : Int, z = (xs (i + 2).toNat).toInt := ⟨_, rfl⟩
  have r2 : -2147483648 ≤ a2 ∧ a2 ≤ 2147483647 := by rw [ha2]; exact i32_rng _
  refine s_aload_n C dL_law_704 rfl ?_
  refine s_aloadS_n C dL_law_705 rfl ?_
  refine s_iload C dL_law_706 rfl ?_
  refine s_iconst C dL_law_708 ?_
  refine s_iadd C dL_law_709 ?_
  refine s_sld C hX (by omega) dL_law_710 (by omega) ?_
  rw [← ha1]
  refine s_aloadS_n C dL_law_711 rfl ?_
  refine s_iload C dL_law_712 rfl ?_
  refine s_iconst C dL_law_714 ?_
  refine s_iadd C dL_law_715 ?_
  refine s_sld C hX (by omega) dL_law_716 (by omega) ?_
  rw [← ha2]
  refine s_aload_n C dL_law_717 rfl ?_
  refine s_cW4i (u2 := u + 2) (w2 := w + 12) C dL_law_718 lkL_133 moL_ordinal mvL_ordinal (kL_ordinal hS hN r1 r2) (Nat.le_of_ble_eq_true rfl) (Nat.le_of_ble_eq_true rfl) ⟨rfl, rfl⟩ ⟨(show u + 2 ≤ 601024 by omega), (show w + 12 ≤ 7293034 by omega)⟩ (fun k9 σ1 hp => ?_)
  have hop : 0 ≤ (op_ordinal S a1 a2).1 ∧ (op_ordinal S a1 a2).1 ≤ 3 := by unfold op_ordinal; dsimp only; (repeat' split) <;> omega
  obtain ⟨p1, p2, p3, p4⟩ := hp
  have hO1 := hO.out p4
  refine s_istore (ls2 := [some vS, some (vR 0), some (vR 195), some (vR 228), some (vI i), some (vI k9), none]) C dL_law_721 (show 5 < 7 by decide) rfl ?_
  refine s_aload_n C dL_law_723 rfl ?_
  refine s_aloadS_n C dL_law_724 rfl ?_
  refine s_iload C dL_law_725 rfl ?_
  refine s_iconst C dL_law_727 ?_
  refine s_iadd C dL_law_728 ?_
  refine s_sld C hX (by omega) dL_law_729 (by omega) ?_
  rw [← ha1]
  refine s_aloadS_n C dL_law_730 rfl ?_
  refine s_iload C dL_law_731 rfl ?_
  refine s_iconst C dL_law_733 ?_
  refine s_iadd C dL_law_734 ?_
  refine s_sld C hX (by omega) dL_law_735 (by omega) ?_
  rw [← ha2]
  refine s_cV2i C dL_law_736 lkL_135 moX8_ordinal mvX8_ordinal (kX8_ordinal hS hO1 r1 r2) sh_195 ⟨_, _, rfl⟩ (Nat.le_of_ble_eq_true rfl) (Nat.le_of_ble_eq_true rfl) rfl ⟨(show u + 2 ≤ 601024 by omega), (show w + 12 ≤ 7293034 by omega)⟩ (fun b9 σ2 hm => ?_)
  obtain ⟨m1, m2, m3, m4⟩ := hm
  refine s_istore (ls2 := [some vS, some (vR 0), some (vR 195), some (vR 228), some (vI i), some (vI k9), some (vI b9)]) C dL_law_739 (show 6 < 7 by decide) rfl ?_
  refine s_aload_n C dL_law_741 rfl ?_
  refine s_cV0i C dL_law_742 lkL_111 moX8_thrown mvX8_thrown kX8_thrown sh_195 ⟨_, _, rfl⟩ (Nat.le_of_ble_eq_true rfl) (Nat.le_of_ble_eq_true rfl) rfl ⟨(show u + 2 ≤ 601024 by omega), (show w + 12 ≤ 7293034 by omega)⟩ (kpI (fun t9 ht => ?_))
  refine s_iload C dL_law_745 rfl ?_
  refine s_icmp_eq (tgt := 752) C dL_law_747 (by decide) (by omega) (by omega) (fun c1 => ?_) (fun c1 => ?_)
  · refine s_iload C dL_law_752 rfl ?_
    refine s_if_ne (tgt := 769) C dL_law_754 (by decide) (by omega) (fun c2 => ?_) (fun c2 => ?_)
    · refine s_goto (tgt := 2377) C dL_law_769 (by decide) ?_
      refine s_weak (ls2 := lsL i) (sv_wk_c (sv_wk_c (sv_wk_c (sv_wk_c (sv_wk_c (sv_wk_n (sv_wk_n sv_wk_0))))))) ?_
      refine s_widen (by omega) (by omega) (kk σ2 S ?_ ?_ ?_)
      · exact hS
      · exact (p3 (by omega)).low hS m4
      · exact m3 (by omega)
    · refine s_aload_n C dL_law_757 rfl ?_
      have h0 : (op_ordinal S a1 a2).1 = 0 := by omega
      obtain ⟨q1, q2, q3⟩ := p2 h0
      obtain ⟨q4, q5⟩ := m2 h0
      refine s_iconst C dL_law_758 ?_
      refine s_lald C dL_law_759 sh_228 (by decide) (fun g9 => ?_)
      refine s_iload C dL_law_760 rfl ?_
      refine s_asI (wrI_ofInt _) ?_
      refine s_i2l C dL_law_762 (wrI_rng _) ?_
      refine s_lcmp C dL_law_763 (by omega) (by have z := wrI_rng b9; omega) ?_
      refine s_if_eq (tgt := 769) C dL_law_764 (by decide) cmpL_rng (fun c3 => ?_) (fun c3 => ?_)
      · refine s_goto (tgt := 2377) C dL_law_769 (by decide) ?_
        refine s_weak (ls2 := lsL i) (sv_wk_c (sv_wk_c (sv_wk_c (sv_wk_c (sv_wk_c (sv_wk_n (sv_wk_n sv_wk_0))))))) ?_
        refine s_widen (by omega) (by omega) (kk σ2 (op_ordinal S a1 a2).2.2 ?_ ?_ ?_)
        · exact q3
        · exact q2.low q3 m4
        · exact q5
      · exact absurd (cmpL_eq.mpr (by rw [m4 228 0 (by decide), q1, q4])) c3
  · exfalso; omega
set_option maxRecDepth 100000 in
set_option maxHeartbeats 8000000 in
theorem law_7 {X : sx_T} {E : sv_E} {Q : State → Prop} {L : Nat} {xs : Nat → Int32} {u w : Nat} {σ : sv_G} {S : st_T} {i : Int} {tb9 : List ExceptionTableEntry} (C : sx_ok X E (DL tb9)) (hX : sv_X X E L xs) (hL9 : L ≤ 20000) (hu : u + 6 ≤ 601024 ∧ w + 36 ≤ 7293034) (hi : 0 ≤ i ∧ i + 6 ≤ L) (hS : StOK S) (hN : RN σ S) (hO : RO σ S) (kk : ∀ (σ9 : sv_G) (S9 : st_T), StOK S9 → RN σ9 S9 → RO σ9 S9 → SW X E Q (u + 6) (w + 36) 2377 (lsL i) [] σ9) : SW X E Q u w 772 (lsL i) [] σ := by
  obtain ⟨a1, ha1⟩ : ∃ z : Int, z = (xs (i + 1).toNat).toInt := ⟨_, rfl⟩
  have r1 : -2147483648 ≤ a1 ∧ a1 ≤ 2147483647 := by rw [ha1]; exact i32_rng _
  obtain ⟨a2, ha2⟩ : ∃ z : Int, z = (xs (i + 2).toNat).toInt := ⟨_, rfl⟩
  have r2 : -2147483648 ≤ a2 ∧ a2 ≤ 2147483647 := by rw [ha2]; exact i32_rng _
  obtain ⟨a3, ha3⟩ : ∃ z : Int, z = (xs (i + 3).toNat).toInt := ⟨_, rfl⟩
  have r3 : -2147483648 ≤ a3 ∧ a3 ≤ 2147483647 := by rw [ha3]; exact i32_rng _
  obtain ⟨a4, ha4⟩ : ∃ z : Int, z = (xs (i + 4).toNat).toInt := ⟨_, rfl⟩
  have r4 : -2147483648 ≤ a4 ∧ a4 ≤ 2147483647 := by rw [ha4]; exact i32_rng _
  refine s_aload_n C dL_law_772 rfl ?_
  refine s_aloadS_n C dL_law_773 rfl ?_
  refine s_iload C dL_law_774 rfl ?_
  refine s_iconst C dL_law_776 ?_
  refine s_iadd C dL_law_777 ?_
  refine s_sld C hX (by omega) dL_law_778 (by omega) ?_
  rw [← ha1]
  refine s_aloadS_n C dL_law_779 rfl ?_
  refine s_iload C dL_law_780 rfl ?_
  refine s_iconst C dL_law_782 ?_
  refine s_iadd C dL_law_783 ?_
  refine s_sld C hX (by omega) dL_law_784 (by omega) ?_
  rw [← ha2]
  refine s_aloadS_n C dL_law_785 rfl ?_
  refine s_iload C dL_law_786 rfl ?_
  refine s_iconst C dL_law_788 ?_
  refine s_iadd C dL_law_789 ?_
  refine s_sld C hX (by omega) dL_law_790 (by omega) ?_
  rw [← ha3]
  refine s_aloadS_n C dL_law_791 rfl ?_
  refine s_iload C dL_law_792 rfl ?_
  refine s_iconst C dL_law_794 ?_
  refine s_iadd C dL_law_795 ?_
  refine s_sld C hX (by omega) dL_law_796 (by omega) ?_
  rw [← ha4]
  refine s_aload_n C dL_law_797 rfl ?_
  refine s_cW6i (u2 := u + 5) (w2 := w + 30) C dL_law_798 lkL_136 moL_seam mvL_seam (kL_seam hS hN r1 r2 r3 r4) (Nat.le_of_ble_eq_true rfl) (Nat.le_of_ble_eq_true rfl) ⟨rfl, rfl⟩ ⟨(show u + 5 ≤ 601024 by omega), (show w + 30 ≤ 7293034 by omega)⟩ (fun k9 σ1 hp => ?_)
  have hop : 0 ≤ (op_seam S a1 a2 a3 a4).1 ∧ (op_seam S a1 a2 a3 a4).1 ≤ 3 := by unfold op_seam; dsimp only; (repeat' split) <;> omega
  obtain ⟨p1, p2, p3, p4⟩ := hp
  have hO1 := hO.out p4
  refine s_istore (ls2 := [some vS, some (vR 0), some (vR 195), some (vR 228), some (vI i), some (vI k9), none]) C dL_law_801 (show 5 < 7 by decide) rfl ?_
  refine s_aload_n C dL_law_803 rfl ?_
  refine s_aloadS_n C dL_law_804 rfl ?_
  refine s_iload C dL_law_805 rfl ?_
  refine s_iconst C dL_law_807 ?_
  refine s_iadd C dL_law_808 ?_
  refine s_sld C hX (by omega) dL_law_809 (by omega) ?_
  rw [← ha1]
  refine s_aloadS_n C dL_law_810 rfl ?_
  refine s_iload C dL_law_811 rfl ?_
  refine s_iconst C dL_law_813 ?_
  refine s_iadd C dL_law_814 ?_
  refine s_sld C hX (by omega) dL_law_815 (by omega) ?_
  rw [← ha2]
  refine s_aloadS_n C dL_law_816 rfl ?_
  refine s_iload C dL_law_817 rfl ?_
  refine s_iconst C dL_law_819 ?_
  refine s_iadd C dL_law_820 ?_
  refine s_sld C hX (by omega) dL_law_821 (by omega) ?_
  rw [← ha3]
  refine s_aloadS_n C dL_law_822 rfl ?_
  refine s_iload C dL_law_823 rfl ?_
  refine s_iconst C dL_law_825 ?_
  refine s_iadd C dL_law_826 ?_
  refine s_sld C hX (by omega) dL_law_827 (by omega) ?_
  rw [← ha4]
  refine s_cV4i C dL_law_828 lkL_138 moX8_seam mvX8_seam (kX8_seam hS hO1 r1 r2 r3 r4) sh_195 ⟨_, _, rfl⟩ (Nat.le_of_ble_eq_true rfl) (Nat.le_of_ble_eq_true rfl) rfl ⟨(show u + 5 ≤ 601024 by omega), (show w + 30 ≤ 7293034 by omega)⟩ (fun b9 σ2 hm => ?_)
  obtain ⟨m1, m2, m3, m4⟩ := hm
  refine s_istore (ls2 := [some vS, some (vR 0), some (vR 195), some (vR 228), some (vI i), some (vI k9), some (vI b9)]) C dL_law_831 (show 6 < 7 by decide) rfl ?_
  refine s_aload_n C dL_law_833 rfl ?_
  refine s_cV0i C dL_law_834 lkL_111 moX8_thrown mvX8_thrown kX8_thrown sh_195 ⟨_, _, rfl⟩ (Nat.le_of_ble_eq_true rfl) (Nat.le_of_ble_eq_true rfl) rfl ⟨(show u + 5 ≤ 601024 by omega), (show w + 30 ≤ 7293034 by omega)⟩ (kpI (fun t9 ht => ?_))
  refine s_iload C dL_law_837 rfl ?_
  refine s_icmp_eq (tgt := 844) C dL_law_839 (by decide) (by omega) (by omega) (fun c1 => ?_) (fun c1 => ?_)
  · refine s_iload C dL_law_844 rfl ?_
    refine s_if_ne (tgt := 861) C dL_law_846 (by decide) (by omega) (fun c2 => ?_) (fun c2 => ?_)
    · refine s_goto (tgt := 2377) C dL_law_861 (by decide) ?_
      refine s_weak (ls2 := lsL i) (sv_wk_c (sv_wk_c (sv_wk_c (sv_wk_c (sv_wk_c (sv_wk_n (sv_wk_n sv_wk_0))))))) ?_
      refine s_widen (by omega) (by omega) (kk σ2 S ?_ ?_ ?_)
      · exact hS
      · exact (p3 (by omega)).low hS m4
      · exact m3 (by omega)
    · refine s_aload_n C dL_law_849 rfl ?_
      have h0 : (op_seam S a1 a2 a3 a4).1 = 0 := by omega
      obtain ⟨q1, q2, q3⟩ := p2 h0
      obtain ⟨q4, q5⟩ := m2 h0
      refine s_iconst C dL_law_850 ?_
      refine s_lald C dL_law_851 sh_228 (by decide) (fun g9 => ?_)
      refine s_iload C dL_law_852 rfl ?_
      refine s_asI (wrI_ofInt _) ?_
      refine s_i2l C dL_law_854 (wrI_rng _) ?_
      refine s_lcmp C dL_law_855 (by omega) (by have z := wrI_rng b9; omega) ?_
      refine s_if_eq (tgt := 861) C dL_law_856 (by decide) cmpL_rng (fun c3 => ?_) (fun c3 => ?_)
      · refine s_goto (tgt := 2377) C dL_law_861 (by decide) ?_
        refine s_weak (ls2 := lsL i) (sv_wk_c (sv_wk_c (sv_wk_c (sv_wk_c (sv_wk_c (sv_wk_n (sv_wk_n sv_wk_0))))))) ?_
        refine s_widen (by omega) (by omega) (kk σ2 (op_seam S a1 a2 a3 a4).2.2 ?_ ?_ ?_)
        · exact q3
        · exact q2.low q3 m4
        · exact q5
      · exact absurd (cmpL_eq.mpr (by rw [m4 228 0 (by decide), q1, q4])) c3
  · exfalso; omega
set_option maxRecDepth 100000 in
set_option maxHeartbeats 8000000 in
theorem law_8 {X : sx_T} {E : sv_E} {Q : State → Prop} {L : Nat} {xs : Nat → Int32} {u w : Nat} {σ : sv_G} {S : st_T} {i : Int} {tb9 : List ExceptionTableEntry} (C : sx_ok X E (DL tb9)) (hX : sv_X X E L xs) (hL9 : L ≤ 20000) (hu : u + 6 ≤ 601024 ∧ w + 36 ≤ 7293034) (hi : 0 ≤ i ∧ i + 6 ≤ L) (hS : StOK S) (hN : RN σ S) (hO : RO σ S) (kk : ∀ (σ9 : sv_G) (S9 : st_T), StOK S9 → RN σ9 S9 → RO σ9 S9 → SW X E Q (u + 6) (w + 36) 2377 (lsL i) [] σ9) : SW X E Q u w 864 (lsL i) [] σ := by
  obtain ⟨a1, ha1⟩ : ∃ z : Int, z = (xs (i + 1).toNat).toInt := ⟨_, rfl⟩
  have r1 : -2147483648 ≤ a1 ∧ a1 ≤ 2147483647 := by rw [ha1]; exact i32_rng _
  refine s_aload_n C dL_law_864 rfl ?_
  refine s_aloadS_n C dL_law_865 rfl ?_
  refine s_iload C dL_law_866 rfl ?_
  refine s_iconst C dL_law_868 ?_
  refine s_iadd C dL_law_869 ?_
  refine s_sld C hX (by omega) dL_law_870 (by omega) ?_
  rw [← ha1]
  refine s_aload_n C dL_law_871 rfl ?_
  refine s_cW3i (u2 := u + 1) (w2 := w + 6) C dL_law_872 lkL_139 moL_empty mvL_empty (kL_empty hS hN r1) (Nat.le_of_ble_eq_true rfl) (Nat.le_of_ble_eq_true rfl) ⟨rfl, rfl⟩ ⟨(show u + 1 ≤ 601024 by omega), (show w + 6 ≤ 7293034 by omega)⟩ (fun k9 σ1 hp => ?_)
  have hop : 0 ≤ (op_empty S a1).1 ∧ (op_empty S a1).1 ≤ 3 := by unfold op_empty; dsimp only; (repeat' split) <;> omega
  obtain ⟨p1, p2, p3, p4⟩ := hp
  have hO1 := hO.out p4
  refine s_istore (ls2 := [some vS, some (vR 0), some (vR 195), some (vR 228), some (vI i), some (vI k9), none]) C dL_law_875 (show 5 < 7 by decide) rfl ?_
  refine s_aload_n C dL_law_877 rfl ?_
  refine s_aloadS_n C dL_law_878 rfl ?_
  refine s_iload C dL_law_879 rfl ?_
  refine s_iconst C dL_law_881 ?_
  refine s_iadd C dL_law_882 ?_
  refine s_sld C hX (by omega) dL_law_883 (by omega) ?_
  rw [← ha1]
  refine s_cV1i C dL_law_884 lkL_142 moX8_empty mvX8_empty (kX8_empty hS hO1 r1) sh_195 ⟨_, _, rfl⟩ (Nat.le_of_ble_eq_true rfl) (Nat.le_of_ble_eq_true rfl) rfl ⟨(show u + 1 ≤ 601024 by omega), (show w + 6 ≤ 7293034 by omega)⟩ (fun b9 σ2 hm => ?_)
  obtain ⟨m1, m2, m3, m4⟩ := hm
  refine s_istore (ls2 := [some vS, some (vR 0), some (vR 195), some (vR 228), some (vI i), some (vI k9), some (vI b9)]) C dL_law_887 (show 6 < 7 by decide) rfl ?_
  refine s_aload_n C dL_law_889 rfl ?_
  refine s_cV0i C dL_law_890 lkL_111 moX8_thrown mvX8_thrown kX8_thrown sh_195 ⟨_, _, rfl⟩ (Nat.le_of_ble_eq_true rfl) (Nat.le_of_ble_eq_true rfl) rfl ⟨(show u + 1 ≤ 601024 by omega), (show w + 6 ≤ 7293034 by omega)⟩ (kpI (fun t9 ht => ?_))
  refine s_iload C dL_law_893 rfl ?_
  refine s_icmp_eq (tgt := 900) C dL_law_895 (by decide) (by omega) (by omega) (fun c1 => ?_) (fun c1 => ?_)
  · refine s_iload C dL_law_900 rfl ?_
    refine s_if_ne (tgt := 917) C dL_law_902 (by decide) (by omega) (fun c2 => ?_) (fun c2 => ?_)
    · refine s_goto (tgt := 2377) C dL_law_917 (by decide) ?_
      refine s_weak (ls2 := lsL i) (sv_wk_c (sv_wk_c (sv_wk_c (sv_wk_c (sv_wk_c (sv_wk_n (sv_wk_n sv_wk_0))))))) ?_
      refine s_widen (by omega) (by omega) (kk σ2 S ?_ ?_ ?_)
      · exact hS
      · exact (p3 (by omega)).low hS m4
      · exact m3 (by omega)
    · refine s_aload_n C dL_law_905 rfl ?_
      have h0 : (op_empty S a1).1 = 0 := by omega
      obtain ⟨q1, q2, q3⟩ := p2 h0
      obtain ⟨q4, q5⟩ := m2 h0
      refine s_iconst C dL_law_906 ?_
      refine s_lald C dL_law_907 sh_228 (by decide) (fun g9 => ?_)
      refine s_iload C dL_law_908 rfl ?_
      refine s_asI (wrI_ofInt _) ?_
      refine s_i2l C dL_law_910 (wrI_rng _) ?_
      refine s_lcmp C dL_law_911 (by omega) (by have z := wrI_rng b9; omega) ?_
      refine s_if_eq (tgt := 917) C dL_law_912 (by decide) cmpL_rng (fun c3 => ?_) (fun c3 => ?_)
      · refine s_goto (tgt := 2377) C dL_law_917 (by decide) ?_
        refine s_weak (ls2 := lsL i) (sv_wk_c (sv_wk_c (sv_wk_c (sv_wk_c (sv_wk_c (sv_wk_n (sv_wk_n sv_wk_0))))))) ?_
        refine s_widen (by omega) (by omega) (kk σ2 (op_empty S a1).2.2 ?_ ?_ ?_)
        · exact q3
        · exact q2.low q3 m4
        · exact q5
      · exact absurd (cmpL_eq.mpr (by rw [m4 228 0 (by decide), q1, q4])) c3
  · exfalso; omega
set_option maxRecDepth 100000 in
set_option maxHeartbeats 8000000 in
theorem law_9 {X : sx_T} {E : sv_E} {Q : State → Prop} {L : Nat} {xs : Nat → Int32} {u w : Nat} {σ : sv_G} {S : st_T} {i : Int} {tb9 : List ExceptionTableEntry} (C : sx_ok X E (DL tb9)) (hX : sv_X X E L xs) (hL9 : L ≤ 20000) (hu : u + 6 ≤ 601024 ∧ w + 36 ≤ 7293034) (hi : 0 ≤ i ∧ i + 6 ≤ L) (hS : StOK S) (hN : RN σ S) (hO : RO σ S) (kk : ∀ (σ9 : sv_G) (S9 : st_T), StOK S9 → RN σ9 S9 → RO σ9 S9 → SW X E Q (u + 6) (w + 36) 2377 (lsL i) [] σ9) : SW X E Q u w 920 (lsL i) [] σ := by
  obtain ⟨a1, ha1⟩ : ∃ z : Int, z = (xs (i + 1).toNat).toInt := ⟨_, rfl⟩
  have r1 : -2147483648 ≤ a1 ∧ a1 ≤ 2147483647 := by rw [ha1]; exact i32_rng _
  obtain ⟨a2, ha2⟩ : ∃ z : Int, z = (xs (i + 2).toNat).toInt := ⟨_, rfl⟩
  have r2 : -2147483648 ≤ a2 ∧ a2 ≤ 2147483647 := by rw [ha2]; exact i32_rng _
  obtain ⟨a3, ha3⟩ : ∃ z : Int, z = (xs (i + 3).toNat).toInt := ⟨_, rfl⟩
  have r3 : -2147483648 ≤ a3 ∧ a3 ≤ 2147483647 := by rw [ha3]; exact i32_rng _
  refine s_aload_n C dL_law_920 rfl ?_
  refine s_aloadS_n C dL_law_921 rfl ?_
  refine s_iload C dL_law_922 rfl ?_
  refine s_iconst C dL_law_924 ?_
  refine s_iadd C dL_law_925 ?_
  refine s_sld C hX (by omega) dL_law_926 (by omega) ?_
  rw [← ha1]
  refine s_aloadS_n C dL_law_927 rfl ?_
  refine s_iload C dL_law_928 rfl ?_
  refine s_iconst C dL_law_930 ?_
  refine s_iadd C dL_law_931 ?_
  refine s_sld C hX (by omega) dL_law_932 (by omega) ?_
  rw [← ha2]
  refine s_aloadS_n C dL_law_933 rfl ?_
  refine s_iload C dL_law_934 rfl ?_
  refine s_iconst C dL_law_936 ?_
  refine s_iadd C dL_law_937 ?_
  refine s_sld C hX (by omega) dL_law_938 (by omega) ?_
  rw [← ha3]
  refine s_aload_n C dL_law_939 rfl ?_
  refine s_cW5i (u2 := u + 3) (w2 := w + 18) C dL_law_940 lkL_143 moL_say mvL_say (kL_say hS hN r1 r2 r3) (Nat.le_of_ble_eq_true rfl) (Nat.le_of_ble_eq_true rfl) ⟨rfl, rfl⟩ ⟨(show u + 3 ≤ 601024 by omega), (show w + 18 ≤ 7293034 by omega)⟩ (fun k9 σ1 hp => ?_)
  have hop : 0 ≤ (op_say S a1 a2 a3).1 ∧ (op_say S a1 a2 a3).1 ≤ 3 := by unfold op_say; dsimp only; (repeat' split) <;> omega
  obtain ⟨p1, p2, p3, p4⟩ := hp
  have hO1 := hO.out p4
  refine s_istore (ls2 := [some vS, some (vR 0), some (vR 195), some (vR 228), some (vI i), some (vI k9), none]) C dL_law_943 (show 5 < 7 by decide) rfl ?_
  refine s_aload_n C dL_law_945 rfl ?_
  refine s_aloadS_n C dL_law_946 rfl ?_
  refine s_iload C dL_law_947 rfl ?_
  refine s_iconst C dL_law_949 ?_
  refine s_iadd C dL_law_950 ?_
  refine s_sld C hX (by omega) dL_law_951 (by omega) ?_
  rw [← ha1]
  refine s_aloadS_n C dL_law_952 rfl ?_
  refine s_iload C dL_law_953 rfl ?_
  refine s_iconst C dL_law_955 ?_
  refine s_iadd C dL_law_956 ?_
  refine s_sld C hX (by omega) dL_law_957 (by omega) ?_
  rw [← ha2]
  refine s_aloadS_n C dL_law_958 rfl ?_
  refine s_iload C dL_law_959 rfl ?_
  refine s_iconst C dL_law_961 ?_
  refine s_iadd C dL_law_962 ?_
  refine s_sld C hX (by omega) dL_law_963 (by omega) ?_
  rw [← ha3]
  refine s_cV3i C dL_law_964 lkL_145 moX8_say mvX8_say (kX8_say hS hO1 r1 r2 r3) sh_195 ⟨_, _, rfl⟩ (Nat.le_of_ble_eq_true rfl) (Nat.le_of_ble_eq_true rfl) rfl ⟨(show u + 3 ≤ 601024 by omega), (show w + 18 ≤ 7293034 by omega)⟩ (fun b9 σ2 hm => ?_)
  obtain ⟨m1, m2, m3, m4⟩ := hm
  refine s_istore (ls2 := [some vS, some (vR 0), some (vR 195), some (vR 228), some (vI i), some (vI k9), some (vI b9)]) C dL_law_967 (show 6 < 7 by decide) rfl ?_
  refine s_aload_n C dL_law_969 rfl ?_
  refine s_cV0i C dL_law_970 lkL_111 moX8_thrown mvX8_thrown kX8_thrown sh_195 ⟨_, _, rfl⟩ (Nat.le_of_ble_eq_true rfl) (Nat.le_of_ble_eq_true rfl) rfl ⟨(show u + 3 ≤ 601024 by omega), (show w + 18 ≤ 7293034 by omega)⟩ (kpI (fun t9 ht => ?_))
  refine s_iload C dL_law_973 rfl ?_
  refine s_icmp_eq (tgt := 980) C dL_law_975 (by decide) (by omega) (by omega) (fun c1 => ?_) (fun c1 => ?_)
  · refine s_iload C dL_law_980 rfl ?_
    refine s_if_ne (tgt := 997) C dL_law_982 (by decide) (by omega) (fun c2 => ?_) (fun c2 => ?_)
    · refine s_goto (tgt := 2377) C dL_law_997 (by decide) ?_
      refine s_weak (ls2 := lsL i) (sv_wk_c (sv_wk_c (sv_wk_c (sv_wk_c (sv_wk_c (sv_wk_n (sv_wk_n sv_wk_0))))))) ?_
      refine s_widen (by omega) (by omega) (kk σ2 S ?_ ?_ ?_)
      · exact hS
      · exact (p3 (by omega)).low hS m4
      · exact m3 (by omega)
    · refine s_aload_n C dL_law_985 rfl ?_
      have h0 : (op_say S a1 a2 a3).1 = 0 := by omega
      obtain ⟨q1, q2, q3⟩ := p2 h0
      obtain ⟨q4, q5⟩ := m2 h0
      refine s_iconst C dL_law_986 ?_
      refine s_lald C dL_law_987 sh_228 (by decide) (fun g9 => ?_)
      refine s_iload C dL_law_988 rfl ?_
      refine s_asI (wrI_ofInt _) ?_
      refine s_i2l C dL_law_990 (wrI_rng _) ?_
      refine s_lcmp C dL_law_991 (by omega) (by have z := wrI_rng b9; omega) ?_
      refine s_if_eq (tgt := 997) C dL_law_992 (by decide) cmpL_rng (fun c3 => ?_) (fun c3 => ?_)
      · refine s_goto (tgt := 2377) C dL_law_997 (by decide) ?_
        refine s_weak (ls2 := lsL i) (sv_wk_c (sv_wk_c (sv_wk_c (sv_wk_c (sv_wk_c (sv_wk_n (sv_wk_n sv_wk_0))))))) ?_
        refine s_widen (by omega) (by omega) (kk σ2 (op_say S a1 a2 a3).2.2 ?_ ?_ ?_)
        · exact q3
        · exact q2.low q3 m4
        · exact q5
      · exact absurd (cmpL_eq.mpr (by rw [m4 228 0 (by decide), q1, q4])) c3
  · exfalso; omega
set_option maxRecDepth 100000 in
set_option maxHeartbeats 8000000 in
theorem law_10 {X : sx_T} {E : sv_E} {Q : State → Prop} {L : Nat} {xs : Nat → Int32} {u w : Nat} {σ : sv_G} {S : st_T} {i : Int} {tb9 : List ExceptionTableEntry} (C : sx_ok X E (DL tb9)) (hX : sv_X X E L xs) (hL9 : L ≤ 20000) (hu : u + 6 ≤ 601024 ∧ w + 36 ≤ 7293034) (hi : 0 ≤ i ∧ i + 6 ≤ L) (hS : StOK S) (hN : RN σ S) (hO : RO σ S) (kk : ∀ (σ9 : sv_G) (S9 : st_T), StOK S9 → RN σ9 S9 → RO σ9 S9 → SW X E Q (u + 6) (w + 36) 2377 (lsL i) [] σ9) : SW X E Q u w 1000 (lsL i) [] σ := by
  obtain ⟨a1, ha1⟩ : ∃ z : Int, z = (xs (i + 1).toNat).toInt := ⟨_, rfl⟩
  have r1 : -2147483648 ≤ a1 ∧ a1 ≤ 2147483647 := by rw [ha1]; exact i32_rng _
  obtain ⟨a2, ha2⟩ : ∃ z : Int, z = (xs (i + 2).toNat).toInt := ⟨_, rfl⟩
  have r2 : -2147483648 ≤ a2 ∧ a2 ≤ 2147483647 := by rw [ha2]; exact i32_rng _
  refine s_aload_n C dL_law_1000 rfl ?_
  refine s_aloadS_n C dL_law_1001 rfl ?_
  refine s_iload C dL_law_1002 rfl ?_
  refine s_iconst C dL_law_1004 ?_
  refine s_iadd C dL_law_1005 ?_
  refine s_sld C hX (by omega) dL_law_1006 (by omega) ?_
  rw [← ha1]
  refine s_aloadS_n C dL_law_1007 rfl ?_
  refine s_iload C dL_law_1008 rfl ?_
  refine s_iconst C dL_law_1010 ?_
  refine s_iadd C dL_law_1011 ?_
  refine s_sld C hX (by omega) dL_law_1012 (by omega) ?_
  rw [← ha2]
  refine s_aload_n C dL_law_1013 rfl ?_
  refine s_cW4i (u2 := u + 2) (w2 := w + 12) C dL_law_1014 lkL_146 moL_sayOrdinal mvL_sayOrdinal (kL_sayOrdinal hS hN r1 r2) (Nat.le_of_ble_eq_true rfl) (Nat.le_of_ble_eq_true rfl) ⟨rfl, rfl⟩ ⟨(show u + 2 ≤ 601024 by omega), (show w + 12 ≤ 7293034 by omega)⟩ (fun k9 σ1 hp => ?_)
  have hop : 0 ≤ (op_sayOrdinal S a1 a2).1 ∧ (op_sayOrdinal S a1 a2).1 ≤ 3 := by unfold op_sayOrdinal; dsimp only; (repeat' split) <;> omega
  obtain ⟨p1, p2, p3, p4⟩ := hp
  have hO1 := hO.out p4
  refine s_istore (ls2 := [some vS, some (vR 0), some (vR 195), some (vR 228), some (vI i), some (vI k9), none]) C dL_law_1017 (show 5 < 7 by decide) rfl ?_
  refine s_aload_n C dL_law_1019 rfl ?_
  refine s_aloadS_n C dL_law_1020 rfl ?_
  refine s_iload C dL_law_1021 rfl ?_
  refine s_iconst C dL_law_1023 ?_
  refine s_iadd C dL_law_1024 ?_
  refine s_sld C hX (by omega) dL_law_1025 (by omega) ?_
  rw [← ha1]
  refine s_aloadS_n C dL_law_1026 rfl ?_
  refine s_iload C dL_law_1027 rfl ?_
  refine s_iconst C dL_law_1029 ?_
  refine s_iadd C dL_law_1030 ?_
  refine s_sld C hX (by omega) dL_law_1031 (by omega) ?_
  rw [← ha2]
  refine s_cV2i C dL_law_1032 lkL_148 moX8_sayOrdinal mvX8_sayOrdinal (kX8_sayOrdinal hS hO1 r1 r2) sh_195 ⟨_, _, rfl⟩ (Nat.le_of_ble_eq_true rfl) (Nat.le_of_ble_eq_true rfl) rfl ⟨(show u + 2 ≤ 601024 by omega), (show w + 12 ≤ 7293034 by omega)⟩ (fun b9 σ2 hm => ?_)
  obtain ⟨m1, m2, m3, m4⟩ := hm
  refine s_istore (ls2 := [some vS, some (vR 0), some (vR 195), some (vR 228), some (vI i), some (vI k9), some (vI b9)]) C dL_law_1035 (show 6 < 7 by decide) rfl ?_
  refine s_aload_n C dL_law_1037 rfl ?_
  refine s_cV0i C dL_law_1038 lkL_111 moX8_thrown mvX8_thrown kX8_thrown sh_195 ⟨_, _, rfl⟩ (Nat.le_of_ble_eq_true rfl) (Nat.le_of_ble_eq_true rfl) rfl ⟨(show u + 2 ≤ 601024 by omega), (show w + 12 ≤ 7293034 by omega)⟩ (kpI (fun t9 ht => ?_))
  refine s_iload C dL_law_1041 rfl ?_
  refine s_icmp_eq (tgt := 1048) C dL_law_1043 (by decide) (by omega) (by omega) (fun c1 => ?_) (fun c1 => ?_)
  · refine s_iload C dL_law_1048 rfl ?_
    refine s_if_ne (tgt := 1065) C dL_law_1050 (by decide) (by omega) (fun c2 => ?_) (fun c2 => ?_)
    · refine s_goto (tgt := 2377) C dL_law_1065 (by decide) ?_
      refine s_weak (ls2 := lsL i) (sv_wk_c (sv_wk_c (sv_wk_c (sv_wk_c (sv_wk_c (sv_wk_n (sv_wk_n sv_wk_0))))))) ?_
      refine s_widen (by omega) (by omega) (kk σ2 S ?_ ?_ ?_)
      · exact hS
      · exact (p3 (by omega)).low hS m4
      · exact m3 (by omega)
    · refine s_aload_n C dL_law_1053 rfl ?_
      have h0 : (op_sayOrdinal S a1 a2).1 = 0 := by omega
      obtain ⟨q1, q2, q3⟩ := p2 h0
      obtain ⟨q4, q5⟩ := m2 h0
      refine s_iconst C dL_law_1054 ?_
      refine s_lald C dL_law_1055 sh_228 (by decide) (fun g9 => ?_)
      refine s_iload C dL_law_1056 rfl ?_
      refine s_asI (wrI_ofInt _) ?_
      refine s_i2l C dL_law_1058 (wrI_rng _) ?_
      refine s_lcmp C dL_law_1059 (by omega) (by have z := wrI_rng b9; omega) ?_
      refine s_if_eq (tgt := 1065) C dL_law_1060 (by decide) cmpL_rng (fun c3 => ?_) (fun c3 => ?_)
      · refine s_goto (tgt := 2377) C dL_law_1065 (by decide) ?_
        refine s_weak (ls2 := lsL i) (sv_wk_c (sv_wk_c (sv_wk_c (sv_wk_c (sv_wk_c (sv_wk_n (sv_wk_n sv_wk_0))))))) ?_
        refine s_widen (by omega) (by omega) (kk σ2 (op_sayOrdinal S a1 a2).2.2 ?_ ?_ ?_)
        · exact q3
        · exact q2.low q3 m4
        · exact q5
      · exact absurd (cmpL_eq.mpr (by rw [m4 228 0 (by decide), q1, q4])) c3
  · exfalso; omega
