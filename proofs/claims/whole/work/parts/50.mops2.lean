def hbI (D : gd_T) (y a h m : Int) : Prop := (a = 0 ∧ h = 0) ∨ (a = 1 ∧ h = 1 ∧ hb D y = 1) ∨ (a = 1 ∧ h = 0 ∧ ∀ i, 0 ≤ i → i < m → i < gC D 1 → gB D i 0 ≠ y)
theorem hbI.keep {D : gd_T} {y a h m : Int} (q : hbI D y a h m) (h0 : h ≠ 0) : hbI D y a 1 (m + 1) := by
  rcases q with q | q | q
  · exact absurd q.2 h0
  · exact Or.inr (Or.inl ⟨q.1, rfl, q.2.2⟩)
  · exact absurd q.2.1 h0
theorem hbI.hit {D : gd_T} {y a m : Int} (ha : a = 1) (hm : 0 ≤ m ∧ m < gC D 1) (e : gB D m 0 = y) : hbI D y a 1 (m + 1) := Or.inr (Or.inl ⟨ha, rfl, hasR_1 m hm.1 (by omega) e⟩)
theorem hbI.miss {D : gd_T} {y a h m : Int} (q : hbI D y a h m) (h0 : h = 0) (ha : a = 1) (hn : gC D 1 ≤ m ∨ gB D m 0 ≠ y) : hbI D y a 0 (m + 1) := by
  rcases q with q | q | q
  · omega
  · omega
  · refine Or.inr (Or.inr ⟨ha, rfl, fun i h1 h2 h3 => ?_⟩)
    by_cases c : i = m
    · rw [c] at h3 ⊢
      rcases hn with z | z
      · omega
      · exact z
    · exact q.2.2 i h1 (by omega) h3
theorem hbI.fin {D : gd_T} {y a h m : Int} (q : hbI D y a h m) (hn : gC D 1 ≤ m) (h0 : 0 ≤ gC D 1) : (a = 0 ∧ h = 0) ∨ (a = 1 ∧ ((h = 1 ∧ hb D y = 1) ∨ (h = 0 ∧ hb D y = 0))) := by
  rcases q with q | q | q
  · exact Or.inl q
  · exact Or.inr ⟨q.1, Or.inl q.2⟩
  · exact Or.inr ⟨q.1, Or.inr ⟨q.2.1, hasR_0 fun i h1 h2 => q.2.2 i h1 (by omega) (by omega)⟩⟩
theorem hbI.zero {D : gd_T} {y a h m : Int} (q : hbI D y a h m) (ha : a = 0) : h = 0 := by
  rcases q with q | q | q
  · exact q.2
  · omega
  · omega

set_option maxRecDepth 100000 in
set_option maxHeartbeats 8000000 in
theorem kX8_base {E : sv_E} {σ : sv_G} {S : st_T} (hS : StOK S) (hO : RO σ S) {x : Int} (hx : -2147483648 ≤ x ∧ x ≤ 2147483647) {y : Int} (hy : -2147483648 ≤ y ∧ y ≤ 2147483647) {z : Int} (hz : -2147483648 ≤ z ∧ z ≤ 2147483647) {v : Int} (hv : -2147483648 ≤ v ∧ v ≤ 2147483647) {w : Int} (hw : -2147483648 ≤ w ∧ w ≤ 2147483647) : CT E MX8_base 2 [(vR 195), (vI x), (vI y), (vI z), (vI v), (vI w)] σ (PI fun r σ9 => moP σ σ9 S r (op_base S x y z v w)) := by
  refine CT.of (RX8, cX8_base, 10, (some .int), [], 2, 0, 0) rfl moX8_base (Nat.le_of_ble_eq_true rfl) (ls0 := [some (vR 195), some (vI x), some (vI y), some (vI z), some (vI v), some (vI w), none, none, none, none]) rfl ?_
  intro X Q C hR
  refine s_iload_n C dX8_base_0 rfl ?_
  refine s_cS1i C dX8_base_1 lkX8_114 moX8_isGrammar mvX8_isGrammar (kX8_isGrammar (by omega)) (by decide) (Nat.le_of_ble_eq_true rfl) rfl (by decide) (kpI (fun r1 hp1 => ?_))
  have hb1 := (hp1).b
  have J19 : ∀ (a : Int), (yn a (0 ≤ x ∧ x ≤ 3 ∧ 0 ≤ z ∧ z ≤ 199)) → SW X E Q 0 0 19 [some (vR 195), some (vI x), some (vI y), some (vI z), some (vI v), some (vI w), none, none, none, none] [(vI a)] σ := by
    intro a j19_0
    have hbj19_0 := j19_0.b
    refine s_istore (ls2 := [some (vR 195), some (vI x), some (vI y), some (vI z), some (vI v), some (vI w), some (vI a), none, none, none]) C dX8_base_19 (by decide) rfl ?_
    refine s_iload_n C dX8_base_21 rfl ?_
    refine s_iconst C dX8_base_22 ?_
    refine s_sipush C dX8_base_23 (by decide) ?_
    refine s_cS3i C dX8_base_26 lkX8_110 moX8_isIn mvX8_isIn (kX8_isIn (by omega) (by omega) (by omega)) (by decide) (Nat.le_of_ble_eq_true rfl) rfl (by decide) (kpI (fun r26 hp26 => ?_))
    have hb26 := (hp26).b
    have J59 : ∀ (b : Int), (yn b ((2 ≤ y ∧ y ≤ 5000) ∧ (1 ≤ v ∧ v ≤ 99) ∧ 0 ≤ w ∧ w ≤ 15)) → SW X E Q 0 0 59 [some (vR 195), some (vI x), some (vI y), some (vI z), some (vI v), some (vI w), some (vI a), none, none, none] [(vI b)] σ := by
      intro b j59_0
      have hbj59_0 := j59_0.b
      refine s_istore (ls2 := [some (vR 195), some (vI x), some (vI y), some (vI z), some (vI v), some (vI w), some (vI a), some (vI b), none, none]) C dX8_base_59 (by decide) rfl ?_
      refine s_iconst C dX8_base_61 ?_
      refine s_istore (ls2 := [some (vR 195), some (vI x), some (vI y), some (vI z), some (vI v), some (vI w), some (vI a), some (vI b), some (vI 0), none]) C dX8_base_62 (by decide) rfl ?_
      refine s_iconst C dX8_base_64 ?_
      refine s_istore (ls2 := [some (vR 195), some (vI x), some (vI y), some (vI z), some (vI v), some (vI w), some (vI a), some (vI b), some (vI 0), some (vI 0)]) C dX8_base_65 (by decide) rfl ?_
      have L67 : ∀ (n : Nat) (h : Int) (m : Int), (5 - m).toNat < n → (0 ≤ m ∧ m ≤ 5) → (hbI (sD S x) y a h m) → (0 ≤ h ∧ h ≤ 1) → SW X E Q 0 0 67 [some (vR 195), some (vI x), some (vI y), some (vI z), some (vI v), some (vI w), some (vI a), some (vI b), some (vI h), some (vI m)] [] σ := by
        intro n
        induction n with
        | zero => intro h m hm; exact absurd hm (Nat.not_lt_zero _)
        | succ n ih67 =>
          intro h m hm67 i67_0 i67_1 i67_2
          refine s_iload C dX8_base_67 rfl ?_
          refine s_iconst C dX8_base_69 ?_
          have J122 : ((a = 0 ∧ h = 0) ∨ (a = 1 ∧ ((h = 1 ∧ hb (sD S x) y = 1) ∨ (h = 0 ∧ hb (sD S x) y = 0)))) → SW X E Q 0 0 122 [some (vR 195), some (vI x), some (vI y), some (vI z), some (vI v), some (vI w), some (vI a), some (vI b), some (vI h), some (vI m)] [] σ := by
            intro  j122_0
            refine s_aload_n C dX8_base_122 rfl ?_
            refine s_iload C dX8_base_123 rfl ?_
            have J161 : ∀ (c : Int), (c = (op_base S x y z v w).1) → (0 ≤ c ∧ c ≤ 3) → SW X E Q 0 0 161 [some (vR 195), some (vI x), some (vI y), some (vI z), some (vI v), some (vI w), some (vI a), some (vI b), some (vI h), some (vI m)] [(vI c), (vR 195)] σ := by
              intro c j161_0 j161_1
              refine s_cV1i C dX8_base_161 lkX8_128 moX8_can mvX8_can (kX8_can (by omega)) sh_195 ⟨_, _, rfl⟩ (by decide) (Nat.le_of_ble_eq_true rfl) rfl (by decide) (fun r161 σ_161 hp161 => ?_)
              have hb161 := (hp161.2).b
              have hO2 := hO.t (can_T2 hp161.1)
              refine s_if_ne (tgt := 169) C dX8_base_164 (by decide) (by omega) (fun c164 => ?_) (fun c164 => ?_)
              · have y164 := (hp161.2).y (by omega)
                have h0 : (op_base S x y z v w).1 = 0 := by rw [← j161_0]; exact y164
                have hk := ifc3 (show (if ¬ (0 ≤ x ∧ x ≤ 3 ∧ 0 ≤ z ∧ z ≤ 199) then 1 else if ¬ ((2 ≤ y ∧ y ≤ 5000) ∧ (1 ≤ v ∧ v ≤ 99) ∧ 0 ≤ w ∧ w ≤ 15) then 2 else if hb (sD S x) y = 1 ∨ gC (sD S x) 1 = 5 then 3 else 0 : Int) = 0 from h0)
                have h37 : σ_161 195 37 = 0 := by rw [hp161.1, up_s]; exact y164
                have hD := hS.1 x (by omega) (by omega)
                have hM := hO2.1 x (by omega) (by omega)
                have hn0 := hD.2.2.1
                have hn1 := hD.2.2.2.1
                have hn2 := hD.2.2.2.2.1
                have hn3 := hD.2.2.2.2.2.1
                have hn4 := hD.2.2.2.2.2.2.1
                have e161 : σ_161 199 x = gC (sD S x) 1 := hM.2.1.1
                refine s_iconst C dX8_base_169 ?_
                refine s_iload_n C dX8_base_170 rfl ?_
                refine s_imul C dX8_base_171 ?_
                refine s_aload_n C dX8_base_172 rfl ?_
                refine s_getR (c := 8) C fl_8_19 dX8_base_173 sh_195 rfl rf_195_3 ?_
                refine s_iload_n C dX8_base_176 rfl ?_
                refine s_iald C dX8_base_177 sh_199 (by omega) (fun g177 => ?_)
                refine s_iadd C dX8_base_178 ?_
                refine s_topI (fun x9_179 ex9_179 => ?_)
                refine s_istore (ls2 := [some (vR 195), some (vI x), some (vI y), some (vI z), some (vI v), some (vI w), some (vI a), some (vI b), some (vI h), some (vI x9_179)]) C dX8_base_179 (by decide) rfl ?_
                refine s_aload_n C dX8_base_181 rfl ?_
                refine s_getR (c := 8) C fl_8_22 dX8_base_182 sh_195 rfl rf_195_4 ?_
                refine s_iload C dX8_base_185 rfl ?_
                refine s_iload_n C dX8_base_187 rfl ?_
                refine s_iast C dX8_base_188 sh_200 (by omega) (by omega) ?_
                refine s_nameG (fun σ_188 hσ_188 => ?_)
                refine s_aload_n C dX8_base_189 rfl ?_
                refine s_getR (c := 8) C fl_8_25 dX8_base_190 sh_195 rfl rf_195_5 ?_
                refine s_iload C dX8_base_193 rfl ?_
                refine s_iload_n C dX8_base_195 rfl ?_
                refine s_iast C dX8_base_196 sh_201 (by omega) (by omega) ?_
                refine s_nameG (fun σ_196 hσ_196 => ?_)
                refine s_aload_n C dX8_base_197 rfl ?_
                refine s_getR (c := 8) C fl_8_28 dX8_base_198 sh_195 rfl rf_195_6 ?_
                refine s_iload C dX8_base_201 rfl ?_
                refine s_iload C dX8_base_203 rfl ?_
                refine s_iast C dX8_base_205 sh_202 (by omega) (by omega) ?_
                refine s_nameG (fun σ_205 hσ_205 => ?_)
                refine s_aload_n C dX8_base_206 rfl ?_
                refine s_getR (c := 8) C fl_8_31 dX8_base_207 sh_195 rfl rf_195_7 ?_
                refine s_iload C dX8_base_210 rfl ?_
                refine s_iload C dX8_base_212 rfl ?_
                refine s_iast C dX8_base_214 sh_203 (by omega) (by omega) ?_
                refine s_nameG (fun σ_214 hσ_214 => ?_)
                refine s_aload_n C dX8_base_215 rfl ?_
                refine s_getR (c := 8) C fl_8_34 dX8_base_216 sh_195 rfl rf_195_8 ?_
                refine s_iload C dX8_base_219 rfl ?_
                refine s_iconst C dX8_base_221 ?_
                refine s_iast C dX8_base_222 sh_204 (by omega) (by omega) ?_
                refine s_nameG (fun σ_222 hσ_222 => ?_)
                refine s_aload_n C dX8_base_223 rfl ?_
                refine s_getR (c := 8) C fl_8_37 dX8_base_224 sh_195 rfl rf_195_9 ?_
                refine s_iload C dX8_base_227 rfl ?_
                refine s_iconst C dX8_base_229 ?_
                refine s_iast C dX8_base_230 sh_205 (by omega) (by omega) ?_
                refine s_nameG (fun σ_230 hσ_230 => ?_)
                refine s_aload_n C dX8_base_231 rfl ?_
                refine s_getR (c := 8) C fl_8_40 dX8_base_232 sh_195 rfl rf_195_10 ?_
                refine s_iload C dX8_base_235 rfl ?_
                refine s_iconst C dX8_base_237 ?_
                refine s_iast C dX8_base_238 sh_206 (by omega) (by omega) ?_
                refine s_nameG (fun σ_238 hσ_238 => ?_)
                have e238 : σ_238 199 x = gC (sD S x) 1 := by rw [hσ_238, up_a (by decide), hσ_230, up_a (by decide), hσ_222, up_a (by decide), hσ_214, up_a (by decide), hσ_205, up_a (by decide), hσ_196, up_a (by decide), hσ_188, up_a (by decide)]; exact e161
                refine s_aload_n C dX8_base_239 rfl ?_
                refine s_getR (c := 8) C fl_8_19 dX8_base_240 sh_195 rfl rf_195_3 ?_
                refine s_iload_n C dX8_base_243 rfl ?_
                refine s_dup2 C dX8_base_244 rfl rfl ?_
                refine s_iald C dX8_base_245 sh_199 (by omega) (fun g245 => ?_)
                refine s_iconst C dX8_base_246 ?_
                refine s_iadd C dX8_base_247 ?_
                refine s_iast C dX8_base_248 sh_199 (by omega) (by omega) ?_
                refine s_nameG (fun σ_248 hσ_248 => ?_)
                have e248 : σ_248 199 x = gC (sD S x) 1 + 1 := by rw [hσ_248, up_s, e238]
                refine s_aload_n C dX8_base_249 rfl ?_
                refine s_getR (c := 8) C fl_8_19 dX8_base_250 sh_195 rfl rf_195_3 ?_
                refine s_iload_n C dX8_base_253 rfl ?_
                refine s_iald C dX8_base_254 sh_199 (by omega) (fun g254 => ?_)
                refine s_iconst C dX8_base_255 ?_
                refine s_isub C dX8_base_256 ?_
                refine s_iret C hR dX8_base_257 rfl ⟨_, rfl, ?_⟩ (by decide)
                have e6 : 5 * x + gC (sD S x) 1 = x9_179 := by omega
                have g9 : ∀ b k, b < 199 ∨ 207 ≤ b → σ_248 b k = σ_161 b k := fun b k q => by rw [hσ_248, up_a (by omega), hσ_238, up_a (by omega), hσ_230, up_a (by omega), hσ_222, up_a (by omega), hσ_214, up_a (by omega), hσ_205, up_a (by omega), hσ_196, up_a (by omega), hσ_188, up_a (by omega)]
                have hB : BM σ_248 x (dBase (sD S x) (bsN y z v w)) := by
                  refine hM.2.1.add e248 (fun k hk => ?_) (fun k i q hk => by rw [hσ_248, up_a (by omega), hσ_238, up_k (by omega), hσ_230, up_k (by omega), hσ_222, up_k (by omega), hσ_214, up_k (by omega), hσ_205, up_k (by omega), hσ_196, up_k (by omega), hσ_188, up_k (by omega)])
                  rw [e6]
                  have hk7 : k = 0 ∨ k = 1 ∨ k = 2 ∨ k = 3 ∨ k = 4 ∨ k = 5 ∨ k = 6 := by omega
                  rcases hk7 with qk | qk | qk | qk | qk | qk | qk
                  · rw [qk]; show σ_248 200 x9_179 = y; rw [hσ_248, up_a (by decide), hσ_238, up_a (by decide), hσ_230, up_a (by decide), hσ_222, up_a (by decide), hσ_214, up_a (by decide), hσ_205, up_a (by decide), hσ_196, up_a (by decide), hσ_188, up_s]
                  · rw [qk]; show σ_248 201 x9_179 = z; rw [hσ_248, up_a (by decide), hσ_238, up_a (by decide), hσ_230, up_a (by decide), hσ_222, up_a (by decide), hσ_214, up_a (by decide), hσ_205, up_a (by decide), hσ_196, up_s]
                  · rw [qk]; show σ_248 202 x9_179 = v; rw [hσ_248, up_a (by decide), hσ_238, up_a (by decide), hσ_230, up_a (by decide), hσ_222, up_a (by decide), hσ_214, up_a (by decide), hσ_205, up_s]
                  · rw [qk]; show σ_248 203 x9_179 = w; rw [hσ_248, up_a (by decide), hσ_238, up_a (by decide), hσ_230, up_a (by decide), hσ_222, up_a (by decide), hσ_214, up_s]
                  · rw [qk]; show σ_248 204 x9_179 = -1; rw [hσ_248, up_a (by decide), hσ_238, up_a (by decide), hσ_230, up_a (by decide), hσ_222, up_s]
                  · rw [qk]; show σ_248 205 x9_179 = 0; rw [hσ_248, up_a (by decide), hσ_238, up_a (by decide), hσ_230, up_s]
                  · rw [qk]; show σ_248 206 x9_179 = 0; rw [hσ_248, up_a (by decide), hσ_238, up_s]
                refine moP.gr (g := x) hS hO h0 (show _ = gC (sD S x) 1 by omega) (show uD S x (dBase (sD S x) (bsN y z v w)) = _ from rfl) ⟨hM.1.fr2 ⟨rfl, rfl⟩ fun b k a _ => g9 b k (by omega), hB, hM.2.2.1.fr2 ⟨rfl, rfl⟩ fun b k a _ => g9 b k (by omega), hM.2.2.2.fr2 ⟨rfl, rfl, rfl⟩ fun b k a _ => g9 b k (by omega)⟩ (by rw [hσ_248, up_a (by decide), hσ_238, up_a (by decide), hσ_230, up_a (by decide), hσ_222, up_a (by decide), hσ_214, up_a (by decide), hσ_205, up_a (by decide), hσ_196, up_a (by decide), hσ_188, up_a (by decide)]; exact h37) (fun b k q1 q2 => by rw [own_up (g := x) q1 (Or.inl ⟨by decide, rfl⟩) hσ_248, own_up (g := x) q1 (by unfold own; omega) hσ_238, own_up (g := x) q1 (by unfold own; omega) hσ_230, own_up (g := x) q1 (by unfold own; omega) hσ_222, own_up (g := x) q1 (by unfold own; omega) hσ_214, own_up (g := x) q1 (by unfold own; omega) hσ_205, own_up (g := x) q1 (by unfold own; omega) hσ_196, own_up (g := x) q1 (by unfold own; omega) hσ_188, hp161.1, up_n q2])
              · have y164 := (hp161.2).n (by omega)
                refine s_iconst C dX8_base_167 ?_
                refine s_iret C hR dX8_base_168 rfl ⟨_, rfl, ?_⟩ (by decide)
                exact moP.no hO hp161.1 j161_0 y164
            refine s_if_ne (tgt := 132) C dX8_base_125 (by decide) (by omega) (fun c125 => ?_) (fun c125 => ?_)
            · have y125 := (j19_0).y (by omega)
              refine s_iload C dX8_base_132 rfl ?_
              refine s_if_ne (tgt := 141) C dX8_base_134 (by decide) (by omega) (fun c134 => ?_) (fun c134 => ?_)
              · have y134 := (j59_0).y (by omega)
                refine s_iload C dX8_base_141 rfl ?_
                refine s_if_ne (tgt := 156) C dX8_base_143 (by decide) (by omega) (fun c143 => ?_) (fun c143 => ?_)
                · refine s_iconst C dX8_base_156 ?_
                  refine s_goto (tgt := 161) C dX8_base_157 (by decide) ?_
                  refine J161 3 ?_ (by first | assumption | omega)
                  · unfold op_base; dsimp only; (repeat' split) <;> omega
                · have e199 := (hO.1 x (by omega) (by omega)).2.1.1
                  have hn1 := (hS.1 x (by omega) (by omega)).2.2.2.1
                  refine s_aload_n C dX8_base_146 rfl ?_
                  refine s_getR (c := 8) C fl_8_19 dX8_base_147 sh_195 rfl rf_195_3 ?_
                  refine s_iload_n C dX8_base_150 rfl ?_
                  refine s_iald C dX8_base_151 sh_199 (by omega) (fun g151 => ?_)
                  refine s_iconst C dX8_base_152 ?_
                  refine s_icmp_ne (tgt := 160) C dX8_base_153 (by decide) (by omega) (by omega) (fun c153 => ?_) (fun c153 => ?_)
                  · refine s_iconst C dX8_base_160 ?_
                    refine J161 0 ?_ (by first | assumption | omega)
                    · unfold op_base; dsimp only; (repeat' split) <;> omega
                  · refine s_iconst C dX8_base_156 ?_
                    refine s_goto (tgt := 161) C dX8_base_157 (by decide) ?_
                    refine J161 3 ?_ (by first | assumption | omega)
                    · unfold op_base; dsimp only; (repeat' split) <;> omega
              · have y134 := (j59_0).n (by omega)
                refine s_iconst C dX8_base_137 ?_
                refine s_goto (tgt := 161) C dX8_base_138 (by decide) ?_
                refine J161 2 ?_ (by first | assumption | omega)
                · unfold op_base; dsimp only; (repeat' split) <;> omega
            · have y125 := (j19_0).n (by omega)
              refine s_iconst C dX8_base_128 ?_
              refine s_goto (tgt := 161) C dX8_base_129 (by decide) ?_
              refine J161 1 ?_ (by first | assumption | omega)
              · unfold op_base; dsimp only; (repeat' split) <;> omega
          refine s_icmp_ge (tgt := 122) C dX8_base_70 (by decide) (by omega) (by omega) (fun c70 => ?_) (fun c70 => ?_)
          · refine J122 ?_
            · by_cases qa : a = 0
              · exact Or.inl ⟨qa, i67_1.zero qa⟩
              · have yp := j19_0.y qa
                have hn1 := (hS.1 x (by omega) (by omega)).2.2.2.1
                exact i67_1.fin (by omega) hn1.1
          · refine s_iload C dX8_base_73 rfl ?_
            refine s_if_eq (tgt := 122) C dX8_base_75 (by decide) (by omega) (fun c75 => ?_) (fun c75 => ?_)
            · have y75 := (j19_0).n (by omega)
              refine J122 ?_
              · exact Or.inl ⟨by omega, i67_1.zero (by omega)⟩
            · have y75 := (j19_0).y (by omega)
              have e199 := (hO.1 x (by omega) (by omega)).2.1.1
              have hn1 := (hS.1 x (by omega) (by omega)).2.2.2.1
              have ha1 : a = 1 := by omega
              refine s_iload C dX8_base_78 rfl ?_
              have J114 : ∀ (h3 : Int), (hbI (sD S x) y a h3 (m + 1)) → (0 ≤ h3 ∧ h3 ≤ 1) → SW X E Q 0 0 114 [some (vR 195), some (vI x), some (vI y), some (vI z), some (vI v), some (vI w), some (vI a), some (vI b), some (vI h), some (vI m)] [(vI h3)] σ := by
                intro h3 j114_0 j114_1
                refine s_istore (ls2 := [some (vR 195), some (vI x), some (vI y), some (vI z), some (vI v), some (vI w), some (vI a), some (vI b), some (vI h3), some (vI m)]) C dX8_base_114 (by decide) rfl ?_
                obtain ⟨x9_116, ex9_116⟩ : ∃ y : Int, y = m + 1 := ⟨_, rfl⟩
                refine s_iinc (z2 := x9_116) (ls2 := [some (vR 195), some (vI x), some (vI y), some (vI z), some (vI v), some (vI w), some (vI a), some (vI b), some (vI h3), some (vI x9_116)]) C dX8_base_116 (by decide) rfl ex9_116 rfl ?_
                refine s_goto (tgt := 67) C dX8_base_119 (by decide) ?_
                refine ih67 h3 x9_116 (by omega) (by first | assumption | omega) ?_ (by first | assumption | omega)
                · rw [show x9_116 = m + 1 from ex9_116]; exact j114_0
              refine s_if_ne (tgt := 109) C dX8_base_80 (by decide) (by omega) (fun c80 => ?_) (fun c80 => ?_)
              · refine s_iconst C dX8_base_109 ?_
                refine s_goto (tgt := 114) C dX8_base_110 (by decide) ?_
                refine J114 1 ?_ (by first | assumption | omega)
                · first
                    | exact i67_1.keep (by omega)
                    | exact hbI.hit (by omega) (by omega) (by omega)
              · refine s_iload C dX8_base_83 rfl ?_
                refine s_aload_n C dX8_base_85 rfl ?_
                refine s_getR (c := 8) C fl_8_19 dX8_base_86 sh_195 rfl rf_195_3 ?_
                refine s_iload_n C dX8_base_89 rfl ?_
                refine s_iald C dX8_base_90 sh_199 (by omega) (fun g90 => ?_)
                refine s_icmp_ge (tgt := 113) C dX8_base_91 (by decide) (by omega) (by omega) (fun c91 => ?_) (fun c91 => ?_)
                · refine s_iconst C dX8_base_113 ?_
                  refine J114 0 ?_ (by first | assumption | omega)
                  · first
                      | exact i67_1.miss (by omega) (by omega) (Or.inl (by omega))
                      | exact i67_1.miss (by omega) (by omega) (Or.inr (by omega))
                · have eb : σ 200 (5 * x + m) = gB (sD S x) m 0 := (hO.1 x (by omega) (by omega)).2.1.2 m 0 (by omega) (by omega) (by decide)
                  refine s_aload_n C dX8_base_94 rfl ?_
                  refine s_getR (c := 8) C fl_8_22 dX8_base_95 sh_195 rfl rf_195_4 ?_
                  refine s_iconst C dX8_base_98 ?_
                  refine s_iload_n C dX8_base_99 rfl ?_
                  refine s_imul C dX8_base_100 ?_
                  refine s_iload C dX8_base_101 rfl ?_
                  refine s_iadd C dX8_base_103 ?_
                  refine s_iald C dX8_base_104 sh_200 (by omega) (fun g104 => ?_)
                  refine s_iload_n C dX8_base_105 rfl ?_
                  refine s_icmp_ne (tgt := 113) C dX8_base_106 (by decide) (by omega) (by omega) (fun c106 => ?_) (fun c106 => ?_)
                  · refine s_iconst C dX8_base_113 ?_
                    refine J114 0 ?_ (by first | assumption | omega)
                    · first
                        | exact i67_1.miss (by omega) (by omega) (Or.inl (by omega))
                        | exact i67_1.miss (by omega) (by omega) (Or.inr (by omega))
                  · refine s_iconst C dX8_base_109 ?_
                    refine s_goto (tgt := 114) C dX8_base_110 (by decide) ?_
                    refine J114 1 ?_ (by first | assumption | omega)
                    · first
                        | exact i67_1.keep (by omega)
                        | exact hbI.hit (by omega) (by omega) (by omega)
      refine L67 _ 0 0 (Nat.lt_succ_self _) (by first | assumption | omega) ?_ (by first | assumption | omega)
      · rcases hbj19_0 with qa | qa
        · exact Or.inl ⟨qa, rfl⟩
        · exact Or.inr (Or.inr ⟨qa, rfl, fun i h1 h2 => by omega⟩)
    refine s_if_eq (tgt := 58) C dX8_base_29 (by decide) (by omega) (fun c29 => ?_) (fun c29 => ?_)
    · have y29 := (hp26).n (by omega)
      refine s_iconst C dX8_base_58 ?_
      refine J59 0 ?_
      · exact yn.zero (by omega)
    · have y29 := (hp26).y (by omega)
      refine s_iload C dX8_base_32 rfl ?_
      refine s_iconst C dX8_base_34 ?_
      refine s_bipush C dX8_base_35 (by decide) ?_
      refine s_cS3i C dX8_base_37 lkX8_110 moX8_isIn mvX8_isIn (kX8_isIn (by omega) (by omega) (by omega)) (by decide) (Nat.le_of_ble_eq_true rfl) rfl (by decide) (kpI (fun r37 hp37 => ?_))
      have hb37 := (hp37).b
      refine s_if_eq (tgt := 58) C dX8_base_40 (by decide) (by omega) (fun c40 => ?_) (fun c40 => ?_)
      · have y40 := (hp37).n (by omega)
        refine s_iconst C dX8_base_58 ?_
        refine J59 0 ?_
        · exact yn.zero (by omega)
      · have y40 := (hp37).y (by omega)
        refine s_iload C dX8_base_43 rfl ?_
        refine s_iconst C dX8_base_45 ?_
        refine s_bipush C dX8_base_46 (by decide) ?_
        refine s_cS3i C dX8_base_48 lkX8_110 moX8_isIn mvX8_isIn (kX8_isIn (by omega) (by omega) (by omega)) (by decide) (Nat.le_of_ble_eq_true rfl) rfl (by decide) (kpI (fun r48 hp48 => ?_))
        have hb48 := (hp48).b
        refine s_if_eq (tgt := 58) C dX8_base_51 (by decide) (by omega) (fun c51 => ?_) (fun c51 => ?_)
        · have y51 := (hp48).n (by omega)
          refine s_iconst C dX8_base_58 ?_
          refine J59 0 ?_
          · exact yn.zero (by omega)
        · have y51 := (hp48).y (by omega)
          refine s_iconst C dX8_base_54 ?_
          refine s_goto (tgt := 59) C dX8_base_55 (by decide) ?_
          refine J59 1 ?_
          · exact yn.one (by omega)
  refine s_if_eq (tgt := 18) C dX8_base_4 (by decide) (by omega) (fun c4 => ?_) (fun c4 => ?_)
  · have y4 := (hp1).n (by omega)
    refine s_iconst C dX8_base_18 ?_
    refine J19 0 ?_
    · exact yn.zero (by omega)
  · have y4 := (hp1).y (by omega)
    refine s_iload_n C dX8_base_7 rfl ?_
    refine s_cS1i C dX8_base_8 lkX8_118 moX8_isWord mvX8_isWord (kX8_isWord (by omega)) (by decide) (Nat.le_of_ble_eq_true rfl) rfl (by decide) (kpI (fun r8 hp8 => ?_))
    have hb8 := (hp8).b
    refine s_if_eq (tgt := 18) C dX8_base_11 (by decide) (by omega) (fun c11 => ?_) (fun c11 => ?_)
    · have y11 := (hp8).n (by omega)
      refine s_iconst C dX8_base_18 ?_
      refine J19 0 ?_
      · exact yn.zero (by omega)
    · have y11 := (hp8).y (by omega)
      refine s_iconst C dX8_base_14 ?_
      refine s_goto (tgt := 19) C dX8_base_15 (by decide) ?_
      refine J19 1 ?_
      · exact yn.one (by omega)

set_option maxRecDepth 100000 in
set_option maxHeartbeats 8000000 in
theorem kX8_joint {E : sv_E} {σ : sv_G} {S : st_T} (hS : StOK S) (hO : RO σ S) {x : Int} (hx : -2147483648 ≤ x ∧ x ≤ 2147483647) {y : Int} (hy : -2147483648 ≤ y ∧ y ≤ 2147483647) {z : Int} (hz : -2147483648 ≤ z ∧ z ≤ 2147483647) : CT E MX8_joint 3 [(vR 195), (vI x), (vI y), (vI z)] σ (PI fun r σ9 => moP σ σ9 S r (op_joint S x y z)) := by
  refine CT.of (RX8, cX8_joint, 5, (some .int), [], 3, 0, 0) rfl moX8_joint (Nat.le_of_ble_eq_true rfl) (ls0 := [some (vR 195), some (vI x), some (vI y), some (vI z), none]) rfl ?_
  intro X Q C hR
  have hb9 : ∀ g, 0 ≤ g → g ≤ 3 → σ 199 g = gC (sD S g) 1 ∧ 0 ≤ gC (sD S g) 1 ∧ gC (sD S g) 1 ≤ 5 := fun g a b => ⟨(hO.1 g a b).2.1.1, (hS.1 g a b).2.2.2.1⟩
  refine s_aload_n C dX8_joint_0 rfl ?_
  refine s_aload_n C dX8_joint_1 rfl ?_
  refine s_iload_n C dX8_joint_2 rfl ?_
  refine s_iload_n C dX8_joint_3 rfl ?_
  refine s_cV2i C dX8_joint_4 lkX8_131 moX8_isBase mvX8_isBase (kX8_isBase (N9 := sD S) hb9 (by omega) (by omega)) sh_195 ⟨_, _, rfl⟩ (by decide) (Nat.le_of_ble_eq_true rfl) rfl (by decide) (kpI (fun r4 hp4 => ?_))
  have hb4 := (hp4).b
  have J22 : ∀ (c : Int), (c = (op_joint S x y z).1) → (0 ≤ c ∧ c ≤ 3) → SW X E Q 0 0 22 [some (vR 195), some (vI x), some (vI y), some (vI z), none] [(vI c), (vR 195)] σ := by
    intro c j22_0 j22_1
    refine s_cV1i C dX8_joint_22 lkX8_128 moX8_can mvX8_can (kX8_can (by omega)) sh_195 ⟨_, _, rfl⟩ (by decide) (Nat.le_of_ble_eq_true rfl) rfl (by decide) (fun r22 σ_22 hp22 => ?_)
    have hb22 := (hp22.2).b
    have hO2 := hO.t (can_T2 hp22.1)
    refine s_if_ne (tgt := 30) C dX8_joint_25 (by decide) (by omega) (fun c25 => ?_) (fun c25 => ?_)
    · have y25 := (hp22.2).y (by omega)
      have h0 : (op_joint S x y z).1 = 0 := by rw [← j22_0]; exact y25
      have hk := ifc1 (show (if ¬ ((0 ≤ x ∧ x ≤ 3 ∧ 0 ≤ y ∧ y < gC (sD S x) 1) ∧ -1 ≤ z ∧ z ≤ 199) then 1 else 0 : Int) = 0 from h0)
      have h37 : σ_22 195 37 = 0 := by rw [hp22.1, up_s]; exact y25
      have hD := hS.1 x (by omega) (by omega)
      have hM := hO2.1 x (by omega) (by omega)
      have hn0 := hD.2.2.1
      have hn1 := hD.2.2.2.1
      have hn2 := hD.2.2.2.2.1
      have hn3 := hD.2.2.2.2.2.1
      have hn4 := hD.2.2.2.2.2.2.1
      have e204 : σ_22 204 (5 * x + y) = gB (sD S x) y 4 := hM.2.1.2 y 4 (by omega) (by omega) (by decide)
      have hbo := hD.2.2.2.2.2.2.2.1 y (by omega) (by omega)
      refine s_aload_n C dX8_joint_30 rfl ?_
      refine s_getR (c := 8) C fl_8_34 dX8_joint_31 sh_195 rfl rf_195_8 ?_
      refine s_iconst C dX8_joint_34 ?_
      refine s_iload_n C dX8_joint_35 rfl ?_
      refine s_imul C dX8_joint_36 ?_
      refine s_iload_n C dX8_joint_37 rfl ?_
      refine s_iadd C dX8_joint_38 ?_
      refine s_iald C dX8_joint_39 sh_204 (by omega) (fun g39 => ?_)
      refine s_topI (fun x4_40 ex4_40 => ?_)
      refine s_istore (ls2 := [some (vR 195), some (vI x), some (vI y), some (vI z), some (vI x4_40)]) C dX8_joint_40 (by decide) rfl ?_
      refine s_aload_n C dX8_joint_42 rfl ?_
      refine s_getR (c := 8) C fl_8_34 dX8_joint_43 sh_195 rfl rf_195_8 ?_
      refine s_iconst C dX8_joint_46 ?_
      refine s_iload_n C dX8_joint_47 rfl ?_
      refine s_imul C dX8_joint_48 ?_
      refine s_iload_n C dX8_joint_49 rfl ?_
      refine s_iadd C dX8_joint_50 ?_
      refine s_iload_n C dX8_joint_51 rfl ?_
      refine s_iast C dX8_joint_52 sh_204 (by omega) (by omega) ?_
      refine s_nameG (fun σ_52 hσ_52 => ?_)
      refine s_iload C dX8_joint_53 rfl ?_
      refine s_iret C hR dX8_joint_55 rfl ⟨_, rfl, ?_⟩ (by decide)
      have g9 : ∀ b k, b < 200 ∨ 207 ≤ b → σ_52 b k = σ_22 b k := fun b k q => by rw [hσ_52, up_a (by omega)]
      have hB : BM σ_52 x (dBs (sD S x) y (bU (gB (sD S x) y) 4 z)) := by
        refine hM.2.1.set (by rw [g9 _ _ (by decide)]; exact hM.2.1.1) (fun k hk => ?_) (fun k i q hk => by rw [hσ_52, up_k (by omega)])
        by_cases q4 : k = 4
        · rw [q4]; show σ_52 204 _ = z; rw [hσ_52, up_s]
        rw [hσ_52, up_a (by omega), hM.2.1.2 y k (by omega) (by omega) hk]
        show _ = (if k = 4 then z else gB (sD S x) y k)
        rw [if_neg q4]
      refine moP.gr (g := x) hS hO h0 (show _ = gB (sD S x) y 4 by rw [ex4_40]; exact e204) rfl ⟨hM.1.fr2 ⟨rfl, rfl⟩ fun b k a _ => g9 b k (by omega), hB, hM.2.2.1.fr2 ⟨rfl, rfl⟩ fun b k a _ => g9 b k (by omega), hM.2.2.2.fr2 ⟨rfl, rfl, rfl⟩ fun b k a _ => g9 b k (by omega)⟩ (by rw [hσ_52, up_a (by decide)]; exact h37) (fun b k q1 q2 => by rw [own_up (g := x) q1 (by unfold own; omega) hσ_52, hp22.1, up_n q2])
    · have y25 := (hp22.2).n (by omega)
      refine s_iconst C dX8_joint_28 ?_
      refine s_iret C hR dX8_joint_29 rfl ⟨_, rfl, ?_⟩ (by decide)
      exact moP.no hO hp22.1 j22_0 y25
  refine s_if_eq (tgt := 21) C dX8_joint_7 (by decide) (by omega) (fun c7 => ?_) (fun c7 => ?_)
  · have y7 := (hp4).n (by omega)
    refine s_iconst C dX8_joint_21 ?_
    refine J22 1 ?_ (by first | assumption | omega)
    · unfold op_joint; dsimp only; (repeat' split) <;> omega
  · have y7 := (hp4).y (by omega)
    refine s_iload_n C dX8_joint_10 rfl ?_
    refine s_cS1i C dX8_joint_11 lkX8_135 moX8_isWordOrNone mvX8_isWordOrNone (kX8_isWordOrNone (by omega)) (by decide) (Nat.le_of_ble_eq_true rfl) rfl (by decide) (kpI (fun r11 hp11 => ?_))
    have hb11 := (hp11).b
    refine s_if_eq (tgt := 21) C dX8_joint_14 (by decide) (by omega) (fun c14 => ?_) (fun c14 => ?_)
    · have y14 := (hp11).n (by omega)
      refine s_iconst C dX8_joint_21 ?_
      refine J22 1 ?_ (by first | assumption | omega)
      · unfold op_joint; dsimp only; (repeat' split) <;> omega
    · have y14 := (hp11).y (by omega)
      refine s_iconst C dX8_joint_17 ?_
      refine s_goto (tgt := 22) C dX8_joint_18 (by decide) ?_
      refine J22 0 ?_ (by first | assumption | omega)
      · unfold op_joint; dsimp only; (repeat' split) <;> omega

set_option maxRecDepth 100000 in
set_option maxHeartbeats 8000000 in
theorem kX8_less {E : sv_E} {σ : sv_G} {S : st_T} (hS : StOK S) (hO : RO σ S) {x : Int} (hx : -2147483648 ≤ x ∧ x ≤ 2147483647) {y : Int} (hy : -2147483648 ≤ y ∧ y ≤ 2147483647) {z : Int} (hz : -2147483648 ≤ z ∧ z ≤ 2147483647) {v : Int} (hv : -2147483648 ≤ v ∧ v ≤ 2147483647) : CT E MX8_less 3 [(vR 195), (vI x), (vI y), (vI z), (vI v)] σ (PI fun r σ9 => moP σ σ9 S r (op_less S x y z v)) := by
  refine CT.of (RX8, cX8_less, 8, (some .int), [], 3, 0, 0) rfl moX8_less (Nat.le_of_ble_eq_true rfl) (ls0 := [some (vR 195), some (vI x), some (vI y), some (vI z), some (vI v), none, none, none]) rfl ?_
  intro X Q C hR
  have hb9 : ∀ g, 0 ≤ g → g ≤ 3 → σ 199 g = gC (sD S g) 1 ∧ 0 ≤ gC (sD S g) 1 ∧ gC (sD S g) 1 ≤ 5 := fun g a b => ⟨(hO.1 g a b).2.1.1, (hS.1 g a b).2.2.2.1⟩
  refine s_aload_n C dX8_less_0 rfl ?_
  refine s_iload_n C dX8_less_1 rfl ?_
  refine s_iload_n C dX8_less_2 rfl ?_
  refine s_cV2i C dX8_less_3 lkX8_131 moX8_isBase mvX8_isBase (kX8_isBase (N9 := sD S) hb9 (by omega) (by omega)) sh_195 ⟨_, _, rfl⟩ (by decide) (Nat.le_of_ble_eq_true rfl) rfl (by decide) (kpI (fun r3 hp3 => ?_))
  have hb3 := (hp3).b
  have J22 : ∀ (a : Int), (yn a ((0 ≤ x ∧ x ≤ 3 ∧ 0 ≤ y ∧ y < gC (sD S x) 1) ∧ 0 ≤ v ∧ v ≤ 199)) → SW X E Q 0 0 22 [some (vR 195), some (vI x), some (vI y), some (vI z), some (vI v), none, none, none] [(vI a)] σ := by
    intro a j22_0
    have hbj22_0 := j22_0.b
    refine s_istore (ls2 := [some (vR 195), some (vI x), some (vI y), some (vI z), some (vI v), some (vI a), none, none]) C dX8_less_22 (by decide) rfl ?_
    refine s_aload_n C dX8_less_24 rfl ?_
    refine s_iload C dX8_less_25 rfl ?_
    have J49 : ∀ (c : Int), (c = (op_less S x y z v).1) → (0 ≤ c ∧ c ≤ 3) → SW X E Q 0 0 49 [some (vR 195), some (vI x), some (vI y), some (vI z), some (vI v), some (vI a), none, none] [(vI c), (vR 195)] σ := by
      intro c j49_0 j49_1
      refine s_cV1i C dX8_less_49 lkX8_128 moX8_can mvX8_can (kX8_can (by omega)) sh_195 ⟨_, _, rfl⟩ (by decide) (Nat.le_of_ble_eq_true rfl) rfl (by decide) (fun r49 σ_49 hp49 => ?_)
      have hb49 := (hp49.2).b
      have hO2 := hO.t (can_T2 hp49.1)
      refine s_if_ne (tgt := 57) C dX8_less_52 (by decide) (by omega) (fun c52 => ?_) (fun c52 => ?_)
      · have y52 := (hp49.2).y (by omega)
        have h0 : (op_less S x y z v).1 = 0 := by rw [← j49_0]; exact y52
        have hk := ifc2 (show (if ¬ ((0 ≤ x ∧ x ≤ 3 ∧ 0 ≤ y ∧ y < gC (sD S x) 1) ∧ 0 ≤ v ∧ v ≤ 199) then 1 else if ¬ (0 ≤ z ∧ z ≤ 9) then 2 else 0 : Int) = 0 from h0)
        have h37 : σ_49 195 37 = 0 := by rw [hp49.1, up_s]; exact y52
        have hD := hS.1 x (by omega) (by omega)
        have hM := hO2.1 x (by omega) (by omega)
        have hn0 := hD.2.2.1
        have hn1 := hD.2.2.2.1
        have hn2 := hD.2.2.2.2.1
        have hn3 := hD.2.2.2.2.2.1
        have hn4 := hD.2.2.2.2.2.2.1
        have e205 : σ_49 205 (5 * x + y) = gB (sD S x) y 5 := hM.2.1.2 y 5 (by omega) (by omega) (by decide)
        refine s_iconst C dX8_less_57 ?_
        refine s_iload_n C dX8_less_58 rfl ?_
        refine s_imul C dX8_less_59 ?_
        refine s_iload_n C dX8_less_60 rfl ?_
        refine s_iadd C dX8_less_61 ?_
        refine s_topI (fun x6_62 ex6_62 => ?_)
        refine s_istore (ls2 := [some (vR 195), some (vI x), some (vI y), some (vI z), some (vI v), some (vI a), some (vI x6_62), none]) C dX8_less_62 (by decide) rfl ?_
        refine s_aload_n C dX8_less_64 rfl ?_
        refine s_getR (c := 8) C fl_8_37 dX8_less_65 sh_195 rfl rf_195_9 ?_
        refine s_iload C dX8_less_68 rfl ?_
        refine s_iald C dX8_less_70 sh_205 (by omega) (fun g70 => ?_)
        refine s_topI (fun x7_71 ex7_71 => ?_)
        refine s_istore (ls2 := [some (vR 195), some (vI x), some (vI y), some (vI z), some (vI v), some (vI a), some (vI x6_62), some (vI x7_71)]) C dX8_less_71 (by decide) rfl ?_
        refine s_aload_n C dX8_less_73 rfl ?_
        refine s_getR (c := 8) C fl_8_37 dX8_less_74 sh_195 rfl rf_195_9 ?_
        refine s_iload C dX8_less_77 rfl ?_
        refine s_iload_n C dX8_less_79 rfl ?_
        refine s_iast C dX8_less_80 sh_205 (by omega) (by omega) ?_
        refine s_nameG (fun σ_80 hσ_80 => ?_)
        refine s_aload_n C dX8_less_81 rfl ?_
        refine s_getR (c := 8) C fl_8_40 dX8_less_82 sh_195 rfl rf_195_10 ?_
        refine s_iload C dX8_less_85 rfl ?_
        refine s_iload C dX8_less_87 rfl ?_
        refine s_iast C dX8_less_89 sh_206 (by omega) (by omega) ?_
        refine s_nameG (fun σ_89 hσ_89 => ?_)
        refine s_iload C dX8_less_90 rfl ?_
        refine s_iret C hR dX8_less_92 rfl ⟨_, rfl, ?_⟩ (by decide)
        have g9 : ∀ b k, b < 200 ∨ 207 ≤ b → σ_89 b k = σ_49 b k := fun b k q => by rw [hσ_89, up_a (by omega), hσ_80, up_a (by omega)]
        have hB : BM σ_89 x (dBs (sD S x) y (bU (bU (gB (sD S x) y) 5 z) 6 v)) := by
          refine hM.2.1.set (by rw [g9 _ _ (by decide)]; exact hM.2.1.1) (fun k hk => ?_) (fun k i q hk => by rw [hσ_89, up_k (by omega), hσ_80, up_k (by omega)])
          by_cases q6 : k = 6
          · rw [q6]; show σ_89 206 _ = v; rw [hσ_89, ex6_62, up_s]
          by_cases q5 : k = 5
          · rw [q5]; show σ_89 205 _ = z; rw [hσ_89, up_a (by decide), hσ_80, ex6_62, up_s]
          rw [hσ_89, up_a (by omega), hσ_80, up_a (by omega), hM.2.1.2 y k (by omega) (by omega) hk]
          show _ = (if k = 6 then v else if k = 5 then z else gB (sD S x) y k)
          rw [if_neg q6, if_neg q5]
        refine moP.gr (g := x) hS hO h0 (show _ = gB (sD S x) y 5 by rw [ex7_71, ex6_62]; exact e205) rfl ⟨hM.1.fr2 ⟨rfl, rfl⟩ fun b k a _ => g9 b k (by omega), hB, hM.2.2.1.fr2 ⟨rfl, rfl⟩ fun b k a _ => g9 b k (by omega), hM.2.2.2.fr2 ⟨rfl, rfl, rfl⟩ fun b k a _ => g9 b k (by omega)⟩ (by rw [hσ_89, up_a (by decide), hσ_80, up_a (by decide)]; exact h37) (fun b k q1 q2 => by rw [own_up (g := x) q1 (by unfold own; omega) hσ_89, own_up (g := x) q1 (by unfold own; omega) hσ_80, hp49.1, up_n q2])
      · have y52 := (hp49.2).n (by omega)
        refine s_iconst C dX8_less_55 ?_
        refine s_iret C hR dX8_less_56 rfl ⟨_, rfl, ?_⟩ (by decide)
        exact moP.no hO hp49.1 j49_0 y52
    refine s_if_ne (tgt := 34) C dX8_less_27 (by decide) (by omega) (fun c27 => ?_) (fun c27 => ?_)
    · have y27 := (j22_0).y (by omega)
      refine s_iload_n C dX8_less_34 rfl ?_
      refine s_iconst C dX8_less_35 ?_
      refine s_bipush C dX8_less_36 (by decide) ?_
      refine s_cS3i C dX8_less_38 lkX8_110 moX8_isIn mvX8_isIn (kX8_isIn (by omega) (by omega) (by omega)) (by decide) (Nat.le_of_ble_eq_true rfl) rfl (by decide) (kpI (fun r38 hp38 => ?_))
      have hb38 := (hp38).b
      refine s_if_eq (tgt := 48) C dX8_less_41 (by decide) (by omega) (fun c41 => ?_) (fun c41 => ?_)
      · have y41 := (hp38).n (by omega)
        refine s_iconst C dX8_less_48 ?_
        refine J49 2 ?_ (by first | assumption | omega)
        · unfold op_less; dsimp only; (repeat' split) <;> omega
      · have y41 := (hp38).y (by omega)
        refine s_iconst C dX8_less_44 ?_
        refine s_goto (tgt := 49) C dX8_less_45 (by decide) ?_
        refine J49 0 ?_ (by first | assumption | omega)
        · unfold op_less; dsimp only; (repeat' split) <;> omega
    · have y27 := (j22_0).n (by omega)
      refine s_iconst C dX8_less_30 ?_
      refine s_goto (tgt := 49) C dX8_less_31 (by decide) ?_
      refine J49 1 ?_ (by first | assumption | omega)
      · unfold op_less; dsimp only; (repeat' split) <;> omega
  refine s_if_eq (tgt := 21) C dX8_less_6 (by decide) (by omega) (fun c6 => ?_) (fun c6 => ?_)
  · have y6 := (hp3).n (by omega)
    refine s_iconst C dX8_less_21 ?_
    refine J22 0 ?_
    · exact yn.zero (by omega)
  · have y6 := (hp3).y (by omega)
    refine s_iload C dX8_less_9 rfl ?_
    refine s_cS1i C dX8_less_11 lkX8_118 moX8_isWord mvX8_isWord (kX8_isWord (by omega)) (by decide) (Nat.le_of_ble_eq_true rfl) rfl (by decide) (kpI (fun r11 hp11 => ?_))
    have hb11 := (hp11).b
    refine s_if_eq (tgt := 21) C dX8_less_14 (by decide) (by omega) (fun c14 => ?_) (fun c14 => ?_)
    · have y14 := (hp11).n (by omega)
      refine s_iconst C dX8_less_21 ?_
      refine J22 0 ?_
      · exact yn.zero (by omega)
    · have y14 := (hp11).y (by omega)
      refine s_iconst C dX8_less_17 ?_
      refine s_goto (tgt := 22) C dX8_less_18 (by decide) ?_
      refine J22 1 ?_
      · exact yn.one (by omega)

set_option maxRecDepth 100000 in
set_option maxHeartbeats 8000000 in
theorem kX8_form {E : sv_E} {σ : sv_G} {S : st_T} (hS : StOK S) (hO : RO σ S) {x : Int} (hx : -2147483648 ≤ x ∧ x ≤ 2147483647) {y : Int} (hy : -2147483648 ≤ y ∧ y ≤ 2147483647) {z : Int} (hz : -2147483648 ≤ z ∧ z ≤ 2147483647) {v : Int} (hv : -2147483648 ≤ v ∧ v ≤ 2147483647) : CT E MX8_form 2 [(vR 195), (vI x), (vI y), (vI z), (vI v)] σ (PI fun r σ9 => moP σ σ9 S r (op_form S x y z v)) := by
  refine CT.of (RX8, cX8_form, 10, (some .int), [], 2, 0, 0) rfl moX8_form (Nat.le_of_ble_eq_true rfl) (ls0 := [some (vR 195), some (vI x), some (vI y), some (vI z), some (vI v), none, none, none, none, none]) rfl ?_
  intro X Q C hR
  refine s_iload_n C dX8_form_0 rfl ?_
  refine s_cS1i C dX8_form_1 lkX8_114 moX8_isGrammar mvX8_isGrammar (kX8_isGrammar (by omega)) (by decide) (Nat.le_of_ble_eq_true rfl) rfl (by decide) (kpI (fun r1 hp1 => ?_))
  have hb1 := (hp1).b
  have J27 : ∀ (a : Int), (yn a (0 ≤ x ∧ x ≤ 3 ∧ (0 ≤ y ∧ y ≤ 199) ∧ 0 ≤ v ∧ v ≤ 199)) → SW X E Q 0 0 27 [some (vR 195), some (vI x), some (vI y), some (vI z), some (vI v), none, none, none, none, none] [(vI a)] σ := by
    intro a j27_0
    have hbj27_0 := j27_0.b
    refine s_istore (ls2 := [some (vR 195), some (vI x), some (vI y), some (vI z), some (vI v), some (vI a), none, none, none, none]) C dX8_form_27 (by decide) rfl ?_
    refine s_iload_n C dX8_form_29 rfl ?_
    refine s_iconst C dX8_form_30 ?_
    refine s_iconst C dX8_form_31 ?_
    refine s_cS3i C dX8_form_32 lkX8_110 moX8_isIn mvX8_isIn (kX8_isIn (by omega) (by omega) (by omega)) (by decide) (Nat.le_of_ble_eq_true rfl) rfl (by decide) (kpI (fun r32 hp32 => ?_))
    have hb32 := (hp32).b
    refine s_istore (ls2 := [some (vR 195), some (vI x), some (vI y), some (vI z), some (vI v), some (vI a), some (vI r32), none, none, none]) C dX8_form_35 (by decide) rfl ?_
    refine s_iload C dX8_form_37 rfl ?_
    have J53 : ∀ (t : Int), ((t = -1 ∧ (¬ (0 ≤ x ∧ x ≤ 3 ∧ (0 ≤ y ∧ y ≤ 199) ∧ 0 ≤ v ∧ v ≤ 199) ∨ gP (sD S x) y z = -1)) ∨ ((0 ≤ x ∧ x ≤ 3 ∧ (0 ≤ y ∧ y ≤ 199) ∧ 0 ≤ v ∧ v ≤ 199) ∧ (30 * x ≤ t ∧ t < 30 * x + gC (sD S x) 2) ∧ σ 208 t = y ∧ σ 209 t = z ∧ σ 210 t = gP (sD S x) y z ∧ gP (sD S x) y z ≠ -1)) → (-1 ≤ t ∧ t ≤ 120) → SW X E Q 0 0 53 [some (vR 195), some (vI x), some (vI y), some (vI z), some (vI v), some (vI a), some (vI r32), none, none, none] [(vI t)] σ := by
      intro t j53_0 j53_1
      refine s_istore (ls2 := [some (vR 195), some (vI x), some (vI y), some (vI z), some (vI v), some (vI a), some (vI r32), some (vI t), none, none]) C dX8_form_53 (by decide) rfl ?_
      refine s_iload C dX8_form_55 rfl ?_
      have J82 : ∀ (f : Int), (yn f ((0 ≤ x ∧ x ≤ 3 ∧ (0 ≤ y ∧ y ≤ 199) ∧ 0 ≤ v ∧ v ≤ 199) ∧ gP (sD S x) y z = -1 ∧ gC (sD S x) 2 = 30)) → SW X E Q 0 0 82 [some (vR 195), some (vI x), some (vI y), some (vI z), some (vI v), some (vI a), some (vI r32), some (vI t), none, none] [(vI f)] σ := by
        intro f j82_0
        have hbj82_0 := j82_0.b
        refine s_istore (ls2 := [some (vR 195), some (vI x), some (vI y), some (vI z), some (vI v), some (vI a), some (vI r32), some (vI t), some (vI f), none]) C dX8_form_82 (by decide) rfl ?_
        refine s_aload_n C dX8_form_84 rfl ?_
        refine s_iload C dX8_form_85 rfl ?_
        have J113 : ∀ (c : Int), (c = (op_form S x y z v).1) → (0 ≤ c ∧ c ≤ 3) → SW X E Q 0 0 113 [some (vR 195), some (vI x), some (vI y), some (vI z), some (vI v), some (vI a), some (vI r32), some (vI t), some (vI f), none] [(vI c), (vR 195)] σ := by
          intro c j113_0 j113_1
          refine s_cV1i C dX8_form_113 lkX8_128 moX8_can mvX8_can (kX8_can (by omega)) sh_195 ⟨_, _, rfl⟩ (by decide) (Nat.le_of_ble_eq_true rfl) rfl (by decide) (fun r113 σ_113 hp113 => ?_)
          have hb113 := (hp113.2).b
          have hO2 := hO.t (can_T2 hp113.1)
          refine s_if_ne (tgt := 121) C dX8_form_116 (by decide) (by omega) (fun c116 => ?_) (fun c116 => ?_)
          · have y116 := (hp113.2).y (by omega)
            have h0 : (op_form S x y z v).1 = 0 := by rw [← j113_0]; exact y116
            have hk := ifc3 (show (if ¬ (0 ≤ x ∧ x ≤ 3 ∧ (0 ≤ y ∧ y ≤ 199) ∧ 0 ≤ v ∧ v ≤ 199) then 1 else if ¬ (0 ≤ z ∧ z ≤ 3) then 2 else if gP (sD S x) y z = -1 ∧ gC (sD S x) 2 = 30 then 3 else 0 : Int) = 0 from h0)
            have h37 : σ_113 195 37 = 0 := by rw [hp113.1, up_s]; exact y116
            have hD := hS.1 x (by omega) (by omega)
            have hM := hO2.1 x (by omega) (by omega)
            have hn0 := hD.2.2.1
            have hn1 := hD.2.2.2.1
            have hn2 := hD.2.2.2.2.1
            have hn3 := hD.2.2.2.2.2.1
            have hn4 := hD.2.2.2.2.2.2.1
            have e113 : σ_113 207 x = gC (sD S x) 2 := hM.2.2.1.1
            have f113 : ∀ b k, b ≠ 195 → σ_113 b k = σ b k := fun b k q => by rw [hp113.1, up_a q]
            refine s_iload C dX8_form_121 rfl ?_
            refine s_iconst C dX8_form_123 ?_
            have J138 : ∀ (u9 : Int), (u9 = gP (sD S x) y z) → SW X E Q 0 0 138 [some (vR 195), some (vI x), some (vI y), some (vI z), some (vI v), some (vI a), some (vI r32), some (vI t), some (vI f), none] [(vI u9)] σ_113 := by
              intro u9 j138_0
              refine s_istore (ls2 := [some (vR 195), some (vI x), some (vI y), some (vI z), some (vI v), some (vI a), some (vI r32), some (vI t), some (vI f), some (vI u9)]) C dX8_form_138 (by decide) rfl ?_
              refine s_iload C dX8_form_140 rfl ?_
              refine s_iconst C dX8_form_142 ?_
              have J169 : ∀ (p : Int) (τ : sv_G), (0 ≤ p ∧ p < 120) → ((t = -1 ∧ p = 30 * x + gC (sD S x) 2 ∧ τ 207 x = gC (sD S x) 2 + 1 ∧ ∀ b k, b ≠ 207 ∨ k ≠ x → τ b k = σ_113 b k) ∨ (t ≠ -1 ∧ p = t ∧ ∀ b k, τ b k = σ_113 b k)) → SW X E Q 0 0 169 [some (vR 195), some (vI x), some (vI y), some (vI z), some (vI v), some (vI a), some (vI r32), some (vI p), some (vI f), some (vI u9)] [] τ := by
                intro p τ j169_0 j169_1
                refine s_aload_n C dX8_form_169 rfl ?_
                refine s_getR (c := 8) C fl_8_46 dX8_form_170 sh_195 rfl rf_195_12 ?_
                refine s_iload C dX8_form_173 rfl ?_
                refine s_iload_n C dX8_form_175 rfl ?_
                refine s_iast C dX8_form_176 sh_208 (by omega) (by omega) ?_
                refine s_nameG (fun σ_176 hσ_176 => ?_)
                refine s_aload_n C dX8_form_177 rfl ?_
                refine s_getR (c := 8) C fl_8_49 dX8_form_178 sh_195 rfl rf_195_13 ?_
                refine s_iload C dX8_form_181 rfl ?_
                refine s_iload_n C dX8_form_183 rfl ?_
                refine s_iast C dX8_form_184 sh_209 (by omega) (by omega) ?_
                refine s_nameG (fun σ_184 hσ_184 => ?_)
                refine s_aload_n C dX8_form_185 rfl ?_
                refine s_getR (c := 8) C fl_8_52 dX8_form_186 sh_195 rfl rf_195_14 ?_
                refine s_iload C dX8_form_189 rfl ?_
                refine s_iload C dX8_form_191 rfl ?_
                refine s_iast C dX8_form_193 sh_210 (by omega) (by omega) ?_
                refine s_nameG (fun σ_193 hσ_193 => ?_)
                refine s_iload C dX8_form_194 rfl ?_
                refine s_iret C hR dX8_form_196 rfl ⟨_, rfl, ?_⟩ (by decide)
                have g9 : ∀ b k, b < 208 ∨ 211 ≤ b → σ_193 b k = τ b k := fun b k q => by rw [hσ_193, up_a (by omega), hσ_184, up_a (by omega), hσ_176, up_a (by omega)]
                have s9 : σ_193 208 p = y ∧ σ_193 209 p = z ∧ σ_193 210 p = v := ⟨by rw [hσ_193, up_a (by decide), hσ_184, up_a (by decide), hσ_176, up_s], by rw [hσ_193, up_a (by decide), hσ_184, up_s], by rw [hσ_193, up_s]⟩
                have f9 : ∀ k, k ≠ p → σ_193 208 k = τ 208 k ∧ σ_193 209 k = τ 209 k ∧ σ_193 210 k = τ 210 k := fun k q => ⟨by rw [hσ_193, up_k q, hσ_184, up_k q, hσ_176, up_k q], by rw [hσ_193, up_k q, hσ_184, up_k q, hσ_176, up_k q], by rw [hσ_193, up_k q, hσ_184, up_k q, hσ_176, up_k q]⟩
                rcases j169_1 with ⟨k1, k2, k3, k4⟩ | ⟨k1, k2, k3⟩
                · have hgf : gP (sD S x) y z = -1 := by omega
                  have hF : FM σ_193 x (dFm (sD S x) y z v (gC (sD S x) 2 + 1)) := by
                    refine hM.2.2.1.add hn2.1 hgf (by omega) (by rw [g9 _ _ (by decide)]; exact k3) (by rw [← k2]; exact s9.1) (by rw [← k2]; exact s9.2.1) (by rw [← k2]; exact s9.2.2) fun i q => ?_
                    have f := f9 (30 * x + i) (by omega)
                    rw [f.1, f.2.1, f.2.2]
                    exact ⟨k4 _ _ (Or.inl (by decide)), k4 _ _ (Or.inl (by decide)), k4 _ _ (Or.inl (by decide))⟩
                  refine moP.gr (g := x) hS hO h0 (show _ = gP (sD S x) y z from j138_0) (show uD S x (dFm (sD S x) y z v (if gP (sD S x) y z = -1 then gC (sD S x) 2 + 1 else gC (sD S x) 2)) = uD S x (dFm (sD S x) y z v (gC (sD S x) 2 + 1)) by rw [if_pos hgf]) ⟨hM.1.fr2 ⟨rfl, rfl⟩ fun b k a _ => (g9 b k (by omega)).trans (k4 b k (by omega)), hM.2.1.fr2 ⟨rfl, rfl⟩ fun b k a _ => (g9 b k (by omega)).trans (k4 b k (by omega)), hF, hM.2.2.2.fr2 ⟨rfl, rfl, rfl⟩ fun b k a _ => (g9 b k (by omega)).trans (k4 b k (by omega))⟩ (by rw [g9 _ _ (by decide), k4 _ _ (Or.inl (by decide))]; exact h37) fun b k q1 q2 => ?_
                  rw [own_up (g := x) q1 (by unfold own; omega) hσ_193, own_up (g := x) q1 (by unfold own; omega) hσ_184, own_up (g := x) q1 (by unfold own; omega) hσ_176, k4 b k ?_, hp113.1, up_n q2]
                  by_cases c : b = 207
                  · refine Or.inr fun z9 => q1 ?_
                    rw [c, z9]; exact Or.inl ⟨by decide, rfl⟩
                  · exact Or.inl c
                · have hgf : gP (sD S x) y z ≠ -1 := by omega
                  have e6 : 30 * x + (t - 30 * x) = p := by omega
                  have hF : FM σ_193 x (dFm (sD S x) y z v (gC (sD S x) 2)) := by
                    refine hM.2.2.1.set (i0 := t - 30 * x) (by omega) (by rw [e6, k2, f113 _ _ (by decide), f113 _ _ (by decide)]; omega) (by omega) (by rw [g9 _ _ (by decide), k3]; exact e113) (by rw [e6]; exact s9.1) (by rw [e6]; exact s9.2.1) (by rw [e6]; exact s9.2.2) fun i q => ?_
                    have f := f9 (30 * x + i) (by omega)
                    rw [f.1, f.2.1, f.2.2]
                    exact ⟨k3 _ _, k3 _ _, k3 _ _⟩
                  refine moP.gr (g := x) hS hO h0 (show _ = gP (sD S x) y z from j138_0) (show uD S x (dFm (sD S x) y z v (if gP (sD S x) y z = -1 then gC (sD S x) 2 + 1 else gC (sD S x) 2)) = uD S x (dFm (sD S x) y z v (gC (sD S x) 2)) by rw [if_neg hgf]) ⟨hM.1.fr2 ⟨rfl, rfl⟩ fun b k a _ => (g9 b k (by omega)).trans (k3 b k), hM.2.1.fr2 ⟨rfl, rfl⟩ fun b k a _ => (g9 b k (by omega)).trans (k3 b k), hF, hM.2.2.2.fr2 ⟨rfl, rfl, rfl⟩ fun b k a _ => (g9 b k (by omega)).trans (k3 b k)⟩ (by rw [g9 _ _ (by decide), k3]; exact h37) fun b k q1 q2 => ?_
                  rw [own_up (g := x) q1 (by unfold own; omega) hσ_193, own_up (g := x) q1 (by unfold own; omega) hσ_184, own_up (g := x) q1 (by unfold own; omega) hσ_176, k3 b k, hp113.1, up_n q2]
              refine s_icmp_ne (tgt := 169) C dX8_form_143 (by decide) (by omega) (by omega) (fun c143 => ?_) (fun c143 => ?_)
              · refine J169 t σ_113 (by first | assumption | omega) ?_
                · exact Or.inr ⟨by omega, rfl, fun _ _ => rfl⟩
              · refine s_bipush C dX8_form_146 (by decide) ?_
                refine s_iload_n C dX8_form_148 rfl ?_
                refine s_imul C dX8_form_149 ?_
                refine s_aload_n C dX8_form_150 rfl ?_
                refine s_getR (c := 8) C fl_8_43 dX8_form_151 sh_195 rfl rf_195_11 ?_
                refine s_iload_n C dX8_form_154 rfl ?_
                refine s_iald C dX8_form_155 sh_207 (by omega) (fun g155 => ?_)
                refine s_iadd C dX8_form_156 ?_
                refine s_topI (fun x7_157 ex7_157 => ?_)
                refine s_istore (ls2 := [some (vR 195), some (vI x), some (vI y), some (vI z), some (vI v), some (vI a), some (vI r32), some (vI x7_157), some (vI f), some (vI u9)]) C dX8_form_157 (by decide) rfl ?_
                refine s_aload_n C dX8_form_159 rfl ?_
                refine s_getR (c := 8) C fl_8_43 dX8_form_160 sh_195 rfl rf_195_11 ?_
                refine s_iload_n C dX8_form_163 rfl ?_
                refine s_dup2 C dX8_form_164 rfl rfl ?_
                refine s_iald C dX8_form_165 sh_207 (by omega) (fun g165 => ?_)
                refine s_iconst C dX8_form_166 ?_
                refine s_iadd C dX8_form_167 ?_
                refine s_iast C dX8_form_168 sh_207 (by omega) (by omega) ?_
                refine s_nameG (fun σ_168 hσ_168 => ?_)
                refine J169 x7_157 σ_168 (by first | assumption | omega) ?_
                · exact Or.inl ⟨by omega, by omega, by rw [hσ_168, up_s, e113], fun b k q => by rw [hσ_168, up_n q]⟩
            refine s_icmp_ne (tgt := 131) C dX8_form_124 (by decide) (by omega) (by omega) (fun c124 => ?_) (fun c124 => ?_)
            · refine s_aload_n C dX8_form_131 rfl ?_
              refine s_getR (c := 8) C fl_8_52 dX8_form_132 sh_195 rfl rf_195_14 ?_
              refine s_iload C dX8_form_135 rfl ?_
              refine s_iald C dX8_form_137 sh_210 (by omega) (fun g137 => ?_)
              have e137 : σ_113 210 t = gP (sD S x) y z := by rw [f113 _ _ (by decide)]; omega
              refine J138 (σ_113 210 t) ?_
              · exact e137
            · refine s_iconst C dX8_form_127 ?_
              refine s_goto (tgt := 138) C dX8_form_128 (by decide) ?_
              refine J138 (-1) ?_
              · show (-1 : Int) = _; omega
          · have y116 := (hp113.2).n (by omega)
            refine s_iconst C dX8_form_119 ?_
            refine s_iret C hR dX8_form_120 rfl ⟨_, rfl, ?_⟩ (by decide)
            exact moP.no hO hp113.1 j113_0 y116
        refine s_if_ne (tgt := 94) C dX8_form_87 (by decide) (by omega) (fun c87 => ?_) (fun c87 => ?_)
        · have y87 := (j27_0).y (by omega)
          refine s_iload C dX8_form_94 rfl ?_
          refine s_if_ne (tgt := 103) C dX8_form_96 (by decide) (by omega) (fun c96 => ?_) (fun c96 => ?_)
          · have y96 := (hp32).y (by omega)
            refine s_iload C dX8_form_103 rfl ?_
            refine s_if_eq (tgt := 112) C dX8_form_105 (by decide) (by omega) (fun c105 => ?_) (fun c105 => ?_)
            · have y105 := (j82_0).n (by omega)
              refine s_iconst C dX8_form_112 ?_
              refine J113 0 ?_ (by first | assumption | omega)
              · unfold op_form; dsimp only; (repeat' split) <;> omega
            · have y105 := (j82_0).y (by omega)
              refine s_iconst C dX8_form_108 ?_
              refine s_goto (tgt := 113) C dX8_form_109 (by decide) ?_
              refine J113 3 ?_ (by first | assumption | omega)
              · unfold op_form; dsimp only; (repeat' split) <;> omega
          · have y96 := (hp32).n (by omega)
            refine s_iconst C dX8_form_99 ?_
            refine s_goto (tgt := 113) C dX8_form_100 (by decide) ?_
            refine J113 2 ?_ (by first | assumption | omega)
            · unfold op_form; dsimp only; (repeat' split) <;> omega
        · have y87 := (j27_0).n (by omega)
          refine s_iconst C dX8_form_90 ?_
          refine s_goto (tgt := 113) C dX8_form_91 (by decide) ?_
          refine J113 1 ?_ (by first | assumption | omega)
          · unfold op_form; dsimp only; (repeat' split) <;> omega
      refine s_if_eq (tgt := 81) C dX8_form_57 (by decide) (by omega) (fun c57 => ?_) (fun c57 => ?_)
      · have y57 := (j27_0).n (by omega)
        refine s_iconst C dX8_form_81 ?_
        refine J82 0 ?_
        · exact yn.zero (by omega)
      · have y57 := (j27_0).y (by omega)
        have e207 := (hO.1 x (by omega) (by omega)).2.2.1.1
        have hn40 := (hS.1 x (by omega) (by omega)).2.2.2.2.1
        refine s_iload C dX8_form_60 rfl ?_
        refine s_iconst C dX8_form_62 ?_
        refine s_icmp_ne (tgt := 81) C dX8_form_63 (by decide) (by omega) (by omega) (fun c63 => ?_) (fun c63 => ?_)
        · refine s_iconst C dX8_form_81 ?_
          refine J82 0 ?_
          · exact yn.zero (by omega)
        · refine s_aload_n C dX8_form_66 rfl ?_
          refine s_getR (c := 8) C fl_8_43 dX8_form_67 sh_195 rfl rf_195_11 ?_
          refine s_iload_n C dX8_form_70 rfl ?_
          refine s_iald C dX8_form_71 sh_207 (by omega) (fun g71 => ?_)
          refine s_bipush C dX8_form_72 (by decide) ?_
          refine s_icmp_ne (tgt := 81) C dX8_form_74 (by decide) (by omega) (by omega) (fun c74 => ?_) (fun c74 => ?_)
          · refine s_iconst C dX8_form_81 ?_
            refine J82 0 ?_
            · exact yn.zero (by omega)
          · refine s_iconst C dX8_form_77 ?_
            refine s_goto (tgt := 82) C dX8_form_78 (by decide) ?_
            refine J82 1 ?_
            · exact yn.one (by omega)
    refine s_if_eq (tgt := 52) C dX8_form_39 (by decide) (by omega) (fun c39 => ?_) (fun c39 => ?_)
    · have y39 := (j27_0).n (by omega)
      refine s_iconst C dX8_form_52 ?_
      refine J53 (-1) ?_ (by first | assumption | omega)
      · exact Or.inl ⟨rfl, by omega⟩
    · have y39 := (j27_0).y (by omega)
      refine s_aload_n C dX8_form_42 rfl ?_
      refine s_iload_n C dX8_form_43 rfl ?_
      refine s_iload_n C dX8_form_44 rfl ?_
      refine s_iload_n C dX8_form_45 rfl ?_
      refine s_cV3i C dX8_form_46 lkX8_138 moX8_formAt mvX8_formAt (kX8_formAt (by exact hS.1 x (by omega) (by omega)) (by omega) (by exact (hO.1 x (by omega) (by omega)).2.2.1) (by omega) (by omega)) sh_195 ⟨_, _, rfl⟩ (by decide) (Nat.le_of_ble_eq_true rfl) rfl (by decide) (kpI (fun r46 hp46 => ?_))
      have hn40 := (hS.1 x (by omega) (by omega)).2.2.2.2.1
      refine s_goto (tgt := 53) C dX8_form_49 (by decide) ?_
      refine J53 r46 ?_ (by first | assumption | omega)
      · rcases hp46 with q | q
        · exact Or.inl ⟨q.1, Or.inr q.2⟩
        · exact Or.inr ⟨y39, q⟩
  refine s_if_eq (tgt := 26) C dX8_form_4 (by decide) (by omega) (fun c4 => ?_) (fun c4 => ?_)
  · have y4 := (hp1).n (by omega)
    refine s_iconst C dX8_form_26 ?_
    refine J27 0 ?_
    · exact yn.zero (by omega)
  · have y4 := (hp1).y (by omega)
    refine s_iload_n C dX8_form_7 rfl ?_
    refine s_cS1i C dX8_form_8 lkX8_118 moX8_isWord mvX8_isWord (kX8_isWord (by omega)) (by decide) (Nat.le_of_ble_eq_true rfl) rfl (by decide) (kpI (fun r8 hp8 => ?_))
    have hb8 := (hp8).b
    refine s_if_eq (tgt := 26) C dX8_form_11 (by decide) (by omega) (fun c11 => ?_) (fun c11 => ?_)
    · have y11 := (hp8).n (by omega)
      refine s_iconst C dX8_form_26 ?_
      refine J27 0 ?_
      · exact yn.zero (by omega)
    · have y11 := (hp8).y (by omega)
      refine s_iload C dX8_form_14 rfl ?_
      refine s_cS1i C dX8_form_16 lkX8_118 moX8_isWord mvX8_isWord (kX8_isWord (by omega)) (by decide) (Nat.le_of_ble_eq_true rfl) rfl (by decide) (kpI (fun r16 hp16 => ?_))
      have hb16 := (hp16).b
      refine s_if_eq (tgt := 26) C dX8_form_19 (by decide) (by omega) (fun c19 => ?_) (fun c19 => ?_)
      · have y19 := (hp16).n (by omega)
        refine s_iconst C dX8_form_26 ?_
        refine J27 0 ?_
        · exact yn.zero (by omega)
      · have y19 := (hp16).y (by omega)
        refine s_iconst C dX8_form_22 ?_
        refine s_goto (tgt := 27) C dX8_form_23 (by decide) ?_
        refine J27 1 ?_
        · exact yn.one (by omega)

set_option maxRecDepth 100000 in
set_option maxHeartbeats 8000000 in
theorem kX8_ordinal {E : sv_E} {σ : sv_G} {S : st_T} (hS : StOK S) (hO : RO σ S) {x : Int} (hx : -2147483648 ≤ x ∧ x ≤ 2147483647) {y : Int} (hy : -2147483648 ≤ y ∧ y ≤ 2147483647) : CT E MX8_ordinal 2 [(vR 195), (vI x), (vI y)] σ (PI fun r σ9 => moP σ σ9 S r (op_ordinal S x y)) := by
  refine CT.of (RX8, cX8_ordinal, 4, (some .int), [], 2, 0, 0) rfl moX8_ordinal (Nat.le_of_ble_eq_true rfl) (ls0 := [some (vR 195), some (vI x), some (vI y), none]) rfl ?_
  intro X Q C hR
  refine s_aload_n C dX8_ordinal_0 rfl ?_
  refine s_iload_n C dX8_ordinal_1 rfl ?_
  refine s_cS1i C dX8_ordinal_2 lkX8_114 moX8_isGrammar mvX8_isGrammar (kX8_isGrammar (by omega)) (by decide) (Nat.le_of_ble_eq_true rfl) rfl (by decide) (kpI (fun r2 hp2 => ?_))
  have hb2 := (hp2).b
  have J20 : ∀ (c : Int), (c = (op_ordinal S x y).1) → (0 ≤ c ∧ c ≤ 3) → SW X E Q 0 0 20 [some (vR 195), some (vI x), some (vI y), none] [(vI c), (vR 195)] σ := by
    intro c j20_0 j20_1
    refine s_cV1i C dX8_ordinal_20 lkX8_128 moX8_can mvX8_can (kX8_can (by omega)) sh_195 ⟨_, _, rfl⟩ (by decide) (Nat.le_of_ble_eq_true rfl) rfl (by decide) (fun r20 σ_20 hp20 => ?_)
    have hb20 := (hp20.2).b
    have hO2 := hO.t (can_T2 hp20.1)
    refine s_if_ne (tgt := 28) C dX8_ordinal_23 (by decide) (by omega) (fun c23 => ?_) (fun c23 => ?_)
    · have y23 := (hp20.2).y (by omega)
      have h0 : (op_ordinal S x y).1 = 0 := by rw [← j20_0]; exact y23
      have hk := ifc1 (show (if ¬ ((0 ≤ x ∧ x ≤ 3) ∧ -1 ≤ y ∧ y ≤ 199) then 1 else 0 : Int) = 0 from h0)
      have h37 : σ_20 195 37 = 0 := by rw [hp20.1, up_s]; exact y23
      have hD := hS.1 x (by omega) (by omega)
      have hM := hO2.1 x (by omega) (by omega)
      have hn0 := hD.2.2.1
      have hn1 := hD.2.2.2.1
      have hn2 := hD.2.2.2.2.1
      have hn3 := hD.2.2.2.2.2.1
      have hn4 := hD.2.2.2.2.2.2.1
      have e20 : σ_20 211 x = gC (sD S x) 3 := hM.2.2.2.1
      refine s_aload_n C dX8_ordinal_28 rfl ?_
      refine s_getR (c := 8) C fl_8_55 dX8_ordinal_29 sh_195 rfl rf_195_15 ?_
      refine s_iload_n C dX8_ordinal_32 rfl ?_
      refine s_iald C dX8_ordinal_33 sh_211 (by omega) (fun g33 => ?_)
      refine s_topI (fun x3_34 ex3_34 => ?_)
      refine s_istore_n (ls2 := [some (vR 195), some (vI x), some (vI y), some (vI x3_34)]) C dX8_ordinal_34 (by decide) rfl ?_
      refine s_aload_n C dX8_ordinal_35 rfl ?_
      refine s_getR (c := 8) C fl_8_55 dX8_ordinal_36 sh_195 rfl rf_195_15 ?_
      refine s_iload_n C dX8_ordinal_39 rfl ?_
      refine s_iload_n C dX8_ordinal_40 rfl ?_
      refine s_iast C dX8_ordinal_41 sh_211 (by omega) (by omega) ?_
      refine s_nameG (fun σ_41 hσ_41 => ?_)
      refine s_iload_n C dX8_ordinal_42 rfl ?_
      refine s_iret C hR dX8_ordinal_43 rfl ⟨_, rfl, ?_⟩ (by decide)
      have g9 : ∀ b k, b ≠ 211 → σ_41 b k = σ_20 b k := fun b k q => by rw [hσ_41, up_a q]
      refine moP.gr (g := x) hS hO h0 (show _ = gC (sD S x) 3 by rw [ex3_34]; exact e20) rfl ⟨hM.1.fr2 ⟨rfl, rfl⟩ fun b k a _ => g9 b k (by omega), hM.2.1.fr2 ⟨rfl, rfl⟩ fun b k a _ => g9 b k (by omega), hM.2.2.1.fr2 ⟨rfl, rfl⟩ fun b k a _ => g9 b k (by omega), ⟨by rw [hσ_41, up_s]; rfl, by rw [g9 _ _ (by decide)]; exact hM.2.2.2.2.1, fun i k a b c => by rw [g9 _ _ (by omega)]; exact hM.2.2.2.2.2 i k a b c⟩⟩ (by rw [hσ_41, up_a (by decide)]; exact h37) (fun b k q1 q2 => by rw [own_up (g := x) q1 (Or.inl ⟨by decide, rfl⟩) hσ_41, hp20.1, up_n q2])
    · have y23 := (hp20.2).n (by omega)
      refine s_iconst C dX8_ordinal_26 ?_
      refine s_iret C hR dX8_ordinal_27 rfl ⟨_, rfl, ?_⟩ (by decide)
      exact moP.no hO hp20.1 j20_0 y23
  refine s_if_eq (tgt := 19) C dX8_ordinal_5 (by decide) (by omega) (fun c5 => ?_) (fun c5 => ?_)
  · have y5 := (hp2).n (by omega)
    refine s_iconst C dX8_ordinal_19 ?_
    refine J20 1 ?_ (by first | assumption | omega)
    · unfold op_ordinal; dsimp only; (repeat' split) <;> omega
  · have y5 := (hp2).y (by omega)
    refine s_iload_n C dX8_ordinal_8 rfl ?_
    refine s_cS1i C dX8_ordinal_9 lkX8_135 moX8_isWordOrNone mvX8_isWordOrNone (kX8_isWordOrNone (by omega)) (by decide) (Nat.le_of_ble_eq_true rfl) rfl (by decide) (kpI (fun r9 hp9 => ?_))
    have hb9 := (hp9).b
    refine s_if_eq (tgt := 19) C dX8_ordinal_12 (by decide) (by omega) (fun c12 => ?_) (fun c12 => ?_)
    · have y12 := (hp9).n (by omega)
      refine s_iconst C dX8_ordinal_19 ?_
      refine J20 1 ?_ (by first | assumption | omega)
      · unfold op_ordinal; dsimp only; (repeat' split) <;> omega
    · have y12 := (hp9).y (by omega)
      refine s_iconst C dX8_ordinal_15 ?_
      refine s_goto (tgt := 20) C dX8_ordinal_16 (by decide) ?_
      refine J20 0 ?_ (by first | assumption | omega)
      · unfold op_ordinal; dsimp only; (repeat' split) <;> omega

set_option maxRecDepth 100000 in
set_option maxHeartbeats 8000000 in
theorem kX8_seam {E : sv_E} {σ : sv_G} {S : st_T} (hS : StOK S) (hO : RO σ S) {x : Int} (hx : -2147483648 ≤ x ∧ x ≤ 2147483647) {y : Int} (hy : -2147483648 ≤ y ∧ y ≤ 2147483647) {z : Int} (hz : -2147483648 ≤ z ∧ z ≤ 2147483647) {v : Int} (hv : -2147483648 ≤ v ∧ v ≤ 2147483647) : CT E MX8_seam 2 [(vR 195), (vI x), (vI y), (vI z), (vI v)] σ (PI fun r σ9 => moP σ σ9 S r (op_seam S x y z v)) := by
  refine CT.of (RX8, cX8_seam, 7, (some .int), [], 2, 0, 0) rfl moX8_seam (Nat.le_of_ble_eq_true rfl) (ls0 := [some (vR 195), some (vI x), some (vI y), some (vI z), some (vI v), none, none]) rfl ?_
  intro X Q C hR
  refine s_iload_n C dX8_seam_0 rfl ?_
  refine s_cS1i C dX8_seam_1 lkX8_114 moX8_isGrammar mvX8_isGrammar (kX8_isGrammar (by omega)) (by decide) (Nat.le_of_ble_eq_true rfl) rfl (by decide) (kpI (fun r1 hp1 => ?_))
  have hb1 := (hp1).b
  have J34 : ∀ (a : Int), (yn a (0 ≤ x ∧ x ≤ 3 ∧ (0 ≤ y ∧ y ≤ 199) ∧ (0 ≤ z ∧ z ≤ 199) ∧ 0 ≤ v ∧ v ≤ 199)) → SW X E Q 0 0 34 [some (vR 195), some (vI x), some (vI y), some (vI z), some (vI v), none, none] [(vI a)] σ := by
    intro a j34_0
    have hbj34_0 := j34_0.b
    refine s_istore (ls2 := [some (vR 195), some (vI x), some (vI y), some (vI z), some (vI v), some (vI a), none]) C dX8_seam_34 (by decide) rfl ?_
    refine s_aload_n C dX8_seam_36 rfl ?_
    refine s_iload C dX8_seam_37 rfl ?_
    have J62 : ∀ (c : Int), (c = (op_seam S x y z v).1) → (0 ≤ c ∧ c ≤ 3) → SW X E Q 0 0 62 [some (vR 195), some (vI x), some (vI y), some (vI z), some (vI v), some (vI a), none] [(vI c), (vR 195)] σ := by
      intro c j62_0 j62_1
      refine s_cV1i C dX8_seam_62 lkX8_128 moX8_can mvX8_can (kX8_can (by omega)) sh_195 ⟨_, _, rfl⟩ (by decide) (Nat.le_of_ble_eq_true rfl) rfl (by decide) (fun r62 σ_62 hp62 => ?_)
      have hb62 := (hp62.2).b
      have hO2 := hO.t (can_T2 hp62.1)
      refine s_if_ne (tgt := 70) C dX8_seam_65 (by decide) (by omega) (fun c65 => ?_) (fun c65 => ?_)
      · have y65 := (hp62.2).y (by omega)
        have h0 : (op_seam S x y z v).1 = 0 := by rw [← j62_0]; exact y65
        have hk := ifc2 (show (if ¬ (0 ≤ x ∧ x ≤ 3 ∧ (0 ≤ y ∧ y ≤ 199) ∧ (0 ≤ z ∧ z ≤ 199) ∧ 0 ≤ v ∧ v ≤ 199) then 1 else if gC (sD S x) 4 = 6 then 2 else 0 : Int) = 0 from h0)
        have h37 : σ_62 195 37 = 0 := by rw [hp62.1, up_s]; exact y65
        have hD := hS.1 x (by omega) (by omega)
        have hM := hO2.1 x (by omega) (by omega)
        have hn0 := hD.2.2.1
        have hn1 := hD.2.2.2.1
        have hn2 := hD.2.2.2.2.1
        have hn3 := hD.2.2.2.2.2.1
        have hn4 := hD.2.2.2.2.2.2.1
        have e62 : σ_62 212 x = gC (sD S x) 4 := hM.2.2.2.2.1
        refine s_bipush C dX8_seam_70 (by decide) ?_
        refine s_iload_n C dX8_seam_72 rfl ?_
        refine s_imul C dX8_seam_73 ?_
        refine s_aload_n C dX8_seam_74 rfl ?_
        refine s_getR (c := 8) C fl_8_58 dX8_seam_75 sh_195 rfl rf_195_16 ?_
        refine s_iload_n C dX8_seam_78 rfl ?_
        refine s_iald C dX8_seam_79 sh_212 (by omega) (fun g79 => ?_)
        refine s_iadd C dX8_seam_80 ?_
        refine s_topI (fun x6_81 ex6_81 => ?_)
        refine s_istore (ls2 := [some (vR 195), some (vI x), some (vI y), some (vI z), some (vI v), some (vI a), some (vI x6_81)]) C dX8_seam_81 (by decide) rfl ?_
        refine s_aload_n C dX8_seam_83 rfl ?_
        refine s_getR (c := 8) C fl_8_61 dX8_seam_84 sh_195 rfl rf_195_17 ?_
        refine s_iload C dX8_seam_87 rfl ?_
        refine s_iload_n C dX8_seam_89 rfl ?_
        refine s_iast C dX8_seam_90 sh_213 (by omega) (by omega) ?_
        refine s_nameG (fun σ_90 hσ_90 => ?_)
        refine s_aload_n C dX8_seam_91 rfl ?_
        refine s_getR (c := 8) C fl_8_64 dX8_seam_92 sh_195 rfl rf_195_18 ?_
        refine s_iload C dX8_seam_95 rfl ?_
        refine s_iload_n C dX8_seam_97 rfl ?_
        refine s_iast C dX8_seam_98 sh_214 (by omega) (by omega) ?_
        refine s_nameG (fun σ_98 hσ_98 => ?_)
        refine s_aload_n C dX8_seam_99 rfl ?_
        refine s_getR (c := 8) C fl_8_67 dX8_seam_100 sh_195 rfl rf_195_19 ?_
        refine s_iload C dX8_seam_103 rfl ?_
        refine s_iload C dX8_seam_105 rfl ?_
        refine s_iast C dX8_seam_107 sh_215 (by omega) (by omega) ?_
        refine s_nameG (fun σ_107 hσ_107 => ?_)
        have e107 : σ_107 212 x = gC (sD S x) 4 := by rw [hσ_107, up_a (by decide), hσ_98, up_a (by decide), hσ_90, up_a (by decide)]; exact e62
        refine s_aload_n C dX8_seam_108 rfl ?_
        refine s_getR (c := 8) C fl_8_58 dX8_seam_109 sh_195 rfl rf_195_16 ?_
        refine s_iload_n C dX8_seam_112 rfl ?_
        refine s_dup2 C dX8_seam_113 rfl rfl ?_
        refine s_iald C dX8_seam_114 sh_212 (by omega) (fun g114 => ?_)
        refine s_iconst C dX8_seam_115 ?_
        refine s_iadd C dX8_seam_116 ?_
        refine s_iast C dX8_seam_117 sh_212 (by omega) (by omega) ?_
        refine s_nameG (fun σ_117 hσ_117 => ?_)
        have e117 : σ_117 212 x = gC (sD S x) 4 + 1 := by rw [hσ_117, up_s, e107]
        refine s_aload_n C dX8_seam_118 rfl ?_
        refine s_getR (c := 8) C fl_8_58 dX8_seam_119 sh_195 rfl rf_195_16 ?_
        refine s_iload_n C dX8_seam_122 rfl ?_
        refine s_iald C dX8_seam_123 sh_212 (by omega) (fun g123 => ?_)
        refine s_iret C hR dX8_seam_124 rfl ⟨_, rfl, ?_⟩ (by decide)
        have e6 : 6 * x + gC (sD S x) 4 = x6_81 := by omega
        have g9 : ∀ b k, b < 212 → σ_117 b k = σ_62 b k := fun b k q => by rw [hσ_117, up_a (by omega), hσ_107, up_a (by omega), hσ_98, up_a (by omega), hσ_90, up_a (by omega)]
        have hSm : SM σ_117 x (dSeam (sD S x) y z v) := by
          refine hM.2.2.2.add (by rw [g9 _ _ (by decide)]; exact hM.2.2.2.1) e117 ⟨?_, ?_, ?_⟩ fun k i q hk => ?_
          · rw [e6, hσ_117, up_a (by decide), hσ_107, up_a (by decide), hσ_98, up_a (by decide), hσ_90, up_s]
          · rw [e6, hσ_117, up_a (by decide), hσ_107, up_a (by decide), hσ_98, up_s]
          · rw [e6, hσ_117, up_a (by decide), hσ_107, up_s]
          · rw [hσ_117, up_a (by omega), hσ_107, up_k (by omega), hσ_98, up_k (by omega), hσ_90, up_k (by omega)]
        refine moP.gr (g := x) hS hO h0 (show _ = gC (sD S x) 4 + 1 by exact e117) rfl ⟨hM.1.fr2 ⟨rfl, rfl⟩ fun b k a _ => g9 b k (by omega), hM.2.1.fr2 ⟨rfl, rfl⟩ fun b k a _ => g9 b k (by omega), hM.2.2.1.fr2 ⟨rfl, rfl⟩ fun b k a _ => g9 b k (by omega), hSm⟩ (by rw [hσ_117, up_a (by decide), hσ_107, up_a (by decide), hσ_98, up_a (by decide), hσ_90, up_a (by decide)]; exact h37) (fun b k q1 q2 => by rw [own_up (g := x) q1 (Or.inl ⟨by decide, rfl⟩) hσ_117, own_up (g := x) q1 (by unfold own; omega) hσ_107, own_up (g := x) q1 (by unfold own; omega) hσ_98, own_up (g := x) q1 (by unfold own; omega) hσ_90, hp62.1, up_n q2])
      · have y65 := (hp62.2).n (by omega)
        refine s_iconst C dX8_seam_68 ?_
        refine s_iret C hR dX8_seam_69 rfl ⟨_, rfl, ?_⟩ (by decide)
        exact moP.no hO hp62.1 j62_0 y65
    refine s_if_ne (tgt := 46) C dX8_seam_39 (by decide) (by omega) (fun c39 => ?_) (fun c39 => ?_)
    · have y39 := (j34_0).y (by omega)
      have e212 := (hO.1 x (by omega) (by omega)).2.2.2.2.1
      refine s_aload_n C dX8_seam_46 rfl ?_
      refine s_getR (c := 8) C fl_8_58 dX8_seam_47 sh_195 rfl rf_195_16 ?_
      refine s_iload_n C dX8_seam_50 rfl ?_
      refine s_iald C dX8_seam_51 sh_212 (by omega) (fun g51 => ?_)
      refine s_bipush C dX8_seam_52 (by decide) ?_
      refine s_icmp_ne (tgt := 61) C dX8_seam_54 (by decide) (by omega) (by omega) (fun c54 => ?_) (fun c54 => ?_)
      · refine s_iconst C dX8_seam_61 ?_
        refine J62 0 ?_ (by first | assumption | omega)
        · unfold op_seam; dsimp only; (repeat' split) <;> omega
      · refine s_iconst C dX8_seam_57 ?_
        refine s_goto (tgt := 62) C dX8_seam_58 (by decide) ?_
        refine J62 2 ?_ (by first | assumption | omega)
        · unfold op_seam; dsimp only; (repeat' split) <;> omega
    · have y39 := (j34_0).n (by omega)
      refine s_iconst C dX8_seam_42 ?_
      refine s_goto (tgt := 62) C dX8_seam_43 (by decide) ?_
      refine J62 1 ?_ (by first | assumption | omega)
      · unfold op_seam; dsimp only; (repeat' split) <;> omega
  refine s_if_eq (tgt := 33) C dX8_seam_4 (by decide) (by omega) (fun c4 => ?_) (fun c4 => ?_)
  · have y4 := (hp1).n (by omega)
    refine s_iconst C dX8_seam_33 ?_
    refine J34 0 ?_
    · exact yn.zero (by omega)
  · have y4 := (hp1).y (by omega)
    refine s_iload_n C dX8_seam_7 rfl ?_
    refine s_cS1i C dX8_seam_8 lkX8_118 moX8_isWord mvX8_isWord (kX8_isWord (by omega)) (by decide) (Nat.le_of_ble_eq_true rfl) rfl (by decide) (kpI (fun r8 hp8 => ?_))
    have hb8 := (hp8).b
    refine s_if_eq (tgt := 33) C dX8_seam_11 (by decide) (by omega) (fun c11 => ?_) (fun c11 => ?_)
    · have y11 := (hp8).n (by omega)
      refine s_iconst C dX8_seam_33 ?_
      refine J34 0 ?_
      · exact yn.zero (by omega)
    · have y11 := (hp8).y (by omega)
      refine s_iload_n C dX8_seam_14 rfl ?_
      refine s_cS1i C dX8_seam_15 lkX8_118 moX8_isWord mvX8_isWord (kX8_isWord (by omega)) (by decide) (Nat.le_of_ble_eq_true rfl) rfl (by decide) (kpI (fun r15 hp15 => ?_))
      have hb15 := (hp15).b
      refine s_if_eq (tgt := 33) C dX8_seam_18 (by decide) (by omega) (fun c18 => ?_) (fun c18 => ?_)
      · have y18 := (hp15).n (by omega)
        refine s_iconst C dX8_seam_33 ?_
        refine J34 0 ?_
        · exact yn.zero (by omega)
      · have y18 := (hp15).y (by omega)
        refine s_iload C dX8_seam_21 rfl ?_
        refine s_cS1i C dX8_seam_23 lkX8_118 moX8_isWord mvX8_isWord (kX8_isWord (by omega)) (by decide) (Nat.le_of_ble_eq_true rfl) rfl (by decide) (kpI (fun r23 hp23 => ?_))
        have hb23 := (hp23).b
        refine s_if_eq (tgt := 33) C dX8_seam_26 (by decide) (by omega) (fun c26 => ?_) (fun c26 => ?_)
        · have y26 := (hp23).n (by omega)
          refine s_iconst C dX8_seam_33 ?_
          refine J34 0 ?_
          · exact yn.zero (by omega)
        · have y26 := (hp23).y (by omega)
          refine s_iconst C dX8_seam_29 ?_
          refine s_goto (tgt := 34) C dX8_seam_30 (by decide) ?_
          refine J34 1 ?_
          · exact yn.one (by omega)

set_option maxRecDepth 100000 in
set_option maxHeartbeats 8000000 in
theorem kX8_empty {E : sv_E} {σ : sv_G} {S : st_T} (hS : StOK S) (hO : RO σ S) {x : Int} (hx : -2147483648 ≤ x ∧ x ≤ 2147483647) : CT E MX8_empty 2 [(vR 195), (vI x)] σ (PI fun r σ9 => moP σ σ9 S r (op_empty S x)) := by
  refine CT.of (RX8, cX8_empty, 3, (some .int), [], 2, 0, 0) rfl moX8_empty (Nat.le_of_ble_eq_true rfl) (ls0 := [some (vR 195), some (vI x), none]) rfl ?_
  intro X Q C hR
  refine s_aload_n C dX8_empty_0 rfl ?_
  refine s_iload_n C dX8_empty_1 rfl ?_
  refine s_cS1i C dX8_empty_2 lkX8_114 moX8_isGrammar mvX8_isGrammar (kX8_isGrammar (by omega)) (by decide) (Nat.le_of_ble_eq_true rfl) rfl (by decide) (kpI (fun r2 hp2 => ?_))
  have hb2 := (hp2).b
  have J13 : ∀ (c : Int), (c = (op_empty S x).1) → (0 ≤ c ∧ c ≤ 3) → SW X E Q 0 0 13 [some (vR 195), some (vI x), none] [(vI c), (vR 195)] σ := by
    intro c j13_0 j13_1
    refine s_cV1i C dX8_empty_13 lkX8_128 moX8_can mvX8_can (kX8_can (by omega)) sh_195 ⟨_, _, rfl⟩ (by decide) (Nat.le_of_ble_eq_true rfl) rfl (by decide) (fun r13 σ_13 hp13 => ?_)
    have hb13 := (hp13.2).b
    have hO2 := hO.t (can_T2 hp13.1)
    refine s_if_ne (tgt := 21) C dX8_empty_16 (by decide) (by omega) (fun c16 => ?_) (fun c16 => ?_)
    · have y16 := (hp13.2).y (by omega)
      have h0 : (op_empty S x).1 = 0 := by rw [← j13_0]; exact y16
      have hk := ifc1 (show (if ¬ (0 ≤ x ∧ x ≤ 3) then 1 else 0 : Int) = 0 from h0)
      have h37 : σ_13 195 37 = 0 := by rw [hp13.1, up_s]; exact y16
      have hD := hS.1 x (by omega) (by omega)
      have hM := hO2.1 x (by omega) (by omega)
      have hn0 := hD.2.2.1
      have hn1 := hD.2.2.2.1
      have hn2 := hD.2.2.2.2.1
      have hn3 := hD.2.2.2.2.2.1
      have hn4 := hD.2.2.2.2.2.2.1
      have e13 : σ_13 196 x = gC (sD S x) 0 := hM.1.1
      have e14 : σ_13 199 x = gC (sD S x) 1 := hM.2.1.1
      refine s_aload_n C dX8_empty_21 rfl ?_
      refine s_getR (c := 8) C fl_8_7 dX8_empty_22 sh_195 rfl rf_195_0 ?_
      refine s_iload_n C dX8_empty_25 rfl ?_
      refine s_iald C dX8_empty_26 sh_196 (by omega) (fun g26 => ?_)
      refine s_aload_n C dX8_empty_27 rfl ?_
      refine s_getR (c := 8) C fl_8_19 dX8_empty_28 sh_195 rfl rf_195_3 ?_
      refine s_iload_n C dX8_empty_31 rfl ?_
      refine s_iald C dX8_empty_32 sh_199 (by omega) (fun g32 => ?_)
      refine s_iadd C dX8_empty_33 ?_
      refine s_topI (fun x2_34 ex2_34 => ?_)
      refine s_istore_n (ls2 := [some (vR 195), some (vI x), some (vI x2_34)]) C dX8_empty_34 (by decide) rfl ?_
      refine s_aload_n C dX8_empty_35 rfl ?_
      refine s_getR (c := 8) C fl_8_7 dX8_empty_36 sh_195 rfl rf_195_0 ?_
      refine s_iload_n C dX8_empty_39 rfl ?_
      refine s_iconst C dX8_empty_40 ?_
      refine s_iast C dX8_empty_41 sh_196 (by omega) (by omega) ?_
      refine s_nameG (fun σ_41 hσ_41 => ?_)
      refine s_aload_n C dX8_empty_42 rfl ?_
      refine s_getR (c := 8) C fl_8_19 dX8_empty_43 sh_195 rfl rf_195_3 ?_
      refine s_iload_n C dX8_empty_46 rfl ?_
      refine s_iconst C dX8_empty_47 ?_
      refine s_iast C dX8_empty_48 sh_199 (by omega) (by omega) ?_
      refine s_nameG (fun σ_48 hσ_48 => ?_)
      refine s_aload_n C dX8_empty_49 rfl ?_
      refine s_getR (c := 8) C fl_8_43 dX8_empty_50 sh_195 rfl rf_195_11 ?_
      refine s_iload_n C dX8_empty_53 rfl ?_
      refine s_iconst C dX8_empty_54 ?_
      refine s_iast C dX8_empty_55 sh_207 (by omega) (by omega) ?_
      refine s_nameG (fun σ_55 hσ_55 => ?_)
      refine s_aload_n C dX8_empty_56 rfl ?_
      refine s_getR (c := 8) C fl_8_58 dX8_empty_57 sh_195 rfl rf_195_16 ?_
      refine s_iload_n C dX8_empty_60 rfl ?_
      refine s_iconst C dX8_empty_61 ?_
      refine s_iast C dX8_empty_62 sh_212 (by omega) (by omega) ?_
      refine s_nameG (fun σ_62 hσ_62 => ?_)
      refine s_aload_n C dX8_empty_63 rfl ?_
      refine s_getR (c := 8) C fl_8_55 dX8_empty_64 sh_195 rfl rf_195_15 ?_
      refine s_iload_n C dX8_empty_67 rfl ?_
      refine s_iconst C dX8_empty_68 ?_
      refine s_iast C dX8_empty_69 sh_211 (by omega) (by omega) ?_
      refine s_nameG (fun σ_69 hσ_69 => ?_)
      refine s_iload_n C dX8_empty_70 rfl ?_
      refine s_iret C hR dX8_empty_71 rfl ⟨_, rfl, ?_⟩ (by decide)
      refine moP.gr (g := x) hS hO h0 (show _ = gC (sD S x) 0 + gC (sD S x) 1 by rw [ex2_34, e13, e14]) rfl ⟨⟨?_, fun i h1 h2 => ?_, fun y q => absurd rfl q, fun i j h1 h2 h3 => ?_⟩, ⟨?_, fun i k h1 h2 h3 => ?_⟩, ⟨?_, fun i h1 h2 => ?_, fun w k q => absurd rfl q, fun i j h1 h2 h3 => ?_⟩, ⟨?_, ?_, fun i k h1 h2 h3 => ?_⟩⟩ (by rw [hσ_69, up_a (by decide), hσ_62, up_a (by decide), hσ_55, up_a (by decide), hσ_48, up_a (by decide), hσ_41, up_a (by decide)]; exact h37) (fun b k q1 q2 => by rw [own_up (g := x) q1 (Or.inl ⟨by decide, rfl⟩) hσ_69, own_up (g := x) q1 (Or.inl ⟨by decide, rfl⟩) hσ_62, own_up (g := x) q1 (Or.inl ⟨by decide, rfl⟩) hσ_55, own_up (g := x) q1 (Or.inl ⟨by decide, rfl⟩) hσ_48, own_up (g := x) q1 (Or.inl ⟨by decide, rfl⟩) hσ_41, hp13.1, up_n q2])
      · rw [hσ_69, up_a (by decide), hσ_62, up_a (by decide), hσ_55, up_a (by decide), hσ_48, up_a (by decide), hσ_41, up_s]; rfl
      · have h2' : i < 0 := h2
        omega
      · have h3' : j < 0 := h3
        omega
      · rw [hσ_69, up_a (by decide), hσ_62, up_a (by decide), hσ_55, up_a (by decide), hσ_48, up_s]; rfl
      · have h2' : i < 0 := h2
        omega
      · rw [hσ_69, up_a (by decide), hσ_62, up_a (by decide), hσ_55, up_s]; rfl
      · have h2' : i < 0 := h2
        omega
      · have h3' : j < 0 := h3
        omega
      · rw [hσ_69, up_s]; rfl
      · rw [hσ_69, up_a (by decide), hσ_62, up_s]; rfl
      · have h2' : i < 0 := h2
        omega
    · have y16 := (hp13.2).n (by omega)
      refine s_iconst C dX8_empty_19 ?_
      refine s_iret C hR dX8_empty_20 rfl ⟨_, rfl, ?_⟩ (by decide)
      exact moP.no hO hp13.1 j13_0 y16
  refine s_if_eq (tgt := 12) C dX8_empty_5 (by decide) (by omega) (fun c5 => ?_) (fun c5 => ?_)
  · have y5 := (hp2).n (by omega)
    refine s_iconst C dX8_empty_12 ?_
    refine J13 1 ?_ (by first | assumption | omega)
    · unfold op_empty; dsimp only; (repeat' split) <;> omega
  · have y5 := (hp2).y (by omega)
    refine s_iconst C dX8_empty_8 ?_
    refine s_goto (tgt := 13) C dX8_empty_9 (by decide) ?_
    refine J13 0 ?_ (by first | assumption | omega)
    · unfold op_empty; dsimp only; (repeat' split) <;> omega
