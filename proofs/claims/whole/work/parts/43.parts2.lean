theorem jn_st {D : gd_T} {g p : Int} (hb : bsOK (gB D p)) : stD D g (jnF D p) = some (jnF D p) ∧ itsOK D g (jnF D p) ∧ stM (jnF D p) ≤ 1 ∧ (jnF D p).length ≤ 1 := by
  unfold jnF
  have h4 := hb.2.2.2.2.1
  by_cases q : gB D p 4 = -1
  · rw [if_pos q]; exact ⟨rfl, (fun x h => by cases h), Nat.zero_le _, Nat.zero_le _⟩
  · rw [if_neg q]
    have hw := it_w (D := D) (g := g) (x := gB D p 4) (by omega)
    exact ⟨by rw [stD_one]; exact hw.1, itsOK.one hw.2.1, by show itM _ + 0 ≤ 1; rw [hw.2.2]; exact Nat.le_refl 1, Nat.le_refl 1⟩
theorem ms_1 {a n : Int} (h0 : 0 ≤ a) (h : a < n) : 4 ^ (a.toNat + 1) + 2 < 4 ^ (n.toNat + 1) := by
  have h1 := p4_m h0 h
  have h2 := p4 (a.toNat + 1)
  omega
theorem ms_2 {a b n : Int} (h0 : 0 ≤ a) (h : a < n) (h1 : 0 ≤ b) (h2 : b < n) : (4 ^ (a.toNat + 1) + 2) + (1 + 4 ^ (b.toNat + 1)) < 4 ^ (n.toNat + 1) := by
  have g1 := p4_m h0 h
  have g2 := p4_m h1 h2
  have g3 : 4 * 4 ^ (0 + 1) ≤ 4 ^ (n.toNat + 1) := by
    have := Nat.pow_le_pow_right (n := 4) (by decide) (show 0 + 1 + 1 ≤ n.toNat + 1 by omega)
    rw [Nat.pow_succ] at this
    omega
  omega
theorem fr_b {σ σ9 : sv_G} {a : Nat} {k v : Int} (h : frK σ σ9) (e : σ a k = v) (h1 : a ≠ 195) (h2 : a ≠ 218) : σ9 a k = v := (h a k (Or.inl h1) h2).trans e
set_option maxRecDepth 100000 in
set_option maxHeartbeats 8000000 in
theorem kX8_parts {E : sv_E} {σ : sv_G} {D : gd_T} {g : Int} (hD : GDok D) (hg : 0 ≤ g ∧ g ≤ 3) (hAM : AM σ g D) (hBM : BM σ g D) {n9 : Int} (hn9 : 0 ≤ n9 ∧ n9 ≤ 9999) {S : List Int} (hS9 : SK σ S) (hl : S.length ≤ 20) : CT E MX8_parts 2 [(vR 195), (vI g), (vI n9)] σ (PI fun r σ9 => frK σ σ9 ∧ ((r = 1 ∧ psh σ σ9 D g S (nm D n9) (4 ^ (n9.toNat + 1))) ∨ (r = 0 ∧ nm D n9 = none))) := by
  refine CT.of (RX8, cX8_parts, 10, (some .boolean), [], 2, 0, 0) rfl moX8_parts (Nat.le_of_ble_eq_true rfl) (ls0 := [some (vR 195), some (vI g), some (vI n9), none, none, none, none, none, none, none]) rfl ?_
  intro X Q C hR
  have hn0 := hD.2.2.1
  have hnb := hD.2.2.2.1
  have hf := hD.1 n9
  have hun := nm_unf hD hn9.1 hn9.2
  unfold nmU at hun
  refine s_aload_n C dX8_parts_0 rfl ?_
  refine s_iload_n C dX8_parts_1 rfl ?_
  refine s_iload_n C dX8_parts_2 rfl ?_
  refine s_cV2i C dX8_parts_3 lkX8_124 moX8_atomAt mvX8_atomAt (kX8_atomAt (by exact hD) (by exact hg) (by exact hAM) (by omega)) sh_195 ⟨_, _, rfl⟩ (by decide) (Nat.le_of_ble_eq_true rfl) rfl (by decide) (kpI (fun r3 hp3 => ?_))
  have hr3 : (r3 = -1 ∧ gF D n9 = -1) ∨ ((40 * g ≤ r3 ∧ r3 < 40 * g + gC D 0) ∧ σ 198 r3 = gF D n9 ∧ gF D n9 ≠ -1) := by
    rcases hp3 with q | ⟨q1, q2, q3, q4⟩
    · exact Or.inl q
    · exact Or.inr ⟨q1, q3, q4⟩
  refine s_istore_n (ls2 := [some (vR 195), some (vI g), some (vI n9), some (vI r3), none, none, none, none, none, none]) C dX8_parts_6 (by decide) rfl ?_
  refine s_iload_n C dX8_parts_7 rfl ?_
  refine s_iconst C dX8_parts_8 ?_
  refine s_icmp_eq (tgt := 24) C dX8_parts_9 (by decide) (by omega) (by omega) (fun c9 => ?_) (fun c9 => ?_)
  · rw [if_neg (by omega)] at hun
    refine s_aload_n C dX8_parts_24 rfl ?_
    refine s_iload_n C dX8_parts_25 rfl ?_
    refine s_iload_n C dX8_parts_26 rfl ?_
    refine s_cV2i C dX8_parts_27 lkX8_149 moX8_counts mvX8_counts (kX8_counts (by exact hD) (by exact hg) (by exact hBM) (by omega)) sh_195 ⟨_, _, rfl⟩ (by decide) (Nat.le_of_ble_eq_true rfl) rfl (by decide) (kpI (fun r27 hp27 => ?_))
    have hr27 : (r27 = -1 ∧ cnt D n9 = -1) ∨ (cnt D n9 ≠ -1 ∧ r27 = 5 * g + cnt D n9 ∧ 0 ≤ cnt D n9 ∧ cnt D n9 < gC D 1) := by
      rcases hp27 with q | q
      · exact Or.inl q
      · have hci := cnt_in hD q.1
        exact Or.inr ⟨q.1, q.2, hci.1, hci.2.1⟩
    refine s_istore (ls2 := [some (vR 195), some (vI g), some (vI n9), some (vI r3), some (vI r27), none, none, none, none, none]) C dX8_parts_30 (by decide) rfl ?_
    refine s_iload C dX8_parts_32 rfl ?_
    refine s_iconst C dX8_parts_34 ?_
    refine s_icmp_ne (tgt := 40) C dX8_parts_35 (by decide) (by omega) (by omega) (fun c35 => ?_) (fun c35 => ?_)
    · have hc := cnt_in hD (n := n9) (by omega)
      rw [if_neg (by omega)] at hun
      obtain ⟨p, hpe⟩ : ∃ p, p = cnt D n9 := ⟨_, rfl⟩
      rw [← hpe] at hc hun
      have hp : 0 ≤ p ∧ p < gC D 1 := ⟨hc.1, hc.2.1⟩
      have hx9 : r27 = 5 * g + p := by omega
      obtain ⟨s0, s1, s2, s3, s4, s5, s6⟩ := hc.2.2.2
      have hbk : ∀ k : Nat, k < 7 → σ (200 + k) r27 = gB D p k := fun k hk => by rw [hx9]; exact hBM.2 p k hp.1 hp.2 hk
      have b0 : σ 200 r27 = gB D p 0 := hbk 0 (by decide)
      have b2 : σ 202 r27 = gB D p 2 := hbk 2 (by decide)
      have b3 : σ 203 r27 = gB D p 3 := hbk 3 (by decide)
      have b4 : σ 204 r27 = gB D p 4 := hbk 4 (by decide)
      have b5 : σ 205 r27 = gB D p 5 := hbk 5 (by decide)
      have b6 : σ 206 r27 = gB D p 6 := hbk 6 (by decide)
      have hln := lnd15 s3
      have hjn := jn_st (g := g) hc.2.2.2
      refine s_iload_n C dX8_parts_40 rfl ?_
      refine s_aload_n C dX8_parts_41 rfl ?_
      refine s_getR (c := 8) C fl_8_22 dX8_parts_42 sh_195 rfl rf_195_4 ?_
      refine s_iload C dX8_parts_45 rfl ?_
      refine s_iald C dX8_parts_47 sh_200 (by omega) (fun g47 => ?_)
      refine s_idiv C dX8_parts_48 (by omega) (by omega) ?_
      refine s_topI (fun x5_49 ex5_49 => ?_)
      refine s_istore (ls2 := [some (vR 195), some (vI g), some (vI n9), some (vI r3), some (vI r27), some (vI x5_49), none, none, none, none]) C dX8_parts_49 (by decide) rfl ?_
      rw [b0] at ex5_49
      refine s_iload_n C dX8_parts_51 rfl ?_
      refine s_aload_n C dX8_parts_52 rfl ?_
      refine s_getR (c := 8) C fl_8_22 dX8_parts_53 sh_195 rfl rf_195_4 ?_
      refine s_iload C dX8_parts_56 rfl ?_
      refine s_iald C dX8_parts_58 sh_200 (by omega) (fun g58 => ?_)
      refine s_irem C dX8_parts_59 (by omega) (by omega) ?_
      refine s_topI (fun x6_60 ex6_60 => ?_)
      refine s_istore (ls2 := [some (vR 195), some (vI g), some (vI n9), some (vI r3), some (vI r27), some (vI x5_49), some (vI x6_60), none, none, none]) C dX8_parts_60 (by decide) rfl ?_
      rw [b0] at ex6_60
      rw [← ex5_49, ← ex6_60] at hun
      have eN := hun
      have hch := chd_of s0.1 (n := n9) (b := gB D p 0) hc.2.2.1
      rw [← ex5_49, ← ex6_60] at hch
      unfold chd at hch
      refine s_iload C dX8_parts_62 rfl ?_
      refine s_if_ne (tgt := 96) C dX8_parts_64 (by decide) (by omega) (fun c64 => ?_) (fun c64 => ?_)
      · refine s_aload_n C dX8_parts_96 rfl ?_
        refine s_getR (c := 8) C fl_8_22 dX8_parts_97 sh_195 rfl rf_195_4 ?_
        refine s_iload C dX8_parts_100 rfl ?_
        refine s_iald C dX8_parts_102 sh_200 (by omega) (fun g102 => ?_)
        refine s_iload C dX8_parts_103 rfl ?_
        refine s_isub C dX8_parts_105 ?_
        refine s_aload_n C dX8_parts_106 rfl ?_
        refine s_getR (c := 8) C fl_8_37 dX8_parts_107 sh_195 rfl rf_195_9 ?_
        refine s_iload C dX8_parts_110 rfl ?_
        refine s_iald C dX8_parts_112 sh_205 (by omega) (fun g112 => ?_)
        refine s_icmp_gt (tgt := 182) C dX8_parts_113 (by decide) (by omega) (by omega) (fun c113 => ?_) (fun c113 => ?_)
        · refine s_aload_n C dX8_parts_182 rfl ?_
          refine s_getR (c := 8) C fl_8_31 dX8_parts_183 sh_195 rfl rf_195_7 ?_
          refine s_iload C dX8_parts_186 rfl ?_
          refine s_iald C dX8_parts_188 sh_203 (by omega) (fun g188 => ?_)
          refine s_bipush C dX8_parts_189 (by decide) ?_
          refine s_iand C dX8_parts_191 ?_
          have J204 : ∀ (its : Int), (its = if landI (gB D p 3) 8 ≠ 0 then x5_49 + 1 else x5_49) → (1 ≤ its ∧ its < n9) → SW X E Q 0 0 204 [some (vR 195), some (vI g), some (vI n9), some (vI r3), some (vI r27), some (vI x5_49), some (vI x6_60), none, none, none] [(vI its)] σ := by
            intro its j204_0 j204_1
            have eB : nmB D (nm D) p x5_49 x6_60 = if landI (gB D p 3) 12 ≠ 0 then oap (oap (nm D x6_60) (some (jnF D p))) (prF D (nm D) p its) else oap (oap (prF D (nm D) p its) (some (jnF D p))) (nm D x6_60) := by
              unfold nmB
              rw [if_neg (by omega), if_neg (by omega), j204_0]
              by_cases q8 : landI (gB D p 3) 8 ≠ 0
              · rw [if_pos q8, if_pos q8, if_pos (by omega)]
              · rw [if_neg q8, if_neg q8]
                by_cases q4 : landI (gB D p 3) 4 ≠ 0
                · rw [if_pos q4, if_pos (by omega)]
                · rw [if_neg q4, if_neg (by omega)]
            rw [eB] at eN
            refine s_istore (ls2 := [some (vR 195), some (vI g), some (vI n9), some (vI r3), some (vI r27), some (vI x5_49), some (vI x6_60), some (vI its), none, none]) C dX8_parts_204 (by decide) rfl ?_
            refine s_iload C dX8_parts_206 rfl ?_
            refine s_aload_n C dX8_parts_208 rfl ?_
            refine s_getR (c := 8) C fl_8_28 dX8_parts_209 sh_195 rfl rf_195_6 ?_
            refine s_iload C dX8_parts_212 rfl ?_
            refine s_iald C dX8_parts_214 sh_202 (by omega) (fun g214 => ?_)
            refine s_icmp_le (tgt := 220) C dX8_parts_215 (by decide) (by omega) (by omega) (fun c215 => ?_) (fun c215 => ?_)
            · refine s_aload_n C dX8_parts_220 rfl ?_
              refine s_getR (c := 8) C fl_8_31 dX8_parts_221 sh_195 rfl rf_195_7 ?_
              refine s_iload C dX8_parts_224 rfl ?_
              refine s_iald C dX8_parts_226 sh_203 (by omega) (fun g226 => ?_)
              refine s_bipush C dX8_parts_227 (by decide) ?_
              refine s_iand C dX8_parts_229 ?_
              have J238 : ∀ (w : Int), ((w = 1 ∧ landI (gB D p 3) 12 ≠ 0) ∨ (w = 0 ∧ landI (gB D p 3) 12 = 0)) → SW X E Q 0 0 238 [some (vR 195), some (vI g), some (vI n9), some (vI r3), some (vI r27), some (vI x5_49), some (vI x6_60), some (vI its), none, none] [(vI w)] σ := by
                intro w j238_0
                refine s_istore (ls2 := [some (vR 195), some (vI g), some (vI n9), some (vI r3), some (vI r27), some (vI x5_49), some (vI x6_60), some (vI its), some (vI w), none]) C dX8_parts_238 (by decide) rfl ?_
                refine s_iload C dX8_parts_240 rfl ?_
                have J300 : ∀ (τ : sv_G), (frK σ τ) → (psh σ τ D g S (nm D n9) (4 ^ (n9.toNat + 1))) → SW X E Q 0 0 300 [some (vR 195), some (vI g), some (vI n9), some (vI r3), some (vI r27), some (vI x5_49), some (vI x6_60), some (vI its), some (vI w), none] [] τ := by
                  intro τ j300_0 j300_1
                  refine s_iconst C dX8_parts_300 ?_
                  refine s_zret C hR dX8_parts_301 rfl (by omega) ⟨_, rfl, ?_⟩ (by decide)
                  exact ⟨j300_0, Or.inl ⟨rfl, j300_1⟩⟩
                refine s_if_eq (tgt := 274) C dX8_parts_242 (by decide) (by omega) (fun c242 => ?_) (fun c242 => ?_)
                · refine s_aload_n C dX8_parts_274 rfl ?_
                  refine s_sipush C dX8_parts_275 (by decide) ?_
                  refine s_iload C dX8_parts_278 rfl ?_
                  refine s_iadd C dX8_parts_280 ?_
                  refine s_cV1v C dX8_parts_281 lkX8_145 moX8_waits mvX8_waits (kX8_waits (by exact hS9) (by omega) (by omega)) sh_195 ⟨_, _, rfl⟩ (by decide) (Nat.le_of_ble_eq_true rfl) rfl (by decide) (fun σ_281 hp281 => ?_)
                  refine s_aload_n C dX8_parts_284 rfl ?_
                  refine s_iload C dX8_parts_285 rfl ?_
                  refine s_cV1v C dX8_parts_287 lkX8_155 moX8_waitsJoint mvX8_waitsJoint (kX8_waitsJoint (by exact hp281.1) (by omega) (by rw [List.length_append]; show S.length + 1 < 48; omega)) sh_195 ⟨_, _, rfl⟩ (by decide) (Nat.le_of_ble_eq_true rfl) rfl (by decide) (fun σ_287 hp287 => ?_)
                  have b4t : σ_281 204 r27 = gB D p 4 := fr_b hp281.2 b4 (by decide) (by decide)
                  have hK287 : SK σ_287 (S ++ [1000 + x6_60] ++ jnF D p) := by
                    have h := hp287.1
                    rw [b4t] at h
                    exact h
                  refine s_aload_n C dX8_parts_290 rfl ?_
                  refine s_iload C dX8_parts_291 rfl ?_
                  refine s_iload C dX8_parts_293 rfl ?_
                  refine s_cV2i C dX8_parts_295 lkX8_152 moX8_waitsProduct mvX8_waitsProduct (kX8_waitsProduct (by exact hK287) (by omega) (by omega) (by rw [List.length_append, List.length_append]; have h9 := hjn.2.2.2; show S.length + 1 + (jnF D p).length < 48; omega)) sh_195 ⟨_, _, rfl⟩ (by decide) (Nat.le_of_ble_eq_true rfl) rfl (by decide) (fun r295 σ_295 hp295 => ?_)
                  have b2t : σ_287 202 r27 = gB D p 2 := fr_b (hp281.2.tr hp287.2) b2 (by decide) (by decide)
                  have hPb : psh σ σ_295 D g S (nm D n9) (4 ^ (n9.toNat + 1)) := by
                    have hi := it_p hD (g := g) hg hp (m := its) (by omega)
                    rw [← hx9] at hi
                    have hm := it_n (D := D) (g := g) (n := x6_60) (by omega)
                    have hK := hp295.1
                    simp only [List.append_assoc] at hK
                    refine ⟨(hp281.2.tr hp287.2).tr hp295.2.1, _, hK, ?_, (itsOK.one hm.2.1).app (hjn.2.1.app (itsOK.one hi.2.1)), ?_, ?_⟩
                    · rw [List.length_append, List.length_append]
                      show 1 + ((jnF D p).length + 1) ≤ 3
                      have := hjn.2.2.2; omega
                    · rw [stD_app, stD_app, stD_one, stD_one, hjn.1, hi.1, hm.1, eN, if_neg (by omega)]
                    · rw [stM_app, stM_app]
                      show (itM _ + 0) + (stM (jnF D p) + (itM _ + 0)) < _
                      rw [hi.2.2, hm.2.2]
                      have h1 := ms_2 (a := its) (b := x6_60) (n := n9) (by omega) (by omega) (by omega) (by omega)
                      have h2 := hjn.2.2.1
                      omega
                  refine s_istore (ls2 := [some (vR 195), some (vI g), some (vI n9), some (vI r3), some (vI r27), some (vI x5_49), some (vI x6_60), some (vI its), some (vI w), some (vI r295)]) C dX8_parts_298 (by decide) rfl ?_
                  refine s_weak (ls2 := [some (vR 195), some (vI g), some (vI n9), some (vI r3), some (vI r27), some (vI x5_49), some (vI x6_60), some (vI its), some (vI w), none]) (sv_wk_c (sv_wk_c (sv_wk_c (sv_wk_c (sv_wk_c (sv_wk_c (sv_wk_c (sv_wk_c (sv_wk_c (sv_wk_n sv_wk_0)))))))))) ?_
                  refine J300 σ_295 ?_ ?_
                  · exact hPb.1
                  · exact hPb
                · refine s_aload_n C dX8_parts_245 rfl ?_
                  refine s_iload C dX8_parts_246 rfl ?_
                  refine s_iload C dX8_parts_248 rfl ?_
                  refine s_cV2i C dX8_parts_250 lkX8_152 moX8_waitsProduct mvX8_waitsProduct (kX8_waitsProduct (by exact hS9) (by omega) (by omega) (by omega)) sh_195 ⟨_, _, rfl⟩ (by decide) (Nat.le_of_ble_eq_true rfl) rfl (by decide) (fun r250 σ_250 hp250 => ?_)
                  have b4t : σ_250 204 r27 = gB D p 4 := fr_b hp250.2.1 b4 (by decide) (by decide)
                  refine s_istore (ls2 := [some (vR 195), some (vI g), some (vI n9), some (vI r3), some (vI r27), some (vI x5_49), some (vI x6_60), some (vI its), some (vI w), some (vI r250)]) C dX8_parts_253 (by decide) rfl ?_
                  refine s_aload_n C dX8_parts_255 rfl ?_
                  refine s_iload C dX8_parts_256 rfl ?_
                  refine s_cV1v C dX8_parts_258 lkX8_155 moX8_waitsJoint mvX8_waitsJoint (kX8_waitsJoint (by exact hp250.1) (by omega) (by rw [List.length_append]; show S.length + 1 < 48; omega)) sh_195 ⟨_, _, rfl⟩ (by decide) (Nat.le_of_ble_eq_true rfl) rfl (by decide) (fun σ_258 hp258 => ?_)
                  have hK258 : SK σ_258 (S ++ [20000 + 100 * r27 + its] ++ jnF D p) := by
                    have h := hp258.1
                    rw [b4t] at h
                    exact h
                  refine s_aload_n C dX8_parts_261 rfl ?_
                  refine s_sipush C dX8_parts_262 (by decide) ?_
                  refine s_iload C dX8_parts_265 rfl ?_
                  refine s_iadd C dX8_parts_267 ?_
                  refine s_cV1v C dX8_parts_268 lkX8_145 moX8_waits mvX8_waits (kX8_waits (by exact hK258) (by omega) (by rw [List.length_append, List.length_append]; have h9 := hjn.2.2.2; show S.length + 1 + (jnF D p).length < 48; omega)) sh_195 ⟨_, _, rfl⟩ (by decide) (Nat.le_of_ble_eq_true rfl) rfl (by decide) (fun σ_268 hp268 => ?_)
                  have hPa : psh σ σ_268 D g S (nm D n9) (4 ^ (n9.toNat + 1)) := by
                    have hi := it_p hD (g := g) hg hp (m := its) (by omega)
                    rw [← hx9] at hi
                    have hm := it_n (D := D) (g := g) (n := x6_60) (by omega)
                    have hK := hp268.1
                    simp only [List.append_assoc] at hK
                    refine ⟨(hp250.2.1.tr hp258.2).tr hp268.2, _, hK, ?_, (itsOK.one hi.2.1).app (hjn.2.1.app (itsOK.one hm.2.1)), ?_, ?_⟩
                    · rw [List.length_append, List.length_append]
                      show 1 + ((jnF D p).length + 1) ≤ 3
                      have := hjn.2.2.2; omega
                    · rw [stD_app, stD_app, stD_one, stD_one, hjn.1, hi.1, hm.1, eN, if_pos (by omega)]
                    · rw [stM_app, stM_app]
                      show (itM _ + 0) + (stM (jnF D p) + (itM _ + 0)) < _
                      rw [hi.2.2, hm.2.2]
                      have h1 := ms_2 (a := its) (b := x6_60) (n := n9) (by omega) (by omega) (by omega) (by omega)
                      have h2 := hjn.2.2.1
                      exact Nat.lt_of_le_of_lt (Nat.add_le_add_left (Nat.add_le_add_right h2 _) _) h1
                  refine s_goto (tgt := 300) C dX8_parts_271 (by decide) ?_
                  refine s_weak (ls2 := [some (vR 195), some (vI g), some (vI n9), some (vI r3), some (vI r27), some (vI x5_49), some (vI x6_60), some (vI its), some (vI w), none]) (sv_wk_c (sv_wk_c (sv_wk_c (sv_wk_c (sv_wk_c (sv_wk_c (sv_wk_c (sv_wk_c (sv_wk_c (sv_wk_n sv_wk_0)))))))))) ?_
                  refine J300 σ_268 ?_ ?_
                  · exact hPa.1
                  · exact hPa
              refine s_if_le (tgt := 237) C dX8_parts_230 (by decide) (by exact landI_rng _ _) (fun c230 => ?_) (fun c230 => ?_)
              · refine s_iconst C dX8_parts_237 ?_
                refine J238 0 ?_
                · rw [b3] at c230
                  omega
              · refine s_iconst C dX8_parts_233 ?_
                refine s_goto (tgt := 238) C dX8_parts_234 (by decide) ?_
                refine J238 1 ?_
                · rw [b3] at c230
                  omega
            · refine s_iconst C dX8_parts_218 ?_
              refine s_zret C hR dX8_parts_219 rfl (by omega) ⟨_, rfl, ?_⟩ (by decide)
              have ep : prF D (nm D) p its = none := if_pos (by omega)
              refine ⟨frK.rf, Or.inr ⟨rfl, ?_⟩⟩
              rw [eN, ep]
              split
              · exact oap_none_r _
              · rfl
          refine s_if_le (tgt := 202) C dX8_parts_192 (by decide) (by exact landI_rng _ _) (fun c192 => ?_) (fun c192 => ?_)
          · refine s_iload C dX8_parts_202 rfl ?_
            refine J204 x5_49 ?_ (by first | assumption | omega)
            · rw [b3] at c192
              rw [if_neg (by omega)]
          · refine s_iload C dX8_parts_195 rfl ?_
            refine s_iconst C dX8_parts_197 ?_
            refine s_iadd C dX8_parts_198 ?_
            refine s_goto (tgt := 204) C dX8_parts_199 (by decide) ?_
            refine J204 (x5_49 + 1) ?_ (by first | assumption | omega)
            · rw [b3] at c192
              rw [if_pos (by omega)]
        · have eB : nmB D (nm D) p x5_49 x6_60 = oap (oap (nm D (gB D p 0 - x6_60)) (some [gB D p 6])) (prF D (nm D) p (x5_49 + 1)) := by
            unfold nmB
            rw [if_neg (by omega), if_pos (by omega)]
          rw [eB] at eN
          refine s_iload C dX8_parts_116 rfl ?_
          refine s_iconst C dX8_parts_118 ?_
          refine s_iadd C dX8_parts_119 ?_
          refine s_aload_n C dX8_parts_120 rfl ?_
          refine s_getR (c := 8) C fl_8_28 dX8_parts_121 sh_195 rfl rf_195_6 ?_
          refine s_iload C dX8_parts_124 rfl ?_
          refine s_iald C dX8_parts_126 sh_202 (by omega) (fun g126 => ?_)
          have J148 : ∀ (w : Int) (τ : sv_G) (S1 : List Int), (SK τ S1) → (S1.length ≤ 21) → (frK σ τ) → ((w = 1 ∧ S1 = S ++ [20000 + 100 * r27 + (x5_49 + 1)] ∧ x5_49 + 1 ≤ gB D p 2) ∨ (w = 0 ∧ gB D p 2 < x5_49 + 1)) → SW X E Q 0 0 148 [some (vR 195), some (vI g), some (vI n9), some (vI r3), some (vI r27), some (vI x5_49), some (vI x6_60), none, none, none] [(vI w)] τ := by
            intro w τ S1 j148_0 j148_1 j148_2 j148_3
            have b6t : τ 206 r27 = gB D p 6 := fr_b j148_2 b6 (by decide) (by decide)
            refine s_istore (ls2 := [some (vR 195), some (vI g), some (vI n9), some (vI r3), some (vI r27), some (vI x5_49), some (vI x6_60), some (vI w), none, none]) C dX8_parts_148 (by decide) rfl ?_
            refine s_aload_n C dX8_parts_150 rfl ?_
            refine s_aload_n C dX8_parts_151 rfl ?_
            refine s_getR (c := 8) C fl_8_40 dX8_parts_152 sh_195 rfl rf_195_10 ?_
            refine s_iload C dX8_parts_155 rfl ?_
            refine s_iald C dX8_parts_157 sh_206 (by omega) (fun g157 => ?_)
            refine s_cV1v C dX8_parts_158 lkX8_145 moX8_waits mvX8_waits (kX8_waits (by exact j148_0) (by rw [b6t]; omega) (by omega)) sh_195 ⟨_, _, rfl⟩ (by decide) (Nat.le_of_ble_eq_true rfl) rfl (by decide) (fun σ_158 hp158 => ?_)
            rw [b6t] at hp158
            have b0t : σ_158 200 r27 = gB D p 0 := fr_b (j148_2.tr hp158.2) b0 (by decide) (by decide)
            refine s_aload_n C dX8_parts_161 rfl ?_
            refine s_sipush C dX8_parts_162 (by decide) ?_
            refine s_aload_n C dX8_parts_165 rfl ?_
            refine s_getR (c := 8) C fl_8_22 dX8_parts_166 sh_195 rfl rf_195_4 ?_
            refine s_iload C dX8_parts_169 rfl ?_
            refine s_iald C dX8_parts_171 sh_200 (by omega) (fun g171 => ?_)
            refine s_iadd C dX8_parts_172 ?_
            refine s_iload C dX8_parts_173 rfl ?_
            refine s_isub C dX8_parts_175 ?_
            refine s_cV1v C dX8_parts_176 lkX8_145 moX8_waits mvX8_waits (kX8_waits (by exact hp158.1) (by rw [b0t]; omega) (by rw [List.length_append]; show S1.length + 1 < 48; omega)) sh_195 ⟨_, _, rfl⟩ (by decide) (Nat.le_of_ble_eq_true rfl) rfl (by decide) (fun σ_176 hp176 => ?_)
            rw [b0t, show 1000 + gB D p 0 - x6_60 = 1000 + (gB D p 0 - x6_60) by omega] at hp176
            refine s_iload C dX8_parts_179 rfl ?_
            refine s_zret C hR dX8_parts_181 rfl (by rcases j148_3 with q | q <;> omega) ⟨_, rfl, ?_⟩ (by decide)
            have hK := hp176.1
            have hfr := (j148_2.tr hp158.2).tr hp176.2
            rcases j148_3 with ⟨q1, q2, q3⟩ | ⟨q1, q2⟩
            · have hi := it_p hD (g := g) hg hp (m := x5_49 + 1) (by omega)
              rw [← hx9] at hi
              have hw := it_w (D := D) (g := g) s6
              have hm := it_n (D := D) (g := g) (n := gB D p 0 - x6_60) (by omega)
              rw [q2] at hK
              simp only [List.append_assoc] at hK
              refine ⟨hfr, Or.inl ⟨q1, hfr, _, hK, by simp, (itsOK.one hi.2.1).app ((itsOK.one hw.2.1).app (itsOK.one hm.2.1)), ?_, ?_⟩⟩
              · rw [stD_app, stD_app, stD_one, stD_one, stD_one, hi.1, hw.1, hm.1, eN]
              · rw [stM_app, stM_app]
                show (itM _ + 0) + ((itM _ + 0) + (itM _ + 0)) < _
                rw [hi.2.2, hw.2.2, hm.2.2]; exact ms_2 (by omega) (by omega) (by omega) (by omega)
            · exact ⟨hfr, Or.inr ⟨q1, by rw [eN, show prF D (nm D) p (x5_49 + 1) = none from if_pos (by omega)]; exact oap_none_r _⟩⟩
          have J147 : ∀ (τ1 : sv_G), (frK σ τ1) → (SK τ1 S) → (gB D p 2 < x5_49 + 1) → SW X E Q 0 0 147 [some (vR 195), some (vI g), some (vI n9), some (vI r3), some (vI r27), some (vI x5_49), some (vI x6_60), none, none, none] [] τ1 := by
            intro τ1 j147_0 j147_1 j147_2
            refine s_iconst C dX8_parts_147 ?_
            refine J148 0 τ1 S ?_ ?_ ?_ ?_
            · exact j147_1
            · omega
            · exact j147_0
            · exact Or.inr ⟨rfl, j147_2⟩
          refine s_icmp_gt (tgt := 147) C dX8_parts_127 (by decide) (by omega) (by omega) (fun c127 => ?_) (fun c127 => ?_)
          · refine J147 σ ?_ ?_ ?_
            · exact frK.rf
            · exact hS9
            · omega
          · refine s_aload_n C dX8_parts_130 rfl ?_
            refine s_iload C dX8_parts_131 rfl ?_
            refine s_iload C dX8_parts_133 rfl ?_
            refine s_iconst C dX8_parts_135 ?_
            refine s_iadd C dX8_parts_136 ?_
            refine s_cV2i C dX8_parts_137 lkX8_152 moX8_waitsProduct mvX8_waitsProduct (kX8_waitsProduct (by exact hS9) (by omega) (by omega) (by omega)) sh_195 ⟨_, _, rfl⟩ (by decide) (Nat.le_of_ble_eq_true rfl) rfl (by decide) (fun r137 σ_137 hp137 => ?_)
            have hb137 := hp137.2.2.b
            rw [b2] at hp137
            refine s_if_eq (tgt := 147) C dX8_parts_140 (by decide) (by omega) (fun c140 => ?_) (fun c140 => ?_)
            · refine J147 σ_137 ?_ ?_ ?_
              · exfalso; exact hp137.2.2.n c140 (by omega)
              · exfalso; exact hp137.2.2.n c140 (by omega)
              · exfalso; exact hp137.2.2.n c140 (by omega)
            · refine s_iconst C dX8_parts_143 ?_
              refine s_goto (tgt := 148) C dX8_parts_144 (by decide) ?_
              refine J148 1 σ_137 (S ++ [20000 + 100 * r27 + (x5_49 + 1)]) ?_ ?_ ?_ ?_
              · exact hp137.1
              · rw [List.length_append]; show S.length + 1 ≤ 21; omega
              · exact hp137.2.1
              · exact Or.inl ⟨rfl, rfl, by omega⟩
      · have eB : nmB D (nm D) p x5_49 x6_60 = prF D (nm D) p x5_49 := by
          unfold nmB
          rw [if_pos (by omega)]
        rw [eB] at eN
        refine s_iload C dX8_parts_67 rfl ?_
        refine s_aload_n C dX8_parts_69 rfl ?_
        refine s_getR (c := 8) C fl_8_28 dX8_parts_70 sh_195 rfl rf_195_6 ?_
        refine s_iload C dX8_parts_73 rfl ?_
        refine s_iald C dX8_parts_75 sh_202 (by omega) (fun g75 => ?_)
        have J95 : ∀ (w : Int) (τ : sv_G), (w = 0 ∨ w = 1) → (frK σ τ) → ((w = 1 ∧ psh σ τ D g S (nm D n9) (4 ^ (n9.toNat + 1))) ∨ (w = 0 ∧ nm D n9 = none)) → SW X E Q 0 0 95 [some (vR 195), some (vI g), some (vI n9), some (vI r3), some (vI r27), some (vI x5_49), some (vI x6_60), none, none, none] [(vI w)] τ := by
          intro w τ j95_0 j95_1 j95_2
          refine s_zret C hR dX8_parts_95 rfl (by exact j95_0) ⟨_, rfl, ?_⟩ (by decide)
          exact ⟨j95_1, j95_2⟩
        have J94 : ∀ (τ : sv_G), (frK σ τ) → (nm D n9 = none) → SW X E Q 0 0 94 [some (vR 195), some (vI g), some (vI n9), some (vI r3), some (vI r27), some (vI x5_49), some (vI x6_60), none, none, none] [] τ := by
          intro τ j94_0 j94_1
          refine s_iconst C dX8_parts_94 ?_
          refine J95 0 τ ?_ ?_ ?_
          · omega
          · exact j94_0
          · exact Or.inr ⟨rfl, j94_1⟩
        refine s_icmp_gt (tgt := 94) C dX8_parts_76 (by decide) (by omega) (by omega) (fun c76 => ?_) (fun c76 => ?_)
        · refine J94 σ ?_ ?_
          · exact frK.rf
          · rw [eN]; unfold prF; rw [if_pos (by omega)]
        · refine s_aload_n C dX8_parts_79 rfl ?_
          refine s_iload C dX8_parts_80 rfl ?_
          refine s_iload C dX8_parts_82 rfl ?_
          refine s_cV2i C dX8_parts_84 lkX8_152 moX8_waitsProduct mvX8_waitsProduct (kX8_waitsProduct (by exact hS9) (by omega) (by omega) (by omega)) sh_195 ⟨_, _, rfl⟩ (by decide) (Nat.le_of_ble_eq_true rfl) rfl (by decide) (fun r84 σ_84 hp84 => ?_)
          have hb84 := hp84.2.2.b
          rw [b2] at hp84
          refine s_if_eq (tgt := 94) C dX8_parts_87 (by decide) (by omega) (fun c87 => ?_) (fun c87 => ?_)
          · refine J94 σ_84 ?_ ?_
            · exact hp84.2.1
            · exfalso; exact hp84.2.2.n c87 (by omega)
          · refine s_iconst C dX8_parts_90 ?_
            refine s_goto (tgt := 95) C dX8_parts_91 (by decide) ?_
            refine J95 1 σ_84 ?_ ?_ ?_
            · omega
            · exact hp84.2.1
            · have hi := it_p hD (g := g) hg hp (m := x5_49) (by omega)
              rw [← hx9] at hi
              refine Or.inl ⟨rfl, hp84.2.1, _, hp84.1, by simp, itsOK.one hi.2.1, by rw [stD_one, hi.1, eN], ?_⟩
              show itM _ + 0 < _
              rw [hi.2.2]; exact ms_1 (by omega) (by omega)
    · rw [if_pos (by omega)] at hun
      refine s_iconst C dX8_parts_38 ?_
      refine s_zret C hR dX8_parts_39 rfl (by omega) ⟨_, rfl, ?_⟩ (by decide)
      exact ⟨frK.rf, Or.inr ⟨rfl, hun⟩⟩
  · have e198 : σ 198 r3 = gF D n9 := by omega
    rw [if_pos (by omega)] at hun
    have hiw := it_w (D := D) (g := g) (x := gF D n9) (by omega)
    refine s_aload_n C dX8_parts_12 rfl ?_
    refine s_aload_n C dX8_parts_13 rfl ?_
    refine s_getR (c := 8) C fl_8_16 dX8_parts_14 sh_195 rfl rf_195_2 ?_
    refine s_iload_n C dX8_parts_17 rfl ?_
    refine s_iald C dX8_parts_18 sh_198 (by omega) (fun g18 => ?_)
    rw [e198]
    refine s_cV1v C dX8_parts_19 lkX8_145 moX8_waits mvX8_waits (kX8_waits (by exact hS9) (by omega) (by omega)) sh_195 ⟨_, _, rfl⟩ (by decide) (Nat.le_of_ble_eq_true rfl) rfl (by decide) (fun σ_19 hp19 => ?_)
    refine s_iconst C dX8_parts_22 ?_
    refine s_zret C hR dX8_parts_23 rfl (by omega) ⟨_, rfl, ?_⟩ (by decide)
    refine ⟨hp19.2, Or.inl ⟨rfl, hp19.2, _, hp19.1, by simp, itsOK.one hiw.2.1, by rw [stD_one, hiw.1, hun], ?_⟩⟩
    show itM _ + 0 < _
    rw [hiw.2.2]; have := p4 n9.toNat; rw [Nat.pow_succ]; omega
