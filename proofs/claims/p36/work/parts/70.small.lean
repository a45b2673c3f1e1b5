/-! The law's small methods. -/
def WA (σ : sv_G) (j : Nat) (l : List Int) : Prop := ∀ i : Int, 0 ≤ i → i < l.length → σ (195 + j) i = l.getD i.toNat 0
theorem WA.fr {σ σ9 : sv_G} {j : Nat} {l : List Int} (h : WA σ j l) (hf : frC σ σ9) : WA σ9 j l := fun i h1 h2 => by rw [hf _ _ (by omega)]; exact h i h1 h2
theorem lst_eq {l l2 : List Int} (h : (l.length : Int) = l2.length) (h2 : ∀ i : Int, 0 ≤ i → i < l.length → l.getD i.toNat 0 = l2.getD i.toNat 0) : l = l2 := by
  apply List.ext_getElem (by omega)
  intro i a b
  have := h2 i (by omega) (by omega)
  simpa [List.getD_eq_getElem?_getD, a, b] using this
theorem RN.wZ {σ : sv_G} {S : st_T} {j : Nat} (hS : StOK S) (h : RN σ S) : RN (wZ σ j) S := h.fr hS fun b k q => wZ_a (by omega) k
set_option maxRecDepth 100000 in
set_option maxHeartbeats 8000000 in
theorem kL_draw {E : sv_E} {σ : sv_G} {k m : Int} (hk : 0 ≤ k ∧ k ≤ 100000) (hm : 1 ≤ m ∧ m ≤ 2147483647) : CT E ML_draw 2 [vS, (vI k), (vI m)] σ (PI fun r σ9 => σ9 = σ ∧ 0 ≤ r ∧ r < m) := by
  refine CT.of (RL, cL_draw, 4, (some .int), [], 2, 0, 0) rfl moL_draw (Nat.le_of_ble_eq_true rfl) (ls0 := [some vS, some (vI k), some (vI m), none]) rfl ?_
  intro X Q C hR
  refine s_sc C fun L xs hL9 hX => ?_
  refine s_iload_n C dL_draw_0 rfl ?_
  refine s_aloadS_n C dL_draw_1 rfl ?_
  refine s_slen C hX dL_draw_2 ?_
  have J23 : ∀ (vv : Int), SW X E Q 0 0 23 [some vS, some (vI k), some (vI m), none] [(vI vv)] σ := by
    intro vv 
    refine s_istore_n (ls2 := [some vS, some (vI k), some (vI m), some (vI vv)]) C dL_draw_23 (by decide) rfl ?_
    refine s_iload_n C dL_draw_24 rfl ?_
    refine s_ldc (n := 2147483647) C dL_draw_25 lcc_9 rfl ?_
    refine s_iand C dL_draw_27 ?_
    refine s_iload_n C dL_draw_28 rfl ?_
    refine s_irem C dL_draw_29 (by exact landI_max _) (by omega) ?_
    refine s_iret C hR dL_draw_30 rfl ⟨_, rfl, ?_⟩ ⟨(show 0 ≤ 0 by omega), (show 0 ≤ 0 by omega)⟩
    exact ⟨rfl, Int.emod_nonneg _ (by omega), Int.emod_lt_of_pos _ (by omega)⟩
  refine s_icmp_ge (tgt := 12) C dL_draw_3 (by decide) (by omega) (by omega) (fun c3 => ?_) (fun c3 => ?_)
  · refine s_ldc (n := 835184597) C dL_draw_12 lcc_7 rfl ?_
    refine s_iload_n C dL_draw_14 rfl ?_
    refine s_sipush C dL_draw_15 (by decide) ?_
    refine s_iadd C dL_draw_18 ?_
    refine s_imul C dL_draw_19 ?_
    refine s_ldc (n := 799125965) C dL_draw_20 lcc_8 rfl ?_
    refine s_iadd C dL_draw_22 ?_
    exact J23 ((835184597 * (k + 859)) + 799125965)
  · refine s_aloadS_n C dL_draw_6 rfl ?_
    refine s_iload_n C dL_draw_7 rfl ?_
    refine s_sld C hX (by omega) dL_draw_8 (by omega) ?_
    refine s_goto (tgt := 23) C dL_draw_9 (by decide) ?_
    exact J23 ((xs (k).toNat).toInt)
set_option maxRecDepth 100000 in
set_option maxHeartbeats 8000000 in
theorem kL_keeps {E : sv_E} {σ : sv_G} {S : st_T} (hS : StOK S) (hN : RN σ S) {j : Nat} {n9 : Int} (hn : n9 = (sL S).length) : CT (wE E j) ML_keeps 98 [(vR 0), (vI n9), (vR (195 + j))] σ (PI fun r σ9 => r = 1 ∧ RN σ9 S ∧ WA σ9 j (sL S)) := by
  refine CT.of (RL, cL_keeps, 5, (some .boolean), [], 98, 200, 1200) rfl moL_keeps (Nat.le_of_ble_eq_true rfl) (ls0 := [some (vR 0), some (vI n9), some (vR (195 + j)), none, none]) rfl ?_
  intro X Q C hR
  have hl := hS.2.1.2
  refine s_aload_n C dL_keeps_0 rfl ?_
  refine s_iconst C dL_keeps_1 ?_
  refine s_iload_n C dL_keeps_2 rfl ?_
  refine s_iconst C dL_keeps_3 ?_
  refine s_iconst C dL_keeps_4 ?_
  refine s_iconst C dL_keeps_5 ?_
  refine s_iconst C dL_keeps_6 ?_
  refine s_cW7i (u2 := 9) (w2 := 54) C dL_keeps_7 lkL_52 moL_asks mvL_asks (kL_asks_said hS hN (by omega)) (Nat.le_of_ble_eq_true rfl) (Nat.le_of_ble_eq_true rfl) ⟨rfl, rfl⟩ ⟨(show 9 ≤ 200 by omega), (show 54 ≤ 1200 by omega)⟩ (fun r7 σ_7 hp7 => ?_)
  have o7 : (op_said S n9).1 = 1 := by unfold op_said; dsimp only; rw [if_pos (by omega)]
  have v7 : r7 = -70007 := hp7.2.2.1 o7
  have N7 := hp7.2.1 (by omega)
  refine s_ldc (n := (-70007)) C dL_keeps_10 lcc_45 rfl ?_
  refine s_icmp_ne (tgt := 34) C dL_keeps_12 (by decide) (by omega) (by omega) (fun c12 => ?_) (fun c12 => ?_)
  · exfalso; omega -- done
  · refine s_aload_n C dL_keeps_15 rfl ?_
    refine s_iconst C dL_keeps_16 ?_
    refine s_iconst C dL_keeps_17 ?_
    refine s_iconst C dL_keeps_18 ?_
    refine s_iconst C dL_keeps_19 ?_
    refine s_iconst C dL_keeps_20 ?_
    refine s_iconst C dL_keeps_21 ?_
    refine s_cW7i (u2 := 18) (w2 := 108) C dL_keeps_22 lkL_52 moL_asks mvL_asks (kL_asks_said hS N7 (by omega)) (Nat.le_of_ble_eq_true rfl) (Nat.le_of_ble_eq_true rfl) ⟨rfl, rfl⟩ ⟨(show 18 ≤ 200 by omega), (show 108 ≤ 1200 by omega)⟩ (fun r22 σ_22 hp22 => ?_)
    have o22 : (op_said S (-1)).1 = 1 := by unfold op_said; dsimp only; rw [if_pos (by omega)]
    have v22 : r22 = -70007 := hp22.2.2.1 o22
    have N22 := hp22.2.1 (by omega)
    refine s_ldc (n := (-70007)) C dL_keeps_25 lcc_45 rfl ?_
    refine s_icmp_ne (tgt := 34) C dL_keeps_27 (by decide) (by omega) (by omega) (fun c27 => ?_) (fun c27 => ?_)
    · exfalso; omega -- done
    · refine s_iconst C dL_keeps_30 ?_
      refine s_goto (tgt := 35) C dL_keeps_31 (by decide) ?_
      refine s_istore_n (ls2 := [some (vR 0), some (vI n9), some (vR (195 + j)), some (vI 1), none]) C dL_keeps_35 (by decide) rfl ?_
      refine s_iconst C dL_keeps_36 ?_
      refine s_istore (ls2 := [some (vR 0), some (vI n9), some (vR (195 + j)), some (vI 1), some (vI 0)]) C dL_keeps_37 (by decide) rfl ?_
      have L39 : ∀ (n : Nat) (b3 : Int) (i4 : Int) (τ : sv_G) (uu39 ww39 : Nat), (n9 - i4).toNat < n → ((uu39 : Int) + 9 * (n9 - i4) ≤ 200 ∧ (ww39 : Int) + 54 * (n9 - i4) ≤ 1200) → (b3 = 1) → (0 ≤ i4 ∧ i4 ≤ n9) → (RN τ S) → (∀ i : Int, 0 ≤ i → i < i4 → τ (195 + j) i = (sL S).getD i.toNat 0) → SW X (wE E j) Q uu39 ww39 39 [some (vR 0), some (vI n9), some (vR (195 + j)), some (vI b3), some (vI i4)] [] τ := by
        intro n
        induction n with
        | zero => intro b3 i4 τ uu39 ww39 hm; exact absurd hm (Nat.not_lt_zero _)
        | succ n ih39 =>
          intro b3 i4 τ uu39 ww39 hm39 i39_0 i39_1 i39_2 i39_3 i39_4
          refine s_iload C dL_keeps_39 rfl ?_
          refine s_iload_n C dL_keeps_41 rfl ?_
          refine s_icmp_ge (tgt := 93) C dL_keeps_42 (by decide) (by omega) (by omega) (fun c42 => ?_) (fun c42 => ?_)
          · refine s_iload_n C dL_keeps_93 rfl ?_
            refine s_zret C hR dL_keeps_94 rfl (by omega) ⟨_, rfl, ?_⟩ ⟨(show uu39 ≤ 200 by omega), (show ww39 ≤ 1200 by omega)⟩
            exact ⟨i39_1, i39_3, fun i h1 h2 => i39_4 i h1 (by omega)⟩
          · refine s_iload_n C dL_keeps_45 rfl ?_
            refine s_if_eq (tgt := 93) C dL_keeps_46 (by decide) (by omega) (fun c46 => ?_) (fun c46 => ?_)
            · exfalso; omega -- done
            · refine s_aload_n C dL_keeps_49 rfl ?_
              refine s_iload C dL_keeps_50 rfl ?_
              refine s_aload_n C dL_keeps_52 rfl ?_
              refine s_iconst C dL_keeps_53 ?_
              refine s_iload C dL_keeps_54 rfl ?_
              refine s_iconst C dL_keeps_56 ?_
              refine s_iconst C dL_keeps_57 ?_
              refine s_iconst C dL_keeps_58 ?_
              refine s_iconst C dL_keeps_59 ?_
              refine s_cW7i (u2 := uu39 + 9) (w2 := ww39 + 54) C dL_keeps_60 lkL_52 moL_asks mvL_asks (kL_asks_said hS i39_3 (by omega)) (Nat.le_of_ble_eq_true rfl) (Nat.le_of_ble_eq_true rfl) ⟨rfl, rfl⟩ ⟨(show uu39 + 9 ≤ 200 by omega), (show ww39 + 54 ≤ 1200 by omega)⟩ (fun r60 σ_60 hp60 => ?_)
              have o60 : (op_said S i4).1 = 0 := by unfold op_said; dsimp only; rw [if_neg (by omega)]
              obtain ⟨v60, N60, -⟩ := hp60.1 o60
              replace v60 : r60 = (sL S).getD i4.toNat 0 := v60
              replace N60 : RN σ_60 S := N60
              have F60 := hp60.2.2.2.2.2
              have g60 := wOK_getD hS.2.1.1 (i := i4.toNat) (by omega)
              refine s_iastW C dL_keeps_63 (by omega) (by omega) ?_
              refine s_nameG (fun σ_63 hσ_63 => ?_)
              have e63 : σ_63 (195 + j) i4 = r60 := by rw [hσ_63, up_s]
              have N63 : RN σ_63 S := N60.fr hS fun b k q => by rw [hσ_63, up_a (by omega)]
              refine s_aload_n C dL_keeps_64 rfl ?_
              refine s_iload C dL_keeps_65 rfl ?_
              refine s_ialdW C dL_keeps_67 (by omega) (fun g67 => ?_)
              refine s_if_lt (tgt := 85) C dL_keeps_68 (by decide) (by omega) (fun c68 => ?_) (fun c68 => ?_)
              · exfalso; omega -- done
              · refine s_aload_n C dL_keeps_71 rfl ?_
                refine s_iload C dL_keeps_72 rfl ?_
                refine s_ialdW C dL_keeps_74 (by omega) (fun g74 => ?_)
                refine s_sipush C dL_keeps_75 (by decide) ?_
                refine s_icmp_ge (tgt := 85) C dL_keeps_78 (by decide) (by omega) (by omega) (fun c78 => ?_) (fun c78 => ?_)
                · exfalso; omega -- done
                · refine s_iconst C dL_keeps_81 ?_
                  refine s_goto (tgt := 86) C dL_keeps_82 (by decide) ?_
                  refine s_istore_n (ls2 := [some (vR 0), some (vI n9), some (vR (195 + j)), some (vI 1), some (vI i4)]) C dL_keeps_86 (by decide) rfl ?_
                  obtain ⟨x4_87, ex4_87⟩ : ∃ y : Int, y = i4 + 1 := ⟨_, rfl⟩
                  refine s_iinc (z2 := x4_87) (ls2 := [some (vR 0), some (vI n9), some (vR (195 + j)), some (vI 1), some (vI x4_87)]) C dL_keeps_87 (by decide) rfl ex4_87 rfl ?_
                  refine s_goto (tgt := 39) C dL_keeps_90 (by decide) ?_
                  refine ih39 1 x4_87 σ_63 (uu39 + 9) (ww39 + 54) (by omega) (by omega) (by first | assumption | omega) (by first | assumption | omega) ?_ ?_
                  · exact N63
                  · intro i h1 h2
                    rw [hσ_63, up_i]
                    by_cases q : i = i4
                    · rw [if_pos q, v60, q]
                    · rw [if_neg q, F60 _ _ (by omega)]; exact i39_4 i h1 (by omega)
      refine L39 _ 1 0 σ_22 18 108 (Nat.lt_succ_self _) (by omega) (by first | assumption | omega) (by first | assumption | omega) ?_ ?_
      · exact N22
      · intro i h1 h2; omega
set_option maxRecDepth 100000 in
set_option maxHeartbeats 8000000 in
theorem kL_isSame {E : sv_E} {σ : sv_G} {S : st_T} (hS : StOK S) (hN : RN σ S) {j : Nat} {n9 : Int} {ws : List Int} (hn : n9 = (sL S).length) (hw : (ws.length : Int) = n9) (hW : WA σ j ws) : CT (wE E j) ML_isSame 98 [(vR 0), (vI n9), (vR (195 + j))] σ (PI fun r σ9 => RN σ9 S ∧ frC σ σ9 ∧ ((r = 1 ∧ sL S = ws) ∨ (r = 0 ∧ sL S ≠ ws))) := by
  refine CT.of (RL, cL_isSame, 5, (some .boolean), [], 98, 40, 240) rfl moL_isSame (Nat.le_of_ble_eq_true rfl) (ls0 := [some (vR 0), some (vI n9), some (vR (195 + j)), none, none]) rfl ?_
  intro X Q C hR
  have hl := hS.2.1.2
  refine s_iconst C dL_isSame_0 ?_
  refine s_istore_n (ls2 := [some (vR 0), some (vI n9), some (vR (195 + j)), some (vI 1), none]) C dL_isSame_1 (by decide) rfl ?_
  refine s_iconst C dL_isSame_2 ?_
  refine s_istore (ls2 := [some (vR 0), some (vI n9), some (vR (195 + j)), some (vI 1), some (vI 0)]) C dL_isSame_3 (by decide) rfl ?_
  have L5 : ∀ (n : Nat) (b3 : Int) (i4 : Int) (τ : sv_G) (uu5 ww5 : Nat), (n9 - i4).toNat < n → ((uu5 : Int) + 1 * (n9 - i4) ≤ 40 ∧ (ww5 : Int) + 6 * (n9 - i4) ≤ 240) → (0 ≤ i4 ∧ i4 ≤ n9) → (RN τ S) → (frC σ τ) → ((b3 = 1 ∧ ∀ i : Int, 0 ≤ i → i < i4 → (sL S).getD i.toNat 0 = ws.getD i.toNat 0) ∨ (b3 = 0 ∧ sL S ≠ ws)) → SW X (wE E j) Q uu5 ww5 5 [some (vR 0), some (vI n9), some (vR (195 + j)), some (vI b3), some (vI i4)] [] τ := by
    intro n
    induction n with
    | zero => intro b3 i4 τ uu5 ww5 hm; exact absurd hm (Nat.not_lt_zero _)
    | succ n ih5 =>
      intro b3 i4 τ uu5 ww5 hm5 i5_0 i5_1 i5_2 i5_3 i5_4
      refine s_iload C dL_isSame_5 rfl ?_
      refine s_iload_n C dL_isSame_7 rfl ?_
      refine s_icmp_ge (tgt := 40) C dL_isSame_8 (by decide) (by omega) (by omega) (fun c8 => ?_) (fun c8 => ?_)
      · refine s_iload_n C dL_isSame_40 rfl ?_
        refine s_zret C hR dL_isSame_41 rfl (by omega) ⟨_, rfl, ?_⟩ ⟨(show uu5 ≤ 40 by omega), (show ww5 ≤ 240 by omega)⟩
        refine ⟨i5_2, i5_3, ?_⟩
        rcases i5_4 with ⟨q1, q2⟩ | ⟨q1, q2⟩
        · refine Or.inl ⟨q1, ?_⟩
          first
            | (exfalso; omega)
            | exact lst_eq (by omega) (fun i h1 h2 => q2 i h1 (by omega))
        · exact Or.inr ⟨q1, q2⟩
      · refine s_iload_n C dL_isSame_11 rfl ?_
        refine s_if_eq (tgt := 40) C dL_isSame_12 (by decide) (by omega) (fun c12 => ?_) (fun c12 => ?_)
        · refine s_iload_n C dL_isSame_40 rfl ?_
          refine s_zret C hR dL_isSame_41 rfl (by omega) ⟨_, rfl, ?_⟩ ⟨(show uu5 ≤ 40 by omega), (show ww5 ≤ 240 by omega)⟩
          refine ⟨i5_2, i5_3, ?_⟩
          rcases i5_4 with ⟨q1, q2⟩ | ⟨q1, q2⟩
          · refine Or.inl ⟨q1, ?_⟩
            first
              | (exfalso; omega)
              | exact lst_eq (by omega) (fun i h1 h2 => q2 i h1 (by omega))
          · exact Or.inr ⟨q1, q2⟩
        · have q12 := i5_4.resolve_right (fun z => by omega)
          refine s_aload_n C dL_isSame_15 rfl ?_
          refine s_iload C dL_isSame_16 rfl ?_
          have o18 : (op_said S i4).1 = 0 := by unfold op_said; dsimp only; rw [if_neg (by omega)]
          have g18 := wOK_getD hS.2.1.1 (i := i4.toNat) (by omega)
          refine sc_cV1i (u2 := uu5 + 1) (w2 := ww5 + 6) C dL_isSame_18 lkL_27 moX7_said mvX7_said (kX7_said hS i5_2 (by omega)) sh_0 ⟨_, _, rfl⟩ (Nat.le_of_ble_eq_true rfl) (Nat.le_of_ble_eq_true rfl) ⟨rfl, rfl⟩ ⟨(show uu5 + 1 ≤ 40 by omega), (show ww5 + 6 ≤ 240 by omega)⟩ (fun En σ9 h => absurd h (px3_no o18)) (fun r18 σ_18 hp18 => ?_)
          obtain ⟨-, v18, N18, -, F18⟩ := hp18
          replace v18 : r18 = (sL S).getD i4.toNat 0 := v18
          replace N18 : RN σ_18 S := N18
          have e18 : σ_18 (195 + j) i4 = ws.getD i4.toNat 0 := by rw [F18 _ _ (by omega), i5_3 _ _ (by omega)]; exact hW i4 (by omega) (by omega)
          refine s_aload_n C dL_isSame_21 rfl ?_
          refine s_iload C dL_isSame_22 rfl ?_
          refine s_ialdW C dL_isSame_24 (by omega) (fun g24 => ?_)
          refine s_icmp_ne (tgt := 32) C dL_isSame_25 (by decide) (by omega) (by omega) (fun c25 => ?_) (fun c25 => ?_)
          · have b25 : sL S ≠ ws := fun z => by rw [z] at v18; omega
            refine s_iconst C dL_isSame_32 ?_
            refine s_istore_n (ls2 := [some (vR 0), some (vI n9), some (vR (195 + j)), some (vI 0), some (vI i4)]) C dL_isSame_33 (by decide) rfl ?_
            obtain ⟨x4_34, ex4_34⟩ : ∃ y : Int, y = i4 + 1 := ⟨_, rfl⟩
            refine s_iinc (z2 := x4_34) (ls2 := [some (vR 0), some (vI n9), some (vR (195 + j)), some (vI 0), some (vI x4_34)]) C dL_isSame_34 (by decide) rfl ex4_34 rfl ?_
            refine s_goto (tgt := 5) C dL_isSame_37 (by decide) ?_
            refine ih5 0 x4_34 σ_18 (uu5 + 1) (ww5 + 6) (by omega) (by omega) (by first | assumption | omega) (by first | assumption | omega) ?_ ?_
            · exact i5_3.tr F18
            · first
                | exact Or.inr ⟨rfl, b25⟩
                | exact Or.inl ⟨rfl, fun i h1 h2 => b25 i h1 (by omega)⟩
          · have b25 : ∀ i : Int, 0 ≤ i → i < i4 + 1 → (sL S).getD i.toNat 0 = ws.getD i.toNat 0 := fun i h1 h2 => by
              by_cases q : i = i4
              · rw [q]; omega
              · exact q12.2 i h1 (by omega)
            refine s_iconst C dL_isSame_28 ?_
            refine s_goto (tgt := 33) C dL_isSame_29 (by decide) ?_
            refine s_istore_n (ls2 := [some (vR 0), some (vI n9), some (vR (195 + j)), some (vI 1), some (vI i4)]) C dL_isSame_33 (by decide) rfl ?_
            obtain ⟨x4_34, ex4_34⟩ : ∃ y : Int, y = i4 + 1 := ⟨_, rfl⟩
            refine s_iinc (z2 := x4_34) (ls2 := [some (vR 0), some (vI n9), some (vR (195 + j)), some (vI 1), some (vI x4_34)]) C dL_isSame_34 (by decide) rfl ex4_34 rfl ?_
            refine s_goto (tgt := 5) C dL_isSame_37 (by decide) ?_
            refine ih5 1 x4_34 σ_18 (uu5 + 1) (ww5 + 6) (by omega) (by omega) (by first | assumption | omega) (by first | assumption | omega) ?_ ?_
            · exact i5_3.tr F18
            · first
                | exact Or.inr ⟨rfl, b25⟩
                | exact Or.inl ⟨rfl, fun i h1 h2 => b25 i h1 (by omega)⟩
  refine L5 _ 1 0 σ 0 0 (Nat.lt_succ_self _) (by omega) (by first | assumption | omega) (by first | assumption | omega) ?_ ?_
  · exact fun _ _ _ => rfl
  · exact Or.inl ⟨rfl, fun i h1 h2 => by omega⟩
set_option maxRecDepth 100000 in
set_option maxHeartbeats 8000000 in
theorem kL_isSaying {E : sv_E} {σ : sv_G} (he : E.2.1.2 = []) {S : st_T} (hS : StOK S) (hN : RN σ S) {g n9 k9 : Int} (hg : 0 ≤ g ∧ g ≤ 3) (hn : 0 ≤ n9 ∧ n9 ≤ 9998) (hk : 0 ≤ k9 ∧ k9 ≤ 2) : CT E ML_isSaying 99 [(vR 0), (vI g), (vI n9), (vI k9)] σ (PI fun r σ9 => r = 1 ∧ ∃ l, RN σ9 (uL S l) ∧ StOK (uL S l)) := by
  refine CT.of (RL, cL_isSaying, 9, (some .boolean), [], 99, 300, 1800) rfl moL_isSaying (Nat.le_of_ble_eq_true rfl) (ls0 := [some (vR 0), some (vI g), some (vI n9), some (vI k9), none, none, none, none, none]) rfl ?_
  intro X Q C hR
  have hD := hS.1 g hg.1 hg.2
  obtain ⟨l, h_l⟩ : ∃ l, l = spF (sD S g) n9 k9 := ⟨_, rfl⟩
  refine s_bipush C dL_isSaying_0 (by decide) ?_
  refine s_newW C he dL_isSaying_2 ⟨(show 0 + 1 ≤ 300 by omega), (show 0 + 20 ≤ 1800 by omega)⟩ (fun j => ?_)
  refine s_nameG (fun σ_2 hσ_2 => ?_)
  have C0 := C
  replace C := sx_wE (j := j) C
  have N2 : RN σ_2 S := by rw [hσ_2]; exact hN.wZ hS
  refine s_astore (ls2 := [some (vR 0), some (vI g), some (vI n9), some (vI k9), some (vR (195 + j)), none, none, none, none]) C dL_isSaying_4 (by decide) rfl ?_
  refine s_aload_n C dL_isSaying_6 rfl ?_
  refine s_iload_n C dL_isSaying_7 rfl ?_
  refine s_iload_n C dL_isSaying_8 rfl ?_
  refine s_iload_n C dL_isSaying_9 rfl ?_
  have o10 : (op_say S g n9 k9).1 = 0 := by unfold op_say; dsimp only; (repeat' split) <;> first | rfl | (exfalso; omega)
  refine sc_cV3i (u2 := 4) (w2 := 38) C dL_isSaying_10 lkL_58 moX7_say mvX7_say (kX7_say hS N2 (by omega) (by omega) (by omega)) sh_0 ⟨_, _, rfl⟩ (Nat.le_of_ble_eq_true rfl) (Nat.le_of_ble_eq_true rfl) ⟨rfl, rfl⟩ ⟨(show 4 ≤ 300 by omega), (show 38 ≤ 1800 by omega)⟩ (fun En σ9 h => absurd h (px3_no o10)) (fun r10 σ_10 hp10 => ?_)
  obtain ⟨-, v10, N10, T10, F10⟩ := hp10
  replace v10 : r10 = (l.length : Int) := by first | exact v10 | (rw [h_l]; exact v10)
  replace N10 : RN σ_10 (uL S l) := by first | exact N10 | (rw [h_l]; exact N10)
  replace T10 : StOK (uL S l) := by first | exact T10 | (rw [h_l]; exact T10)
  have hl20 : l.length ≤ 20 := T10.2.1.2
  refine s_istore (ls2 := [some (vR 0), some (vI g), some (vI n9), some (vI k9), some (vR (195 + j)), some (vI r10), none, none, none]) C dL_isSaying_13 (by decide) rfl ?_
  refine s_iload C dL_isSaying_15 rfl ?_
  refine s_if_lt (tgt := 42) C dL_isSaying_17 (by decide) (by omega) (fun c17 => ?_) (fun c17 => ?_)
  · exfalso; omega -- done
  · refine s_iload C dL_isSaying_20 rfl ?_
    refine s_bipush C dL_isSaying_22 (by decide) ?_
    refine s_icmp_gt (tgt := 42) C dL_isSaying_24 (by decide) (by omega) (by omega) (fun c24 => ?_) (fun c24 => ?_)
    · exfalso; omega -- done
    · refine s_aload_n C dL_isSaying_27 rfl ?_
      refine s_iload C dL_isSaying_28 rfl ?_
      refine s_aload C dL_isSaying_30 rfl ?_
      refine s_mS3i (u2 := 204) (w2 := 1238) C dL_isSaying_32 lkL_61 moL_keeps mvL_keeps (kL_keeps T10 N10 v10) (Nat.le_of_ble_eq_true rfl) (Nat.le_of_ble_eq_true rfl) ⟨rfl, rfl⟩ ⟨(show 204 ≤ 300 by omega), (show 1238 ≤ 1800 by omega)⟩ (fun r32 σ_32 hp32 => ?_)
      obtain ⟨v32, N32, W32⟩ := hp32
      replace N32 : RN σ_32 (uL S l) := N32
      replace W32 : WA σ_32 j l := W32
      refine s_if_eq (tgt := 42) C dL_isSaying_35 (by decide) (by omega) (fun c35 => ?_) (fun c35 => ?_)
      · exfalso; omega -- done
      · refine s_iconst C dL_isSaying_38 ?_
        refine s_goto (tgt := 43) C dL_isSaying_39 (by decide) ?_
        refine s_istore (ls2 := [some (vR 0), some (vI g), some (vI n9), some (vI k9), some (vR (195 + j)), some (vI r10), some (vI 1), none, none]) C dL_isSaying_43 (by decide) rfl ?_
        refine s_iload C dL_isSaying_45 rfl ?_
        refine s_if_eq (tgt := 77) C dL_isSaying_47 (by decide) (by omega) (fun c47 => ?_) (fun c47 => ?_)
        · exfalso; omega -- done
        · refine s_aload_n C dL_isSaying_50 rfl ?_
          refine s_iload_n C dL_isSaying_51 rfl ?_
          refine s_iload_n C dL_isSaying_52 rfl ?_
          refine s_iload_n C dL_isSaying_53 rfl ?_
          have o54 : (op_say (uL S l) g n9 k9).1 = 0 := by unfold op_say; dsimp only; (repeat' split) <;> first | rfl | (exfalso; omega)
          refine sc_cV3i (u2 := 207) (w2 := 1256) C dL_isSaying_54 lkL_58 moX7_say mvX7_say (kX7_say T10 N32 (by omega) (by omega) (by omega)) sh_0 ⟨_, _, rfl⟩ (Nat.le_of_ble_eq_true rfl) (Nat.le_of_ble_eq_true rfl) ⟨rfl, rfl⟩ ⟨(show 207 ≤ 300 by omega), (show 1256 ≤ 1800 by omega)⟩ (fun En σ9 h => absurd h (px3_no o54)) (fun r54 σ_54 hp54 => ?_)
          obtain ⟨-, v54, N54, T54, F54⟩ := hp54
          replace v54 : r54 = (l.length : Int) := by first | exact v54 | (rw [h_l]; exact v54)
          replace N54 : RN σ_54 (uL S l) := by first | exact N54 | (rw [h_l]; exact N54)
          replace T54 : StOK (uL S l) := by first | exact T54 | (rw [h_l]; exact T54)
          have W54 : WA σ_54 j l := W32.fr F54
          refine s_iload C dL_isSaying_57 rfl ?_
          refine s_icmp_ne (tgt := 77) C dL_isSaying_59 (by decide) (by omega) (by omega) (fun c59 => ?_) (fun c59 => ?_)
          · exfalso; omega -- done
          · refine s_aload_n C dL_isSaying_62 rfl ?_
            refine s_iload C dL_isSaying_63 rfl ?_
            refine s_aload C dL_isSaying_65 rfl ?_
            refine s_mS3i (u2 := 247) (w2 := 1496) C dL_isSaying_67 lkL_65 moL_isSame mvL_isSame (kL_isSame T54 N54 (ws := l) v10 v10.symm W54) (Nat.le_of_ble_eq_true rfl) (Nat.le_of_ble_eq_true rfl) ⟨rfl, rfl⟩ ⟨(show 247 ≤ 300 by omega), (show 1496 ≤ 1800 by omega)⟩ (fun r67 σ_67 hp67 => ?_)
            obtain ⟨N67, F67, q67⟩ := hp67
            replace N67 : RN σ_67 (uL S l) := N67
            have v67 : r67 = 1 := q67.elim (fun z => z.1) (fun z => absurd rfl z.2)
            refine s_if_eq (tgt := 77) C dL_isSaying_70 (by decide) (by omega) (fun c70 => ?_) (fun c70 => ?_)
            · exfalso; omega -- done
            · refine s_iconst C dL_isSaying_73 ?_
              refine s_goto (tgt := 78) C dL_isSaying_74 (by decide) ?_
              refine s_istore (ls2 := [some (vR 0), some (vI g), some (vI n9), some (vI k9), some (vR (195 + j)), some (vI r10), some (vI 1), none, none]) C dL_isSaying_78 (by decide) rfl ?_
              refine s_aload_n C dL_isSaying_80 rfl ?_
              refine s_iload_n C dL_isSaying_81 rfl ?_
              refine s_iload_n C dL_isSaying_82 rfl ?_
              have o83 : (op_sayOrdinal (uL S l) g n9).1 = 0 := by unfold op_sayOrdinal; dsimp only; (repeat' split) <;> first | rfl | (exfalso; omega)
              refine sc_cV2i (u2 := 249) (w2 := 1508) C dL_isSaying_83 lkL_68 moX7_sayOrdinal mvX7_sayOrdinal (kX7_sayOrdinal T54 N67 (by omega) (by omega)) sh_0 ⟨_, _, rfl⟩ (Nat.le_of_ble_eq_true rfl) (Nat.le_of_ble_eq_true rfl) ⟨rfl, rfl⟩ ⟨(show 249 ≤ 300 by omega), (show 1508 ≤ 1800 by omega)⟩ (fun En σ9 h => absurd h (px3_no o83)) (fun r83 σ_83 hp83 => ?_)
              obtain ⟨-, v83, N83, T83, F83⟩ := hp83
              replace v83 : r83 = ((spF (sD S g) n9 3).length : Int) := by first | exact v83 | (rw [h_l]; exact v83)
              replace N83 : RN σ_83 (uL S (spF (sD S g) n9 3)) := by first | exact N83 | (rw [h_l]; exact N83)
              replace T83 : StOK (uL S (spF (sD S g) n9 3)) := by first | exact T83 | (rw [h_l]; exact T83)
              have l83 : (spF (sD S g) n9 3).length ≤ 20 := T83.2.1.2
              have z83 : l = [] → (spF (sD S g) n9 3) = [] := fun z => spF_nil_o hD (by omega) (h_l ▸ z)
              have y83 : ¬ 0 < r10 → r83 = 0 := fun z => by rw [v83, z83 (len_0.mp (by omega))]; rfl
              refine s_istore (ls2 := [some (vR 0), some (vI g), some (vI n9), some (vI k9), some (vR (195 + j)), some (vI r10), some (vI 1), some (vI r83), none]) C dL_isSaying_86 (by decide) rfl ?_
              refine s_iload C dL_isSaying_88 rfl ?_
              refine s_if_eq (tgt := 119) C dL_isSaying_90 (by decide) (by omega) (fun c90 => ?_) (fun c90 => ?_)
              · exfalso; omega -- done
              · refine s_iload C dL_isSaying_93 rfl ?_
                refine s_if_lt (tgt := 119) C dL_isSaying_95 (by decide) (by omega) (fun c95 => ?_) (fun c95 => ?_)
                · exfalso; omega -- done
                · refine s_iload C dL_isSaying_98 rfl ?_
                  refine s_bipush C dL_isSaying_100 (by decide) ?_
                  refine s_icmp_gt (tgt := 119) C dL_isSaying_102 (by decide) (by omega) (by omega) (fun c102 => ?_) (fun c102 => ?_)
                  · exfalso; omega -- done
                  · refine s_iload C dL_isSaying_105 rfl ?_
                    have J115 : SW X (wE E j) Q 249 1508 115 [some (vR 0), some (vI g), some (vI n9), some (vI k9), some (vR (195 + j)), some (vI r10), some (vI 1), some (vI r83), none] [] σ_83 := by
                      refine s_iconst C dL_isSaying_115 ?_
                      refine s_goto (tgt := 120) C dL_isSaying_116 (by decide) ?_
                      refine s_istore (ls2 := [some (vR 0), some (vI g), some (vI n9), some (vI k9), some (vR (195 + j)), some (vI r10), some (vI 1), some (vI r83), none]) C dL_isSaying_120 (by decide) rfl ?_
                      refine s_aload_n C dL_isSaying_122 rfl ?_
                      refine s_iload_n C dL_isSaying_123 rfl ?_
                      refine s_iload_n C dL_isSaying_124 rfl ?_
                      refine s_iload_n C dL_isSaying_125 rfl ?_
                      refine s_iconst C dL_isSaying_126 ?_
                      refine s_iadd C dL_isSaying_127 ?_
                      refine s_iload_n C dL_isSaying_128 rfl ?_
                      have o129 : (op_sayFraction (uL S (spF (sD S g) n9 3)) g n9 (n9 + 1) k9).1 = 0 := by unfold op_sayFraction; dsimp only; (repeat' split) <;> first | rfl | (exfalso; omega)
                      refine sc_cV4i (u2 := 253) (w2 := 1532) C dL_isSaying_129 lkL_72 moX7_sayFraction mvX7_sayFraction (kX7_sayFraction T83 N83 (by omega) (by omega) (by omega) (by omega)) sh_0 ⟨_, _, rfl⟩ (Nat.le_of_ble_eq_true rfl) (Nat.le_of_ble_eq_true rfl) ⟨rfl, rfl⟩ ⟨(show 253 ≤ 300 by omega), (show 1532 ≤ 1800 by omega)⟩ (fun En σ9 h => absurd h (px3_no o129)) (fun r129 σ_129 hp129 => ?_)
                      obtain ⟨-, v129, N129, T129, F129⟩ := hp129
                      replace v129 : r129 = ((frF (sD S g) n9 (n9 + 1) k9).length : Int) := by first | exact v129 | (rw [h_l]; exact v129)
                      replace N129 : RN σ_129 (uL S (frF (sD S g) n9 (n9 + 1) k9)) := by first | exact N129 | (rw [h_l]; exact N129)
                      replace T129 : StOK (uL S (frF (sD S g) n9 (n9 + 1) k9)) := by first | exact T129 | (rw [h_l]; exact T129)
                      have l129 : (frF (sD S g) n9 (n9 + 1) k9).length ≤ 20 := T129.2.1.2
                      have z129 : l = [] → (frF (sD S g) n9 (n9 + 1) k9) = [] := fun z => frF_nil hD (h_l ▸ z)
                      have y129 : ¬ 0 < r10 → r129 = 0 := fun z => by rw [v129, z129 (len_0.mp (by omega))]; rfl
                      refine s_istore (ls2 := [some (vR 0), some (vI g), some (vI n9), some (vI k9), some (vR (195 + j)), some (vI r10), some (vI 1), some (vI r83), some (vI r129)]) C dL_isSaying_132 (by decide) rfl ?_
                      refine s_iload C dL_isSaying_134 rfl ?_
                      refine s_if_eq (tgt := 165) C dL_isSaying_136 (by decide) (by omega) (fun c136 => ?_) (fun c136 => ?_)
                      · exfalso; omega -- done
                      · refine s_iload C dL_isSaying_139 rfl ?_
                        refine s_if_lt (tgt := 165) C dL_isSaying_141 (by decide) (by omega) (fun c141 => ?_) (fun c141 => ?_)
                        · exfalso; omega -- done
                        · refine s_iload C dL_isSaying_144 rfl ?_
                          refine s_bipush C dL_isSaying_146 (by decide) ?_
                          refine s_icmp_gt (tgt := 165) C dL_isSaying_148 (by decide) (by omega) (by omega) (fun c148 => ?_) (fun c148 => ?_)
                          · exfalso; omega -- done
                          · refine s_iload C dL_isSaying_151 rfl ?_
                            have J161 : SW X (wE E j) Q 253 1532 161 [some (vR 0), some (vI g), some (vI n9), some (vI k9), some (vR (195 + j)), some (vI r10), some (vI 1), some (vI r83), some (vI r129)] [] σ_129 := by
                              refine s_iconst C dL_isSaying_161 ?_
                              refine s_goto (tgt := 166) C dL_isSaying_162 (by decide) ?_
                              refine s_dropW he ?_
                              refine s_zret C0 hR dL_isSaying_166 rfl (by omega) ⟨_, rfl, ?_⟩ ⟨(show 253 ≤ 300 by omega), (show 1532 ≤ 1800 by omega)⟩
                              exact ⟨rfl, _, N129, T129⟩
                            refine s_if_gt (tgt := 161) C dL_isSaying_153 (by decide) (by omega) (fun c153 => ?_) (fun c153 => ?_)
                            · exact J161 
                            · refine s_iload C dL_isSaying_156 rfl ?_
                              refine s_if_ne (tgt := 165) C dL_isSaying_158 (by decide) (by omega) (fun c158 => ?_) (fun c158 => ?_)
                              · have y158 := y129 (by omega)
                                exfalso; omega -- done
                              · exact J161 
                    refine s_if_gt (tgt := 115) C dL_isSaying_107 (by decide) (by omega) (fun c107 => ?_) (fun c107 => ?_)
                    · exact J115 
                    · refine s_iload C dL_isSaying_110 rfl ?_
                      refine s_if_ne (tgt := 119) C dL_isSaying_112 (by decide) (by omega) (fun c112 => ?_) (fun c112 => ?_)
                      · have y112 := y83 (by omega)
                        exfalso; omega -- done
                      · exact J115 
