theorem take_c {ws : List Int} {i : Nat} (h : i < ws.length) : ws.take (i + 1) = ws.take i ++ [ws.getD i 0] := by
  rw [List.take_succ, List.getD_eq_getElem?_getD, List.getElem?_eq_getElem h]
  rfl
theorem m_no {x y z : Int} {ws : List Int} {i : Nat} (h : i + 1 < ws.length) (q : ¬ (ws.getD i 0 = x ∧ ws.getD (i + 1) 0 = y)) : ws.take (i + 1) ++ meltL x y z (ws.drop (i + 1)) = ws.take i ++ meltL x y z (ws.drop i) := by
  rw [take_c (by omega), drop_c (show i < ws.length by omega), drop_c h, List.append_assoc]
  conv => rhs; unfold meltL
  rw [if_neg q]
  rfl
theorem m_yes {x y z : Int} {ws : List Int} {i : Nat} (h : i + 1 < ws.length) (q : ws.getD i 0 = x ∧ ws.getD (i + 1) 0 = y) : (ws.take i ++ [z]) ++ meltL x y z (ws.drop (i + 2)) = ws.take i ++ meltL x y z (ws.drop i) := by
  rw [drop_c (show i < ws.length by omega), drop_c h, List.append_assoc]
  conv => rhs; unfold meltL
  rw [if_pos q]
  rfl
theorem m_end {x y z : Int} {ws : List Int} {i : Nat} (h : ws.length ≤ i + 1) : ws.take i ++ meltL x y z (ws.drop i) = ws := by
  have e : meltL x y z (ws.drop i) = ws.drop i := by
    have hl : (ws.drop i).length ≤ 1 := by rw [List.length_drop]; omega
    match h9 : ws.drop i, hl with
    | [], _ => rfl
    | [a], _ => rfl
    | a :: b :: t, hl => simp at hl
  rw [e, List.take_append_drop]
def cutL (z : Int) (ws : List Int) (i : Nat) : List Int := (ws.take i ++ [z]) ++ ws.drop (i + 2)
theorem cutL_len {z : Int} {ws : List Int} {i : Nat} (h : i + 1 < ws.length) : (cutL z ws i).length = ws.length - 1 := by
  unfold cutL
  rw [List.length_append, List.length_append, List.length_take, List.length_drop]
  show min i ws.length + 1 + (ws.length - (i + 2)) = ws.length - 1
  omega
theorem cutL_at {z : Int} {ws : List Int} {i : Nat} (h : i + 1 < ws.length) {k : Nat} (hk : k < ws.length - 1) : (cutL z ws i).getD k 0 = if k < i then ws.getD k 0 else if k = i then z else ws.getD (k + 1) 0 := by
  have hl : (ws.take i).length = i := by rw [List.length_take]; omega
  unfold cutL
  rw [List.getD_eq_getElem?_getD, List.getD_eq_getElem?_getD, List.getD_eq_getElem?_getD]
  by_cases q : k < i
  · rw [if_pos q, List.getElem?_append_left (by rw [List.length_append, hl]; simp; omega), List.getElem?_append_left (by omega), List.getElem?_take, if_pos q]
  · rw [if_neg q]
    by_cases q2 : k = i
    · rw [if_pos q2, List.getElem?_append_left (by rw [List.length_append, hl]; simp; omega), List.getElem?_append_right (by omega), hl, q2, Nat.sub_self]; rfl
    · rw [if_neg q2, List.getElem?_append_right (by rw [List.length_append, hl]; simp; omega), List.length_append, hl, List.getElem?_drop]
      rw [show i + 2 + (k - (i + [z].length)) = k + 1 by simp; omega]
theorem cutL_eq {x y z : Int} {ws : List Int} {i : Nat} (h : i + 1 < ws.length) (q : ws.getD i 0 = x ∧ ws.getD (i + 1) 0 = y) : (cutL z ws i).take (i + 1) ++ meltL x y z ((cutL z ws i).drop (i + 1)) = ws.take i ++ meltL x y z (ws.drop i) := by
  have hl : (ws.take i ++ [z]).length = i + 1 := by rw [List.length_append, List.length_take]; simp; omega
  rw [← m_yes h q]
  unfold cutL
  rw [List.take_append_of_le_length (by omega), List.drop_append_of_le_length (by omega), List.take_of_length_le (by omega), List.drop_of_length_le (by omega)]
  rfl
def frL (σ σ9 : sv_G) : Prop := ∀ b k, (b ≠ 195 ∨ k ≠ 20) → b ≠ 216 → σ9 b k = σ b k
theorem frL.tr {σ σ1 σ2 : sv_G} (h : frL σ σ1) (h2 : frL σ1 σ2) : frL σ σ2 := fun b k q1 q2 => (h2 b k q1 q2).trans (h b k q1 q2)
theorem frL.u1 {σ σ1 σ2 : sv_G} {i v : Int} (h : frL σ σ1) (e : σ2 = up σ1 216 i v) : frL σ σ2 := fun b k q1 q2 => by rw [e, up_a q2]; exact h b k q1 q2
theorem frL.u2 {σ σ1 σ2 : sv_G} {v : Int} (h : frL σ σ1) (e : σ2 = up σ1 195 20 v) : frL σ σ2 := fun b k q1 q2 => by rw [e, up_n q1]; exact h b k q1 q2
set_option maxRecDepth 100000 in
set_option maxHeartbeats 8000000 in
theorem kX8_melts {E : sv_E} {σ : sv_G} {D : gd_T} {g : Int} (hD : GDok D) (hg : 0 ≤ g ∧ g ≤ 3) (hS9 : SM σ g D) {l : List Int} (hl9 : SR σ l) (hlen : l.length ≤ 40) : CT E MX8_melts 0 [(vR 195), (vI g)] σ (PV fun σ9 => SR σ9 (mlF D (gC D 4).toNat l) ∧ frL σ σ9) := by
  refine CT.of (RX8, cX8_melts, 5, none, [], 0, 0, 0) rfl moX8_melts (Nat.le_of_ble_eq_true rfl) (ls0 := [some (vR 195), some (vI g), none, none, none]) rfl ?_
  intro X Q C hR
  have hn4 := hD.2.2.2.2.2.2.1
  refine s_bipush C dX8_melts_0 (by decide) ?_
  refine s_iload_n C dX8_melts_2 rfl ?_
  refine s_imul C dX8_melts_3 ?_
  refine s_topI (fun x2_4 ex2_4 => ?_)
  refine s_istore_n (ls2 := [some (vR 195), some (vI g), some (vI x2_4), none, none]) C dX8_melts_4 (by decide) rfl ?_
  have L5 : ∀ (n : Nat) (m : Int) (τ : sv_G), (6 * g + gC D 4 - m).toNat < n → (6 * g ≤ m ∧ m ≤ 6 * g + gC D 4) → (SR τ (mlF D (m - 6 * g).toNat l)) → (frL σ τ) → ((mlF D (m - 6 * g).toNat l).length ≤ 40) → SW X E Q 0 0 5 [some (vR 195), some (vI g), some (vI m), none, none] [] τ := by
    intro n
    induction n with
    | zero => intro m τ hm; exact absurd hm (Nat.not_lt_zero _)
    | succ n ih5 =>
      intro m τ hm5 i5_0 i5_1 i5_2 i5_3
      have hSt := hS9.fr fun b k q1 q2 => i5_2 b k (by omega) (by omega)
      have h212 := hSt.2.1
      refine s_iload_n C dX8_melts_5 rfl ?_
      refine s_bipush C dX8_melts_6 (by decide) ?_
      refine s_iload_n C dX8_melts_8 rfl ?_
      refine s_imul C dX8_melts_9 ?_
      refine s_aload_n C dX8_melts_10 rfl ?_
      refine s_getR (c := 8) C fl_8_58 dX8_melts_11 sh_195 rfl rf_195_16 ?_
      refine s_iload_n C dX8_melts_14 rfl ?_
      refine s_iald C dX8_melts_15 sh_212 (by omega) (fun g15 => ?_)
      refine s_iadd C dX8_melts_16 ?_
      refine s_icmp_ge (tgt := 134) C dX8_melts_17 (by decide) (by omega) (by omega) (fun c17 => ?_) (fun c17 => ?_)
      · refine s_vret C hR dX8_melts_134 rfl ⟨rfl, ?_⟩ (by decide)
        rw [show (m - 6 * g).toNat = (gC D 4).toNat by omega] at i5_1
        exact ⟨i5_1, i5_2⟩
      · refine s_iconst C dX8_melts_20 ?_
        refine s_istore_n (ls2 := [some (vR 195), some (vI g), some (vI m), some (vI 0), none]) C dX8_melts_21 (by decide) rfl ?_
        have L22 : ∀ (n : Nat) (i : Int) (τ2 : sv_G) (ws : List Int), (41 - i).toNat < n → (0 ≤ i ∧ i ≤ 40) → (SR τ2 ws) → (frL σ τ2) → (ws.length ≤ 40) → (ws.take i.toNat ++ meltL (gS D 0 (m - 6 * g)) (gS D 1 (m - 6 * g)) (gS D 2 (m - 6 * g)) (ws.drop i.toNat) = meltL (gS D 0 (m - 6 * g)) (gS D 1 (m - 6 * g)) (gS D 2 (m - 6 * g)) (mlF D (m - 6 * g).toNat l)) → SW X E Q 0 0 22 [some (vR 195), some (vI g), some (vI m), some (vI i), none] [] τ2 := by
          intro n
          induction n with
          | zero => intro i τ2 ws hm; exact absurd hm (Nat.not_lt_zero _)
          | succ n ih22 =>
            intro i τ2 ws hm22 i22_0 i22_1 i22_2 i22_3 i22_4
            have hSt2 := hS9.fr fun b k q1 q2 => i22_2 b k (by omega) (by omega)
            have hsm := fun (k : Nat) (hk : k < 3) (hm : m - 6 * g < gC D 4) => hSt2.2.2 (m - 6 * g) k (by omega) hm hk
            rw [show 6 * g + (m - 6 * g) = m by omega] at hsm
            have h20 := i22_1.1
            refine s_iload_n C dX8_melts_22 rfl ?_
            refine s_iconst C dX8_melts_23 ?_
            refine s_iadd C dX8_melts_24 ?_
            refine s_aload_n C dX8_melts_25 rfl ?_
            refine s_getI (c := 8) (kz := 20) C fl_8_158 dX8_melts_26 sh_195 rfl rfl (fun g26 => ?_)
            refine s_icmp_ge (tgt := 128) C dX8_melts_29 (by decide) (by omega) (by omega) (fun c29 => ?_) (fun c29 => ?_)
            · obtain ⟨x2_128, ex2_128⟩ : ∃ y : Int, y = m + 1 := ⟨_, rfl⟩
              refine s_iinc (z2 := x2_128) (ls2 := [some (vR 195), some (vI g), some (vI x2_128), some (vI i), none]) C dX8_melts_128 (by decide) rfl ex2_128 rfl ?_
              refine s_goto (tgt := 5) C dX8_melts_131 (by decide) ?_
              refine s_weak (ls2 := [some (vR 195), some (vI g), some (vI x2_128), none, none]) (sv_wk_c (sv_wk_c (sv_wk_c (sv_wk_n (sv_wk_n sv_wk_0))))) ?_
              have hwm : mlF D (x2_128 - 6 * g).toNat l = ws := by
                rw [show (x2_128 - 6 * g).toNat = (m - 6 * g).toNat + 1 by omega]
                show meltL (gS D 0 ((m - 6 * g).toNat : Int)) (gS D 1 ((m - 6 * g).toNat : Int)) (gS D 2 ((m - 6 * g).toNat : Int)) (mlF D (m - 6 * g).toNat l) = ws
                rw [show ((m - 6 * g).toNat : Int) = m - 6 * g by omega, ← i22_4]
                exact m_end (by omega)
              refine ih5 x2_128 τ2 (by omega) (by first | assumption | omega) ?_ ?_ ?_
              · rw [hwm]; exact i22_1
              · exact i22_2
              · rw [hwm]; exact i22_3
            · refine s_aload_n C dX8_melts_32 rfl ?_
              refine s_getR (c := 8) C fl_8_70 dX8_melts_33 sh_195 rfl rf_195_21 ?_
              have e36 := i22_1.2.at (i := i) (by omega) (by omega)
              refine s_iload_n C dX8_melts_36 rfl ?_
              refine s_iald C dX8_melts_37 sh_216 (by omega) (fun g37 => ?_)
              refine s_aload_n C dX8_melts_38 rfl ?_
              refine s_getR (c := 8) C fl_8_61 dX8_melts_39 sh_195 rfl rf_195_17 ?_
              refine s_iload_n C dX8_melts_42 rfl ?_
              have hsx : τ2 213 m = gS D 0 (m - 6 * g) := hsm 0 (by decide) (by omega)
              refine s_iald C dX8_melts_43 sh_213 (by omega) (fun g43 => ?_)
              have J122 : ∀ (τ4 : sv_G) (ws1 : List Int), (SR τ4 ws1) → (frL σ τ4) → (ws1.length ≤ 40) → (ws1.take (i + 1).toNat ++ meltL (gS D 0 (m - 6 * g)) (gS D 1 (m - 6 * g)) (gS D 2 (m - 6 * g)) (ws1.drop (i + 1).toNat) = meltL (gS D 0 (m - 6 * g)) (gS D 1 (m - 6 * g)) (gS D 2 (m - 6 * g)) (mlF D (m - 6 * g).toNat l)) → (i + 1 ≤ 40) → SW X E Q 0 0 122 [some (vR 195), some (vI g), some (vI m), some (vI i), none] [] τ4 := by
                intro τ4 ws1 j122_0 j122_1 j122_2 j122_3 j122_4
                obtain ⟨x3_122, ex3_122⟩ : ∃ y : Int, y = i + 1 := ⟨_, rfl⟩
                refine s_iinc (z2 := x3_122) (ls2 := [some (vR 195), some (vI g), some (vI m), some (vI x3_122), none]) C dX8_melts_122 (by decide) rfl ex3_122 rfl ?_
                refine s_goto (tgt := 22) C dX8_melts_125 (by decide) ?_
                refine ih22 x3_122 τ4 ws1 (by omega) (by first | assumption | omega) ?_ ?_ ?_ ?_
                · exact j122_0
                · exact j122_1
                · exact j122_2
                · rw [show x3_122 = i + 1 from ex3_122]; exact j122_3
              refine s_icmp_ne (tgt := 122) C dX8_melts_44 (by decide) (by omega) (by omega) (fun c44 => ?_) (fun c44 => ?_)
              · refine J122 τ2 ws ?_ ?_ ?_ ?_ ?_
                · exact i22_1
                · exact i22_2
                · exact i22_3
                · rw [show (i + 1).toNat = i.toNat + 1 by omega, ← i22_4]
                  exact m_no (by omega) fun q => c44 (by rw [e36, hsx]; exact q.1)
                · omega
              · rw [e36, hsx] at c44
                refine s_aload_n C dX8_melts_47 rfl ?_
                refine s_getR (c := 8) C fl_8_70 dX8_melts_48 sh_195 rfl rf_195_21 ?_
                refine s_iload_n C dX8_melts_51 rfl ?_
                refine s_iconst C dX8_melts_52 ?_
                refine s_iadd C dX8_melts_53 ?_
                have e54 := i22_1.2.at (i := i + 1) (by omega) (by omega)
                rw [show (i + 1).toNat = i.toNat + 1 by omega] at e54
                refine s_iald C dX8_melts_54 sh_216 (by omega) (fun g54 => ?_)
                refine s_aload_n C dX8_melts_55 rfl ?_
                refine s_getR (c := 8) C fl_8_64 dX8_melts_56 sh_195 rfl rf_195_18 ?_
                refine s_iload_n C dX8_melts_59 rfl ?_
                have hsy : τ2 214 m = gS D 1 (m - 6 * g) := hsm 1 (by decide) (by omega)
                refine s_iald C dX8_melts_60 sh_214 (by omega) (fun g60 => ?_)
                refine s_icmp_ne (tgt := 122) C dX8_melts_61 (by decide) (by omega) (by omega) (fun c61 => ?_) (fun c61 => ?_)
                · refine J122 τ2 ws ?_ ?_ ?_ ?_ ?_
                  · exact i22_1
                  · exact i22_2
                  · exact i22_3
                  · rw [show (i + 1).toNat = i.toNat + 1 by omega, ← i22_4]
                    exact m_no (by omega) fun q => c61 (by rw [e54, hsy]; exact q.2)
                  · omega
                · rw [e54, hsy] at c61
                  refine s_aload_n C dX8_melts_64 rfl ?_
                  refine s_getR (c := 8) C fl_8_70 dX8_melts_65 sh_195 rfl rf_195_21 ?_
                  refine s_iload_n C dX8_melts_68 rfl ?_
                  refine s_aload_n C dX8_melts_69 rfl ?_
                  refine s_getR (c := 8) C fl_8_67 dX8_melts_70 sh_195 rfl rf_195_19 ?_
                  refine s_iload_n C dX8_melts_73 rfl ?_
                  have hsz : τ2 215 m = gS D 2 (m - 6 * g) := hsm 2 (by decide) (by omega)
                  refine s_iald C dX8_melts_74 sh_215 (by omega) (fun g74 => ?_)
                  refine s_iast C dX8_melts_75 sh_216 (by omega) (by omega) ?_
                  refine s_nameG (fun σ_75 hσ_75 => ?_)
                  have e75 : σ_75 195 20 = τ2 195 20 := by rw [hσ_75, up_a (by decide)]
                  refine s_aload_n C dX8_melts_76 rfl ?_
                  refine s_dup C dX8_melts_77 rfl ?_
                  refine s_getI (c := 8) (kz := 20) C fl_8_158 dX8_melts_78 sh_195 rfl rfl (fun g78 => ?_)
                  refine s_iconst C dX8_melts_81 ?_
                  refine s_isub C dX8_melts_82 ?_
                  refine s_putI (c := 8) (kz := 20) C fl_8_158 dX8_melts_83 sh_195 rfl (fun _ _ h9 => by cases h9; rfl) (by omega) rfl ?_
                  refine s_nameG (fun σ_83 hσ_83 => ?_)
                  refine s_iload_n C dX8_melts_86 rfl ?_
                  refine s_iconst C dX8_melts_87 ?_
                  refine s_iadd C dX8_melts_88 ?_
                  refine s_topI (fun x4_89 ex4_89 => ?_)
                  refine s_istore (ls2 := [some (vR 195), some (vI g), some (vI m), some (vI i), some (vI x4_89)]) C dX8_melts_89 (by decide) rfl ?_
                  have L91 : ∀ (n : Nat) (j : Int) (τ3 : sv_G), (40 - j).toNat < n → (i + 1 ≤ j ∧ j + 1 ≤ ws.length) → (τ3 195 20 = (ws.length : Int) - 1) → (frL σ τ3) → (∀ k : Nat, k < ws.length → τ3 216 k = if k < i.toNat then ws.getD k 0 else if k = i.toNat then gS D 2 (m - 6 * g) else if (k : Int) < j then ws.getD (k + 1) 0 else ws.getD k 0) → SW X E Q 0 0 91 [some (vR 195), some (vI g), some (vI m), some (vI i), some (vI j)] [] τ3 := by
                    intro n
                    induction n with
                    | zero => intro j τ3 hm; exact absurd hm (Nat.not_lt_zero _)
                    | succ n ih91 =>
                      intro j τ3 hm91 i91_0 i91_1 i91_2 i91_3
                      refine s_iload C dX8_melts_91 rfl ?_
                      refine s_aload_n C dX8_melts_93 rfl ?_
                      refine s_getI (c := 8) (kz := 20) C fl_8_158 dX8_melts_94 sh_195 rfl rfl (fun g94 => ?_)
                      refine s_icmp_ge (tgt := 122) C dX8_melts_97 (by decide) (by omega) (by omega) (fun c97 => ?_) (fun c97 => ?_)
                      · refine s_weak (ls2 := [some (vR 195), some (vI g), some (vI m), some (vI i), none]) (sv_wk_c (sv_wk_c (sv_wk_c (sv_wk_c (sv_wk_n sv_wk_0))))) ?_
                        refine J122 τ3 (cutL (gS D 2 (m - 6 * g)) ws i.toNat) ?_ ?_ ?_ ?_ ?_
                        · have hcl := cutL_len (z := gS D 2 (m - 6 * g)) (ws := ws) (i := i.toNat) (by omega)
                          refine ⟨by rw [i91_1, hcl]; omega, fun k hk => ?_⟩
                          rw [hcl] at hk
                          rw [cutL_at (by omega) hk, show (0 : Int) + (k : Int) = k by omega, i91_3 k (by omega)]
                          by_cases q2 : k < i.toNat
                          · rw [if_pos q2, if_pos q2]
                          · rw [if_neg q2, if_neg q2]
                            by_cases q3 : k = i.toNat
                            · rw [if_pos q3, if_pos q3]
                            · rw [if_neg q3, if_neg q3, if_pos (by omega)]
                        · exact i91_2
                        · rw [cutL_len (by omega)]; omega
                        · rw [show (i + 1).toNat = i.toNat + 1 by omega, ← i22_4]
                          exact cutL_eq (by omega) ⟨c44, c61⟩
                        · omega
                      · refine s_aload_n C dX8_melts_100 rfl ?_
                        refine s_getR (c := 8) C fl_8_70 dX8_melts_101 sh_195 rfl rf_195_21 ?_
                        refine s_iload C dX8_melts_104 rfl ?_
                        refine s_aload_n C dX8_melts_106 rfl ?_
                        refine s_getR (c := 8) C fl_8_70 dX8_melts_107 sh_195 rfl rf_195_21 ?_
                        refine s_iload C dX8_melts_110 rfl ?_
                        refine s_iconst C dX8_melts_112 ?_
                        refine s_iadd C dX8_melts_113 ?_
                        refine s_iald C dX8_melts_114 sh_216 (by omega) (fun g114 => ?_)
                        refine s_iast C dX8_melts_115 sh_216 (by omega) (by omega) ?_
                        refine s_nameG (fun σ_115 hσ_115 => ?_)
                        obtain ⟨x4_116, ex4_116⟩ : ∃ y : Int, y = j + 1 := ⟨_, rfl⟩
                        refine s_iinc (z2 := x4_116) (ls2 := [some (vR 195), some (vI g), some (vI m), some (vI i), some (vI x4_116)]) C dX8_melts_116 (by decide) rfl ex4_116 rfl ?_
                        refine s_goto (tgt := 91) C dX8_melts_119 (by decide) ?_
                        refine ih91 x4_116 σ_115 (by omega) (by first | assumption | omega) ?_ ?_ ?_
                        · rw [hσ_115, up_a (by decide)]; exact i91_1
                        · exact i91_2.u1 hσ_115
                        · intro k hk
                          rw [hσ_115, up_i]
                          by_cases q : (k : Int) = j
                          · have h9 := i91_3 (k + 1) (by omega)
                            rw [if_neg (by omega), if_neg (by omega), if_neg (by omega), show ((k + 1 : Nat) : Int) = j + 1 by omega] at h9
                            rw [if_pos q, if_neg (by omega), if_neg (by omega), if_pos (by omega)]; exact h9
                          · rw [if_neg q, i91_3 k hk]
                            by_cases q2 : k < i.toNat
                            · rw [if_pos q2, if_pos q2]
                            · rw [if_neg q2, if_neg q2]
                              by_cases q3 : k = i.toNat
                              · rw [if_pos q3, if_pos q3]
                              · rw [if_neg q3, if_neg q3]
                                by_cases q4 : (k : Int) < j
                                · rw [if_pos q4, if_pos (by omega)]
                                · rw [if_neg q4, if_neg (by omega)]
                  refine L91 _ x4_89 σ_83 (Nat.lt_succ_self _) (by first | assumption | omega) ?_ ?_ ?_
                  · rw [hσ_83, up_s]; omega
                  · exact (i22_2.u1 hσ_75).u2 hσ_83
                  · intro k hk
                    rw [hσ_83, up_a (by decide), hσ_75, up_i]
                    by_cases q : (k : Int) = i
                    · rw [if_pos q, if_neg (by omega), if_pos (by omega)]; exact hsz
                    · rw [if_neg q]
                      have h9 := i22_1.2 k hk
                      rw [show (0 : Int) + (k : Int) = k by omega] at h9
                      by_cases q2 : k < i.toNat
                      · rw [if_pos q2]; exact h9
                      · rw [if_neg q2, if_neg (by omega), if_neg (by omega)]; exact h9
        refine L22 _ 0 τ (mlF D (m - 6 * g).toNat l) (Nat.lt_succ_self _) (by first | assumption | omega) ?_ ?_ ?_ ?_
        · exact i5_1
        · exact i5_2
        · exact i5_3
        · rfl
  refine L5 _ x2_4 σ (Nat.lt_succ_self _) (by first | assumption | omega) ?_ ?_ ?_
  · rw [show (x2_4 - 6 * g).toNat = 0 by omega]; exact hl9
  · exact fun _ _ _ _ => rfl
  · rw [show (x2_4 - 6 * g).toNat = 0 by omega]; exact hlen
