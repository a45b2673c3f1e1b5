/-- atoms of a grammar, in the order of their numbers -/
def AtOK (σ : sv_G) (a : Nat) : Prop := 0 ≤ σ a 2 ∧ σ a 2 ≤ 40 ∧ ∀ i j, 0 ≤ i → i < j → j < σ a 2 → σ (a + 1) i < σ (a + 1) j
/-- r atoms have numbers below x -/
def AtCnt (σ : sv_G) (a : Nat) (x r : Int) : Prop := 0 ≤ r ∧ r ≤ σ a 2 ∧ (∀ i, 0 ≤ i → i < r → σ (a + 1) i < x) ∧ ∀ i, r ≤ i → i < σ a 2 → x ≤ σ (a + 1) i
/-- the words of the atoms by their numbers: f; -1 for none -/
def AtF (σ : sv_G) (a : Nat) (f : Int → Int) : Prop := (∀ i, 0 ≤ i → i < σ a 2 → f (σ (a + 1) i) = σ (a + 2) i ∧ 0 ≤ σ (a + 2) i ∧ σ (a + 2) i ≤ 199) ∧ ∀ x, f x ≠ -1 → ∃ i, 0 ≤ i ∧ i < σ a 2 ∧ σ (a + 1) i = x
theorem AtCnt.mem {σ : sv_G} {a : Nat} {f : Int → Int} {x r : Int} (hA : AtOK σ a) (hF : AtF σ a f) (hC : AtCnt σ a x r) : (r < σ a 2 ∧ σ (a + 1) r = x ∧ f x = σ (a + 2) r ∧ 0 ≤ f x ∧ f x ≤ 199) ∨ (f x = -1 ∧ (r < σ a 2 → x < σ (a + 1) r)) := by
  obtain ⟨h1, h2, h3, h4⟩ := hC
  rcases Int.lt_or_le r (σ a 2) with q | q
  · rcases Int.lt_or_eq_of_le (h4 r (Int.le_refl _) q) with q2 | q2
    · right
      refine ⟨?_, fun _ => q2⟩
      apply Classical.byContradiction
      intro q3
      obtain ⟨i, g1, g2, g3⟩ := hF.2 x q3
      rcases Int.lt_or_le i r with q4 | q4
      · have := h3 i g1 q4; omega
      · rcases Int.lt_or_eq_of_le q4 with q5 | q5
        · have := hA.2.2 r i h1 q5 g2; omega
        · rw [← q5] at g3; omega
    · left
      have h5 := hF.1 r h1 q
      rw [← q2] at h5
      exact ⟨q, q2.symm, h5.1, by omega, by omega⟩
  · right
    refine ⟨?_, fun h => absurd h (by omega)⟩
    apply Classical.byContradiction
    intro q3
    obtain ⟨i, g1, g2, g3⟩ := hF.2 x q3
    have := h3 i g1 (by omega)
    omega
set_option maxRecDepth 100000 in
set_option maxHeartbeats 8000000 in
theorem kX0_isFull {E : sv_E} {σ : sv_G} {a : Nat} (ha : shp a = (0, 0)) : CT E MX0_isFull 0 [(vR a)] σ (PI fun r σ9 => σ9 = σ ∧ ((r = 1 ∧ 40 ≤ σ a 2) ∨ (r = 0 ∧ σ a 2 < 40))) := by
  refine CT.of (RX0, cX0_isFull, 1, (some .boolean), [], 0, 0, 0) rfl moX0_isFull (Nat.le_of_ble_eq_true rfl) (ls0 := [some (vR a)]) rfl ?_
  intro X Q C hR
  refine s_aload_n C dX0_isFull_0 rfl ?_
  refine s_getI (c := 0) (kz := 2) C fl_0_18 dX0_isFull_1 ha rfl rfl (fun g1 => ?_)
  refine s_bipush C dX0_isFull_4 (by decide) ?_
  refine s_icmp_lt (tgt := 13) C dX0_isFull_6 (by decide) (by omega) (by omega) (fun c6 => ?_) (fun c6 => ?_)
  · refine s_iconst C dX0_isFull_13 ?_
    exact s_zret C hR dX0_isFull_14 rfl (by omega) ⟨_, rfl, by exact ⟨rfl, by omega⟩⟩ (by decide)
  · refine s_iconst C dX0_isFull_9 ?_
    refine s_goto (tgt := 14) C dX0_isFull_10 (by decide) ?_
    exact s_zret C hR dX0_isFull_14 rfl (by omega) ⟨_, rfl, by exact ⟨rfl, by omega⟩⟩ (by decide)
set_option maxRecDepth 100000 in
set_option maxHeartbeats 8000000 in
theorem kX0_countBelow {E : sv_E} {σ : sv_G} {a : Nat} {x : Int} (ha : shp a = (0, 0)) (hx : -2147483648 ≤ x ∧ x ≤ 2147483647) (hA : AtOK σ a) : CT E MX0_countBelow 0 [(vR a), (vI x)] σ (PI fun r σ9 => σ9 = σ ∧ AtCnt σ a x r) := by
  refine CT.of (RX0, cX0_countBelow, 5, (some .int), [], 0, 0, 0) rfl moX0_countBelow (Nat.le_of_ble_eq_true rfl) (ls0 := [some (vR a), some (vI x), none, none, none]) rfl ?_
  intro X Q C hR
  obtain ⟨hA1, hA2, hA3⟩ := hA
  refine s_iconst C dX0_countBelow_0 ?_
  refine s_istore_n (ls2 := [some (vR a), some (vI x), some (vI 0), none, none]) C dX0_countBelow_1 (by decide) rfl ?_
  refine s_bipush C dX0_countBelow_2 (by decide) ?_
  refine s_istore_n (ls2 := [some (vR a), some (vI x), some (vI 0), some (vI 32), none]) C dX0_countBelow_4 (by decide) rfl ?_
  have L5 : ∀ (n : Nat) (b : Int) (t : Int), t.toNat < n → (t = 32 ∨ t = 16 ∨ t = 8 ∨ t = 4 ∨ t = 2 ∨ t = 1 ∨ t = 0) → (0 ≤ b ∧ b ≤ σ a 2) → (∀ i, 0 ≤ i → i < b → σ (a + 1) i < x) → (∀ i, b ≤ i → b + 2 * t ≤ i + 1 → i < σ a 2 → x ≤ σ (a + 1) i) → SW X E Q 0 0 5 [some (vR a), some (vI x), some (vI b), some (vI t), none] [] σ := by
    intro n
    induction n with
    | zero => intro b t hm; exact absurd hm (Nat.not_lt_zero _)
    | succ n ih5 =>
      intro b t hm5 i5_0 i5_1 i5_2 i5_3
      refine s_iload_n C dX0_countBelow_5 rfl ?_
      refine s_if_le (tgt := 46) C dX0_countBelow_6 (by decide) (by omega) (fun c6 => ?_) (fun c6 => ?_)
      · refine s_iload_n C dX0_countBelow_46 rfl ?_
        exact s_iret C hR dX0_countBelow_47 rfl ⟨_, rfl, by exact ⟨rfl, by omega, by omega, i5_2, fun i h1 h2 => i5_3 i h1 (by omega) h2⟩⟩ (by decide)
      · refine s_iload_n C dX0_countBelow_9 rfl ?_
        refine s_iload_n C dX0_countBelow_10 rfl ?_
        refine s_iadd C dX0_countBelow_11 ?_
        refine s_topI (fun x4_12 ex4_12 => ?_)
        refine s_istore (ls2 := [some (vR a), some (vI x), some (vI b), some (vI t), some (vI x4_12)]) C dX0_countBelow_12 (by decide) rfl ?_
        refine s_iload C dX0_countBelow_14 rfl ?_
        refine s_aload_n C dX0_countBelow_16 rfl ?_
        refine s_getI (c := 0) (kz := 2) C fl_0_18 dX0_countBelow_17 ha rfl rfl (fun g17 => ?_)
        have J39 : ∀ (b2 : Int), (0 ≤ b2 ∧ b2 ≤ σ a 2) → (∀ i, 0 ≤ i → i < b2 → σ (a + 1) i < x) → (∀ i, b2 ≤ i → b2 + 2 * (t / 2) ≤ i + 1 → i < σ a 2 → x ≤ σ (a + 1) i) → SW X E Q 0 0 39 [some (vR a), some (vI x), some (vI b2), some (vI t), some (vI x4_12)] [] σ := by
          intro b2 j39_0 j39_1 j39_2
          refine s_iload_n C dX0_countBelow_39 rfl ?_
          refine s_iconst C dX0_countBelow_40 ?_
          refine s_idiv C dX0_countBelow_41 (by omega) (by omega) ?_
          refine s_topI (fun x3_42 ex3_42 => ?_)
          refine s_istore_n (ls2 := [some (vR a), some (vI x), some (vI b2), some (vI x3_42), some (vI x4_12)]) C dX0_countBelow_42 (by decide) rfl ?_
          refine s_goto (tgt := 5) C dX0_countBelow_43 (by decide) ?_
          refine s_weak (ls2 := [some (vR a), some (vI x), some (vI b2), some (vI x3_42), none]) (sv_wk_c (sv_wk_c (sv_wk_c (sv_wk_c (sv_wk_n sv_wk_0))))) ?_
          exact ih5 b2 x3_42 (by omega) (by first | assumption | omega) (by first | assumption | omega) (by first | assumption | omega) (by first | assumption | omega)
        refine s_icmp_gt (tgt := 39) C dX0_countBelow_20 (by decide) (by omega) (by omega) (fun c20 => ?_) (fun c20 => ?_)
        · exact J39 b (by first | assumption | omega) (by first | assumption | omega) (by intro i h1 h2 h3; exact i5_3 i h1 (by omega) h3)
        · refine s_aload_n C dX0_countBelow_23 rfl ?_
          refine s_getR (c := 0) C fl_0_9 dX0_countBelow_24 ha rfl (rfc_0_0 ha) ?_
          refine s_iload C dX0_countBelow_27 rfl ?_
          refine s_iconst C dX0_countBelow_29 ?_
          refine s_isub C dX0_countBelow_30 ?_
          refine s_iald C dX0_countBelow_31 (shc_0_0 ha) (by omega) (fun g31 => ?_)
          refine s_iload_n C dX0_countBelow_32 rfl ?_
          refine s_icmp_ge (tgt := 39) C dX0_countBelow_33 (by decide) (by omega) (by omega) (fun c33 => ?_) (fun c33 => ?_)
          · exact J39 b (by first | assumption | omega) (by first | assumption | omega) (by intro i h1 h2 h3; rcases Int.lt_or_eq_of_le (show x4_12 - 1 ≤ i by omega) with q2 | q2; (have := hA3 (x4_12 - 1) i (by omega) q2 h3; omega); (rw [← q2]; omega))
          · refine s_iload C dX0_countBelow_36 rfl ?_
            refine s_istore_n (ls2 := [some (vR a), some (vI x), some (vI x4_12), some (vI t), some (vI x4_12)]) C dX0_countBelow_38 (by decide) rfl ?_
            exact J39 x4_12 (by omega) (by intro i h1 h2; rcases Int.lt_or_le i b with q | q; exact i5_2 i h1 q; rcases Int.lt_or_eq_of_le (show i ≤ x4_12 - 1 by omega) with q2 | q2; (have := hA3 i (x4_12 - 1) h1 q2 (by omega); omega); (rw [q2]; omega)) (by intro i h1 h2 h3; exact i5_3 i (by omega) (by omega) h3)
  exact L5 _ 0 32 (Nat.lt_succ_self _) (by omega) (by omega) (by intro i h1 h2; omega) (by intro i h1 h2; omega)
set_option maxRecDepth 100000 in
set_option maxHeartbeats 8000000 in
theorem kX0_wordOf {E : sv_E} {σ : sv_G} {a : Nat} {x : Int} (ha : shp a = (0, 0)) (hx : -2147483648 ≤ x ∧ x ≤ 2147483647) {f : Int → Int} (hA : AtOK σ a) (hF : AtF σ a f) : CT E MX0_wordOf 1 [(vR a), (vI x)] σ (PI fun r σ9 => σ9 = σ ∧ r = f x) := by
  refine CT.of (RX0, cX0_wordOf, 3, (some .int), [], 1, 0, 0) rfl moX0_wordOf (Nat.le_of_ble_eq_true rfl) (ls0 := [some (vR a), some (vI x), none]) rfl ?_
  intro X Q C hR
  refine s_aload_n C dX0_wordOf_0 rfl ?_
  refine s_iload_n C dX0_wordOf_1 rfl ?_
  refine s_cV1i C dX0_wordOf_2 lkX0_22 moX0_countBelow mvX0_countBelow (kX0_countBelow ha (by omega) (by assumption)) ha ⟨_, _, rfl⟩ (by decide) (Nat.le_of_ble_eq_true rfl) rfl (by decide) (kpI (fun r2 hp2 => ?_))
  have hm := AtCnt.mem hA hF hp2
  obtain ⟨hA1, hA2, hA3⟩ := hA
  obtain ⟨q1, q2, q3, q4⟩ := hp2
  refine s_istore_n (ls2 := [some (vR a), some (vI x), some (vI r2)]) C dX0_wordOf_5 (by decide) rfl ?_
  refine s_iload_n C dX0_wordOf_6 rfl ?_
  refine s_aload_n C dX0_wordOf_7 rfl ?_
  refine s_getI (c := 0) (kz := 2) C fl_0_18 dX0_wordOf_8 ha rfl rfl (fun g8 => ?_)
  refine s_icmp_ge (tgt := 33) C dX0_wordOf_11 (by decide) (by omega) (by omega) (fun c11 => ?_) (fun c11 => ?_)
  · refine s_iconst C dX0_wordOf_33 ?_
    exact s_iret C hR dX0_wordOf_34 rfl ⟨_, rfl, by exact ⟨rfl, by omega⟩⟩ (by decide)
  · refine s_aload_n C dX0_wordOf_14 rfl ?_
    refine s_getR (c := 0) C fl_0_9 dX0_wordOf_15 ha rfl (rfc_0_0 ha) ?_
    refine s_iload_n C dX0_wordOf_18 rfl ?_
    refine s_iald C dX0_wordOf_19 (shc_0_0 ha) (by omega) (fun g19 => ?_)
    refine s_iload_n C dX0_wordOf_20 rfl ?_
    refine s_icmp_ne (tgt := 33) C dX0_wordOf_21 (by decide) (by omega) (by omega) (fun c21 => ?_) (fun c21 => ?_)
    · refine s_iconst C dX0_wordOf_33 ?_
      exact s_iret C hR dX0_wordOf_34 rfl ⟨_, rfl, by exact ⟨rfl, by omega⟩⟩ (by decide)
    · refine s_aload_n C dX0_wordOf_24 rfl ?_
      refine s_getR (c := 0) C fl_0_15 dX0_wordOf_25 ha rfl (rfc_0_1 ha) ?_
      refine s_iload_n C dX0_wordOf_28 rfl ?_
      refine s_iald C dX0_wordOf_29 (shc_0_1 ha) (by omega) (fun g29 => ?_)
      refine s_goto (tgt := 34) C dX0_wordOf_30 (by decide) ?_
      exact s_iret C hR dX0_wordOf_34 rfl ⟨_, rfl, by exact ⟨rfl, by omega⟩⟩ (by decide)
set_option maxRecDepth 100000 in
set_option maxHeartbeats 8000000 in
theorem kX0_leastWith {E : sv_E} {σ : sv_G} {a : Nat} {x : Int} (ha : shp a = (0, 0)) (hx : -2147483648 ≤ x ∧ x ≤ 2147483647) (hA : AtOK σ a) : CT E MX0_leastWith 0 [(vR a), (vI x)] σ (PI fun r σ9 => σ9 = σ ∧ ((r = -1 ∧ ∀ i, 0 ≤ i → i < σ a 2 → σ (a + 2) i ≠ x) ∨ ∃ i, 0 ≤ i ∧ i < σ a 2 ∧ r = σ (a + 1) i ∧ σ (a + 2) i = x ∧ ∀ j, 0 ≤ j → j < σ a 2 → σ (a + 2) j = x → σ (a + 1) i ≤ σ (a + 1) j)) := by
  refine CT.of (RX0, cX0_leastWith, 3, (some .int), [], 0, 0, 0) rfl moX0_leastWith (Nat.le_of_ble_eq_true rfl) (ls0 := [some (vR a), some (vI x), none]) rfl ?_
  intro X Q C hR
  obtain ⟨hA1, hA2, hA3⟩ := hA
  refine s_iconst C dX0_leastWith_0 ?_
  refine s_istore_n (ls2 := [some (vR a), some (vI x), some (vI 0)]) C dX0_leastWith_1 (by decide) rfl ?_
  have L2 : ∀ (n : Nat) (m : Int), (40 - m).toNat < n → (0 ≤ m ∧ m ≤ σ a 2) → (∀ i, 0 ≤ i → i < m → σ (a + 2) i ≠ x) → SW X E Q 0 0 2 [some (vR a), some (vI x), some (vI m)] [] σ := by
    intro n
    induction n with
    | zero => intro m hm; exact absurd hm (Nat.not_lt_zero _)
    | succ n ih2 =>
      intro m hm2 i2_0 i2_1
      refine s_iload_n C dX0_leastWith_2 rfl ?_
      refine s_aload_n C dX0_leastWith_3 rfl ?_
      refine s_getI (c := 0) (kz := 2) C fl_0_18 dX0_leastWith_4 ha rfl rfl (fun g4 => ?_)
      refine s_icmp_ge (tgt := 33) C dX0_leastWith_7 (by decide) (by omega) (by omega) (fun c7 => ?_) (fun c7 => ?_)
      · refine s_iconst C dX0_leastWith_33 ?_
        exact s_iret C hR dX0_leastWith_34 rfl ⟨_, rfl, by exact ⟨rfl, Or.inl ⟨rfl, fun i h1 h2 => i2_1 i h1 (by omega)⟩⟩⟩ (by decide)
      · refine s_aload_n C dX0_leastWith_10 rfl ?_
        refine s_getR (c := 0) C fl_0_15 dX0_leastWith_11 ha rfl (rfc_0_1 ha) ?_
        refine s_iload_n C dX0_leastWith_14 rfl ?_
        refine s_iald C dX0_leastWith_15 (shc_0_1 ha) (by omega) (fun g15 => ?_)
        refine s_iload_n C dX0_leastWith_16 rfl ?_
        refine s_icmp_ne (tgt := 27) C dX0_leastWith_17 (by decide) (by omega) (by omega) (fun c17 => ?_) (fun c17 => ?_)
        · obtain ⟨x2_27, ex2_27⟩ : ∃ y : Int, y = m + 1 := ⟨_, rfl⟩
          refine s_iinc (z2 := x2_27) (ls2 := [some (vR a), some (vI x), some (vI x2_27)]) C dX0_leastWith_27 (by decide) rfl ex2_27 rfl ?_
          refine s_goto (tgt := 2) C dX0_leastWith_30 (by decide) ?_
          exact ih2 x2_27 (by omega) (by first | assumption | omega) (by intro i h1 h2; rcases Int.lt_or_le i m with q | q; exact i2_1 i h1 q; (rw [show i = m by omega]; omega))
        · refine s_aload_n C dX0_leastWith_20 rfl ?_
          refine s_getR (c := 0) C fl_0_9 dX0_leastWith_21 ha rfl (rfc_0_0 ha) ?_
          refine s_iload_n C dX0_leastWith_24 rfl ?_
          refine s_iald C dX0_leastWith_25 (shc_0_0 ha) (by omega) (fun g25 => ?_)
          exact s_iret C hR dX0_leastWith_26 rfl ⟨_, rfl, by exact ⟨rfl, Or.inr ⟨m, by omega, by omega, rfl, by omega, fun j h1 h2 h3 => by rcases Int.lt_or_le j m with q | q; exact absurd h3 (i2_1 j h1 q); rcases Int.lt_or_eq_of_le q with q2 | q2; (have := hA3 m j (by omega) q2 h2; omega); (rw [q2]; omega)⟩⟩⟩ (by decide)
  exact L2 _ 0 (Nat.lt_succ_self _) (by first | assumption | omega) (by intro i h1 h2; omega)
