/-- atoms of a grammar, in the order of their numbers -/
def AtOK (σ : sv_G) (a : Nat) : Prop := 0 ≤ σ a 2 ∧ σ a 2 ≤ 40 ∧ ∀ i j, 0 ≤ i → i < j → j < σ a 2 → σ (a + 1) i < σ (a + 1) j
/-- r atoms have numbers below x -/
def AtCnt (σ : sv_G) (a : Nat) (x r : Int) : Prop := 0 ≤ r ∧ r ≤ σ a 2 ∧ (∀ i, 0 ≤ i → i < r → σ (a + 1) i < x) ∧ ∀ i, r ≤ i → i < σ a 2 → x ≤ σ (a + 1) i
/-- the words of the atoms by their numbers: f; -1 for none -/
def AtF (σ : sv_G) (a : Nat) (f : Int → Int) : Prop := (∀ i, 0 ≤ i → i < σ a 2 → f (σ (a + 1) i) = σ (a + 2) i ∧ 0 ≤ σ (a + 2) i ∧ σ (a + 2) i ≤ 199) ∧ ∀ x, f x ≠ -1 → ∃ i, 0 ≤ i ∧ i < σ a 2 ∧ σ (a + 1) i = x
theorem AtCnt.mem {σ : sv_G} {a : Nat} {f : Int → Int} {x r : Int} (hA : AtOK σ a) (hF : AtF σ a f) (hC : AtCnt σ a x r) : (r < σ a 2 ∧ σ (a + 1) r = x ∧ f x = σ (a + 2) r ∧ 0 ≤ f x ∧ f x ≤ 199) ∨ (f x = -1 ∧ (r < σ a 2 → x < σ (a + 1) r)) := by
  obtain ⟨h1, h2, h3, h4⟩ := hC
  rcases Int.lt_or_le r (σ a 2) with q | q
  · rcases Int.lt_or_eq_of_le (h4 r (Int.le_refl _) q) with q2 | q2
    · right
      refine ⟨?_, fun _ => q2⟩
      apply Classical.byContradiction
      intro q3
      obtain ⟨i, g1, g2, g3⟩ := hF.2 x q3
      rcases Int.lt_or_le i r with q4 | q4
      · have := h3 i g1 q4; omega
      · rcases Int.lt_or_eq_of_le q4 with q5 | q5
        · have := hA.2.2 r i h1 q5 g2; omega
        · rw [← q5] at g3; omega
    · left
      have h5 := hF.1 r h1 q
      rw [← q2] at h5
      exact ⟨q, q2.symm, h5.1, by omega, by omega⟩
  · right
    refine ⟨?_, fun h => absurd h (by omega)⟩
    apply Classical.byContradiction
    intro q3
    obtain ⟨i, g1, g2, g3⟩ := hF.2 x q3
    have := h3 i g1 (by omega)
    omega
set_option maxRecDepth 100000 in
set_option maxHeartbeats 8000000 in
theorem kX0_isFull {E : sv_E} {σ : sv_G} {a : Nat} (ha : shp a = (0, 0)) : CT E MX0_isFull 0 [(vR a)] σ (PI fun r σ9 => σ9 = σ ∧ ((r = 1 ∧ 40 ≤ σ a 2) ∨ (r = 0 ∧ σ a 2 < 40))) := by
  refine CT.of (RX0, cX0_isFull, 1, (some .boolean), [], 0, 0, 0) rfl moX0_isFull (Nat.le_of_ble_eq_true rfl) (ls0 := [some (vR a)]) rfl ?_
  intro X Q C hR
  refine s_aload_n C dX0_isFull_0 rfl ?_
  refine s_getI (c := 0) (kz := 2) C fl_0_18 dX0_isFull_1 ha rfl rfl (fun g1 => ?_)
  refine s_bipush C dX0_isFull_4 (by decide) ?_
  refine s_icmp_lt (tgt := 13) C dX0_isFull_6 (by decide) (by omega) (by omega) (fun c6 => ?_) (fun c6 => ?_)
  · refine s_iconst C dX0_isFull_13 ?_
    refine s_zret C hR dX0_isFull_14 rfl (by omega) ⟨_, rfl, ?_⟩ (by decide)
    exact ⟨rfl, by omega⟩
  · refine s_iconst C dX0_isFull_9 ?_
    refine s_goto (tgt := 14) C dX0_isFull_10 (by decide) ?_
    refine s_zret C hR dX0_isFull_14 rfl (by omega) ⟨_, rfl, ?_⟩ (by decide)
    exact ⟨rfl, by omega⟩
set_option maxRecDepth 100000 in
set_option maxHeartbeats 8000000 in
theorem kX0_countBelow {E : sv_E} {σ : sv_G} {a : Nat} {x : Int} (ha : shp a = (0, 0)) (hx : -2147483648 ≤ x ∧ x ≤ 2147483647) (hA : AtOK σ a) : CT E MX0_countBelow 0 [(vR a), (vI x)] σ (PI fun r σ9 => σ9 = σ ∧ AtCnt σ a x r) := by
  refine CT.of (RX0, cX0_countBelow, 5, (some .int), [], 0, 0, 0) rfl moX0_countBelow (Nat.le_of_ble_eq_true rfl) (ls0 := [some (vR a), some (vI x), none, none, none]) rfl ?_
  intro X Q C hR
  obtain ⟨hA1, hA2, hA3⟩ := hA
  refine s_iconst C dX0_countBelow_0 ?_
  refine s_istore_n (ls2 := [some (vR a), some (vI x), some (vI 0), none, none]) C dX0_countBelow_1 (by decide) rfl ?_
  refine s_bipush C dX0_countBelow_2 (by decide) ?_
  refine s_istore_n (ls2 := [some (vR a), some (vI x), some (vI 0), some (vI 32), none]) C dX0_countBelow_4 (by decide) rfl ?_
  have L5 : ∀ (n : Nat) (b : Int) (t : Int), t.toNat < n → (t = 32 ∨ t = 16 ∨ t = 8 ∨ t = 4 ∨ t = 2 ∨ t = 1 ∨ t = 0) → (0 ≤ b ∧ b ≤ σ a 2) → (∀ i, 0 ≤ i → i < b → σ (a + 1) i < x) → (∀ i, b ≤ i → b + 2 * t ≤ i + 1 → i < σ a 2 → x ≤ σ (a + 1) i) → SW X E Q 0 0 5 [some (vR a), some (vI x), some (vI b), some (vI t), none] [] σ := by
    intro n
    induction n with
    | zero => intro b t hm; exact absurd hm (Nat.not_lt_zero _)
    | succ n ih5 =>
      intro b t hm5 i5_0 i5_1 i5_2 i5_3
      refine s_iload_n C dX0_countBelow_5 rfl ?_
      refine s_if_le (tgt := 46) C dX0_countBelow_6 (by decide) (by omega) (fun c6 => ?_) (fun c6 => ?_)
      · refine s_iload_n C dX0_countBelow_46 rfl ?_
        refine s_iret C hR dX0_countBelow_47 rfl ⟨_, rfl, ?_⟩ (by decide)
        exact ⟨rfl, by omega, by omega, i5_2, fun i h1 h2 => i5_3 i h1 (by omega) h2⟩
      · refine s_iload_n C dX0_countBelow_9 rfl ?_
        refine s_iload_n C dX0_countBelow_10 rfl ?_
        refine s_iadd C dX0_countBelow_11 ?_
        refine s_topI (fun x4_12 ex4_12 => ?_)
        refine s_istore (ls2 := [some (vR a), some (vI x), some (vI b), some (vI t), some (vI x4_12)]) C dX0_countBelow_12 (by decide) rfl ?_
        refine s_iload C dX0_countBelow_14 rfl ?_
        refine s_aload_n C dX0_countBelow_16 rfl ?_
        refine s_getI (c := 0) (kz := 2) C fl_0_18 dX0_countBelow_17 ha rfl rfl (fun g17 => ?_)
        have J39 : ∀ (b2 : Int), (0 ≤ b2 ∧ b2 ≤ σ a 2) → (∀ i, 0 ≤ i → i < b2 → σ (a + 1) i < x) → (∀ i, b2 ≤ i → b2 + 2 * (t / 2) ≤ i + 1 → i < σ a 2 → x ≤ σ (a + 1) i) → SW X E Q 0 0 39 [some (vR a), some (vI x), some (vI b2), some (vI t), some (vI x4_12)] [] σ := by
          intro b2 j39_0 j39_1 j39_2
          refine s_iload_n C dX0_countBelow_39 rfl ?_
          refine s_iconst C dX0_countBelow_40 ?_
          refine s_idiv C dX0_countBelow_41 (by omega) (by omega) ?_
          refine s_topI (fun x3_42 ex3_42 => ?_)
          refine s_istore_n (ls2 := [some (vR a), some (vI x), some (vI b2), some (vI x3_42), some (vI x4_12)]) C dX0_countBelow_42 (by decide) rfl ?_
          refine s_goto (tgt := 5) C dX0_countBelow_43 (by decide) ?_
          refine s_weak (ls2 := [some (vR a), some (vI x), some (vI b2), some (vI x3_42), none]) (sv_wk_c (sv_wk_c (sv_wk_c (sv_wk_c (sv_wk_n sv_wk_0))))) ?_
          refine ih5 b2 x3_42 (by omega) (by first | assumption | omega) (by first | assumption | omega) (by first | assumption | omega) ?_
          · rw [ex3_42]; exact j39_2
        refine s_icmp_gt (tgt := 39) C dX0_countBelow_20 (by decide) (by omega) (by omega) (fun c20 => ?_) (fun c20 => ?_)
        · refine J39 b (by first | assumption | omega) (by first | assumption | omega) ?_
          · intro i h1 h2 h3; exact i5_3 i h1 (by omega) h3
        · refine s_aload_n C dX0_countBelow_23 rfl ?_
          refine s_getR (c := 0) C fl_0_9 dX0_countBelow_24 ha rfl (rfc_0_0 ha) ?_
          refine s_iload C dX0_countBelow_27 rfl ?_
          refine s_iconst C dX0_countBelow_29 ?_
          refine s_isub C dX0_countBelow_30 ?_
          refine s_iald C dX0_countBelow_31 (shc_0_0 ha) (by omega) (fun g31 => ?_)
          refine s_iload_n C dX0_countBelow_32 rfl ?_
          refine s_icmp_ge (tgt := 39) C dX0_countBelow_33 (by decide) (by omega) (by omega) (fun c33 => ?_) (fun c33 => ?_)
          · refine J39 b (by first | assumption | omega) (by first | assumption | omega) ?_
            · intro i h1 h2 h3
              rcases Int.lt_or_eq_of_le (show x4_12 - 1 ≤ i by omega) with q2 | q2
              · have := hA3 (x4_12 - 1) i (by omega) q2 h3
                omega
              · rw [← q2]; omega
          · refine s_iload C dX0_countBelow_36 rfl ?_
            refine s_istore_n (ls2 := [some (vR a), some (vI x), some (vI x4_12), some (vI t), some (vI x4_12)]) C dX0_countBelow_38 (by decide) rfl ?_
            refine J39 x4_12 ?_ ?_ ?_
            · omega
            · intro i h1 h2
              rcases Int.lt_or_le i b with q | q
              · exact i5_2 i h1 q
              · rcases Int.lt_or_eq_of_le (show i ≤ x4_12 - 1 by omega) with q2 | q2
                · have := hA3 i (x4_12 - 1) h1 q2 (by omega)
                  omega
                · rw [q2]; omega
            · intro i h1 h2 h3; exact i5_3 i (by omega) (by omega) h3
  refine L5 _ 0 32 (Nat.lt_succ_self _) ?_ ?_ ?_ ?_
  · omega
  · omega
  · intro i h1 h2; omega
  · intro i h1 h2; omega
set_option maxRecDepth 100000 in
set_option maxHeartbeats 8000000 in
theorem kX0_wordOf {E : sv_E} {σ : sv_G} {a : Nat} {x : Int} (ha : shp a = (0, 0)) (hx : -2147483648 ≤ x ∧ x ≤ 2147483647) {f : Int → Int} (hA : AtOK σ a) (hF : AtF σ a f) : CT E MX0_wordOf 1 [(vR a), (vI x)] σ (PI fun r σ9 => σ9 = σ ∧ r = f x) := by
  refine CT.of (RX0, cX0_wordOf, 3, (some .int), [], 1, 0, 0) rfl moX0_wordOf (Nat.le_of_ble_eq_true rfl) (ls0 := [some (vR a), some (vI x), none]) rfl ?_
  intro X Q C hR
  refine s_aload_n C dX0_wordOf_0 rfl ?_
  refine s_iload_n C dX0_wordOf_1 rfl ?_
  refine s_cV1i C dX0_wordOf_2 lkX0_22 moX0_countBelow mvX0_countBelow (kX0_countBelow ha (by omega) (by assumption)) ha ⟨_, _, rfl⟩ (by decide) (Nat.le_of_ble_eq_true rfl) rfl (by decide) (kpI (fun r2 hp2 => ?_))
  have hm := AtCnt.mem hA hF hp2
  obtain ⟨hA1, hA2, hA3⟩ := hA
  obtain ⟨q1, q2, q3, q4⟩ := hp2
  refine s_istore_n (ls2 := [some (vR a), some (vI x), some (vI r2)]) C dX0_wordOf_5 (by decide) rfl ?_
  refine s_iload_n C dX0_wordOf_6 rfl ?_
  refine s_aload_n C dX0_wordOf_7 rfl ?_
  refine s_getI (c := 0) (kz := 2) C fl_0_18 dX0_wordOf_8 ha rfl rfl (fun g8 => ?_)
  refine s_icmp_ge (tgt := 33) C dX0_wordOf_11 (by decide) (by omega) (by omega) (fun c11 => ?_) (fun c11 => ?_)
  · refine s_iconst C dX0_wordOf_33 ?_
    refine s_iret C hR dX0_wordOf_34 rfl ⟨_, rfl, ?_⟩ (by decide)
    exact ⟨rfl, by omega⟩
  · refine s_aload_n C dX0_wordOf_14 rfl ?_
    refine s_getR (c := 0) C fl_0_9 dX0_wordOf_15 ha rfl (rfc_0_0 ha) ?_
    refine s_iload_n C dX0_wordOf_18 rfl ?_
    refine s_iald C dX0_wordOf_19 (shc_0_0 ha) (by omega) (fun g19 => ?_)
    refine s_iload_n C dX0_wordOf_20 rfl ?_
    refine s_icmp_ne (tgt := 33) C dX0_wordOf_21 (by decide) (by omega) (by omega) (fun c21 => ?_) (fun c21 => ?_)
    · refine s_iconst C dX0_wordOf_33 ?_
      refine s_iret C hR dX0_wordOf_34 rfl ⟨_, rfl, ?_⟩ (by decide)
      exact ⟨rfl, by omega⟩
    · refine s_aload_n C dX0_wordOf_24 rfl ?_
      refine s_getR (c := 0) C fl_0_15 dX0_wordOf_25 ha rfl (rfc_0_1 ha) ?_
      refine s_iload_n C dX0_wordOf_28 rfl ?_
      refine s_iald C dX0_wordOf_29 (shc_0_1 ha) (by omega) (fun g29 => ?_)
      refine s_goto (tgt := 34) C dX0_wordOf_30 (by decide) ?_
      refine s_iret C hR dX0_wordOf_34 rfl ⟨_, rfl, ?_⟩ (by decide)
      exact ⟨rfl, by omega⟩
def ftS (f : Int → Int) (x v : Int) : Int → Int := fun y => if y = x then v else f y
/-- behind the shift: atoms k .. of what was there stand one place on, x with w between -/
theorem AtF.put {σ σ' : sv_G} {a : Nat} {f : Int → Int} {x v r : Int} (hA : AtOK σ a) (hF : AtF σ a f) (hC : AtCnt σ a x r) (hx : f x = -1) (hv : 0 ≤ v ∧ v ≤ 199) (hs : σ a 2 < 40) (h2 : σ' a 2 = σ a 2 + 1)
    (hn : ∀ i, 0 ≤ i → i < σ a 2 + 1 → σ' (a + 1) i = if i < r then σ (a + 1) i else if i = r then x else σ (a + 1) (i - 1))
    (hw : ∀ i, 0 ≤ i → i < σ a 2 + 1 → σ' (a + 2) i = if i < r then σ (a + 2) i else if i = r then v else σ (a + 2) (i - 1)) : AtOK σ' a ∧ AtF σ' a (ftS f x v) := by
  obtain ⟨c1, c2, c3, c4⟩ := hC
  have c5 : ∀ i, r ≤ i → i < σ a 2 → x < σ (a + 1) i := by
    intro i g1 g2
    rcases Int.lt_or_eq_of_le (c4 i g1 g2) with q | q
    · exact q
    · have := hF.1 i (by omega) g2; rw [← q] at this; omega
  refine ⟨⟨by omega, by omega, fun i j h1 h3 h4 => ?_⟩, ⟨fun i h1 h3 => ?_, fun y hy => ?_⟩⟩
  · rw [h2] at h4
    rw [hn i h1 (by omega), hn j (by omega) h4]
    have m1 := fun i j => hA.2.2 i j
    by_cases q1 : i < r <;> by_cases q2 : j < r
    · rw [if_pos q1, if_pos q2]; exact m1 i j h1 h3 (by omega)
    · rw [if_pos q1, if_neg q2]
      by_cases q3 : j = r
      · rw [if_pos q3]; exact c3 i h1 q1
      · rw [if_neg q3]
        have := c3 i h1 q1
        have := c5 (j - 1) (by omega) (by omega)
        omega
    · omega
    · rw [if_neg q1, if_neg q2]
      by_cases q3 : i = r
      · rw [if_pos q3, if_neg (by omega)]; exact c5 (j - 1) (by omega) (by omega)
      · rw [if_neg q3, if_neg (by omega)]; exact m1 (i - 1) (j - 1) (by omega) (by omega) (by omega)
  · rw [h2] at h3
    rw [hn i h1 h3, hw i h1 h3]
    unfold ftS
    by_cases q1 : i < r
    · have := c3 i h1 q1
      rw [if_pos q1, if_pos q1, if_neg (by omega)]
      exact hF.1 i h1 (by omega)
    · rw [if_neg q1, if_neg q1]
      by_cases q3 : i = r
      · rw [if_pos q3, if_pos q3, if_pos rfl]; exact ⟨rfl, hv⟩
      · have := c5 (i - 1) (by omega) (by omega)
        rw [if_neg q3, if_neg q3, if_neg (by omega)]
        exact hF.1 (i - 1) (by omega) (by omega)
  · unfold ftS at hy
    by_cases q : y = x
    · exact ⟨r, c1, by omega, by rw [hn r c1 (by omega), if_neg (by omega), if_pos rfl, q]⟩
    · rw [if_neg q] at hy
      obtain ⟨i, g1, g2, g3⟩ := hF.2 y hy
      by_cases q1 : i < r
      · exact ⟨i, g1, by omega, by rw [hn i g1 (by omega), if_pos q1, g3]⟩
      · exact ⟨i + 1, by omega, by omega, by rw [hn (i + 1) (by omega) (by omega), if_neg (by omega), if_neg (by omega), show i + 1 - 1 = i by omega, g3]⟩
theorem AtF.set {σ σ' : sv_G} {a : Nat} {f : Int → Int} {x v r : Int} (hA : AtOK σ a) (hF : AtF σ a f) (hr : 0 ≤ r ∧ r < σ a 2) (hx : σ (a + 1) r = x) (hv : 0 ≤ v ∧ v ≤ 199) (h2 : σ' a 2 = σ a 2) (hn : ∀ i, σ' (a + 1) i = σ (a + 1) i) (hw : ∀ i, σ' (a + 2) i = if i = r then v else σ (a + 2) i) : AtOK σ' a ∧ AtF σ' a (ftS f x v) := by
  refine ⟨⟨by rw [h2]; exact hA.1, by rw [h2]; exact hA.2.1, fun i j h1 h3 h4 => ?_⟩, ⟨fun i h1 h3 => ?_, fun y hy => ?_⟩⟩
  · rw [hn, hn]; exact hA.2.2 i j h1 h3 (by omega)
  · rw [h2] at h3
    rw [hn, hw]
    unfold ftS
    by_cases q : i = r
    · rw [if_pos q, q, if_pos hx]; exact ⟨rfl, hv⟩
    · rw [if_neg q, if_neg]
      · exact hF.1 i h1 h3
      · intro q2
        rcases Int.lt_or_lt_of_ne q with q3 | q3
        · have := hA.2.2 i r h1 q3 hr.2; omega
        · have := hA.2.2 r i hr.1 q3 h3; omega
  · unfold ftS at hy
    by_cases q : y = x
    · exact ⟨r, hr.1, by omega, by rw [hn, hx, q]⟩
    · rw [if_neg q] at hy
      obtain ⟨i, g1, g2, g3⟩ := hF.2 y hy
      exact ⟨i, g1, by omega, by rw [hn, g3]⟩
theorem AtF.take {σ σ' : sv_G} {a : Nat} {f : Int → Int} {x r : Int} (hA : AtOK σ a) (hF : AtF σ a f) (hr : 0 ≤ r ∧ r < σ a 2) (hx : σ (a + 1) r = x) (h2 : σ' a 2 = σ a 2 - 1)
    (hn : ∀ i, 0 ≤ i → i < σ a 2 - 1 → σ' (a + 1) i = if i < r then σ (a + 1) i else σ (a + 1) (i + 1))
    (hw : ∀ i, 0 ≤ i → i < σ a 2 - 1 → σ' (a + 2) i = if i < r then σ (a + 2) i else σ (a + 2) (i + 1)) : AtOK σ' a ∧ AtF σ' a (ftS f x (-1)) := by
  have d1 : ∀ i, 0 ≤ i → i < σ a 2 → i ≠ r → σ (a + 1) i ≠ x := by
    intro i g1 g2 q q2
    rcases Int.lt_or_lt_of_ne q with q3 | q3
    · have := hA.2.2 i r g1 q3 hr.2; omega
    · have := hA.2.2 r i hr.1 q3 g2; omega
  refine ⟨⟨by omega, by have := hA.2.1; omega, fun i j h1 h3 h4 => ?_⟩, ⟨fun i h1 h3 => ?_, fun y hy => ?_⟩⟩
  · rw [h2] at h4
    rw [hn i h1 (by omega), hn j (by omega) h4]
    by_cases q1 : i < r <;> by_cases q2 : j < r
    · rw [if_pos q1, if_pos q2]; exact hA.2.2 i j h1 h3 (by omega)
    · rw [if_pos q1, if_neg q2]; exact hA.2.2 i (j + 1) h1 (by omega) (by omega)
    · omega
    · rw [if_neg q1, if_neg q2]; exact hA.2.2 (i + 1) (j + 1) (by omega) (by omega) (by omega)
  · rw [h2] at h3
    rw [hn i h1 h3, hw i h1 h3]
    unfold ftS
    by_cases q1 : i < r
    · rw [if_pos q1, if_pos q1, if_neg (d1 i h1 (by omega) (by omega))]; exact hF.1 i h1 (by omega)
    · rw [if_neg q1, if_neg q1, if_neg (d1 (i + 1) (by omega) (by omega) (by omega))]; exact hF.1 (i + 1) (by omega) (by omega)
  · unfold ftS at hy
    by_cases q : y = x
    · rw [if_pos q] at hy; omega
    · rw [if_neg q] at hy
      obtain ⟨i, g1, g2, g3⟩ := hF.2 y hy
      have q4 : i ≠ r := fun e => q (by rw [← g3, e, hx])
      by_cases q1 : i < r
      · exact ⟨i, g1, by omega, by rw [hn i g1 (by omega), if_pos q1, g3]⟩
      · exact ⟨i - 1, by omega, by omega, by rw [hn (i - 1) (by omega) (by omega), if_neg (by omega), show i - 1 + 1 = i by omega, g3]⟩
theorem up_i (σ : sv_G) (a : Nat) (k v i : Int) : up σ a k v a i = if i = k then v else σ a i := by
  by_cases q : i = k
  · rw [if_pos q, q, up_s]
  · rw [if_neg q, up_k q]
set_option maxRecDepth 100000 in
set_option maxHeartbeats 8000000 in
theorem kX0_put {E : sv_E} {σ : sv_G} {a : Nat} {x v : Int} {f : Int → Int} (ha : shp a = (0, 0)) (hx : -2147483648 ≤ x ∧ x ≤ 2147483647) (hv : 0 ≤ v ∧ v ≤ 199) (hA : AtOK σ a) (hF : AtF σ a f) (hs : f x = -1 → σ a 2 < 40) : CT E MX0_put 1 [(vR a), (vI x), (vI v)] σ (PV fun σ9 => AtOK σ9 a ∧ AtF σ9 a (ftS f x v) ∧ σ9 a 2 = (if f x = -1 then σ a 2 + 1 else σ a 2) ∧ ∀ b k, b ≠ a → b ≠ a + 1 → b ≠ a + 2 → σ9 b k = σ b k) := by
  refine CT.of (RX0, cX0_put, 5, none, [], 1, 0, 0) rfl moX0_put (Nat.le_of_ble_eq_true rfl) (ls0 := [some (vR a), some (vI x), some (vI v), none, none]) rfl ?_
  intro X Q C hR
  refine s_aload_n C dX0_put_0 rfl ?_
  refine s_iload_n C dX0_put_1 rfl ?_
  refine s_cV1i C dX0_put_2 lkX0_22 moX0_countBelow mvX0_countBelow (kX0_countBelow ha (by omega) (by assumption)) ha ⟨_, _, rfl⟩ (by decide) (Nat.le_of_ble_eq_true rfl) rfl (by decide) (kpI (fun r2 hp2 => ?_))
  have hm := AtCnt.mem hA hF hp2
  have hC := id hp2
  obtain ⟨q1, q2, q3, q4⟩ := hp2
  have hA0 := id hA
  obtain ⟨hA1, hA2, hA3⟩ := hA
  refine s_istore_n (ls2 := [some (vR a), some (vI x), some (vI v), some (vI r2), none]) C dX0_put_5 (by decide) rfl ?_
  refine s_iload_n C dX0_put_6 rfl ?_
  refine s_aload_n C dX0_put_7 rfl ?_
  refine s_getI (c := 0) (kz := 2) C fl_0_18 dX0_put_8 ha rfl rfl (fun g8 => ?_)
  have J32 : (f x = -1) → SW X E Q 0 0 32 [some (vR a), some (vI x), some (vI v), some (vI r2), none] [] σ := by
    intro  j32_0
    refine s_aload_n C dX0_put_32 rfl ?_
    refine s_getI (c := 0) (kz := 2) C fl_0_18 dX0_put_33 ha rfl rfl (fun g33 => ?_)
    refine s_bipush C dX0_put_36 (by decide) ?_
    refine s_icmp_lt (tgt := 42) C dX0_put_38 (by decide) (by omega) (by omega) (fun c38 => ?_) (fun c38 => ?_)
    · refine s_aload_n C dX0_put_42 rfl ?_
      refine s_getI (c := 0) (kz := 2) C fl_0_18 dX0_put_43 ha rfl rfl (fun g43 => ?_)
      refine s_topI (fun x4_46 ex4_46 => ?_)
      refine s_istore (ls2 := [some (vR a), some (vI x), some (vI v), some (vI r2), some (vI x4_46)]) C dX0_put_46 (by decide) rfl ?_
      have L48 : ∀ (n : Nat) (m : Int) (τ : sv_G), m.toNat < n → (r2 ≤ m ∧ m ≤ σ a 2) → (∀ b k, b ≠ a + 1 → b ≠ a + 2 → τ b k = σ b k) → (∀ i, 0 ≤ i → i < 40 → τ (a + 1) i = if i ≤ m then σ (a + 1) i else if i ≤ σ a 2 then σ (a + 1) (i - 1) else σ (a + 1) i) → (∀ i, 0 ≤ i → i < 40 → τ (a + 2) i = if i ≤ m then σ (a + 2) i else if i ≤ σ a 2 then σ (a + 2) (i - 1) else σ (a + 2) i) → SW X E Q 0 0 48 [some (vR a), some (vI x), some (vI v), some (vI r2), some (vI m)] [] τ := by
        intro n
        induction n with
        | zero => intro m τ hm; exact absurd hm (Nat.not_lt_zero _)
        | succ n ih48 =>
          intro m τ hm48 i48_0 i48_1 i48_2 i48_3
          have hz : τ a 2 = σ a 2 := i48_1 a 2 (by omega) (by omega)
          refine s_iload C dX0_put_48 rfl ?_
          refine s_iload_n C dX0_put_50 rfl ?_
          refine s_icmp_le (tgt := 92) C dX0_put_51 (by decide) (by omega) (by omega) (fun c51 => ?_) (fun c51 => ?_)
          · refine s_aload_n C dX0_put_92 rfl ?_
            refine s_getR (c := 0) C fl_0_9 dX0_put_93 ha rfl (rfc_0_0 ha) ?_
            refine s_iload_n C dX0_put_96 rfl ?_
            refine s_iload_n C dX0_put_97 rfl ?_
            refine s_iast C dX0_put_98 (shc_0_0 ha) (by omega) (by omega) ?_
            refine s_nameG (fun σ_98 hσ_98 => ?_)
            refine s_aload_n C dX0_put_99 rfl ?_
            refine s_getR (c := 0) C fl_0_15 dX0_put_100 ha rfl (rfc_0_1 ha) ?_
            refine s_iload_n C dX0_put_103 rfl ?_
            refine s_iload_n C dX0_put_104 rfl ?_
            refine s_iast C dX0_put_105 (shc_0_1 ha) (by omega) (by omega) ?_
            refine s_nameG (fun σ_105 hσ_105 => ?_)
            refine s_aload_n C dX0_put_106 rfl ?_
            refine s_dup C dX0_put_107 rfl ?_
            refine s_getI (c := 0) (kz := 2) C fl_0_18 dX0_put_108 ha rfl rfl (fun g108 => ?_)
            refine s_iconst C dX0_put_111 ?_
            refine s_iadd C dX0_put_112 ?_
            have hz3 : σ_105 a 2 = σ a 2 := by rw [hσ_105, up_a (by omega), hσ_98, up_a (by omega), hz]
            refine s_putI (c := 0) (kz := 2) C fl_0_18 dX0_put_113 ha rfl (fun _ _ h9 => by cases h9; rfl) (by omega) rfl ?_
            refine s_nameG (fun σ_113 hσ_113 => ?_)
            refine s_vret C hR dX0_put_116 rfl ⟨rfl, ?_⟩ (by decide)
            have hz2 : σ_113 a 2 = σ a 2 + 1 := by rw [hσ_113, up_s, hz3]
            have h := AtF.put (σ' := σ_113) (v := v) hA0 hF hC j32_0 hv (by omega) hz2 ?_ ?_
            · exact ⟨h.1, h.2, by rw [if_pos j32_0]; exact hz2, fun b k h1 h2 h3 => by rw [hσ_113, up_a h1, hσ_105, up_a h3, hσ_98, up_a h2]; exact i48_1 b k h2 h3⟩
            · intro i g1 g2
              rw [hσ_113, up_a (by omega), hσ_105, up_a (by omega), hσ_98, up_i, i48_2 i g1 (by omega)]
              by_cases q1 : i < r2
              · rw [if_neg (by omega), if_pos (by omega), if_pos q1]
              · rw [if_neg q1]
                by_cases q2 : i = r2
                · rw [if_pos q2, if_pos q2]
                · rw [if_neg q2, if_neg q2, if_neg (by omega), if_pos (by omega)]
            · intro i g1 g2
              rw [hσ_113, up_a (by omega), hσ_105, up_i, hσ_98, up_a (by omega), i48_3 i g1 (by omega)]
              by_cases q1 : i < r2
              · rw [if_neg (by omega), if_pos (by omega), if_pos q1]
              · rw [if_neg q1]
                by_cases q2 : i = r2
                · rw [if_pos q2, if_pos q2]
                · rw [if_neg q2, if_neg q2, if_neg (by omega), if_pos (by omega)]
          · refine s_aload_n C dX0_put_54 rfl ?_
            refine s_getR (c := 0) C fl_0_9 dX0_put_55 ha rfl (rfc_0_0 ha) ?_
            refine s_iload C dX0_put_58 rfl ?_
            refine s_aload_n C dX0_put_60 rfl ?_
            refine s_getR (c := 0) C fl_0_9 dX0_put_61 ha rfl (rfc_0_0 ha) ?_
            refine s_iload C dX0_put_64 rfl ?_
            refine s_iconst C dX0_put_66 ?_
            refine s_isub C dX0_put_67 ?_
            refine s_iald C dX0_put_68 (shc_0_0 ha) (by omega) (fun g68 => ?_)
            refine s_iast C dX0_put_69 (shc_0_0 ha) (by omega) (by omega) ?_
            refine s_nameG (fun σ_69 hσ_69 => ?_)
            refine s_aload_n C dX0_put_70 rfl ?_
            refine s_getR (c := 0) C fl_0_15 dX0_put_71 ha rfl (rfc_0_1 ha) ?_
            refine s_iload C dX0_put_74 rfl ?_
            refine s_aload_n C dX0_put_76 rfl ?_
            refine s_getR (c := 0) C fl_0_15 dX0_put_77 ha rfl (rfc_0_1 ha) ?_
            refine s_iload C dX0_put_80 rfl ?_
            refine s_iconst C dX0_put_82 ?_
            refine s_isub C dX0_put_83 ?_
            refine s_iald C dX0_put_84 (shc_0_1 ha) (by omega) (fun g84 => ?_)
            refine s_iast C dX0_put_85 (shc_0_1 ha) (by omega) (by omega) ?_
            refine s_nameG (fun σ_85 hσ_85 => ?_)
            obtain ⟨x4_86, ex4_86⟩ : ∃ y : Int, y = m + (-1) := ⟨_, rfl⟩
            refine s_iinc (z2 := x4_86) (ls2 := [some (vR a), some (vI x), some (vI v), some (vI r2), some (vI x4_86)]) C dX0_put_86 (by decide) rfl ex4_86 rfl ?_
            refine s_goto (tgt := 48) C dX0_put_89 (by decide) ?_
            refine ih48 x4_86 σ_85 (by omega) ?_ ?_ ?_ ?_
            · omega
            · intro b k h1 h2; rw [hσ_85, up_a h2, hσ_69, up_a h1]; exact i48_1 b k h1 h2
            · intro i h1 h2
              rw [hσ_85, up_a (by omega), hσ_69, up_i]
              have e1 := i48_2 i h1 h2
              have e2 := i48_2 (m - 1) (by omega) (by omega)
              rw [if_pos (by omega)] at e2
              by_cases q : i = m
              · rw [if_pos q, e2, if_neg (by omega), if_pos (by omega), q]
              · rw [if_neg q, e1]
                by_cases q2 : i ≤ m
                · rw [if_pos q2, if_pos (by omega)]
                · rw [if_neg q2, if_neg (by omega : ¬ i ≤ x4_86)]
            · intro i h1 h2
              rw [hσ_85, up_i, hσ_69, up_a (by omega)]
              have e1 := i48_3 i h1 h2
              have e2 := i48_3 (m - 1) (by omega) (by omega)
              rw [if_pos (by omega)] at e2
              by_cases q : i = m
              · rw [if_pos q, e2, if_neg (by omega), if_pos (by omega), q]
              · rw [if_neg q, up_a (by omega), e1]
                by_cases q2 : i ≤ m
                · rw [if_pos q2, if_pos (by omega)]
                · rw [if_neg q2, if_neg (by omega : ¬ i ≤ x4_86)]
      refine L48 _ x4_46 σ (Nat.lt_succ_self _) ?_ ?_ ?_ ?_
      · omega
      · intro b k _ _; rfl
      · intro i h1 h2; split; rfl; split; omega; rfl
      · intro i h1 h2; split; rfl; split; omega; rfl
    · refine s_vret C hR dX0_put_41 rfl ⟨rfl, ?_⟩ (by decide)
      omega
  refine s_icmp_ge (tgt := 32) C dX0_put_11 (by decide) (by omega) (by omega) (fun c11 => ?_) (fun c11 => ?_)
  · exact J32 (by omega)
  · refine s_aload_n C dX0_put_14 rfl ?_
    refine s_getR (c := 0) C fl_0_9 dX0_put_15 ha rfl (rfc_0_0 ha) ?_
    refine s_iload_n C dX0_put_18 rfl ?_
    refine s_iald C dX0_put_19 (shc_0_0 ha) (by omega) (fun g19 => ?_)
    refine s_iload_n C dX0_put_20 rfl ?_
    refine s_icmp_ne (tgt := 32) C dX0_put_21 (by decide) (by omega) (by omega) (fun c21 => ?_) (fun c21 => ?_)
    · exact J32 (by omega)
    · refine s_aload_n C dX0_put_24 rfl ?_
      refine s_getR (c := 0) C fl_0_15 dX0_put_25 ha rfl (rfc_0_1 ha) ?_
      refine s_iload_n C dX0_put_28 rfl ?_
      refine s_iload_n C dX0_put_29 rfl ?_
      refine s_iast C dX0_put_30 (shc_0_1 ha) (by omega) (by omega) ?_
      refine s_nameG (fun σ_30 hσ_30 => ?_)
      refine s_vret C hR dX0_put_31 rfl ⟨rfl, ?_⟩ (by decide)
      have h := AtF.set (σ' := σ_30) (v := v) hA0 hF (r := r2) (by omega) (x := x) (by omega) hv (by rw [hσ_30, up_a (by omega)]) (fun i => by rw [hσ_30, up_a (by omega)]) (fun i => by rw [hσ_30, up_i])
      exact ⟨h.1, h.2, by rw [if_neg (by omega), hσ_30, up_a (by omega)], fun b k h1 h2 h3 => by rw [hσ_30, up_a h3]⟩
theorem ftS_none {f : Int → Int} {x : Int} (h : f x = -1) : ftS f x (-1) = f := by
  funext y
  unfold ftS
  by_cases q : y = x
  · rw [if_pos q, q, h]
  · rw [if_neg q]
