/-- a stretch of a row of ints -/
def Sg (σ : sv_G) (a : Nat) (o : Int) (ws : List Int) : Prop := ∀ i : Nat, i < ws.length → σ a (o + i) = ws.getD i 0
/-- what a Row holds -/
def Rw (σ : sv_G) (r : Nat) (ws : List Int) : Prop := σ r 1 = ws.length ∧ ws.length ≤ 20 ∧ Sg σ (r + 1) 0 ws
theorem Sg.at {σ : sv_G} {a : Nat} {ws : List Int} (h : Sg σ a 0 ws) {i : Int} (h0 : 0 ≤ i) (h1 : i < ws.length) : σ a i = ws.getD i.toNat 0 := by
  have h2 := h i.toNat (by omega)
  rw [show (0 : Int) + (i.toNat : Int) = i by omega] at h2
  exact h2
theorem Sg.of {σ : sv_G} {a : Nat} {ws : List Int} (h : ∀ i : Int, 0 ≤ i → i < ws.length → σ a i = ws.getD i.toNat 0) : Sg σ a 0 ws := by
  intro i hi
  have := h i (by omega) (by omega)
  rw [show (0 : Int) + (i : Int) = i by omega, this]
  simp
theorem Rw.mv {σ σ' : sv_G} {r : Nat} {ws : List Int} (h : Rw σ r ws) (h1 : σ' r 1 = σ r 1) (h2 : ∀ k, σ' (r + 1) k = σ (r + 1) k) : Rw σ' r ws := ⟨by rw [h1]; exact h.1, h.2.1, fun i hi => by rw [h2]; exact h.2.2 i hi⟩
theorem Rw.uniq {σ : sv_G} {r : Nat} {ws vs : List Int} (h : Rw σ r ws) (g : Rw σ r vs) : ws = vs := by
  have e : ws.length = vs.length := by have := h.1; have := g.1; omega
  apply List.ext_getElem e
  intro i h1 h2
  have a := h.2.2 i h1
  have b := g.2.2 i h2
  rw [a] at b
  simpa [List.getD_eq_getElem?_getD, h1, h2] using b
theorem gD_app {ws : List Int} {w : Int} {i : Nat} : (ws ++ [w]).getD i 0 = if i < ws.length then ws.getD i 0 else if i = ws.length then w else 0 := by
  simp only [List.getD_eq_getElem?_getD]
  by_cases q : i < ws.length
  · rw [if_pos q, List.getElem?_append_left q]
  · rw [if_neg q, List.getElem?_append_right (by omega)]
    by_cases q2 : i = ws.length
    · rw [if_pos q2, q2, Nat.sub_self]; rfl
    · rw [if_neg q2, List.getElem?_eq_none (by simp; omega)]; rfl
def meltL (l r b : Int) : List Int → List Int
  | [] => []
  | [x] => [x]
  | x :: y :: t => if x = l ∧ y = r then b :: meltL l r b t else x :: meltL l r b (y :: t)
theorem gD_drop {ws : List Int} {i j : Nat} : (ws.drop i).getD j 0 = ws.getD (i + j) 0 := by simp [List.getD_eq_getElem?_getD]
theorem drop_c {ws : List Int} {i : Nat} (h : i < ws.length) : ws.drop i = ws.getD i 0 :: ws.drop (i + 1) := by
  rw [List.drop_eq_getElem_cons h]
  simp [List.getD_eq_getElem?_getD, h]
def mkF (ws : List Int) (z : Int) : Int := ws.foldl (fun (m x : Int) => m * 211 + x) z
def markF (ws : List Int) : Int := mkF ws ws.length
theorem foldl_take {ws : List Int} {i : Nat} {z : Int} (h : i < ws.length) : mkF (ws.take (i + 1)) z = mkF (ws.take i) z * 211 + ws.getD i 0 := by
  unfold mkF
  rw [List.take_add_one, List.foldl_append, List.getElem?_eq_getElem h]
  simp [List.getD_eq_getElem?_getD, h]
set_option maxRecDepth 100000 in
set_option maxHeartbeats 8000000 in
theorem kX6_clear {E : sv_E} {σ : sv_G} {a : Nat} (ha : shp a = (6, 0)) : CT E MX6_clear 0 [(vR a)] σ (PV fun σ9 => Rw σ9 a [] ∧ ∀ b k, b ≠ a → σ9 b k = σ b k) := by
  refine CT.of (RX6, cX6_clear, 1, none, [], 0, 0, 0) rfl moX6_clear (Nat.le_of_ble_eq_true rfl) (ls0 := [some (vR a)]) rfl ?_
  intro X Q C hR
  refine s_aload_n C dX6_clear_0 rfl ?_
  refine s_iconst C dX6_clear_1 ?_
  refine s_putI (c := 6) (kz := 1) C fl_6_15 dX6_clear_2 ha rfl (fun _ _ h9 => by cases h9; rfl) (by omega) rfl ?_
  refine s_nameG (fun σ_2 hσ_2 => ?_)
  refine s_vret C hR dX6_clear_5 rfl ⟨rfl, ?_⟩ (by decide)
  rw [hσ_2]
  exact ⟨⟨by rw [up_s]; rfl, by simp, fun i hi => absurd hi (by simp)⟩, fun b k h => up_a h⟩
set_option maxRecDepth 100000 in
set_option maxHeartbeats 8000000 in
theorem kX6_add {E : sv_E} {σ : sv_G} {a : Nat} {x : Int} (ha : shp a = (6, 0)) (hx : -2147483648 ≤ x ∧ x ≤ 2147483647) {ws : List Int} (hw : Rw σ a ws) : CT E MX6_add 0 [(vR a), (vI x)] σ (PI fun r σ9 => (r = 1 ∧ ws.length < 20 ∧ Rw σ9 a (ws ++ [x]) ∧ ∀ b k, b ≠ a → b ≠ a + 1 → σ9 b k = σ b k) ∨ (r = 0 ∧ ws.length = 20 ∧ σ9 = σ)) := by
  refine CT.of (RX6, cX6_add, 2, (some .boolean), [], 0, 0, 0) rfl moX6_add (Nat.le_of_ble_eq_true rfl) (ls0 := [some (vR a), some (vI x)]) rfl ?_
  intro X Q C hR
  have hw0 := id hw
  obtain ⟨hw1, hw2, hw3⟩ := hw
  refine s_aload_n C dX6_add_0 rfl ?_
  refine s_getI (c := 6) (kz := 1) C fl_6_15 dX6_add_1 ha rfl rfl (fun g1 => ?_)
  refine s_bipush C dX6_add_4 (by decide) ?_
  refine s_icmp_lt (tgt := 11) C dX6_add_6 (by decide) (by omega) (by omega) (fun c6 => ?_) (fun c6 => ?_)
  · refine s_aload_n C dX6_add_11 rfl ?_
    refine s_getR (c := 6) C fl_6_9 dX6_add_12 ha rfl (rfc_6_0 ha) ?_
    refine s_aload_n C dX6_add_15 rfl ?_
    refine s_getI (c := 6) (kz := 1) C fl_6_15 dX6_add_16 ha rfl rfl (fun g16 => ?_)
    refine s_iload_n C dX6_add_19 rfl ?_
    refine s_iast C dX6_add_20 (shc_6_0 ha) (by omega) (by omega) ?_
    refine s_nameG (fun σ_20 hσ_20 => ?_)
    refine s_aload_n C dX6_add_21 rfl ?_
    refine s_dup C dX6_add_22 rfl ?_
    refine s_getI (c := 6) (kz := 1) C fl_6_15 dX6_add_23 ha rfl rfl (fun g23 => ?_)
    refine s_iconst C dX6_add_26 ?_
    refine s_iadd C dX6_add_27 ?_
    have hz : σ_20 a 1 = σ a 1 := by rw [hσ_20, up_a (by omega)]
    refine s_putI (c := 6) (kz := 1) C fl_6_15 dX6_add_28 ha rfl (fun _ _ h9 => by cases h9; rfl) (by omega) rfl ?_
    refine s_nameG (fun σ_28 hσ_28 => ?_)
    refine s_iconst C dX6_add_31 ?_
    refine s_zret C hR dX6_add_32 rfl (by omega) ⟨_, rfl, ?_⟩ (by decide)
    refine Or.inl ⟨rfl, by omega, ⟨?_, by simp; omega, Sg.of fun i h1 h2 => ?_⟩, fun b k h1 h2 => by rw [hσ_28, up_a h1, hσ_20, up_a h2]⟩
    · rw [hσ_28, up_s, hz, hw1]; simp
    · rw [List.length_append, List.length_singleton] at h2
      rw [hσ_28, up_a (by omega), hσ_20, up_i, gD_app]
      by_cases q : i = σ a 1
      · rw [if_pos q, if_neg (by omega), if_pos (by omega)]
      · rw [if_neg q, if_pos (by omega)]; exact hw3.at h1 (by omega)
  · refine s_iconst C dX6_add_9 ?_
    refine s_zret C hR dX6_add_10 rfl (by omega) ⟨_, rfl, ?_⟩ (by decide)
    exact Or.inr ⟨rfl, by omega, rfl⟩
set_option maxRecDepth 100000 in
set_option maxHeartbeats 8000000 in
theorem kX6_wordAt {E : sv_E} {σ : sv_G} {a : Nat} {x : Int} (ha : shp a = (6, 0)) (hx : -2147483648 ≤ x ∧ x ≤ 2147483647) {ws : List Int} (hw : Rw σ a ws) : CT E MX6_wordAt 0 [(vR a), (vI x)] σ (PI fun r σ9 => σ9 = σ ∧ (-2147483648 ≤ r ∧ r ≤ 2147483647) ∧ r = if 0 ≤ x ∧ x < ws.length then ws.getD x.toNat 0 else -1) := by
  refine CT.of (RX6, cX6_wordAt, 2, (some .int), [], 0, 0, 0) rfl moX6_wordAt (Nat.le_of_ble_eq_true rfl) (ls0 := [some (vR a), some (vI x)]) rfl ?_
  intro X Q C hR
  obtain ⟨hw1, hw2, hw3⟩ := hw
  refine s_iload_n C dX6_wordAt_0 rfl ?_
  refine s_if_lt (tgt := 21) C dX6_wordAt_1 (by decide) (by omega) (fun c1 => ?_) (fun c1 => ?_)
  · refine s_iconst C dX6_wordAt_21 ?_
    refine s_iret C hR dX6_wordAt_22 rfl ⟨_, rfl, ?_⟩ (by decide)
    refine ⟨rfl, by omega, ?_⟩
    first
      | (rw [if_neg (by omega)]; done)
      | (rw [if_pos (by omega)]; exact hw3.at (by omega) (by omega))
  · refine s_iload_n C dX6_wordAt_4 rfl ?_
    refine s_aload_n C dX6_wordAt_5 rfl ?_
    refine s_getI (c := 6) (kz := 1) C fl_6_15 dX6_wordAt_6 ha rfl rfl (fun g6 => ?_)
    refine s_icmp_ge (tgt := 21) C dX6_wordAt_9 (by decide) (by omega) (by omega) (fun c9 => ?_) (fun c9 => ?_)
    · refine s_iconst C dX6_wordAt_21 ?_
      refine s_iret C hR dX6_wordAt_22 rfl ⟨_, rfl, ?_⟩ (by decide)
      refine ⟨rfl, by omega, ?_⟩
      first
        | (rw [if_neg (by omega)]; done)
        | (rw [if_pos (by omega)]; exact hw3.at (by omega) (by omega))
    · refine s_aload_n C dX6_wordAt_12 rfl ?_
      refine s_getR (c := 6) C fl_6_9 dX6_wordAt_13 ha rfl (rfc_6_0 ha) ?_
      refine s_iload_n C dX6_wordAt_16 rfl ?_
      refine s_iald C dX6_wordAt_17 (shc_6_0 ha) (by omega) (fun g17 => ?_)
      refine s_goto (tgt := 22) C dX6_wordAt_18 (by decide) ?_
      refine s_iret C hR dX6_wordAt_22 rfl ⟨_, rfl, ?_⟩ (by decide)
      refine ⟨rfl, by omega, ?_⟩
      first
        | (rw [if_neg (by omega)]; done)
        | (rw [if_pos (by omega)]; exact hw3.at (by omega) (by omega))
set_option maxRecDepth 100000 in
set_option maxHeartbeats 8000000 in
theorem kX6_last {E : sv_E} {σ : sv_G} {a : Nat} (ha : shp a = (6, 0)) {ws : List Int} (hw : Rw σ a ws) : CT E MX6_last 1 [(vR a)] σ (PI fun r σ9 => σ9 = σ ∧ (-2147483648 ≤ r ∧ r ≤ 2147483647) ∧ r = if ws.length = 0 then -1 else ws.getD (ws.length - 1) 0) := by
  refine CT.of (RX6, cX6_last, 1, (some .int), [], 1, 0, 0) rfl moX6_last (Nat.le_of_ble_eq_true rfl) (ls0 := [some (vR a)]) rfl ?_
  intro X Q C hR
  have hw0 := id hw
  obtain ⟨hw1, hw2, hw3⟩ := hw
  refine s_aload_n C dX6_last_0 rfl ?_
  refine s_aload_n C dX6_last_1 rfl ?_
  refine s_getI (c := 6) (kz := 1) C fl_6_15 dX6_last_2 ha rfl rfl (fun g2 => ?_)
  refine s_iconst C dX6_last_5 ?_
  refine s_isub C dX6_last_6 ?_
  refine s_cV1i C dX6_last_7 lkX6_19 moX6_wordAt mvX6_wordAt (kX6_wordAt ha (by omega) hw0) ha ⟨_, _, rfl⟩ (by decide) (Nat.le_of_ble_eq_true rfl) rfl (by decide) (kpI (fun r7 hp7 => ?_))
  refine s_iret C hR dX6_last_10 rfl ⟨_, rfl, ?_⟩ (by decide)
  refine ⟨rfl, hp7.1, ?_⟩
  rw [hp7.2]
  by_cases q : ws.length = 0
  · rw [if_pos q, if_neg (by omega)]
  · rw [if_neg q, if_pos (by omega), show (σ a 1 - 1).toNat = ws.length - 1 by omega]
set_option maxRecDepth 100000 in
set_option maxHeartbeats 8000000 in
theorem kX6_setLast {E : sv_E} {σ : sv_G} {a : Nat} {x : Int} (ha : shp a = (6, 0)) (hx : -2147483648 ≤ x ∧ x ≤ 2147483647) {ws : List Int} (hw : Rw σ a ws) (hne : ws ≠ []) : CT E MX6_setLast 0 [(vR a), (vI x)] σ (PV fun σ9 => Rw σ9 a (ws.dropLast ++ [x]) ∧ ∀ b k, b ≠ a + 1 → σ9 b k = σ b k) := by
  refine CT.of (RX6, cX6_setLast, 2, none, [], 0, 0, 0) rfl moX6_setLast (Nat.le_of_ble_eq_true rfl) (ls0 := [some (vR a), some (vI x)]) rfl ?_
  intro X Q C hR
  obtain ⟨hw1, hw2, hw3⟩ := hw
  have hl : 0 < ws.length := by cases ws with
    | nil => exact absurd rfl hne
    | cons x t => simp
  refine s_aload_n C dX6_setLast_0 rfl ?_
  refine s_getI (c := 6) (kz := 1) C fl_6_15 dX6_setLast_1 ha rfl rfl (fun g1 => ?_)
  refine s_if_le (tgt := 19) C dX6_setLast_4 (by decide) (by omega) (fun c4 => ?_) (fun c4 => ?_)
  · exfalso; omega -- done
  · refine s_aload_n C dX6_setLast_7 rfl ?_
    refine s_getR (c := 6) C fl_6_9 dX6_setLast_8 ha rfl (rfc_6_0 ha) ?_
    refine s_aload_n C dX6_setLast_11 rfl ?_
    refine s_getI (c := 6) (kz := 1) C fl_6_15 dX6_setLast_12 ha rfl rfl (fun g12 => ?_)
    refine s_iconst C dX6_setLast_15 ?_
    refine s_isub C dX6_setLast_16 ?_
    refine s_iload_n C dX6_setLast_17 rfl ?_
    refine s_iast C dX6_setLast_18 (shc_6_0 ha) (by omega) (by omega) ?_
    refine s_nameG (fun σ_18 hσ_18 => ?_)
    refine s_vret C hR dX6_setLast_19 rfl ⟨rfl, ?_⟩ (by decide)
    rw [hσ_18]
    refine ⟨⟨by rw [up_a (by omega), hw1]; simp; omega, by simp; omega, Sg.of fun i h1 h2 => ?_⟩, fun b k h => up_a h⟩
    rw [List.length_append, List.length_dropLast, List.length_singleton] at h2
    rw [up_i, gD_app, List.length_dropLast]
    by_cases q : i = σ a 1 - 1
    · rw [if_pos q, if_neg (by omega), if_pos (by omega)]
    · rw [if_neg q, if_pos (by omega), hw3.at h1 (by omega)]
      simp only [List.getD_eq_getElem?_getD, List.getElem?_dropLast]
      rw [if_pos (by omega)]
set_option maxRecDepth 100000 in
set_option maxHeartbeats 8000000 in
theorem kX6_has {E : sv_E} {σ : sv_G} {a : Nat} {x : Int} (ha : shp a = (6, 0)) (hx : -2147483648 ≤ x ∧ x ≤ 2147483647) {ws : List Int} (hw : Rw σ a ws) : CT E MX6_has 0 [(vR a), (vI x)] σ (PI fun r σ9 => σ9 = σ ∧ ((r = 1 ∧ x ∈ ws) ∨ (r = 0 ∧ x ∉ ws))) := by
  refine CT.of (RX6, cX6_has, 3, (some .boolean), [], 0, 0, 0) rfl moX6_has (Nat.le_of_ble_eq_true rfl) (ls0 := [some (vR a), some (vI x), none]) rfl ?_
  intro X Q C hR
  obtain ⟨hw1, hw2, hw3⟩ := hw
  refine s_iconst C dX6_has_0 ?_
  refine s_istore_n (ls2 := [some (vR a), some (vI x), some (vI 0)]) C dX6_has_1 (by decide) rfl ?_
  have L2 : ∀ (n : Nat) (m : Int), (20 - m).toNat < n → (0 ≤ m ∧ m ≤ σ a 1) → (∀ i : Int, 0 ≤ i → i < m → ws.getD i.toNat 0 ≠ x) → SW X E Q 0 0 2 [some (vR a), some (vI x), some (vI m)] [] σ := by
    intro n
    induction n with
    | zero => intro m hm; exact absurd hm (Nat.not_lt_zero _)
    | succ n ih2 =>
      intro m hm2 i2_0 i2_1
      refine s_iload_n C dX6_has_2 rfl ?_
      refine s_aload_n C dX6_has_3 rfl ?_
      refine s_getI (c := 6) (kz := 1) C fl_6_15 dX6_has_4 ha rfl rfl (fun g4 => ?_)
      refine s_icmp_ge (tgt := 28) C dX6_has_7 (by decide) (by omega) (by omega) (fun c7 => ?_) (fun c7 => ?_)
      · refine s_iconst C dX6_has_28 ?_
        refine s_zret C hR dX6_has_29 rfl (by omega) ⟨_, rfl, ?_⟩ (by decide)
        refine ⟨rfl, Or.inr ⟨rfl, fun hm => ?_⟩⟩
        obtain ⟨i, h1, h2⟩ := List.getElem_of_mem hm
        refine i2_1 i (by omega) (by omega) ?_
        rw [List.getD_eq_getElem?_getD, Int.toNat_natCast, List.getElem?_eq_getElem h1]
        exact h2
      · refine s_aload_n C dX6_has_10 rfl ?_
        refine s_getR (c := 6) C fl_6_9 dX6_has_11 ha rfl (rfc_6_0 ha) ?_
        refine s_iload_n C dX6_has_14 rfl ?_
        refine s_iald C dX6_has_15 (shc_6_0 ha) (by omega) (fun g15 => ?_)
        refine s_iload_n C dX6_has_16 rfl ?_
        refine s_icmp_ne (tgt := 22) C dX6_has_17 (by decide) (by omega) (by omega) (fun c17 => ?_) (fun c17 => ?_)
        · obtain ⟨x2_22, ex2_22⟩ : ∃ y : Int, y = m + 1 := ⟨_, rfl⟩
          refine s_iinc (z2 := x2_22) (ls2 := [some (vR a), some (vI x), some (vI x2_22)]) C dX6_has_22 (by decide) rfl ex2_22 rfl ?_
          refine s_goto (tgt := 2) C dX6_has_25 (by decide) ?_
          refine ih2 x2_22 (by omega) (by first | assumption | omega) ?_
          · intro i h1 h2
            rcases Int.lt_or_le i m with q | q
            · exact i2_1 i h1 q
            · rw [show i = m by omega, ← hw3.at (by omega) (by omega)]; omega
        · refine s_iconst C dX6_has_20 ?_
          refine s_zret C hR dX6_has_21 rfl (by omega) ⟨_, rfl, ?_⟩ (by decide)
          refine ⟨rfl, Or.inl ⟨rfl, ?_⟩⟩
          have h9 := hw3.at (i := m) (by omega) (by omega)
          rw [show x = ws.getD m.toNat 0 by omega, List.getD_eq_getElem?_getD, List.getElem?_eq_getElem (by omega)]
          exact List.getElem_mem _
  refine L2 _ 0 (Nat.lt_succ_self _) (by first | assumption | omega) ?_
  · intro i h1 h2; omega
set_option maxRecDepth 100000 in
set_option maxHeartbeats 8000000 in
theorem kX6_copy {E : sv_E} {σ : sv_G} {a o : Nat} (ha : shp a = (6, 0)) (ho : shp o = (6, 0)) (hao : a ≠ o) {ws : List Int} (hw : Rw σ o ws) : CT E MX6_copy 0 [(vR a), (vR o)] σ (PV fun σ9 => Rw σ9 a ws ∧ ∀ b k, b ≠ a → b ≠ a + 1 → σ9 b k = σ b k) := by
  refine CT.of (RX6, cX6_copy, 3, none, [], 0, 0, 0) rfl moX6_copy (Nat.le_of_ble_eq_true rfl) (ls0 := [some (vR a), some (vR o), none]) rfl ?_
  intro X Q C hR
  have d1 := id_6 ha
  have d2 := id_6 ho
  obtain ⟨hw1, hw2, hw3⟩ := hw
  refine s_iconst C dX6_copy_0 ?_
  refine s_istore_n (ls2 := [some (vR a), some (vR o), some (vI 0)]) C dX6_copy_1 (by decide) rfl ?_
  have L2 : ∀ (n : Nat) (m : Int) (τ : sv_G), (20 - m).toNat < n → (0 ≤ m ∧ m ≤ σ o 1) → (∀ b k, b ≠ a + 1 → τ b k = σ b k) → (∀ i : Int, 0 ≤ i → i < m → τ (a + 1) i = ws.getD i.toNat 0) → SW X E Q 0 0 2 [some (vR a), some (vR o), some (vI m)] [] τ := by
    intro n
    induction n with
    | zero => intro m τ hm; exact absurd hm (Nat.not_lt_zero _)
    | succ n ih2 =>
      intro m τ hm2 i2_0 i2_1 i2_2
      have hz : τ o 1 = σ o 1 := i2_1 o 1 (by omega)
      refine s_iload_n C dX6_copy_2 rfl ?_
      refine s_aload_n C dX6_copy_3 rfl ?_
      refine s_getI (c := 6) (kz := 1) C fl_6_15 dX6_copy_4 ho rfl rfl (fun g4 => ?_)
      refine s_icmp_ge (tgt := 28) C dX6_copy_7 (by decide) (by omega) (by omega) (fun c7 => ?_) (fun c7 => ?_)
      · refine s_aload_n C dX6_copy_28 rfl ?_
        refine s_aload_n C dX6_copy_29 rfl ?_
        refine s_getI (c := 6) (kz := 1) C fl_6_15 dX6_copy_30 ho rfl rfl (fun g30 => ?_)
        refine s_putI (c := 6) (kz := 1) C fl_6_15 dX6_copy_33 ha rfl (fun _ _ h9 => by cases h9; rfl) (by omega) rfl ?_
        refine s_nameG (fun σ_33 hσ_33 => ?_)
        refine s_vret C hR dX6_copy_36 rfl ⟨rfl, ?_⟩ (by decide)
        rw [hσ_33]
        refine ⟨⟨by rw [up_s, hz, hw1], hw2, Sg.of fun i h1 h2 => ?_⟩, fun b k h1 h2 => by rw [up_a h1]; exact i2_1 b k h2⟩
        rw [up_a (by omega)]
        exact i2_2 i h1 (by omega)
      · refine s_aload_n C dX6_copy_10 rfl ?_
        refine s_getR (c := 6) C fl_6_9 dX6_copy_11 ha rfl (rfc_6_0 ha) ?_
        refine s_iload_n C dX6_copy_14 rfl ?_
        refine s_aload_n C dX6_copy_15 rfl ?_
        refine s_getR (c := 6) C fl_6_9 dX6_copy_16 ho rfl (rfc_6_0 ho) ?_
        refine s_iload_n C dX6_copy_19 rfl ?_
        refine s_iald C dX6_copy_20 (shc_6_0 ho) (by omega) (fun g20 => ?_)
        refine s_iast C dX6_copy_21 (shc_6_0 ha) (by omega) (by omega) ?_
        refine s_nameG (fun σ_21 hσ_21 => ?_)
        obtain ⟨x2_22, ex2_22⟩ : ∃ y : Int, y = m + 1 := ⟨_, rfl⟩
        refine s_iinc (z2 := x2_22) (ls2 := [some (vR a), some (vR o), some (vI x2_22)]) C dX6_copy_22 (by decide) rfl ex2_22 rfl ?_
        refine s_goto (tgt := 2) C dX6_copy_25 (by decide) ?_
        refine ih2 x2_22 σ_21 (by omega) (by first | assumption | omega) ?_ ?_
        · intro b k h; rw [hσ_21, up_a h]; exact i2_1 b k h
        · intro i h1 h2
          rw [hσ_21, up_i]
          by_cases q : i = m
          · rw [if_pos q, i2_1 _ _ (by omega), q]; exact hw3.at (by omega) (by omega)
          · rw [if_neg q]; exact i2_2 i h1 (by omega)
  refine L2 _ 0 σ (Nat.lt_succ_self _) (by first | assumption | omega) ?_ ?_
  · intro b k _; rfl
  · intro i h1 h2; omega
set_option maxRecDepth 100000 in
set_option maxHeartbeats 8000000 in
theorem kX6_same {E : sv_E} {σ : sv_G} {a o : Nat} (ha : shp a = (6, 0)) (ho : shp o = (6, 0)) {ws vs : List Int} (hw : Rw σ a ws) (hv : Rw σ o vs) : CT E MX6_same 0 [(vR a), (vR o)] σ (PI fun r σ9 => σ9 = σ ∧ ((r = 1 ∧ ws = vs) ∨ (r = 0 ∧ ws ≠ vs))) := by
  refine CT.of (RX6, cX6_same, 3, (some .boolean), [], 0, 0, 0) rfl moX6_same (Nat.le_of_ble_eq_true rfl) (ls0 := [some (vR a), some (vR o), none]) rfl ?_
  intro X Q C hR
  obtain ⟨hw1, hw2, hw3⟩ := hw
  obtain ⟨hv1, hv2, hv3⟩ := hv
  refine s_aload_n C dX6_same_0 rfl ?_
  refine s_getI (c := 6) (kz := 1) C fl_6_15 dX6_same_1 ha rfl rfl (fun g1 => ?_)
  refine s_aload_n C dX6_same_4 rfl ?_
  refine s_getI (c := 6) (kz := 1) C fl_6_15 dX6_same_5 ho rfl rfl (fun g5 => ?_)
  refine s_icmp_eq (tgt := 13) C dX6_same_8 (by decide) (by omega) (by omega) (fun c8 => ?_) (fun c8 => ?_)
  · refine s_iconst C dX6_same_13 ?_
    refine s_istore_n (ls2 := [some (vR a), some (vR o), some (vI 0)]) C dX6_same_14 (by decide) rfl ?_
    have L15 : ∀ (n : Nat) (m : Int), (20 - m).toNat < n → (0 ≤ m ∧ m ≤ σ a 1) → (∀ i : Int, 0 ≤ i → i < m → ws.getD i.toNat 0 = vs.getD i.toNat 0) → SW X E Q 0 0 15 [some (vR a), some (vR o), some (vI m)] [] σ := by
      intro n
      induction n with
      | zero => intro m hm; exact absurd hm (Nat.not_lt_zero _)
      | succ n ih15 =>
        intro m hm15 i15_0 i15_1
        refine s_iload_n C dX6_same_15 rfl ?_
        refine s_aload_n C dX6_same_16 rfl ?_
        refine s_getI (c := 6) (kz := 1) C fl_6_15 dX6_same_17 ha rfl rfl (fun g17 => ?_)
        refine s_icmp_ge (tgt := 46) C dX6_same_20 (by decide) (by omega) (by omega) (fun c20 => ?_) (fun c20 => ?_)
        · refine s_iconst C dX6_same_46 ?_
          refine s_zret C hR dX6_same_47 rfl (by omega) ⟨_, rfl, ?_⟩ (by decide)
          refine ⟨rfl, Or.inl ⟨rfl, ?_⟩⟩
          apply List.ext_getElem (by omega)
          intro i h1 h2
          have e := i15_1 i (by omega) (by omega)
          simpa [List.getD_eq_getElem?_getD, h1, h2] using e
        · refine s_aload_n C dX6_same_23 rfl ?_
          refine s_getR (c := 6) C fl_6_9 dX6_same_24 ha rfl (rfc_6_0 ha) ?_
          refine s_iload_n C dX6_same_27 rfl ?_
          refine s_iald C dX6_same_28 (shc_6_0 ha) (by omega) (fun g28 => ?_)
          refine s_aload_n C dX6_same_29 rfl ?_
          refine s_getR (c := 6) C fl_6_9 dX6_same_30 ho rfl (rfc_6_0 ho) ?_
          refine s_iload_n C dX6_same_33 rfl ?_
          refine s_iald C dX6_same_34 (shc_6_0 ho) (by omega) (fun g34 => ?_)
          refine s_icmp_eq (tgt := 40) C dX6_same_35 (by decide) (by omega) (by omega) (fun c35 => ?_) (fun c35 => ?_)
          · obtain ⟨x2_40, ex2_40⟩ : ∃ y : Int, y = m + 1 := ⟨_, rfl⟩
            refine s_iinc (z2 := x2_40) (ls2 := [some (vR a), some (vR o), some (vI x2_40)]) C dX6_same_40 (by decide) rfl ex2_40 rfl ?_
            refine s_goto (tgt := 15) C dX6_same_43 (by decide) ?_
            refine ih15 x2_40 (by omega) (by first | assumption | omega) ?_
            · intro i h1 h2
              rcases Int.lt_or_le i m with q | q
              · exact i15_1 i h1 q
              · rw [show i = m by omega, ← hw3.at (by omega) (by omega), ← hv3.at (by omega) (by omega)]; omega
          · refine s_iconst C dX6_same_38 ?_
            refine s_zret C hR dX6_same_39 rfl (by omega) ⟨_, rfl, ?_⟩ (by decide)
            refine ⟨rfl, Or.inr ⟨rfl, fun e => ?_⟩⟩
            have e1 := hw3.at (i := m) (by omega) (by omega)
            have e2 := hv3.at (i := m) (by omega) (by omega)
            rw [e] at e1
            omega
    refine L15 _ 0 (Nat.lt_succ_self _) (by first | assumption | omega) ?_
    · intro i h1 h2; omega
  · refine s_iconst C dX6_same_11 ?_
    refine s_zret C hR dX6_same_12 rfl (by omega) ⟨_, rfl, ?_⟩ (by decide)
    exact ⟨rfl, Or.inr ⟨rfl, fun e => by rw [e] at hw1; omega⟩⟩
/-- of as many words, and the same ones where they were heard -/
def agreeL (ws vs : List Int) : Prop := ws.length = vs.length ∧ ∀ i, i < ws.length → vs.getD i 0 = -1 ∨ vs.getD i 0 = ws.getD i 0
set_option maxRecDepth 100000 in
set_option maxHeartbeats 8000000 in
theorem kX6_agrees {E : sv_E} {σ : sv_G} {a o : Nat} (ha : shp a = (6, 0)) (ho : shp o = (6, 0)) {ws vs : List Int} (hw : Rw σ a ws) (hv : Rw σ o vs) : CT E MX6_agrees 0 [(vR a), (vR o)] σ (PI fun r σ9 => σ9 = σ ∧ ((r = 1 ∧ agreeL ws vs) ∨ (r = 0 ∧ ¬ agreeL ws vs))) := by
  refine CT.of (RX6, cX6_agrees, 3, (some .boolean), [], 0, 0, 0) rfl moX6_agrees (Nat.le_of_ble_eq_true rfl) (ls0 := [some (vR a), some (vR o), none]) rfl ?_
  intro X Q C hR
  obtain ⟨hw1, hw2, hw3⟩ := hw
  obtain ⟨hv1, hv2, hv3⟩ := hv
  refine s_aload_n C dX6_agrees_0 rfl ?_
  refine s_getI (c := 6) (kz := 1) C fl_6_15 dX6_agrees_1 ha rfl rfl (fun g1 => ?_)
  refine s_aload_n C dX6_agrees_4 rfl ?_
  refine s_getI (c := 6) (kz := 1) C fl_6_15 dX6_agrees_5 ho rfl rfl (fun g5 => ?_)
  refine s_icmp_eq (tgt := 13) C dX6_agrees_8 (by decide) (by omega) (by omega) (fun c8 => ?_) (fun c8 => ?_)
  · refine s_iconst C dX6_agrees_13 ?_
    refine s_istore_n (ls2 := [some (vR a), some (vR o), some (vI 0)]) C dX6_agrees_14 (by decide) rfl ?_
    have L15 : ∀ (n : Nat) (m : Int), (20 - m).toNat < n → (0 ≤ m ∧ m ≤ σ a 1) → (∀ i : Int, 0 ≤ i → i < m → vs.getD i.toNat 0 = -1 ∨ vs.getD i.toNat 0 = ws.getD i.toNat 0) → SW X E Q 0 0 15 [some (vR a), some (vR o), some (vI m)] [] σ := by
      intro n
      induction n with
      | zero => intro m hm; exact absurd hm (Nat.not_lt_zero _)
      | succ n ih15 =>
        intro m hm15 i15_0 i15_1
        refine s_iload_n C dX6_agrees_15 rfl ?_
        refine s_aload_n C dX6_agrees_16 rfl ?_
        refine s_getI (c := 6) (kz := 1) C fl_6_15 dX6_agrees_17 ha rfl rfl (fun g17 => ?_)
        refine s_icmp_ge (tgt := 56) C dX6_agrees_20 (by decide) (by omega) (by omega) (fun c20 => ?_) (fun c20 => ?_)
        · refine s_iconst C dX6_agrees_56 ?_
          refine s_zret C hR dX6_agrees_57 rfl (by omega) ⟨_, rfl, ?_⟩ (by decide)
          refine ⟨rfl, Or.inl ⟨rfl, by omega, fun i hi => ?_⟩⟩
          exact i15_1 i (by omega) (by omega)
        · refine s_aload_n C dX6_agrees_23 rfl ?_
          refine s_getR (c := 6) C fl_6_9 dX6_agrees_24 ho rfl (rfc_6_0 ho) ?_
          refine s_iload_n C dX6_agrees_27 rfl ?_
          refine s_iald C dX6_agrees_28 (shc_6_0 ho) (by omega) (fun g28 => ?_)
          refine s_iconst C dX6_agrees_29 ?_
          have J50 : (vs.getD m.toNat 0 = -1 ∨ vs.getD m.toNat 0 = ws.getD m.toNat 0) → SW X E Q 0 0 50 [some (vR a), some (vR o), some (vI m)] [] σ := by
            intro  j50_0
            obtain ⟨x2_50, ex2_50⟩ : ∃ y : Int, y = m + 1 := ⟨_, rfl⟩
            refine s_iinc (z2 := x2_50) (ls2 := [some (vR a), some (vR o), some (vI x2_50)]) C dX6_agrees_50 (by decide) rfl ex2_50 rfl ?_
            refine s_goto (tgt := 15) C dX6_agrees_53 (by decide) ?_
            refine ih15 x2_50 (by omega) (by first | assumption | omega) ?_
            · intro i h1 h2
              rcases Int.lt_or_le i m with q | q
              · exact i15_1 i h1 q
              · rw [show i = m by omega]; exact j50_0
          refine s_icmp_eq (tgt := 50) C dX6_agrees_30 (by decide) (by omega) (by omega) (fun c30 => ?_) (fun c30 => ?_)
          · refine J50 ?_
            · rw [← hv3.at (by omega) (by omega)]; omega
          · refine s_aload_n C dX6_agrees_33 rfl ?_
            refine s_getR (c := 6) C fl_6_9 dX6_agrees_34 ho rfl (rfc_6_0 ho) ?_
            refine s_iload_n C dX6_agrees_37 rfl ?_
            refine s_iald C dX6_agrees_38 (shc_6_0 ho) (by omega) (fun g38 => ?_)
            refine s_aload_n C dX6_agrees_39 rfl ?_
            refine s_getR (c := 6) C fl_6_9 dX6_agrees_40 ha rfl (rfc_6_0 ha) ?_
            refine s_iload_n C dX6_agrees_43 rfl ?_
            refine s_iald C dX6_agrees_44 (shc_6_0 ha) (by omega) (fun g44 => ?_)
            refine s_icmp_eq (tgt := 50) C dX6_agrees_45 (by decide) (by omega) (by omega) (fun c45 => ?_) (fun c45 => ?_)
            · refine J50 ?_
              · rw [← hv3.at (by omega) (by omega), ← hw3.at (by omega) (by omega)]; omega
            · refine s_iconst C dX6_agrees_48 ?_
              refine s_zret C hR dX6_agrees_49 rfl (by omega) ⟨_, rfl, ?_⟩ (by decide)
              refine ⟨rfl, Or.inr ⟨rfl, fun e => ?_⟩⟩
              have e0 := e.2 m.toNat (by omega)
              rw [← hv3.at (by omega) (by omega), ← hw3.at (by omega) (by omega)] at e0
              omega
    refine L15 _ 0 (Nat.lt_succ_self _) (by first | assumption | omega) ?_
    · intro i h1 h2; omega
  · refine s_iconst C dX6_agrees_11 ?_
    refine s_zret C hR dX6_agrees_12 rfl (by omega) ⟨_, rfl, ?_⟩ (by decide)
    exact ⟨rfl, Or.inr ⟨rfl, fun e => by have := e.1; omega⟩⟩
theorem melt_step {l r b : Int} {ws : List Int} {i : Nat} (h : i + 1 < ws.length) (h2 : ws.getD i 0 = l ∧ ws.getD (i + 1) 0 = r) : meltL l r b (ws.drop i) = b :: meltL l r b (ws.drop (i + 2)) := by
  rw [drop_c (by omega), drop_c h]
  rw [meltL, if_pos h2]
theorem melt_keep {l r b : Int} {ws : List Int} {i : Nat} (h : i < ws.length) (h2 : ¬ (i + 1 < ws.length ∧ ws.getD i 0 = l ∧ ws.getD (i + 1) 0 = r)) : meltL l r b (ws.drop i) = ws.getD i 0 :: meltL l r b (ws.drop (i + 1)) := by
  rw [drop_c h]
  by_cases q : i + 1 < ws.length
  · rw [drop_c q]
    conv => lhs; unfold meltL
    rw [if_neg (fun z => h2 ⟨q, z⟩)]
  · rw [List.drop_eq_nil_of_le (by omega)]
    rfl
theorem melt_len {l r b : Int} : ∀ n (ws : List Int), ws.length ≤ n → (meltL l r b ws).length ≤ ws.length
  | _, [], _ => by simp [meltL]
  | _, [x], _ => by simp [meltL]
  | 0, x :: y :: t, h => by simp at h
  | n + 1, x :: y :: t, h => by
    unfold meltL
    simp only [List.length_cons] at h
    split
    · have := melt_len (l := l) (r := r) (b := b) n t (by omega)
      simp only [List.length_cons]; omega
    · have := melt_len (l := l) (r := r) (b := b) n (y :: t) (by simp only [List.length_cons]; omega)
      simp only [List.length_cons] at this ⊢; omega
theorem melt_pos {l r b : Int} {ws : List Int} (h : ws ≠ []) : meltL l r b ws ≠ [] := by
  match ws, h with
  | [x], _ => simp [meltL]
  | x :: y :: t, _ => unfold meltL; split <;> simp
set_option maxRecDepth 100000 in
set_option maxHeartbeats 8000000 in
theorem kX6_melt {E : sv_E} {σ : sv_G} {a : Nat} {x y z : Int} (ha : shp a = (6, 0)) (hx : -2147483648 ≤ x ∧ x ≤ 2147483647) (hy : -2147483648 ≤ y ∧ y ≤ 2147483647) (hz : -2147483648 ≤ z ∧ z ≤ 2147483647) {ws : List Int} (hw : Rw σ a ws) : CT E MX6_melt 0 [(vR a), (vI x), (vI y), (vI z)] σ (PV fun σ9 => Rw σ9 a (meltL x y z ws) ∧ ∀ b k, b ≠ a → b ≠ a + 1 → σ9 b k = σ b k) := by
  refine CT.of (RX6, cX6_melt, 7, none, [], 0, 0, 0) rfl moX6_melt (Nat.le_of_ble_eq_true rfl) (ls0 := [some (vR a), some (vI x), some (vI y), some (vI z), none, none, none]) rfl ?_
  intro X Q C hR
  obtain ⟨hw1, hw2, hw3⟩ := hw
  refine s_iconst C dX6_melt_0 ?_
  refine s_istore (ls2 := [some (vR a), some (vI x), some (vI y), some (vI z), some (vI 0), none, none]) C dX6_melt_1 (by decide) rfl ?_
  refine s_iconst C dX6_melt_3 ?_
  refine s_istore (ls2 := [some (vR a), some (vI x), some (vI y), some (vI z), some (vI 0), some (vI 0), none]) C dX6_melt_4 (by decide) rfl ?_
  have L6 : ∀ (n : Nat) (kp : Int) (m : Int) (τ : sv_G) (dn : List Int), (20 - m).toNat < n → (0 ≤ kp ∧ kp ≤ m ∧ m ≤ σ a 1 ∧ kp = dn.length) → (∀ b k, b ≠ a + 1 → τ b k = σ b k) → (∀ i : Int, 0 ≤ i → i < kp → τ (a + 1) i = dn.getD i.toNat 0) → (∀ i : Int, m ≤ i → i < σ a 1 → τ (a + 1) i = ws.getD i.toNat 0) → (meltL x y z ws = dn ++ meltL x y z (ws.drop m.toNat)) → SW X E Q 0 0 6 [some (vR a), some (vI x), some (vI y), some (vI z), some (vI kp), some (vI m), none] [] τ := by
    intro n
    induction n with
    | zero => intro kp m τ dn hm; exact absurd hm (Nat.not_lt_zero _)
    | succ n ih6 =>
      intro kp m τ dn hm6 i6_0 i6_1 i6_2 i6_3 i6_4
      have hz1 : τ a 1 = σ a 1 := i6_1 a 1 (by omega)
      refine s_iload C dX6_melt_6 rfl ?_
      refine s_aload_n C dX6_melt_8 rfl ?_
      refine s_getI (c := 6) (kz := 1) C fl_6_15 dX6_melt_9 ha rfl rfl (fun g9 => ?_)
      refine s_icmp_ge (tgt := 101) C dX6_melt_12 (by decide) (by omega) (by omega) (fun c12 => ?_) (fun c12 => ?_)
      · refine s_aload_n C dX6_melt_101 rfl ?_
        refine s_iload C dX6_melt_102 rfl ?_
        refine s_putI (c := 6) (kz := 1) C fl_6_15 dX6_melt_104 ha rfl (fun _ _ h9 => by cases h9; rfl) (by omega) rfl ?_
        refine s_nameG (fun σ_104 hσ_104 => ?_)
        refine s_vret C hR dX6_melt_107 rfl ⟨rfl, ?_⟩ (by decide)
        rw [hσ_104]
        have e9 : meltL x y z ws = dn := by rw [i6_4, List.drop_eq_nil_of_le (by omega)]; simp [meltL]
        rw [e9]
        refine ⟨⟨by rw [up_s]; exact i6_0.2.2.2, by omega, Sg.of fun i h1 h2 => ?_⟩, fun b k h1 h2 => by rw [up_a h1]; exact i6_1 b k h2⟩
        rw [up_a (by omega)]
        exact i6_2 i h1 (by omega)
      · refine s_iload C dX6_melt_15 rfl ?_
        refine s_iconst C dX6_melt_17 ?_
        refine s_iadd C dX6_melt_18 ?_
        refine s_aload_n C dX6_melt_19 rfl ?_
        refine s_getI (c := 6) (kz := 1) C fl_6_15 dX6_melt_20 ha rfl rfl (fun g20 => ?_)
        have J55 : ∀ (bo : Int), ((bo = 1 ∧ m + 1 < σ a 1 ∧ ws.getD m.toNat 0 = x ∧ ws.getD (m + 1).toNat 0 = y) ∨ (bo = 0 ∧ ¬ (m + 1 < σ a 1 ∧ ws.getD m.toNat 0 = x ∧ ws.getD (m + 1).toNat 0 = y))) → SW X E Q 0 0 55 [some (vR a), some (vI x), some (vI y), some (vI z), some (vI kp), some (vI m), none] [(vI bo)] τ := by
          intro bo j55_0
          refine s_istore (ls2 := [some (vR a), some (vI x), some (vI y), some (vI z), some (vI kp), some (vI m), some (vI bo)]) C dX6_melt_55 (by decide) rfl ?_
          refine s_aload_n C dX6_melt_57 rfl ?_
          refine s_getR (c := 6) C fl_6_9 dX6_melt_58 ha rfl (rfc_6_0 ha) ?_
          refine s_iload C dX6_melt_61 rfl ?_
          refine s_iload C dX6_melt_63 rfl ?_
          have J79 : ∀ (vv : Int), ((bo = 1 ∧ vv = z) ∨ (bo = 0 ∧ vv = ws.getD m.toNat 0)) → (-2147483648 ≤ vv ∧ vv ≤ 2147483647) → SW X E Q 0 0 79 [some (vR a), some (vI x), some (vI y), some (vI z), some (vI kp), some (vI m), some (vI bo)] [(vI vv), (vI kp), (vR (a + 1))] τ := by
            intro vv j79_0 j79_1
            refine s_iast C dX6_melt_79 (shc_6_0 ha) (by omega) (by omega) ?_
            refine s_nameG (fun σ_79 hσ_79 => ?_)
            obtain ⟨x4_80, ex4_80⟩ : ∃ y : Int, y = kp + 1 := ⟨_, rfl⟩
            refine s_iinc (z2 := x4_80) (ls2 := [some (vR a), some (vI x), some (vI y), some (vI z), some (vI x4_80), some (vI m), some (vI bo)]) C dX6_melt_80 (by decide) rfl ex4_80 rfl ?_
            refine s_iload C dX6_melt_83 rfl ?_
            refine s_iload C dX6_melt_85 rfl ?_
            have J95 : ∀ (inc : Int), ((bo = 1 ∧ inc = 2) ∨ (bo = 0 ∧ inc = 1)) → SW X E Q 0 0 95 [some (vR a), some (vI x), some (vI y), some (vI z), some (vI x4_80), some (vI m), some (vI bo)] [(vI inc), (vI m)] σ_79 := by
              intro inc j95_0
              refine s_iadd C dX6_melt_95 ?_
              refine s_topI (fun x5_96 ex5_96 => ?_)
              refine s_istore (ls2 := [some (vR a), some (vI x), some (vI y), some (vI z), some (vI x4_80), some (vI x5_96), some (vI bo)]) C dX6_melt_96 (by decide) rfl ?_
              refine s_goto (tgt := 6) C dX6_melt_98 (by decide) ?_
              refine s_weak (ls2 := [some (vR a), some (vI x), some (vI y), some (vI z), some (vI x4_80), some (vI x5_96), none]) (sv_wk_c (sv_wk_c (sv_wk_c (sv_wk_c (sv_wk_c (sv_wk_c (sv_wk_n sv_wk_0))))))) ?_
              refine ih6 x4_80 x5_96 σ_79 (dn ++ [vv]) (by omega) ?_ ?_ ?_ ?_ ?_
              · have e9 : (dn ++ [vv]).length = dn.length + 1 := by simp
                omega
              · intro b k h; rw [hσ_79, up_a h]; exact i6_1 b k h
              · intro i h1 h2
                rw [hσ_79, up_i, gD_app]
                by_cases q : i = kp
                · rw [if_pos q, if_neg (by omega), if_pos (by omega)]
                · rw [if_neg q, if_pos (by omega)]; exact i6_2 i h1 (by omega)
              · intro i h1 h2; rw [hσ_79, up_k (by omega)]; exact i6_3 i (by omega) h2
              · rw [i6_4, List.append_assoc]
                congr 1
                rcases j79_0 with q | q
                · rw [melt_step (by omega) ⟨by omega, by rw [show m.toNat + 1 = (m + 1).toNat by omega]; omega⟩, show m.toNat + 2 = (x5_96).toNat by omega, q.2]; rfl
                · rw [melt_keep (by omega) (by rw [show m.toNat + 1 = (m + 1).toNat by omega]; omega), show m.toNat + 1 = (x5_96).toNat by omega, q.2]; rfl
            refine s_if_eq (tgt := 94) C dX6_melt_87 (by decide) (by omega) (fun c87 => ?_) (fun c87 => ?_)
            · refine s_iconst C dX6_melt_94 ?_
              exact J95 1 (by omega)
            · refine s_iconst C dX6_melt_90 ?_
              refine s_goto (tgt := 95) C dX6_melt_91 (by decide) ?_
              exact J95 2 (by omega)
          refine s_if_eq (tgt := 72) C dX6_melt_65 (by decide) (by omega) (fun c65 => ?_) (fun c65 => ?_)
          · refine s_aload_n C dX6_melt_72 rfl ?_
            refine s_getR (c := 6) C fl_6_9 dX6_melt_73 ha rfl (rfc_6_0 ha) ?_
            refine s_iload C dX6_melt_76 rfl ?_
            refine s_iald C dX6_melt_78 (shc_6_0 ha) (by omega) (fun g78 => ?_)
            refine J79 (τ (a + 1) m) ?_ (by omega)
            · exact Or.inr ⟨by omega, i6_3 m (by omega) (by omega)⟩
          · refine s_iload_n C dX6_melt_68 rfl ?_
            refine s_goto (tgt := 79) C dX6_melt_69 (by decide) ?_
            exact J79 z (by omega) (by omega)
        have J54 : (¬ (m + 1 < σ a 1 ∧ ws.getD m.toNat 0 = x ∧ ws.getD (m + 1).toNat 0 = y)) → SW X E Q 0 0 54 [some (vR a), some (vI x), some (vI y), some (vI z), some (vI kp), some (vI m), none] [] τ := by
          intro  j54_0
          refine s_iconst C dX6_melt_54 ?_
          refine J55 0 ?_
          · exact Or.inr ⟨rfl, j54_0⟩
        refine s_icmp_ge (tgt := 54) C dX6_melt_23 (by decide) (by omega) (by omega) (fun c23 => ?_) (fun c23 => ?_)
        · exact J54 (by omega)
        · refine s_aload_n C dX6_melt_26 rfl ?_
          refine s_getR (c := 6) C fl_6_9 dX6_melt_27 ha rfl (rfc_6_0 ha) ?_
          refine s_iload C dX6_melt_30 rfl ?_
          refine s_iald C dX6_melt_32 (shc_6_0 ha) (by omega) (fun g32 => ?_)
          refine s_iload_n C dX6_melt_33 rfl ?_
          refine s_icmp_ne (tgt := 54) C dX6_melt_34 (by decide) (by omega) (by omega) (fun c34 => ?_) (fun c34 => ?_)
          · refine J54 ?_
            · rw [← i6_3 m (by omega) (by omega)]; omega
          · refine s_aload_n C dX6_melt_37 rfl ?_
            refine s_getR (c := 6) C fl_6_9 dX6_melt_38 ha rfl (rfc_6_0 ha) ?_
            refine s_iload C dX6_melt_41 rfl ?_
            refine s_iconst C dX6_melt_43 ?_
            refine s_iadd C dX6_melt_44 ?_
            refine s_iald C dX6_melt_45 (shc_6_0 ha) (by omega) (fun g45 => ?_)
            refine s_iload_n C dX6_melt_46 rfl ?_
            refine s_icmp_ne (tgt := 54) C dX6_melt_47 (by decide) (by omega) (by omega) (fun c47 => ?_) (fun c47 => ?_)
            · refine J54 ?_
              · rw [← i6_3 (m + 1) (by omega) (by omega)]; omega
            · refine s_iconst C dX6_melt_50 ?_
              refine s_goto (tgt := 55) C dX6_melt_51 (by decide) ?_
              refine J55 1 ?_
              · rw [← i6_3 m (by omega) (by omega), ← i6_3 (m + 1) (by omega) (by omega)]; omega
  refine L6 _ 0 0 σ [] (Nat.lt_succ_self _) ?_ ?_ ?_ ?_ ?_
  · simp; omega
  · intro b k _; rfl
  · intro i h1 h2; omega
  · intro i h1 h2; exact hw3.at h1 (by omega)
  · simp
set_option maxRecDepth 100000 in
set_option maxHeartbeats 8000000 in
theorem kX6_mark {E : sv_E} {σ : sv_G} {a : Nat} (ha : shp a = (6, 0)) {ws : List Int} (hw : Rw σ a ws) : CT E MX6_mark 0 [(vR a)] σ (PI fun r σ9 => σ9 = σ ∧ (-2147483648 ≤ r ∧ r ≤ 2147483647) ∧ r = (Int32.ofInt (markF ws)).toInt) := by
  refine CT.of (RX6, cX6_mark, 3, (some .int), [], 0, 0, 0) rfl moX6_mark (Nat.le_of_ble_eq_true rfl) (ls0 := [some (vR a), none, none]) rfl ?_
  intro X Q C hR
  obtain ⟨hw1, hw2, hw3⟩ := hw
  refine s_aload_n C dX6_mark_0 rfl ?_
  refine s_getI (c := 6) (kz := 1) C fl_6_15 dX6_mark_1 ha rfl rfl (fun g1 => ?_)
  refine s_topI (fun x1_4 ex1_4 => ?_)
  refine s_istore_n (ls2 := [some (vR a), some (vI x1_4), none]) C dX6_mark_4 (by decide) rfl ?_
  refine s_iconst C dX6_mark_5 ?_
  refine s_istore_n (ls2 := [some (vR a), some (vI x1_4), some (vI 0)]) C dX6_mark_6 (by decide) rfl ?_
  have L7 : ∀ (n : Nat) (mk : Int) (m : Int), (20 - m).toNat < n → (0 ≤ m ∧ m ≤ σ a 1) → (mk = mkF (ws.take m.toNat) ws.length) → SW X E Q 0 0 7 [some (vR a), some (vI mk), some (vI m)] [] σ := by
    intro n
    induction n with
    | zero => intro mk m hm; exact absurd hm (Nat.not_lt_zero _)
    | succ n ih7 =>
      intro mk m hm7 i7_0 i7_1
      refine s_iload_n C dX6_mark_7 rfl ?_
      refine s_aload_n C dX6_mark_8 rfl ?_
      refine s_getI (c := 6) (kz := 1) C fl_6_15 dX6_mark_9 ha rfl rfl (fun g9 => ?_)
      refine s_icmp_ge (tgt := 34) C dX6_mark_12 (by decide) (by omega) (by omega) (fun c12 => ?_) (fun c12 => ?_)
      · refine s_iload_n C dX6_mark_34 rfl ?_
        refine s_asI (y := (Int32.ofInt mk).toInt) (by rw [Int32.ofInt_toInt]) ?_
        refine s_iret C hR dX6_mark_35 rfl ⟨_, rfl, ?_⟩ (by decide)
        have h1 := Int32.le_toInt (Int32.ofInt mk)
        have h2 := Int32.toInt_lt (Int32.ofInt mk)
        refine ⟨rfl, by omega, ?_⟩
        rw [i7_1, List.take_of_length_le (by omega)]; rfl
      · refine s_iload_n C dX6_mark_15 rfl ?_
        refine s_sipush C dX6_mark_16 (by decide) ?_
        refine s_imul C dX6_mark_19 ?_
        refine s_aload_n C dX6_mark_20 rfl ?_
        refine s_getR (c := 6) C fl_6_9 dX6_mark_21 ha rfl (rfc_6_0 ha) ?_
        refine s_iload_n C dX6_mark_24 rfl ?_
        refine s_iald C dX6_mark_25 (shc_6_0 ha) (by omega) (fun g25 => ?_)
        refine s_iadd C dX6_mark_26 ?_
        refine s_topI (fun x1_27 ex1_27 => ?_)
        refine s_istore_n (ls2 := [some (vR a), some (vI x1_27), some (vI m)]) C dX6_mark_27 (by decide) rfl ?_
        obtain ⟨x2_28, ex2_28⟩ : ∃ y : Int, y = m + 1 := ⟨_, rfl⟩
        refine s_iinc (z2 := x2_28) (ls2 := [some (vR a), some (vI x1_27), some (vI x2_28)]) C dX6_mark_28 (by decide) rfl ex2_28 rfl ?_
        refine s_goto (tgt := 7) C dX6_mark_31 (by decide) ?_
        refine ih7 x1_27 x2_28 (by omega) (by first | assumption | omega) ?_
        · rw [ex1_27, i7_1, show x2_28.toNat = m.toNat + 1 by omega, foldl_take (by omega), ← hw3.at (by omega) (by omega)]
  refine L7 _ x1_4 0 (Nat.lt_succ_self _) (by first | assumption | omega) ?_
  · rw [ex1_4, hw1]; rfl
