set_option maxRecDepth 100000 in
set_option maxHeartbeats 8000000 in
theorem kJ9_max_7cf53 {E : sv_E} {σ : sv_G} {x y : Int} (hx : -2147483648 ≤ x ∧ x ≤ 2147483647) (hy : -2147483648 ≤ y ∧ y ≤ 2147483647) : CT E MJ9_max_7cf53 0 [(vI x), (vI y)] σ (PI fun r σ9 => σ9 = σ ∧ ((r = x ∧ y ≤ x) ∨ (r = y ∧ x < y))) := by
  refine CT.of (RJ9, cJ9_max_7cf53, 2, (some .int), [], 0, 0, 0) rfl moJ9_max_7cf53 (Nat.le_of_ble_eq_true rfl) (ls0 := [some (vI x), some (vI y)]) rfl ?_
  intro X Q C hR
  refine s_iload_n C dJ9_max_7cf53_0 rfl ?_
  refine s_iload_n C dJ9_max_7cf53_1 rfl ?_
  refine s_icmp_lt (tgt := 9) C dJ9_max_7cf53_2 (by decide) (by omega) (by omega) (fun c2 => ?_) (fun c2 => ?_)
  · refine s_iload_n C dJ9_max_7cf53_9 rfl ?_
    refine s_iret C hR dJ9_max_7cf53_10 rfl ⟨_, rfl, ?_⟩ (by decide)
    exact ⟨rfl, by omega⟩
  · refine s_iload_n C dJ9_max_7cf53_5 rfl ?_
    refine s_goto (tgt := 10) C dJ9_max_7cf53_6 (by decide) ?_
    refine s_iret C hR dJ9_max_7cf53_10 rfl ⟨_, rfl, ?_⟩ (by decide)
    exact ⟨rfl, by omega⟩
theorem fd_neg {x y : Int} (hx : -9223372036854775808 ≤ x ∧ x ≤ 9223372036854775807) (hy : 0 < y ∧ y ≤ 9223372036854775807) (h : ¬ 0 ≤ cmpL (lxorL x y) 0) : x < 0 := by
  rw [cmpL_ge, Int.not_le] at h
  exact (lxor_neg hx ⟨Int.le_of_lt hy.1, hy.2⟩).mp h
theorem fd_nn {x y : Int} (hx : -9223372036854775808 ≤ x ∧ x ≤ 9223372036854775807) (hy : 0 < y ∧ y ≤ 9223372036854775807) (h : 0 ≤ cmpL (lxorL x y) 0) : 0 ≤ x := by
  rw [cmpL_ge] at h
  rcases Int.lt_or_le x 0 with q | q
  · have := (lxor_neg hx ⟨Int.le_of_lt hy.1, hy.2⟩).mpr q; omega
  · exact q
theorem fd_ex {x y : Int} (hx : x < 0) (hy : 0 < y) (h : x.tdiv y * y = x) : x.tdiv y = x / y := by
  rw [tdiv_neg hx hy] at h ⊢
  have h1 := Int.emod_add_mul_ediv x y
  have h2 := Int.emod_nonneg x (show y ≠ 0 by omega)
  have h3 := Int.emod_lt_of_pos x hy
  have h4 := Int.mul_comm y (x / y)
  by_cases q : x % y = 0
  · rw [if_pos q]
  · rw [if_neg q, Int.add_mul, Int.one_mul] at h; omega
theorem fd_in {x y : Int} (hx : x < 0) (hy : 0 < y) (h : ¬ x.tdiv y * y = x) : x.tdiv y - 1 = x / y := by
  rw [tdiv_neg hx hy] at h ⊢
  have h1 := Int.emod_add_mul_ediv x y
  have h4 := Int.mul_comm y (x / y)
  by_cases q : x % y = 0
  · rw [if_pos q] at h; omega
  · rw [if_neg q]; omega
theorem fd_rng {x y : Int} (hl : -9223372036854775808 ≤ x) (hx : x < 0) (hy : 0 < y) : -9223372036854775808 ≤ x.tdiv y * y ∧ x.tdiv y * y ≤ 9223372036854775807 := by
  rw [tdiv_neg hx hy]
  have h1 := Int.emod_add_mul_ediv x y
  have h2 := Int.emod_nonneg x (show y ≠ 0 by omega)
  have h3 := Int.emod_lt_of_pos x hy
  have h4 := Int.mul_comm y (x / y)
  split
  · omega
  · rw [Int.add_mul, Int.one_mul]
    constructor
    · omega
    · have : x / y * y + y ≤ 0 ∨ 0 < x / y * y + y := by omega
      rcases this with q | q
      · omega
      · exfalso
        have q2 : x / y < 0 := Int.ediv_neg_of_neg_of_pos hx hy
        have q3 := Int.mul_le_mul_of_nonneg_right (show x / y ≤ -1 by omega) (show 0 ≤ y by omega)
        omega
theorem fm_ex {x y : Int} (hx : x < 0) (hy : 0 < y) (h : x.tmod y = 0) : x.tmod y = x % y := by
  rw [tmod_neg hx hy] at h ⊢
  have h3 := Int.emod_lt_of_pos x hy
  by_cases q : x % y = 0
  · rw [if_pos q, q]
  · rw [if_neg q] at h; omega
theorem fm_in {x y : Int} (hx : x < 0) (hy : 0 < y) (h : ¬ x.tmod y = 0) : x.tmod y + y = x % y := by
  rw [tmod_neg hx hy] at h ⊢
  by_cases q : x % y = 0
  · rw [if_pos q] at h; omega
  · rw [if_neg q]; omega
theorem fm_rng {x y : Int} (hx : x < 0) (hy : 0 < y ∧ y ≤ 9223372036854775807) : -9223372036854775808 ≤ x.tmod y ∧ x.tmod y ≤ 9223372036854775807 := by
  rw [tmod_neg hx hy.1]
  have h2 := Int.emod_nonneg x (show y ≠ 0 by omega)
  have h3 := Int.emod_lt_of_pos x hy.1
  split <;> omega
set_option maxRecDepth 100000 in
set_option maxHeartbeats 8000000 in
theorem kJ9_floorDiv_f86c9 {E : sv_E} {σ : sv_G} {x y : Int} (hx : -9223372036854775808 ≤ x ∧ x ≤ 9223372036854775807) (hy : 0 < y ∧ y ≤ 9223372036854775807) : CT E MJ9_floorDiv_f86c9 0 [(vL x), (vL y)] σ (PL fun r σ9 => σ9 = σ ∧ r = x / y) := by
  refine CT.of (RJ9, cJ9_floorDiv_f86c9, 6, (some .long), [], 0, 0, 0) rfl moJ9_floorDiv_f86c9 (Nat.le_of_ble_eq_true rfl) (ls0 := [some (vL x), none, some (vL y), none, none, none]) rfl ?_
  intro X Q C hR
  refine s_lload_n C dJ9_floorDiv_f86c9_0 rfl ?_
  refine s_lload_n C dJ9_floorDiv_f86c9_1 rfl ?_
  refine s_ldiv C dJ9_floorDiv_f86c9_2 (by omega) (by omega) ?_
  refine s_topL (fun x4_3 ex4_3 => ?_)
  refine s_lstore (ls2 := [some (vL x), none, some (vL y), none, some (vL x4_3), none]) C dJ9_floorDiv_f86c9_3 (by decide) rfl ?_
  refine s_lload_n C dJ9_floorDiv_f86c9_5 rfl ?_
  refine s_lload_n C dJ9_floorDiv_f86c9_6 rfl ?_
  refine s_lxor C dJ9_floorDiv_f86c9_7 ?_
  refine s_lconst C dJ9_floorDiv_f86c9_8 ?_
  refine s_lcmp C dJ9_floorDiv_f86c9_9 (by exact lxor_rng x y) (by omega) ?_
  refine s_if_ge (tgt := 27) C dJ9_floorDiv_f86c9_10 (by decide) (by exact cmpL_rng) (fun c10 => ?_) (fun c10 => ?_)
  · refine s_lload C dJ9_floorDiv_f86c9_27 rfl ?_
    refine s_lret C hR dJ9_floorDiv_f86c9_29 rfl ⟨_, rfl, ?_⟩ (by decide)
    refine ⟨rfl, ?_⟩
    first
      | exact ex4_3.trans (mfill_lt (fd_nn hx hy c10) hy.1)
      | (rw [ex4_3] at c19 ⊢
         exact fd_ex (fd_neg hx hy c10) hy.1 (cmpL_eq.mp c19))
  · refine s_lload C dJ9_floorDiv_f86c9_13 rfl ?_
    refine s_lload_n C dJ9_floorDiv_f86c9_15 rfl ?_
    refine s_lmul C dJ9_floorDiv_f86c9_16 ?_
    refine s_lload_n C dJ9_floorDiv_f86c9_17 rfl ?_
    refine s_lcmp C dJ9_floorDiv_f86c9_18 (by rw [ex4_3]; exact fd_rng hx.1 (fd_neg hx hy c10) hy.1) (by omega) ?_
    refine s_if_eq (tgt := 27) C dJ9_floorDiv_f86c9_19 (by decide) (by exact cmpL_rng) (fun c19 => ?_) (fun c19 => ?_)
    · refine s_lload C dJ9_floorDiv_f86c9_27 rfl ?_
      refine s_lret C hR dJ9_floorDiv_f86c9_29 rfl ⟨_, rfl, ?_⟩ (by decide)
      refine ⟨rfl, ?_⟩
      first
        | exact ex4_3.trans (mfill_lt (fd_nn hx hy c10) hy.1)
        | (rw [ex4_3] at c19 ⊢
           exact fd_ex (fd_neg hx hy c10) hy.1 (cmpL_eq.mp c19))
    · refine s_lload C dJ9_floorDiv_f86c9_22 rfl ?_
      refine s_lconst C dJ9_floorDiv_f86c9_24 ?_
      refine s_lsub C dJ9_floorDiv_f86c9_25 ?_
      refine s_lret C hR dJ9_floorDiv_f86c9_26 rfl ⟨_, rfl, ?_⟩ (by decide)
      refine ⟨rfl, ?_⟩
      rw [ex4_3] at c19 ⊢
      exact fd_in (fd_neg hx hy c10) hy.1 (fun z => c19 (cmpL_eq.mpr z))
set_option maxRecDepth 100000 in
set_option maxHeartbeats 8000000 in
theorem kJ9_floorMod_f86c9 {E : sv_E} {σ : sv_G} {x y : Int} (hx : -9223372036854775808 ≤ x ∧ x ≤ 9223372036854775807) (hy : 0 < y ∧ y ≤ 9223372036854775807) : CT E MJ9_floorMod_f86c9 0 [(vL x), (vL y)] σ (PL fun r σ9 => σ9 = σ ∧ r = x % y) := by
  refine CT.of (RJ9, cJ9_floorMod_f86c9, 6, (some .long), [], 0, 0, 0) rfl moJ9_floorMod_f86c9 (Nat.le_of_ble_eq_true rfl) (ls0 := [some (vL x), none, some (vL y), none, none, none]) rfl ?_
  intro X Q C hR
  refine s_lload_n C dJ9_floorMod_f86c9_0 rfl ?_
  refine s_lload_n C dJ9_floorMod_f86c9_1 rfl ?_
  refine s_lrem C dJ9_floorMod_f86c9_2 (by omega) (by omega) ?_
  refine s_topL (fun x4_3 ex4_3 => ?_)
  refine s_lstore (ls2 := [some (vL x), none, some (vL y), none, some (vL x4_3), none]) C dJ9_floorMod_f86c9_3 (by decide) rfl ?_
  refine s_lload_n C dJ9_floorMod_f86c9_5 rfl ?_
  refine s_lload_n C dJ9_floorMod_f86c9_6 rfl ?_
  refine s_lxor C dJ9_floorMod_f86c9_7 ?_
  refine s_lconst C dJ9_floorMod_f86c9_8 ?_
  refine s_lcmp C dJ9_floorMod_f86c9_9 (by exact lxor_rng x y) (by omega) ?_
  refine s_if_ge (tgt := 25) C dJ9_floorMod_f86c9_10 (by decide) (by exact cmpL_rng) (fun c10 => ?_) (fun c10 => ?_)
  · refine s_lload C dJ9_floorMod_f86c9_25 rfl ?_
    refine s_lret C hR dJ9_floorMod_f86c9_27 rfl ⟨_, rfl, ?_⟩ (by decide)
    refine ⟨rfl, ?_⟩
    first
      | exact ex4_3.trans (Int.tmod_eq_emod_of_nonneg (fd_nn hx hy c10))
      | (rw [ex4_3] at c17 ⊢
         exact fm_ex (fd_neg hx hy c10) hy.1 (cmpL_eq.mp c17))
  · refine s_lload C dJ9_floorMod_f86c9_13 rfl ?_
    refine s_lconst C dJ9_floorMod_f86c9_15 ?_
    refine s_lcmp C dJ9_floorMod_f86c9_16 (by rw [ex4_3]; exact fm_rng (fd_neg hx hy c10) hy) (by decide) ?_
    refine s_if_eq (tgt := 25) C dJ9_floorMod_f86c9_17 (by decide) (by exact cmpL_rng) (fun c17 => ?_) (fun c17 => ?_)
    · refine s_lload C dJ9_floorMod_f86c9_25 rfl ?_
      refine s_lret C hR dJ9_floorMod_f86c9_27 rfl ⟨_, rfl, ?_⟩ (by decide)
      refine ⟨rfl, ?_⟩
      first
        | exact ex4_3.trans (Int.tmod_eq_emod_of_nonneg (fd_nn hx hy c10))
        | (rw [ex4_3] at c17 ⊢
           exact fm_ex (fd_neg hx hy c10) hy.1 (cmpL_eq.mp c17))
    · refine s_lload C dJ9_floorMod_f86c9_20 rfl ?_
      refine s_lload_n C dJ9_floorMod_f86c9_22 rfl ?_
      refine s_ladd C dJ9_floorMod_f86c9_23 ?_
      refine s_lret C hR dJ9_floorMod_f86c9_24 rfl ⟨_, rfl, ?_⟩ (by decide)
      refine ⟨rfl, ?_⟩
      rw [ex4_3] at c17 ⊢
      exact fm_in (fd_neg hx hy c10) hy.1 (fun z => c17 (cmpL_eq.mpr z))
set_option maxRecDepth 100000 in
set_option maxHeartbeats 8000000 in
theorem kJ7_fill_53178 {E : sv_E} {σ : sv_G} {a N : Nat} {x : Int} (ha : shp a = (10, N)) (hn : N ≤ 20000) (hx : -2147483648 ≤ x ∧ x ≤ 2147483647) : CT E MJ7_fill_53178 0 [(vR a), (vI x)] σ (PV fun σ9 => (∀ i, 0 ≤ i → i < (N : Int) → σ9 a i = x) ∧ ∀ b k, b ≠ a → σ9 b k = σ b k) := by
  refine CT.of (RJ7, cJ7_fill_53178, 4, none, [], 0, 0, 0) rfl moJ7_fill_53178 (Nat.le_of_ble_eq_true rfl) (ls0 := [some (vR a), some (vI x), none, none]) rfl ?_
  intro X Q C hR
  refine s_iconst C dJ7_fill_53178_0 ?_
  refine s_istore_n (ls2 := [some (vR a), some (vI x), some (vI 0), none]) C dJ7_fill_53178_1 (by decide) rfl ?_
  refine s_aload_n C dJ7_fill_53178_2 rfl ?_
  refine s_alen (z := N) C ha rfl dJ7_fill_53178_3 ?_
  refine s_topI (fun x3_4 ex3_4 => ?_)
  refine s_istore_n (ls2 := [some (vR a), some (vI x), some (vI 0), some (vI x3_4)]) C dJ7_fill_53178_4 (by decide) rfl ?_
  have L5 : ∀ (n : Nat) (m : Int) (τ : sv_G), ((N : Int) - m).toNat < n → (0 ≤ m ∧ m ≤ N) → (∀ b k, b ≠ a → τ b k = σ b k) → (∀ i, 0 ≤ i → i < m → τ a i = x) → SW X E Q 0 0 5 [some (vR a), some (vI x), some (vI m), some (vI x3_4)] [] τ := by
    intro n
    induction n with
    | zero => intro m τ hm; exact absurd hm (Nat.not_lt_zero _)
    | succ n ih5 =>
      intro m τ hm5 i5_0 i5_1 i5_2
      refine s_iload_n C dJ7_fill_53178_5 rfl ?_
      refine s_iload_n C dJ7_fill_53178_6 rfl ?_
      refine s_icmp_ge (tgt := 20) C dJ7_fill_53178_7 (by decide) (by omega) (by omega) (fun c7 => ?_) (fun c7 => ?_)
      · refine s_vret C hR dJ7_fill_53178_20 rfl ⟨rfl, ?_⟩ (by decide)
        exact ⟨fun i h1 h2 => i5_2 i h1 (by omega), i5_1⟩
      · refine s_aload_n C dJ7_fill_53178_10 rfl ?_
        refine s_iload_n C dJ7_fill_53178_11 rfl ?_
        refine s_iload_n C dJ7_fill_53178_12 rfl ?_
        refine s_iast C dJ7_fill_53178_13 ha (by omega) (by omega) ?_
        refine s_nameG (fun σ_13 hσ_13 => ?_)
        obtain ⟨x2_14, ex2_14⟩ : ∃ y : Int, y = m + 1 := ⟨_, rfl⟩
        refine s_iinc (z2 := x2_14) (ls2 := [some (vR a), some (vI x), some (vI x2_14), some (vI x3_4)]) C dJ7_fill_53178_14 (by decide) rfl ex2_14 rfl ?_
        refine s_goto (tgt := 5) C dJ7_fill_53178_17 (by decide) ?_
        refine ih5 x2_14 σ_13 (by omega) (by first | assumption | omega) ?_ ?_
        · intro b k h; rw [hσ_13, up_a h]; exact i5_1 b k h
        · intro i h1 h2
          rw [hσ_13, up_i]
          by_cases q : i = m
          · rw [if_pos q]
          · rw [if_neg q]; exact i5_2 i h1 (by omega)
  refine L5 _ 0 σ (Nat.lt_succ_self _) (by first | assumption | omega) ?_ ?_
  · intro b k _; rfl
  · intro i h1 h2; omega
