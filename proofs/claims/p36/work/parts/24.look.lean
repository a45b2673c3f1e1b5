/-- the worth of cord i, and what the cords before it show -/
def cdW (b : Int → Int) : Nat → Int
  | 0 => 1
  | i + 1 => cdW b i * b i
def cdT (b t : Int → Int) : Nat → Int
  | 0 => 0
  | i + 1 => cdT b t i + t i * cdW b i
theorem landI_255 (x : Int) : 0 ≤ landI x 255 ∧ landI x 255 ≤ 255 := by
  have h : (Int32.ofInt x &&& Int32.ofInt 255).toBitVec.toNat ≤ 255 := by
    rw [Int32.toBitVec_and, BitVec.toNat_and]
    exact Nat.and_le_right
  have h2 : (Int32.ofInt x &&& Int32.ofInt 255).toInt = ((Int32.ofInt x &&& Int32.ofInt 255).toBitVec.toNat : Int) := by
    show BitVec.toInt _ = _
    rw [BitVec.toInt_eq_toNat_cond, if_pos (by omega)]
  unfold landI
  rw [h2]
  omega
set_option maxRecDepth 100000 in
set_option maxHeartbeats 8000000 in
theorem kX2_total {E : sv_E} {σ : sv_G}  : CT E MX2_total 0 [(vR 20)] σ (PL fun r σ9 => σ9 = σ ∧ r = cdT (σ 21) (σ 22) 6) := by
  refine CT.of (RX2, cX2_total, 6, (some .long), [], 0, 0, 0) rfl moX2_total (Nat.le_of_ble_eq_true rfl) (ls0 := [some (vR 20), none, none, none, none, none]) rfl ?_
  intro X Q C hR
  refine s_lconst C dX2_total_0 ?_
  refine s_lstore_n (ls2 := [some (vR 20), some (vL 0), none, none, none, none]) C dX2_total_1 (by decide) rfl ?_
  refine s_lconst C dX2_total_2 ?_
  refine s_lstore_n (ls2 := [some (vR 20), some (vL 0), none, some (vL 1), none, none]) C dX2_total_3 (by decide) rfl ?_
  refine s_iconst C dX2_total_4 ?_
  refine s_istore (ls2 := [some (vR 20), some (vL 0), none, some (vL 1), none, some (vI 0)]) C dX2_total_5 (by decide) rfl ?_
  have L7 : ∀ (n : Nat) (t : Int) (v : Int) (m : Int), (6 - m).toNat < n → (0 ≤ m ∧ m ≤ 6) → (t = cdT (σ 21) (σ 22) m.toNat) → (v = cdW (σ 21) m.toNat) → SW X E Q 0 0 7 [some (vR 20), some (vL t), none, some (vL v), none, some (vI m)] [] σ := by
    intro n
    induction n with
    | zero => intro t v m hm; exact absurd hm (Nat.not_lt_zero _)
    | succ n ih7 =>
      intro t v m hm7 i7_0 i7_1 i7_2
      refine s_iload C dX2_total_7 rfl ?_
      refine s_bipush C dX2_total_9 (by decide) ?_
      refine s_icmp_ge (tgt := 44) C dX2_total_11 (by decide) (by omega) (by omega) (fun c11 => ?_) (fun c11 => ?_)
      · refine s_lload_n C dX2_total_44 rfl ?_
        refine s_lret C hR dX2_total_45 rfl ⟨_, rfl, ?_⟩ (by decide)
        refine ⟨rfl, ?_⟩
        rw [i7_1, show m.toNat = 6 by omega]
      · refine s_lload_n C dX2_total_14 rfl ?_
        refine s_aload_n C dX2_total_15 rfl ?_
        refine s_getR (c := 2) C fl_2_15 dX2_total_16 sh_20 rfl rf_20_1 ?_
        refine s_iload C dX2_total_19 rfl ?_
        refine s_iald C dX2_total_21 sh_22 (by omega) (fun g21 => ?_)
        refine s_i2l C dX2_total_22 (by omega) ?_
        refine s_lload_n C dX2_total_23 rfl ?_
        refine s_lmul C dX2_total_24 ?_
        refine s_ladd C dX2_total_25 ?_
        refine s_topL (fun x1_26 ex1_26 => ?_)
        refine s_lstore_n (ls2 := [some (vR 20), some (vL x1_26), none, some (vL v), none, some (vI m)]) C dX2_total_26 (by decide) rfl ?_
        refine s_lload_n C dX2_total_27 rfl ?_
        refine s_aload_n C dX2_total_28 rfl ?_
        refine s_getR (c := 2) C fl_2_9 dX2_total_29 sh_20 rfl rf_20_0 ?_
        refine s_iload C dX2_total_32 rfl ?_
        refine s_iald C dX2_total_34 sh_21 (by omega) (fun g34 => ?_)
        refine s_i2l C dX2_total_35 (by omega) ?_
        refine s_lmul C dX2_total_36 ?_
        refine s_topL (fun x3_37 ex3_37 => ?_)
        refine s_lstore_n (ls2 := [some (vR 20), some (vL x1_26), none, some (vL x3_37), none, some (vI m)]) C dX2_total_37 (by decide) rfl ?_
        obtain ⟨x5_38, ex5_38⟩ : ∃ y : Int, y = m + 1 := ⟨_, rfl⟩
        refine s_iinc (z2 := x5_38) (ls2 := [some (vR 20), some (vL x1_26), none, some (vL x3_37), none, some (vI x5_38)]) C dX2_total_38 (by decide) rfl ex5_38 rfl ?_
        refine s_goto (tgt := 7) C dX2_total_41 (by decide) ?_
        refine ih7 x1_26 x3_37 x5_38 (by omega) (by first | assumption | omega) ?_ ?_
        · rw [show x5_38.toNat = m.toNat + 1 by omega]
          show x1_26 = cdT (σ 21) (σ 22) m.toNat + σ 22 (m.toNat : Int) * cdW (σ 21) m.toNat
          rw [← i7_1, ← i7_2, show (m.toNat : Int) = m by omega]
          exact ex1_26
        · rw [show x5_38.toNat = m.toNat + 1 by omega]
          show x3_37 = cdW (σ 21) m.toNat * σ 21 (m.toNat : Int)
          rw [← i7_2, show (m.toNat : Int) = m by omega]
          exact ex3_37
  refine L7 _ 0 1 0 (Nat.lt_succ_self _) (by first | assumption | omega) ?_ ?_
  · rfl
  · rfl
set_option maxRecDepth 100000 in
set_option maxHeartbeats 8000000 in
theorem kX5_clear {E : sv_E} {σ : sv_G}  : CT E MX5_clear 1 [(vR 12)] σ (PV fun σ9 => (∀ i, 0 ≤ i → i < 256 → σ9 13 i = -1) ∧ ∀ b k, b ≠ 13 → σ9 b k = σ b k) := by
  refine CT.of (RX5, cX5_clear, 1, none, [], 1, 0, 0) rfl moX5_clear (Nat.le_of_ble_eq_true rfl) (ls0 := [some (vR 12)]) rfl ?_
  intro X Q C hR
  refine s_aload_n C dX5_clear_0 rfl ?_
  refine s_getR (c := 5) C fl_5_9 dX5_clear_1 sh_12 rfl rf_12_0 ?_
  refine s_iconst C dX5_clear_4 ?_
  refine s_cS2v C dX5_clear_5 lkX5_21 moJ7_fill_53178 mvJ7_fill_53178 (kJ7_fill_53178 (by exact sh_13) (by decide) (by decide)) (by decide) (Nat.le_of_ble_eq_true rfl) rfl (by decide) (fun σ_5 hp5 => ?_)
  refine s_vret C hR dX5_clear_8 rfl ⟨rfl, ?_⟩ (by decide)
  exact ⟨fun i h1 h2 => hp5.1 i h1 (by omega), hp5.2⟩
set_option maxRecDepth 100000 in
set_option maxHeartbeats 8000000 in
theorem kX5_put {E : sv_E} {σ : sv_G} {n x : Int} (hn : 0 ≤ n ∧ n ≤ 999) (hx : -2147483648 ≤ x ∧ x ≤ 2147483647) : CT E MX5_put 0 [(vR 12), (vI n), (vI x)] σ (PV fun σ9 => σ9 = up (up (up σ 15 n x) 14 n (σ 13 (landI x 255))) 13 (landI x 255) n) := by
  refine CT.of (RX5, cX5_put, 4, none, [], 0, 0, 0) rfl moX5_put (Nat.le_of_ble_eq_true rfl) (ls0 := [some (vR 12), some (vI n), some (vI x), none]) rfl ?_
  intro X Q C hR
  have hl := landI_255 x
  refine s_iload_n C dX5_put_0 rfl ?_
  refine s_sipush C dX5_put_1 (by decide) ?_
  refine s_iand C dX5_put_4 ?_
  refine s_topI (fun x3_5 ex3_5 => ?_)
  refine s_istore_n (ls2 := [some (vR 12), some (vI n), some (vI x), some (vI x3_5)]) C dX5_put_5 (by decide) rfl ?_
  refine s_iload_n C dX5_put_6 rfl ?_
  refine s_if_lt (tgt := 43) C dX5_put_7 (by decide) (by omega) (fun c7 => ?_) (fun c7 => ?_)
  · exfalso; omega -- done
  · refine s_iload_n C dX5_put_10 rfl ?_
    refine s_sipush C dX5_put_11 (by decide) ?_
    refine s_icmp_gt (tgt := 43) C dX5_put_14 (by decide) (by omega) (by omega) (fun c14 => ?_) (fun c14 => ?_)
    · exfalso; omega -- done
    · refine s_aload_n C dX5_put_17 rfl ?_
      refine s_getR (c := 5) C fl_5_18 dX5_put_18 sh_12 rfl rf_12_2 ?_
      refine s_iload_n C dX5_put_21 rfl ?_
      refine s_iload_n C dX5_put_22 rfl ?_
      refine s_iast C dX5_put_23 sh_15 (by omega) (by omega) ?_
      refine s_nameG (fun σ_23 hσ_23 => ?_)
      refine s_aload_n C dX5_put_24 rfl ?_
      refine s_getR (c := 5) C fl_5_15 dX5_put_25 sh_12 rfl rf_12_1 ?_
      refine s_iload_n C dX5_put_28 rfl ?_
      refine s_aload_n C dX5_put_29 rfl ?_
      refine s_getR (c := 5) C fl_5_9 dX5_put_30 sh_12 rfl rf_12_0 ?_
      refine s_iload_n C dX5_put_33 rfl ?_
      refine s_iald C dX5_put_34 sh_13 (by omega) (fun g34 => ?_)
      refine s_iast C dX5_put_35 sh_14 (by omega) (by omega) ?_
      refine s_nameG (fun σ_35 hσ_35 => ?_)
      refine s_aload_n C dX5_put_36 rfl ?_
      refine s_getR (c := 5) C fl_5_9 dX5_put_37 sh_12 rfl rf_12_0 ?_
      refine s_iload_n C dX5_put_40 rfl ?_
      refine s_iload_n C dX5_put_41 rfl ?_
      refine s_iast C dX5_put_42 sh_13 (by omega) (by omega) ?_
      refine s_nameG (fun σ_42 hσ_42 => ?_)
      refine s_vret C hR dX5_put_43 rfl ⟨rfl, ?_⟩ (by decide)
      subst hσ_23 hσ_35 ex3_5
      rw [hσ_42]
      rfl
set_option maxRecDepth 100000 in
set_option maxHeartbeats 8000000 in
theorem kX5_firstIn {E : sv_E} {σ : sv_G} {x : Int} : CT E MX5_firstIn 0 [(vR 12), (vI x)] σ (PI fun r σ9 => σ9 = σ ∧ r = σ 13 (landI x 255) ∧ -2147483648 ≤ r ∧ r ≤ 2147483647) := by
  refine CT.of (RX5, cX5_firstIn, 2, (some .int), [], 0, 0, 0) rfl moX5_firstIn (Nat.le_of_ble_eq_true rfl) (ls0 := [some (vR 12), some (vI x)]) rfl ?_
  intro X Q C hR
  have hl := landI_255 x
  refine s_aload_n C dX5_firstIn_0 rfl ?_
  refine s_getR (c := 5) C fl_5_9 dX5_firstIn_1 sh_12 rfl rf_12_0 ?_
  refine s_iload_n C dX5_firstIn_4 rfl ?_
  refine s_sipush C dX5_firstIn_5 (by decide) ?_
  refine s_iand C dX5_firstIn_8 ?_
  refine s_iald C dX5_firstIn_9 sh_13 (by omega) (fun g9 => ?_)
  refine s_iret C hR dX5_firstIn_10 rfl ⟨_, rfl, ?_⟩ (by decide)
  exact ⟨rfl, rfl, g9⟩
set_option maxRecDepth 100000 in
set_option maxHeartbeats 8000000 in
theorem kX5_behind {E : sv_E} {σ : sv_G} {n : Int} (hn : 0 ≤ n ∧ n ≤ 999) : CT E MX5_behind 0 [(vR 12), (vI n)] σ (PI fun r σ9 => σ9 = σ ∧ r = σ 14 n ∧ -2147483648 ≤ r ∧ r ≤ 2147483647) := by
  refine CT.of (RX5, cX5_behind, 2, (some .int), [], 0, 0, 0) rfl moX5_behind (Nat.le_of_ble_eq_true rfl) (ls0 := [some (vR 12), some (vI n)]) rfl ?_
  intro X Q C hR
  refine s_iload_n C dX5_behind_0 rfl ?_
  refine s_if_lt (tgt := 20) C dX5_behind_1 (by decide) (by omega) (fun c1 => ?_) (fun c1 => ?_)
  · exfalso; omega -- done
  · refine s_iload_n C dX5_behind_4 rfl ?_
    refine s_sipush C dX5_behind_5 (by decide) ?_
    refine s_icmp_gt (tgt := 20) C dX5_behind_8 (by decide) (by omega) (by omega) (fun c8 => ?_) (fun c8 => ?_)
    · exfalso; omega -- done
    · refine s_aload_n C dX5_behind_11 rfl ?_
      refine s_getR (c := 5) C fl_5_15 dX5_behind_12 sh_12 rfl rf_12_1 ?_
      refine s_iload_n C dX5_behind_15 rfl ?_
      refine s_iald C dX5_behind_16 sh_14 (by omega) (fun g16 => ?_)
      refine s_goto (tgt := 21) C dX5_behind_17 (by decide) ?_
      refine s_iret C hR dX5_behind_21 rfl ⟨_, rfl, ?_⟩ (by decide)
      exact ⟨rfl, rfl, g16⟩
set_option maxRecDepth 100000 in
set_option maxHeartbeats 8000000 in
theorem kX5_markOf {E : sv_E} {σ : sv_G} {n : Int} (hn : 0 ≤ n ∧ n ≤ 999) : CT E MX5_markOf 0 [(vR 12), (vI n)] σ (PI fun r σ9 => σ9 = σ ∧ r = σ 15 n ∧ -2147483648 ≤ r ∧ r ≤ 2147483647) := by
  refine CT.of (RX5, cX5_markOf, 2, (some .int), [], 0, 0, 0) rfl moX5_markOf (Nat.le_of_ble_eq_true rfl) (ls0 := [some (vR 12), some (vI n)]) rfl ?_
  intro X Q C hR
  refine s_iload_n C dX5_markOf_0 rfl ?_
  refine s_if_lt (tgt := 20) C dX5_markOf_1 (by decide) (by omega) (fun c1 => ?_) (fun c1 => ?_)
  · exfalso; omega -- done
  · refine s_iload_n C dX5_markOf_4 rfl ?_
    refine s_sipush C dX5_markOf_5 (by decide) ?_
    refine s_icmp_gt (tgt := 20) C dX5_markOf_8 (by decide) (by omega) (by omega) (fun c8 => ?_) (fun c8 => ?_)
    · exfalso; omega -- done
    · refine s_aload_n C dX5_markOf_11 rfl ?_
      refine s_getR (c := 5) C fl_5_18 dX5_markOf_12 sh_12 rfl rf_12_2 ?_
      refine s_iload_n C dX5_markOf_15 rfl ?_
      refine s_iald C dX5_markOf_16 sh_15 (by omega) (fun g16 => ?_)
      refine s_goto (tgt := 21) C dX5_markOf_17 (by decide) ?_
      refine s_iret C hR dX5_markOf_21 rfl ⟨_, rfl, ?_⟩ (by decide)
      exact ⟨rfl, rfl, g16⟩
