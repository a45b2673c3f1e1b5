/-! One instruction a row, over abstract values. -/
theorem sn_ofI {z : Int} (h : -2147483648 ≤ z ∧ z ≤ 2147483647) : (Int32.ofInt z).toInt = z := Int32.toInt_ofInt_of_le (by omega) (by omega)
theorem sn_ofL {z : Int} (h : -9223372036854775808 ≤ z ∧ z ≤ 9223372036854775807) : (Int64.ofInt z).toInt = z := Int64.toInt_ofInt_of_le (by omega) (by omega)
theorem sn_lt {x y : Int} (hx : -2147483648 ≤ x ∧ x ≤ 2147483647) (hy : -2147483648 ≤ y ∧ y ≤ 2147483647) : Int32.ofInt x < Int32.ofInt y ↔ x < y := by rw [Int32.lt_iff_toInt_lt, sn_ofI hx, sn_ofI hy]
theorem sn_le {x y : Int} (hx : -2147483648 ≤ x ∧ x ≤ 2147483647) (hy : -2147483648 ≤ y ∧ y ≤ 2147483647) : Int32.ofInt x ≤ Int32.ofInt y ↔ x ≤ y := by rw [Int32.le_iff_toInt_le, sn_ofI hx, sn_ofI hy]
theorem sn_eq {x y : Int} (hx : -2147483648 ≤ x ∧ x ≤ 2147483647) (hy : -2147483648 ≤ y ∧ y ≤ 2147483647) : Int32.ofInt x = Int32.ofInt y ↔ x = y := by rw [← Int32.toInt_inj, sn_ofI hx, sn_ofI hy]
theorem sn_0 : Int32.ofInt 0 = 0 := rfl
theorem sn_inj {x y : Int} (hx : -9223372036854775808 ≤ x ∧ x ≤ 9223372036854775807) (hy : -9223372036854775808 ≤ y ∧ y ≤ 9223372036854775807) : Int64.ofInt x = Int64.ofInt y ↔ x = y := by rw [← Int64.toInt_inj, sn_ofL hx, sn_ofL hy]
theorem sn_div {x y : Int} (hx : 0 ≤ x ∧ x ≤ 2147483647) (hy : 0 < y ∧ y ≤ 2147483647) : Int32.ofInt x / Int32.ofInt y = Int32.ofInt (x / y) := by
  rw [← Int.tdiv_eq_ediv_of_nonneg hx.1]
  exact (Int32.ofInt_tdiv (by show (-2147483648 : Int) ≤ x; omega) (by show x ≤ (2147483647 : Int); omega) (by show (-2147483648 : Int) ≤ y; omega) (by show y ≤ (2147483647 : Int); omega)).symm
theorem sn_ne0 {y : Int} (hy : 0 < y ∧ y ≤ 2147483647) : ¬ Int32.ofInt y = 0 := by
  rw [← sn_0, sn_eq (by omega) (by omega)]; omega
theorem sn_rem {x y : Int} (hx : 0 ≤ x ∧ x ≤ 2147483647) (hy : 0 < y ∧ y ≤ 2147483647) : Int32.ofInt x - Int32.ofInt x / Int32.ofInt y * Int32.ofInt y = Int32.ofInt (x % y) := by
  rw [sn_div hx hy, ← Int32.ofInt_mul, ← Int32.ofInt_sub, Int.emod_def, Int.mul_comm]
theorem sn_divL {x y : Int} (hx : -9223372036854775808 ≤ x ∧ x ≤ 9223372036854775807) (hy : 0 < y ∧ y ≤ 9223372036854775807) : Int64.ofInt x / Int64.ofInt y = Int64.ofInt (x.tdiv y) :=
  (Int64.ofInt_tdiv (by show (-9223372036854775808 : Int) ≤ x; omega) (by show x ≤ (9223372036854775807 : Int); omega) (by show (-9223372036854775808 : Int) ≤ y; omega) (by show y ≤ (9223372036854775807 : Int); omega)).symm
theorem sn_ne0L {y : Int} (hy : 0 < y ∧ y ≤ 9223372036854775807) : ¬ Int64.ofInt y = 0 := by
  rw [show (0 : Int64) = Int64.ofInt 0 from rfl, sn_inj (by omega) (by omega)]; omega
theorem sn_remL {x y : Int} (hx : -9223372036854775808 ≤ x ∧ x ≤ 9223372036854775807) (hy : 0 < y ∧ y ≤ 9223372036854775807) : Int64.ofInt x - Int64.ofInt x / Int64.ofInt y * Int64.ofInt y = Int64.ofInt (x.tmod y) := by
  rw [sn_divL hx hy, ← Int64.ofInt_mul, ← Int64.ofInt_sub, Int.tmod_def, Int.mul_comm]
def landI (x y : Int) : Int := (Int32.ofInt x &&& Int32.ofInt y).toInt
def landL (x y : Int) : Int := (Int64.ofInt x &&& Int64.ofInt y).toInt
def lorL (x y : Int) : Int := (Int64.ofInt x ||| Int64.ofInt y).toInt
def shlL (x y : Int) : Int := (Int64.ofInt x <<< ((Int32.ofInt y).toInt64 &&& 63)).toInt
def shrL (x y : Int) : Int := (Int64.ofInt x >>> ((Int32.ofInt y).toInt64 &&& 63)).toInt
def cmpL (x y : Int) : Int := if x > y then 1 else if x = y then 0 else -1
theorem sn_i2l {x : Int} (hx : -2147483648 ≤ x ∧ x ≤ 2147483647) : (Int32.ofInt x).toInt64 = Int64.ofInt x := Int32.toInt64_ofInt (by show (-2147483648 : Int) ≤ x; omega) (by show x ≤ (2147483647 : Int); omega)
theorem sn_cmp {x y : Int} (hx : -9223372036854775808 ≤ x ∧ x ≤ 9223372036854775807) (hy : -9223372036854775808 ≤ y ∧ y ≤ 9223372036854775807) : lg_cmp (Int64.ofInt x) (Int64.ofInt y) = Int32.ofInt (cmpL x y) := by
  unfold lg_cmp cmpL
  simp only [gt_iff_lt, Int64.lt_iff_toInt_lt, sn_inj hx hy, sn_ofL hx, sn_ofL hy]
  split
  · rfl
  · split <;> rfl
def sv_isR : sv_V → Bool
  | .inr (.inr _) => true
  | _ => false
def sv_c1 : sv_V → Bool
  | .inr (.inl _) => false
  | _ => true
theorem sv_c1_cat {E : sv_E} {v : sv_V} (h : sv_c1 v = true) : (cv E v).category = 1 := by
  match v, h with
  | .inl _, _ => rfl
  | .inr (.inr (.inl _)), _ => rfl
  | .inr (.inr (.inr false)), _ => rfl
  | .inr (.inr (.inr true)), _ => rfl

theorem s_iconst {X : sx_T} {E : sv_E} {D : sd_T} {Q : State → Prop} {u w pc : Nat} {ls : List (Option sv_V)} {st : List sv_V} {σ : sv_G} {n : Int} (C : sx_ok X E D) (hd : decode D.2.1 pc = .ok (.iconst n, 1))  (kk : SW X E Q u w (pc + 1) ls (vI n :: st) σ) : SW X E Q u w pc ls (st) σ := by
  obtain ⟨p, l, e, R, s, m, args, below, meth, c⟩ := X
  obtain ⟨own, cc, nL, rt, tb, k, mc, ms⟩ := D
  obtain ⟨hx, hb, hnl, -⟩ := C
  intro H locs lsA hR hL
  have kk := kk H locs lsA hR hL
  refine lv_iconst hx hb hd rfl ?_
  exact kk
theorem s_bipush {X : sx_T} {E : sv_E} {D : sd_T} {Q : State → Prop} {u w pc : Nat} {ls : List (Option sv_V)} {st : List sv_V} {σ : sv_G} {n : Int} (C : sx_ok X E D) (hd : decode D.2.1 pc = .ok (.bipush n, 2)) (hn : -128 ≤ n ∧ n ≤ 127) (kk : SW X E Q u w (pc + 2) ls (vI n :: st) σ) : SW X E Q u w pc ls (st) σ := by
  obtain ⟨p, l, e, R, s, m, args, below, meth, c⟩ := X
  obtain ⟨own, cc, nL, rt, tb, k, mc, ms⟩ := D
  obtain ⟨hx, hb, hnl, -⟩ := C
  intro H locs lsA hR hL
  have kk := kk H locs lsA hR hL
  refine lv_bipush hx hb hd (Int8.toInt32_ofInt (by show (-128 : Int) ≤ n; omega) (by show n ≤ (127 : Int); omega)) ?_
  exact kk
theorem s_sipush {X : sx_T} {E : sv_E} {D : sd_T} {Q : State → Prop} {u w pc : Nat} {ls : List (Option sv_V)} {st : List sv_V} {σ : sv_G} {n : Int} (C : sx_ok X E D) (hd : decode D.2.1 pc = .ok (.sipush n, 3)) (hn : -32768 ≤ n ∧ n ≤ 32767) (kk : SW X E Q u w (pc + 3) ls (vI n :: st) σ) : SW X E Q u w pc ls (st) σ := by
  obtain ⟨p, l, e, R, s, m, args, below, meth, c⟩ := X
  obtain ⟨own, cc, nL, rt, tb, k, mc, ms⟩ := D
  obtain ⟨hx, hb, hnl, -⟩ := C
  intro H locs lsA hR hL
  have kk := kk H locs lsA hR hL
  refine lv_sipush hx hb hd (Int16.toInt32_ofInt (by show (-32768 : Int) ≤ n; omega) (by show n ≤ (32767 : Int); omega)) ?_
  exact kk
theorem s_lconst {X : sx_T} {E : sv_E} {D : sd_T} {Q : State → Prop} {u w pc : Nat} {ls : List (Option sv_V)} {st : List sv_V} {σ : sv_G} {n : Fin 2} (C : sx_ok X E D) (hd : decode D.2.1 pc = .ok (.lconst n, 1))  (kk : SW X E Q u w (pc + 1) ls (vL (n : Nat) :: st) σ) : SW X E Q u w pc ls (st) σ := by
  obtain ⟨p, l, e, R, s, m, args, below, meth, c⟩ := X
  obtain ⟨own, cc, nL, rt, tb, k, mc, ms⟩ := D
  obtain ⟨hx, hb, hnl, -⟩ := C
  intro H locs lsA hR hL
  have kk := kk H locs lsA hR hL
  refine lv_lconst hx hb hd (Int64.ofInt_eq_ofNat (n := (n : Nat))).symm ?_
  exact kk
theorem s_iload_n {X : sx_T} {E : sv_E} {D : sd_T} {Q : State → Prop} {u w pc : Nat} {ls : List (Option sv_V)} {st : List sv_V} {σ : sv_G} {j : Fin 4} {z : Int} (C : sx_ok X E D) (hd : decode D.2.1 pc = .ok (.iload_n j, 1)) (hl : ls[(j : Nat)]? = some (some (vI z))) (kk : SW X E Q u w (pc + 1) ls (vI z :: st) σ) : SW X E Q u w pc ls (st) σ := by
  obtain ⟨p, l, e, R, s, m, args, below, meth, c⟩ := X
  obtain ⟨own, cc, nL, rt, tb, k, mc, ms⟩ := D
  obtain ⟨hx, hb, hnl, -⟩ := C
  intro H locs lsA hR hL
  have kk := kk H locs lsA hR hL
  refine lv_iload_n hx hb hd rfl (hL.2.2 _ _ hl) ?_
  exact kk
theorem s_iload {X : sx_T} {E : sv_E} {D : sd_T} {Q : State → Prop} {u w pc : Nat} {ls : List (Option sv_V)} {st : List sv_V} {σ : sv_G} {j : Nat} {z : Int} (C : sx_ok X E D) (hd : decode D.2.1 pc = .ok (.iload j, 2)) (hl : ls[j]? = some (some (vI z))) (kk : SW X E Q u w (pc + 2) ls (vI z :: st) σ) : SW X E Q u w pc ls (st) σ := by
  obtain ⟨p, l, e, R, s, m, args, below, meth, c⟩ := X
  obtain ⟨own, cc, nL, rt, tb, k, mc, ms⟩ := D
  obtain ⟨hx, hb, hnl, -⟩ := C
  intro H locs lsA hR hL
  have kk := kk H locs lsA hR hL
  refine lv_iload hx hb hd (hL.2.2 _ _ hl) ?_
  exact kk
theorem s_lload_n {X : sx_T} {E : sv_E} {D : sd_T} {Q : State → Prop} {u w pc : Nat} {ls : List (Option sv_V)} {st : List sv_V} {σ : sv_G} {j : Fin 4} {z : Int} (C : sx_ok X E D) (hd : decode D.2.1 pc = .ok (.lload_n j, 1)) (hl : ls[(j : Nat)]? = some (some (vL z))) (kk : SW X E Q u w (pc + 1) ls (vL z :: st) σ) : SW X E Q u w pc ls (st) σ := by
  obtain ⟨p, l, e, R, s, m, args, below, meth, c⟩ := X
  obtain ⟨own, cc, nL, rt, tb, k, mc, ms⟩ := D
  obtain ⟨hx, hb, hnl, -⟩ := C
  intro H locs lsA hR hL
  have kk := kk H locs lsA hR hL
  refine lv_lload_n hx hb hd rfl (hL.2.2 _ _ hl) ?_
  exact kk
theorem s_lload {X : sx_T} {E : sv_E} {D : sd_T} {Q : State → Prop} {u w pc : Nat} {ls : List (Option sv_V)} {st : List sv_V} {σ : sv_G} {j : Nat} {z : Int} (C : sx_ok X E D) (hd : decode D.2.1 pc = .ok (.lload j, 2)) (hl : ls[j]? = some (some (vL z))) (kk : SW X E Q u w (pc + 2) ls (vL z :: st) σ) : SW X E Q u w pc ls (st) σ := by
  obtain ⟨p, l, e, R, s, m, args, below, meth, c⟩ := X
  obtain ⟨own, cc, nL, rt, tb, k, mc, ms⟩ := D
  obtain ⟨hx, hb, hnl, -⟩ := C
  intro H locs lsA hR hL
  have kk := kk H locs lsA hR hL
  refine lv_lload hx hb hd (hL.2.2 _ _ hl) ?_
  exact kk
theorem s_aload_n {X : sx_T} {E : sv_E} {D : sd_T} {Q : State → Prop} {u w pc : Nat} {ls : List (Option sv_V)} {st : List sv_V} {σ : sv_G} {j : Fin 4} {z : Nat} (C : sx_ok X E D) (hd : decode D.2.1 pc = .ok (.aload_n j, 1)) (hl : ls[(j : Nat)]? = some (some (vR z))) (kk : SW X E Q u w (pc + 1) ls (vR z :: st) σ) : SW X E Q u w pc ls (st) σ := by
  obtain ⟨p, l, e, R, s, m, args, below, meth, c⟩ := X
  obtain ⟨own, cc, nL, rt, tb, k, mc, ms⟩ := D
  obtain ⟨hx, hb, hnl, -⟩ := C
  intro H locs lsA hR hL
  have kk := kk H locs lsA hR hL
  refine lv_aload_n hx hb hd rfl (hL.2.2 _ _ hl) ?_
  exact kk
theorem s_aload {X : sx_T} {E : sv_E} {D : sd_T} {Q : State → Prop} {u w pc : Nat} {ls : List (Option sv_V)} {st : List sv_V} {σ : sv_G} {j : Nat} {z : Nat} (C : sx_ok X E D) (hd : decode D.2.1 pc = .ok (.aload j, 2)) (hl : ls[j]? = some (some (vR z))) (kk : SW X E Q u w (pc + 2) ls (vR z :: st) σ) : SW X E Q u w pc ls (st) σ := by
  obtain ⟨p, l, e, R, s, m, args, below, meth, c⟩ := X
  obtain ⟨own, cc, nL, rt, tb, k, mc, ms⟩ := D
  obtain ⟨hx, hb, hnl, -⟩ := C
  intro H locs lsA hR hL
  have kk := kk H locs lsA hR hL
  refine lv_aload hx hb hd (hL.2.2 _ _ hl) ?_
  exact kk
theorem s_aloadS_n {X : sx_T} {E : sv_E} {D : sd_T} {Q : State → Prop} {u w pc : Nat} {ls : List (Option sv_V)} {st : List sv_V} {σ : sv_G} {j : Fin 4} (C : sx_ok X E D) (hd : decode D.2.1 pc = .ok (.aload_n j, 1)) (hl : ls[(j : Nat)]? = some (some (vS))) (kk : SW X E Q u w (pc + 1) ls (vS :: st) σ) : SW X E Q u w pc ls (st) σ := by
  obtain ⟨p, l, e, R, s, m, args, below, meth, c⟩ := X
  obtain ⟨own, cc, nL, rt, tb, k, mc, ms⟩ := D
  obtain ⟨hx, hb, hnl, -⟩ := C
  intro H locs lsA hR hL
  have kk := kk H locs lsA hR hL
  refine lv_aload_n hx hb hd rfl (hL.2.2 _ _ hl) ?_
  exact kk
theorem s_aloadN_n {X : sx_T} {E : sv_E} {D : sd_T} {Q : State → Prop} {u w pc : Nat} {ls : List (Option sv_V)} {st : List sv_V} {σ : sv_G} {j : Fin 4} (C : sx_ok X E D) (hd : decode D.2.1 pc = .ok (.aload_n j, 1)) (hl : ls[(j : Nat)]? = some (some (vN))) (kk : SW X E Q u w (pc + 1) ls (vN :: st) σ) : SW X E Q u w pc ls (st) σ := by
  obtain ⟨p, l, e, R, s, m, args, below, meth, c⟩ := X
  obtain ⟨own, cc, nL, rt, tb, k, mc, ms⟩ := D
  obtain ⟨hx, hb, hnl, -⟩ := C
  intro H locs lsA hR hL
  have kk := kk H locs lsA hR hL
  refine lv_aload_nN hx hb hd rfl (hL.2.2 _ _ hl) ?_
  exact kk
theorem s_aloadN {X : sx_T} {E : sv_E} {D : sd_T} {Q : State → Prop} {u w pc : Nat} {ls : List (Option sv_V)} {st : List sv_V} {σ : sv_G} {j : Nat} (C : sx_ok X E D) (hd : decode D.2.1 pc = .ok (.aload j, 2)) (hl : ls[j]? = some (some (vN))) (kk : SW X E Q u w (pc + 2) ls (vN :: st) σ) : SW X E Q u w pc ls (st) σ := by
  obtain ⟨p, l, e, R, s, m, args, below, meth, c⟩ := X
  obtain ⟨own, cc, nL, rt, tb, k, mc, ms⟩ := D
  obtain ⟨hx, hb, hnl, -⟩ := C
  intro H locs lsA hR hL
  have kk := kk H locs lsA hR hL
  refine lv_aloadN hx hb hd (hL.2.2 _ _ hl) ?_
  exact kk
theorem s_istore_n {X : sx_T} {E : sv_E} {D : sd_T} {Q : State → Prop} {u w pc : Nat} {ls : List (Option sv_V)} {st : List sv_V} {σ : sv_G} {j : Fin 4} {z : Int} {ls2 : List (Option sv_V)} (C : sx_ok X E D) (hd : decode D.2.1 pc = .ok (.istore_n j, 1)) (hn : (j : Nat) < D.2.2.1) (hl : sv_st1 ls (j : Nat) (some (vI z)) = ls2) (kk : SW X E Q u w (pc + 1) ls2 st σ) : SW X E Q u w pc ls (vI z :: st) σ := by
  obtain ⟨p, l, e, R, s, m, args, below, meth, c⟩ := X
  obtain ⟨own, cc, nL, rt, tb, k, mc, ms⟩ := D
  obtain ⟨hx, hb, hnl, -⟩ := C
  intro H locs lsA hR hL
  subst hl
  refine lv_istore_n hx hb hd rfl hL.has (by rw [hnl]; exact hn) rfl (fun ls9 h9 => ?_)
  exact kk H locs ls9 hR (sv_L.st1 (fun v hv => by cases hv; rfl) h9)
theorem s_istore {X : sx_T} {E : sv_E} {D : sd_T} {Q : State → Prop} {u w pc : Nat} {ls : List (Option sv_V)} {st : List sv_V} {σ : sv_G} {j : Nat} {z : Int} {ls2 : List (Option sv_V)} (C : sx_ok X E D) (hd : decode D.2.1 pc = .ok (.istore j, 2)) (hn : j < D.2.2.1) (hl : sv_st1 ls j (some (vI z)) = ls2) (kk : SW X E Q u w (pc + 2) ls2 st σ) : SW X E Q u w pc ls (vI z :: st) σ := by
  obtain ⟨p, l, e, R, s, m, args, below, meth, c⟩ := X
  obtain ⟨own, cc, nL, rt, tb, k, mc, ms⟩ := D
  obtain ⟨hx, hb, hnl, -⟩ := C
  intro H locs lsA hR hL
  subst hl
  refine lv_istore hx hb hd hL.has (by rw [hnl]; exact hn) rfl (fun ls9 h9 => ?_)
  exact kk H locs ls9 hR (sv_L.st1 (fun v hv => by cases hv; rfl) h9)
theorem s_lstore_n {X : sx_T} {E : sv_E} {D : sd_T} {Q : State → Prop} {u w pc : Nat} {ls : List (Option sv_V)} {st : List sv_V} {σ : sv_G} {j : Fin 4} {z : Int} {ls2 : List (Option sv_V)} (C : sx_ok X E D) (hd : decode D.2.1 pc = .ok (.lstore_n j, 1)) (hn : (j : Nat) + 1 < D.2.2.1) (hl : sv_st2 ls (j : Nat) (some (vL z)) = ls2) (kk : SW X E Q u w (pc + 1) ls2 st σ) : SW X E Q u w pc ls (vL z :: st) σ := by
  obtain ⟨p, l, e, R, s, m, args, below, meth, c⟩ := X
  obtain ⟨own, cc, nL, rt, tb, k, mc, ms⟩ := D
  obtain ⟨hx, hb, hnl, -⟩ := C
  intro H locs lsA hR hL
  subst hl
  refine lv_lstore_n hx hb hd rfl hL.has (by rw [hnl]; exact hn) rfl (fun ls9 h9 => ?_)
  exact kk H locs ls9 hR (sv_L.st2 (fun v hv => by cases hv; rfl) h9)
theorem s_lstore {X : sx_T} {E : sv_E} {D : sd_T} {Q : State → Prop} {u w pc : Nat} {ls : List (Option sv_V)} {st : List sv_V} {σ : sv_G} {j : Nat} {z : Int} {ls2 : List (Option sv_V)} (C : sx_ok X E D) (hd : decode D.2.1 pc = .ok (.lstore j, 2)) (hn : j + 1 < D.2.2.1) (hl : sv_st2 ls j (some (vL z)) = ls2) (kk : SW X E Q u w (pc + 2) ls2 st σ) : SW X E Q u w pc ls (vL z :: st) σ := by
  obtain ⟨p, l, e, R, s, m, args, below, meth, c⟩ := X
  obtain ⟨own, cc, nL, rt, tb, k, mc, ms⟩ := D
  obtain ⟨hx, hb, hnl, -⟩ := C
  intro H locs lsA hR hL
  subst hl
  refine lv_lstore hx hb hd hL.has (by rw [hnl]; exact hn) rfl (fun ls9 h9 => ?_)
  exact kk H locs ls9 hR (sv_L.st2 (fun v hv => by cases hv; rfl) h9)
theorem s_astore_n {X : sx_T} {E : sv_E} {D : sd_T} {Q : State → Prop} {u w pc : Nat} {ls : List (Option sv_V)} {st : List sv_V} {σ : sv_G} {j : Fin 4} {z : Nat} {ls2 : List (Option sv_V)} (C : sx_ok X E D) (hd : decode D.2.1 pc = .ok (.astore_n j, 1)) (hn : (j : Nat) < D.2.2.1) (hl : sv_st1 ls (j : Nat) (some (vR z)) = ls2) (kk : SW X E Q u w (pc + 1) ls2 st σ) : SW X E Q u w pc ls (vR z :: st) σ := by
  obtain ⟨p, l, e, R, s, m, args, below, meth, c⟩ := X
  obtain ⟨own, cc, nL, rt, tb, k, mc, ms⟩ := D
  obtain ⟨hx, hb, hnl, -⟩ := C
  intro H locs lsA hR hL
  subst hl
  refine lv_astore_n hx hb hd rfl hL.has (by rw [hnl]; exact hn) rfl (fun ls9 h9 => ?_)
  exact kk H locs ls9 hR (sv_L.st1 (fun v hv => by cases hv; rfl) h9)
theorem s_astore {X : sx_T} {E : sv_E} {D : sd_T} {Q : State → Prop} {u w pc : Nat} {ls : List (Option sv_V)} {st : List sv_V} {σ : sv_G} {j : Nat} {z : Nat} {ls2 : List (Option sv_V)} (C : sx_ok X E D) (hd : decode D.2.1 pc = .ok (.astore j, 2)) (hn : j < D.2.2.1) (hl : sv_st1 ls j (some (vR z)) = ls2) (kk : SW X E Q u w (pc + 2) ls2 st σ) : SW X E Q u w pc ls (vR z :: st) σ := by
  obtain ⟨p, l, e, R, s, m, args, below, meth, c⟩ := X
  obtain ⟨own, cc, nL, rt, tb, k, mc, ms⟩ := D
  obtain ⟨hx, hb, hnl, -⟩ := C
  intro H locs lsA hR hL
  subst hl
  refine lv_astore hx hb hd hL.has (by rw [hnl]; exact hn) rfl (fun ls9 h9 => ?_)
  exact kk H locs ls9 hR (sv_L.st1 (fun v hv => by cases hv; rfl) h9)
theorem s_astoreN_n {X : sx_T} {E : sv_E} {D : sd_T} {Q : State → Prop} {u w pc : Nat} {ls : List (Option sv_V)} {st : List sv_V} {σ : sv_G} {j : Fin 4} {ls2 : List (Option sv_V)} (C : sx_ok X E D) (hd : decode D.2.1 pc = .ok (.astore_n j, 1)) (hn : (j : Nat) < D.2.2.1) (hl : sv_st1 ls (j : Nat) (some (vN)) = ls2) (kk : SW X E Q u w (pc + 1) ls2 st σ) : SW X E Q u w pc ls (vN :: st) σ := by
  obtain ⟨p, l, e, R, s, m, args, below, meth, c⟩ := X
  obtain ⟨own, cc, nL, rt, tb, k, mc, ms⟩ := D
  obtain ⟨hx, hb, hnl, -⟩ := C
  intro H locs lsA hR hL
  subst hl
  refine lv_astore_nN hx hb hd rfl hL.has (by rw [hnl]; exact hn) rfl (fun ls9 h9 => ?_)
  exact kk H locs ls9 hR (sv_L.st1 (fun v hv => by cases hv; rfl) h9)
theorem s_astoreN {X : sx_T} {E : sv_E} {D : sd_T} {Q : State → Prop} {u w pc : Nat} {ls : List (Option sv_V)} {st : List sv_V} {σ : sv_G} {j : Nat} {ls2 : List (Option sv_V)} (C : sx_ok X E D) (hd : decode D.2.1 pc = .ok (.astore j, 2)) (hn : j < D.2.2.1) (hl : sv_st1 ls j (some (vN)) = ls2) (kk : SW X E Q u w (pc + 2) ls2 st σ) : SW X E Q u w pc ls (vN :: st) σ := by
  obtain ⟨p, l, e, R, s, m, args, below, meth, c⟩ := X
  obtain ⟨own, cc, nL, rt, tb, k, mc, ms⟩ := D
  obtain ⟨hx, hb, hnl, -⟩ := C
  intro H locs lsA hR hL
  subst hl
  refine lv_astoreN hx hb hd hL.has (by rw [hnl]; exact hn) rfl (fun ls9 h9 => ?_)
  exact kk H locs ls9 hR (sv_L.st1 (fun v hv => by cases hv; rfl) h9)
theorem s_iinc {X : sx_T} {E : sv_E} {D : sd_T} {Q : State → Prop} {u w pc : Nat} {ls : List (Option sv_V)} {st : List sv_V} {σ : sv_G} {j : Nat} {n z z2 : Int} {ls2 : List (Option sv_V)} (C : sx_ok X E D) (hd : decode D.2.1 pc = .ok (.iinc j n, 3)) (hn : j < D.2.2.1) (hz : ls[j]? = some (some (vI z))) (hz2 : z2 = z + n) (hl : sv_st1 ls j (some (vI z2)) = ls2) (kk : SW X E Q u w (pc + 3) ls2 st σ) : SW X E Q u w pc ls st σ := by
  obtain ⟨p, l, e, R, s, m, args, below, meth, c⟩ := X
  obtain ⟨own, cc, nL, rt, tb, k, mc, ms⟩ := D
  obtain ⟨hx, hb, hnl, -⟩ := C
  intro H locs lsA hR hL
  subst hl
  subst hz2
  obtain ⟨i9, h9⟩ := List.getElem?_of_mem (sv_pr_in.mpr ⟨_, hz, rfl⟩ : (j, cv E (vI z)) ∈ sv_pr E ls)
  refine lv_iinc (v := Int32.ofInt (z + n)) hx hb hd hL.has h9 (Int32.ofInt_add z n).symm (by rw [hnl]; exact hn) rfl (fun ls9 h9 => ?_)
  exact kk H locs ls9 hR (sv_L.st1 (fun v hv => by cases hv; rfl) h9)
theorem s_iadd {X : sx_T} {E : sv_E} {D : sd_T} {Q : State → Prop} {u w pc : Nat} {ls : List (Option sv_V)} {st : List sv_V} {σ : sv_G} {x y : Int} (C : sx_ok X E D) (hd : decode D.2.1 pc = .ok (.iadd, 1))  (kk : SW X E Q u w (pc + 1) ls (vI (x + y) :: st) σ) : SW X E Q u w pc ls (vI y :: vI x :: st) σ := by
  obtain ⟨p, l, e, R, s, m, args, below, meth, c⟩ := X
  obtain ⟨own, cc, nL, rt, tb, k, mc, ms⟩ := D
  obtain ⟨hx, hb, hnl, -⟩ := C
  intro H locs lsA hR hL
  have kk := kk H locs lsA hR hL
  refine lv_iadd hx hb hd  ?_
  rw [← Int32.ofInt_add]; exact kk
theorem s_isub {X : sx_T} {E : sv_E} {D : sd_T} {Q : State → Prop} {u w pc : Nat} {ls : List (Option sv_V)} {st : List sv_V} {σ : sv_G} {x y : Int} (C : sx_ok X E D) (hd : decode D.2.1 pc = .ok (.isub, 1))  (kk : SW X E Q u w (pc + 1) ls (vI (x - y) :: st) σ) : SW X E Q u w pc ls (vI y :: vI x :: st) σ := by
  obtain ⟨p, l, e, R, s, m, args, below, meth, c⟩ := X
  obtain ⟨own, cc, nL, rt, tb, k, mc, ms⟩ := D
  obtain ⟨hx, hb, hnl, -⟩ := C
  intro H locs lsA hR hL
  have kk := kk H locs lsA hR hL
  refine lv_isub hx hb hd  ?_
  rw [← Int32.ofInt_sub]; exact kk
theorem s_imul {X : sx_T} {E : sv_E} {D : sd_T} {Q : State → Prop} {u w pc : Nat} {ls : List (Option sv_V)} {st : List sv_V} {σ : sv_G} {x y : Int} (C : sx_ok X E D) (hd : decode D.2.1 pc = .ok (.imul, 1))  (kk : SW X E Q u w (pc + 1) ls (vI (x * y) :: st) σ) : SW X E Q u w pc ls (vI y :: vI x :: st) σ := by
  obtain ⟨p, l, e, R, s, m, args, below, meth, c⟩ := X
  obtain ⟨own, cc, nL, rt, tb, k, mc, ms⟩ := D
  obtain ⟨hx, hb, hnl, -⟩ := C
  intro H locs lsA hR hL
  have kk := kk H locs lsA hR hL
  refine lv_imul hx hb hd  ?_
  rw [← Int32.ofInt_mul]; exact kk
theorem s_ladd {X : sx_T} {E : sv_E} {D : sd_T} {Q : State → Prop} {u w pc : Nat} {ls : List (Option sv_V)} {st : List sv_V} {σ : sv_G} {x y : Int} (C : sx_ok X E D) (hd : decode D.2.1 pc = .ok (.ladd, 1))  (kk : SW X E Q u w (pc + 1) ls (vL (x + y) :: st) σ) : SW X E Q u w pc ls (vL y :: vL x :: st) σ := by
  obtain ⟨p, l, e, R, s, m, args, below, meth, c⟩ := X
  obtain ⟨own, cc, nL, rt, tb, k, mc, ms⟩ := D
  obtain ⟨hx, hb, hnl, -⟩ := C
  intro H locs lsA hR hL
  have kk := kk H locs lsA hR hL
  refine lv_ladd hx hb hd  ?_
  rw [← Int64.ofInt_add]; exact kk
theorem s_lsub {X : sx_T} {E : sv_E} {D : sd_T} {Q : State → Prop} {u w pc : Nat} {ls : List (Option sv_V)} {st : List sv_V} {σ : sv_G} {x y : Int} (C : sx_ok X E D) (hd : decode D.2.1 pc = .ok (.lsub, 1))  (kk : SW X E Q u w (pc + 1) ls (vL (x - y) :: st) σ) : SW X E Q u w pc ls (vL y :: vL x :: st) σ := by
  obtain ⟨p, l, e, R, s, m, args, below, meth, c⟩ := X
  obtain ⟨own, cc, nL, rt, tb, k, mc, ms⟩ := D
  obtain ⟨hx, hb, hnl, -⟩ := C
  intro H locs lsA hR hL
  have kk := kk H locs lsA hR hL
  refine lv_lsub hx hb hd  ?_
  rw [← Int64.ofInt_sub]; exact kk
theorem s_lmul {X : sx_T} {E : sv_E} {D : sd_T} {Q : State → Prop} {u w pc : Nat} {ls : List (Option sv_V)} {st : List sv_V} {σ : sv_G} {x y : Int} (C : sx_ok X E D) (hd : decode D.2.1 pc = .ok (.lmul, 1))  (kk : SW X E Q u w (pc + 1) ls (vL (x * y) :: st) σ) : SW X E Q u w pc ls (vL y :: vL x :: st) σ := by
  obtain ⟨p, l, e, R, s, m, args, below, meth, c⟩ := X
  obtain ⟨own, cc, nL, rt, tb, k, mc, ms⟩ := D
  obtain ⟨hx, hb, hnl, -⟩ := C
  intro H locs lsA hR hL
  have kk := kk H locs lsA hR hL
  refine lv_lmul hx hb hd  ?_
  rw [← Int64.ofInt_mul]; exact kk
theorem s_idiv {X : sx_T} {E : sv_E} {D : sd_T} {Q : State → Prop} {u w pc : Nat} {ls : List (Option sv_V)} {st : List sv_V} {σ : sv_G} {x y : Int} (C : sx_ok X E D) (hd : decode D.2.1 pc = .ok (.idiv, 1)) (hx9 : 0 ≤ x ∧ x ≤ 2147483647) (hy9 : 0 < y ∧ y ≤ 2147483647) (kk : SW X E Q u w (pc + 1) ls (vI (x / y) :: st) σ) : SW X E Q u w pc ls (vI y :: vI x :: st) σ := by
  obtain ⟨p, l, e, R, s, m, args, below, meth, c⟩ := X
  obtain ⟨own, cc, nL, rt, tb, k, mc, ms⟩ := D
  obtain ⟨hx, hb, hnl, -⟩ := C
  intro H locs lsA hR hL
  have kk := kk H locs lsA hR hL
  refine lv_idiv hx hb hd (sn_ne0 hy9) ?_
  rw [sn_div hx9 hy9]; exact kk
theorem s_irem {X : sx_T} {E : sv_E} {D : sd_T} {Q : State → Prop} {u w pc : Nat} {ls : List (Option sv_V)} {st : List sv_V} {σ : sv_G} {x y : Int} (C : sx_ok X E D) (hd : decode D.2.1 pc = .ok (.irem, 1)) (hx9 : 0 ≤ x ∧ x ≤ 2147483647) (hy9 : 0 < y ∧ y ≤ 2147483647) (kk : SW X E Q u w (pc + 1) ls (vI (x % y) :: st) σ) : SW X E Q u w pc ls (vI y :: vI x :: st) σ := by
  obtain ⟨p, l, e, R, s, m, args, below, meth, c⟩ := X
  obtain ⟨own, cc, nL, rt, tb, k, mc, ms⟩ := D
  obtain ⟨hx, hb, hnl, -⟩ := C
  intro H locs lsA hR hL
  have kk := kk H locs lsA hR hL
  refine lv_irem hx hb hd (sn_ne0 hy9) ?_
  rw [sn_rem hx9 hy9]; exact kk
theorem s_ldiv {X : sx_T} {E : sv_E} {D : sd_T} {Q : State → Prop} {u w pc : Nat} {ls : List (Option sv_V)} {st : List sv_V} {σ : sv_G} {x y : Int} (C : sx_ok X E D) (hd : decode D.2.1 pc = .ok (.ldiv, 1)) (hx9 : -9223372036854775808 ≤ x ∧ x ≤ 9223372036854775807) (hy9 : 0 < y ∧ y ≤ 9223372036854775807) (kk : SW X E Q u w (pc + 1) ls (vL (x.tdiv y) :: st) σ) : SW X E Q u w pc ls (vL y :: vL x :: st) σ := by
  obtain ⟨p, l, e, R, s, m, args, below, meth, c⟩ := X
  obtain ⟨own, cc, nL, rt, tb, k, mc, ms⟩ := D
  obtain ⟨hx, hb, hnl, -⟩ := C
  intro H locs lsA hR hL
  have kk := kk H locs lsA hR hL
  refine lv_ldiv hx hb hd (sn_ne0L hy9) ?_
  rw [sn_divL hx9 hy9]; exact kk
theorem s_lrem {X : sx_T} {E : sv_E} {D : sd_T} {Q : State → Prop} {u w pc : Nat} {ls : List (Option sv_V)} {st : List sv_V} {σ : sv_G} {x y : Int} (C : sx_ok X E D) (hd : decode D.2.1 pc = .ok (.lrem, 1)) (hx9 : -9223372036854775808 ≤ x ∧ x ≤ 9223372036854775807) (hy9 : 0 < y ∧ y ≤ 9223372036854775807) (kk : SW X E Q u w (pc + 1) ls (vL (x.tmod y) :: st) σ) : SW X E Q u w pc ls (vL y :: vL x :: st) σ := by
  obtain ⟨p, l, e, R, s, m, args, below, meth, c⟩ := X
  obtain ⟨own, cc, nL, rt, tb, k, mc, ms⟩ := D
  obtain ⟨hx, hb, hnl, -⟩ := C
  intro H locs lsA hR hL
  have kk := kk H locs lsA hR hL
  refine lv_lrem hx hb hd (sn_ne0L hy9) ?_
  rw [sn_remL hx9 hy9]; exact kk
theorem s_iand {X : sx_T} {E : sv_E} {D : sd_T} {Q : State → Prop} {u w pc : Nat} {ls : List (Option sv_V)} {st : List sv_V} {σ : sv_G} {x y : Int} (C : sx_ok X E D) (hd : decode D.2.1 pc = .ok (.iand, 1))  (kk : SW X E Q u w (pc + 1) ls (vI (landI x y) :: st) σ) : SW X E Q u w pc ls (vI y :: vI x :: st) σ := by
  obtain ⟨p, l, e, R, s, m, args, below, meth, c⟩ := X
  obtain ⟨own, cc, nL, rt, tb, k, mc, ms⟩ := D
  obtain ⟨hx, hb, hnl, -⟩ := C
  intro H locs lsA hR hL
  have kk := kk H locs lsA hR hL
  refine lv_iand hx hb hd  ?_
  unfold landI at kk; simp only [List.map_cons] at kk; rw [show cv E (vI (Int32.ofInt x &&& Int32.ofInt y).toInt) = Value.int (Int32.ofInt x &&& Int32.ofInt y) from congrArg Value.int (Int32.ofInt_toInt _)] at kk; exact kk
theorem s_land {X : sx_T} {E : sv_E} {D : sd_T} {Q : State → Prop} {u w pc : Nat} {ls : List (Option sv_V)} {st : List sv_V} {σ : sv_G} {x y : Int} (C : sx_ok X E D) (hd : decode D.2.1 pc = .ok (.land, 1))  (kk : SW X E Q u w (pc + 1) ls (vL (landL x y) :: st) σ) : SW X E Q u w pc ls (vL y :: vL x :: st) σ := by
  obtain ⟨p, l, e, R, s, m, args, below, meth, c⟩ := X
  obtain ⟨own, cc, nL, rt, tb, k, mc, ms⟩ := D
  obtain ⟨hx, hb, hnl, -⟩ := C
  intro H locs lsA hR hL
  have kk := kk H locs lsA hR hL
  refine lv_land hx hb hd  ?_
  unfold landL at kk; simp only [List.map_cons] at kk; rw [show cv E (vL (Int64.ofInt x &&& Int64.ofInt y).toInt) = Value.long (Int64.ofInt x &&& Int64.ofInt y) from congrArg Value.long (Int64.ofInt_toInt _)] at kk; exact kk
theorem s_lor {X : sx_T} {E : sv_E} {D : sd_T} {Q : State → Prop} {u w pc : Nat} {ls : List (Option sv_V)} {st : List sv_V} {σ : sv_G} {x y : Int} (C : sx_ok X E D) (hd : decode D.2.1 pc = .ok (.lor, 1))  (kk : SW X E Q u w (pc + 1) ls (vL (lorL x y) :: st) σ) : SW X E Q u w pc ls (vL y :: vL x :: st) σ := by
  obtain ⟨p, l, e, R, s, m, args, below, meth, c⟩ := X
  obtain ⟨own, cc, nL, rt, tb, k, mc, ms⟩ := D
  obtain ⟨hx, hb, hnl, -⟩ := C
  intro H locs lsA hR hL
  have kk := kk H locs lsA hR hL
  refine lv_lor hx hb hd  ?_
  unfold lorL at kk; simp only [List.map_cons] at kk; rw [show cv E (vL (Int64.ofInt x ||| Int64.ofInt y).toInt) = Value.long (Int64.ofInt x ||| Int64.ofInt y) from congrArg Value.long (Int64.ofInt_toInt _)] at kk; exact kk
theorem s_lshl {X : sx_T} {E : sv_E} {D : sd_T} {Q : State → Prop} {u w pc : Nat} {ls : List (Option sv_V)} {st : List sv_V} {σ : sv_G} {x y : Int} (C : sx_ok X E D) (hd : decode D.2.1 pc = .ok (.lshl, 1))  (kk : SW X E Q u w (pc + 1) ls (vL (shlL x y) :: st) σ) : SW X E Q u w pc ls (vI y :: vL x :: st) σ := by
  obtain ⟨p, l, e, R, s, m, args, below, meth, c⟩ := X
  obtain ⟨own, cc, nL, rt, tb, k, mc, ms⟩ := D
  obtain ⟨hx, hb, hnl, -⟩ := C
  intro H locs lsA hR hL
  have kk := kk H locs lsA hR hL
  refine lv_lshl hx hb hd (v := Int64.ofInt (shlL x y)) (by unfold shlL; rw [Int64.ofInt_toInt]) ?_
  exact kk
theorem s_lshr {X : sx_T} {E : sv_E} {D : sd_T} {Q : State → Prop} {u w pc : Nat} {ls : List (Option sv_V)} {st : List sv_V} {σ : sv_G} {x y : Int} (C : sx_ok X E D) (hd : decode D.2.1 pc = .ok (.lshr, 1))  (kk : SW X E Q u w (pc + 1) ls (vL (shrL x y) :: st) σ) : SW X E Q u w pc ls (vI y :: vL x :: st) σ := by
  obtain ⟨p, l, e, R, s, m, args, below, meth, c⟩ := X
  obtain ⟨own, cc, nL, rt, tb, k, mc, ms⟩ := D
  obtain ⟨hx, hb, hnl, -⟩ := C
  intro H locs lsA hR hL
  have kk := kk H locs lsA hR hL
  refine lv_lshr hx hb hd (v := Int64.ofInt (shrL x y)) (by unfold shrL; rw [Int64.ofInt_toInt]) ?_
  exact kk
theorem s_i2l {X : sx_T} {E : sv_E} {D : sd_T} {Q : State → Prop} {u w pc : Nat} {ls : List (Option sv_V)} {st : List sv_V} {σ : sv_G} {x : Int} (C : sx_ok X E D) (hd : decode D.2.1 pc = .ok (.i2l, 1)) (hx9 : -2147483648 ≤ x ∧ x ≤ 2147483647) (kk : SW X E Q u w (pc + 1) ls (vL x :: st) σ) : SW X E Q u w pc ls (vI x :: st) σ := by
  obtain ⟨p, l, e, R, s, m, args, below, meth, c⟩ := X
  obtain ⟨own, cc, nL, rt, tb, k, mc, ms⟩ := D
  obtain ⟨hx, hb, hnl, -⟩ := C
  intro H locs lsA hR hL
  have kk := kk H locs lsA hR hL
  refine lv_i2l hx hb hd (sn_i2l hx9) ?_
  exact kk
theorem s_l2i {X : sx_T} {E : sv_E} {D : sd_T} {Q : State → Prop} {u w pc : Nat} {ls : List (Option sv_V)} {st : List sv_V} {σ : sv_G} {x : Int} (C : sx_ok X E D) (hd : decode D.2.1 pc = .ok (.l2i, 1))  (kk : SW X E Q u w (pc + 1) ls (vI x :: st) σ) : SW X E Q u w pc ls (vL x :: st) σ := by
  obtain ⟨p, l, e, R, s, m, args, below, meth, c⟩ := X
  obtain ⟨own, cc, nL, rt, tb, k, mc, ms⟩ := D
  obtain ⟨hx, hb, hnl, -⟩ := C
  intro H locs lsA hR hL
  have kk := kk H locs lsA hR hL
  refine lv_l2i hx hb hd (v := Int32.ofInt x) Int64.toInt32_ofInt ?_
  exact kk
theorem s_lcmp {X : sx_T} {E : sv_E} {D : sd_T} {Q : State → Prop} {u w pc : Nat} {ls : List (Option sv_V)} {st : List sv_V} {σ : sv_G} {x y : Int} (C : sx_ok X E D) (hd : decode D.2.1 pc = .ok (.lcmp, 1)) (hx9 : -9223372036854775808 ≤ x ∧ x ≤ 9223372036854775807) (hy9 : -9223372036854775808 ≤ y ∧ y ≤ 9223372036854775807) (kk : SW X E Q u w (pc + 1) ls (vI (cmpL x y) :: st) σ) : SW X E Q u w pc ls (vL y :: vL x :: st) σ := by
  obtain ⟨p, l, e, R, s, m, args, below, meth, c⟩ := X
  obtain ⟨own, cc, nL, rt, tb, k, mc, ms⟩ := D
  obtain ⟨hx, hb, hnl, -⟩ := C
  intro H locs lsA hR hL
  have kk := kk H locs lsA hR hL
  refine W.lcmp hx hb hd  ?_
  rw [sn_cmp hx9 hy9]; exact kk
theorem s_dup {X : sx_T} {E : sv_E} {D : sd_T} {Q : State → Prop} {u w pc : Nat} {ls : List (Option sv_V)} {st : List sv_V} {σ : sv_G} {v : sv_V} (C : sx_ok X E D) (hd : decode D.2.1 pc = .ok (.dup, 1)) (hv : sv_c1 v = true) (kk : SW X E Q u w (pc + 1) ls (v :: v :: st) σ) : SW X E Q u w pc ls (v :: st) σ := by
  obtain ⟨p, l, e, R, s, m, args, below, meth, c⟩ := X
  obtain ⟨own, cc, nL, rt, tb, k, mc, ms⟩ := D
  obtain ⟨hx, hb, hnl, -⟩ := C
  intro H locs lsA hR hL
  have kk := kk H locs lsA hR hL
  refine lv_dup hx hb hd (sv_c1_cat hv) ?_
  exact kk
theorem s_pop {X : sx_T} {E : sv_E} {D : sd_T} {Q : State → Prop} {u w pc : Nat} {ls : List (Option sv_V)} {st : List sv_V} {σ : sv_G} {v : sv_V} (C : sx_ok X E D) (hd : decode D.2.1 pc = .ok (.pop, 1)) (hv : sv_c1 v = true) (kk : SW X E Q u w (pc + 1) ls (st) σ) : SW X E Q u w pc ls (v :: st) σ := by
  obtain ⟨p, l, e, R, s, m, args, below, meth, c⟩ := X
  obtain ⟨own, cc, nL, rt, tb, k, mc, ms⟩ := D
  obtain ⟨hx, hb, hnl, -⟩ := C
  intro H locs lsA hR hL
  have kk := kk H locs lsA hR hL
  refine lv_pop hx hb hd (sv_c1_cat hv) ?_
  exact kk
theorem s_dup2 {X : sx_T} {E : sv_E} {D : sd_T} {Q : State → Prop} {u w pc : Nat} {ls : List (Option sv_V)} {st : List sv_V} {σ : sv_G} {v v2 : sv_V} (C : sx_ok X E D) (hd : decode D.2.1 pc = .ok (.dup2, 1)) (hv : sv_c1 v = true) (hv2 : sv_c1 v2 = true) (kk : SW X E Q u w (pc + 1) ls (v :: v2 :: v :: v2 :: st) σ) : SW X E Q u w pc ls (v :: v2 :: st) σ := by
  obtain ⟨p, l, e, R, s, m, args, below, meth, c⟩ := X
  obtain ⟨own, cc, nL, rt, tb, k, mc, ms⟩ := D
  obtain ⟨hx, hb, hnl, -⟩ := C
  intro H locs lsA hR hL
  have kk := kk H locs lsA hR hL
  refine lv_dup2_11 hx hb hd (sv_c1_cat hv) (sv_c1_cat hv2) ?_
  exact kk
theorem s_dup2L {X : sx_T} {E : sv_E} {D : sd_T} {Q : State → Prop} {u w pc : Nat} {ls : List (Option sv_V)} {st : List sv_V} {σ : sv_G} {x : Int} (C : sx_ok X E D) (hd : decode D.2.1 pc = .ok (.dup2, 1))  (kk : SW X E Q u w (pc + 1) ls (vL x :: vL x :: st) σ) : SW X E Q u w pc ls (vL x :: st) σ := by
  obtain ⟨p, l, e, R, s, m, args, below, meth, c⟩ := X
  obtain ⟨own, cc, nL, rt, tb, k, mc, ms⟩ := D
  obtain ⟨hx, hb, hnl, -⟩ := C
  intro H locs lsA hR hL
  have kk := kk H locs lsA hR hL
  refine lv_dup2_2 hx hb hd rfl ?_
  exact kk
theorem s_null {X : sx_T} {E : sv_E} {D : sd_T} {Q : State → Prop} {u w pc : Nat} {ls : List (Option sv_V)} {st : List sv_V} {σ : sv_G}  (C : sx_ok X E D) (hd : decode D.2.1 pc = .ok (.aconst_null, 1))  (kk : SW X E Q u w (pc + 1) ls (vN :: st) σ) : SW X E Q u w pc ls (st) σ := by
  obtain ⟨p, l, e, R, s, m, args, below, meth, c⟩ := X
  obtain ⟨own, cc, nL, rt, tb, k, mc, ms⟩ := D
  obtain ⟨hx, hb, hnl, -⟩ := C
  intro H locs lsA hR hL
  have kk := kk H locs lsA hR hL
  refine lv_null hx hb hd  ?_
  exact kk
theorem s_topI {X : sx_T} {E : sv_E} {Q : State → Prop} {u w pc : Nat} {ls : List (Option sv_V)} {st : List sv_V} {σ : sv_G} {x : Int} (kk : ∀ y : Int, y = x → SW X E Q u w pc ls (vI y :: st) σ) : SW X E Q u w pc ls (vI x :: st) σ := kk x rfl
theorem s_topL {X : sx_T} {E : sv_E} {Q : State → Prop} {u w pc : Nat} {ls : List (Option sv_V)} {st : List sv_V} {σ : sv_G} {x : Int} (kk : ∀ y : Int, y = x → SW X E Q u w pc ls (vL y :: st) σ) : SW X E Q u w pc ls (vL x :: st) σ := kk x rfl
theorem s_asI {X : sx_T} {E : sv_E} {Q : State → Prop} {u w pc : Nat} {ls : List (Option sv_V)} {st : List sv_V} {σ : sv_G} {x y : Int} (h : Int32.ofInt x = Int32.ofInt y) (kk : SW X E Q u w pc ls (vI y :: st) σ) : SW X E Q u w pc ls (vI x :: st) σ := by
  obtain ⟨p, l, e, R, s, m, args, below, meth, c⟩ := X
  intro H locs lsA hR hL
  have kk := kk H locs lsA hR hL
  simp only [List.map_cons, cv] at kk ⊢
  rw [h]
  exact kk
theorem s_asL {X : sx_T} {E : sv_E} {Q : State → Prop} {u w pc : Nat} {ls : List (Option sv_V)} {st : List sv_V} {σ : sv_G} {x y : Int} (h : Int64.ofInt x = Int64.ofInt y) (kk : SW X E Q u w pc ls (vL y :: st) σ) : SW X E Q u w pc ls (vL x :: st) σ := by
  obtain ⟨p, l, e, R, s, m, args, below, meth, c⟩ := X
  intro H locs lsA hR hL
  have kk := kk H locs lsA hR hL
  simp only [List.map_cons, cv] at kk ⊢
  rw [h]
  exact kk
theorem s_icmp_eq {X : sx_T} {E : sv_E} {D : sd_T} {Q : State → Prop} {u w pc : Nat} {ls : List (Option sv_V)} {st : List sv_V} {σ : sv_G} {x y : Int} {off : Int} {tgt : Nat} (C : sx_ok X E D) (hd : decode D.2.1 pc = .ok (.if_icmp .eq off, 3)) (ht : (pc : Int) + off = (tgt : Int)) (hx9 : -2147483648 ≤ x ∧ x ≤ 2147483647) (hy9 : -2147483648 ≤ y ∧ y ≤ 2147483647) (kt : x = y → SW X E Q u w tgt ls st σ) (kf : ¬ (x = y) → SW X E Q u w (pc + 3) ls st σ) : SW X E Q u w pc ls (vI y :: vI x :: st) σ := by
  obtain ⟨p, l, e, R, s, m, args, below, meth, c⟩ := X
  obtain ⟨own, cc, nL, rt, tb, k, mc, ms⟩ := D
  obtain ⟨hx, hb, hnl, -⟩ := C
  intro H locs lsA hR hL
  have hq := sn_eq hx9 hy9
  refine lv_icmp_eq hx hb hd ht (fun h => kt ?_ H locs lsA hR hL) (fun h => kf ?_ H locs lsA hR hL)
  · exact hq.mp h
  · exact fun z => h (hq.mpr z)
theorem s_if_eq {X : sx_T} {E : sv_E} {D : sd_T} {Q : State → Prop} {u w pc : Nat} {ls : List (Option sv_V)} {st : List sv_V} {σ : sv_G} {x : Int} {off : Int} {tgt : Nat} (C : sx_ok X E D) (hd : decode D.2.1 pc = .ok (.ifCond .eq off, 3)) (ht : (pc : Int) + off = (tgt : Int)) (hx9 : -2147483648 ≤ x ∧ x ≤ 2147483647)  (kt : x = 0 → SW X E Q u w tgt ls st σ) (kf : ¬ (x = 0) → SW X E Q u w (pc + 3) ls st σ) : SW X E Q u w pc ls (vI x :: st) σ := by
  obtain ⟨p, l, e, R, s, m, args, below, meth, c⟩ := X
  obtain ⟨own, cc, nL, rt, tb, k, mc, ms⟩ := D
  obtain ⟨hx, hb, hnl, -⟩ := C
  intro H locs lsA hR hL
  have hq := sn_eq hx9 (show (-2147483648 : Int) ≤ 0 ∧ (0 : Int) ≤ 2147483647 by decide)
  refine lv_if_eq hx hb hd ht (fun h => kt ?_ H locs lsA hR hL) (fun h => kf ?_ H locs lsA hR hL)
  · exact hq.mp h
  · exact fun z => h (hq.mpr z)
theorem s_icmp_ne {X : sx_T} {E : sv_E} {D : sd_T} {Q : State → Prop} {u w pc : Nat} {ls : List (Option sv_V)} {st : List sv_V} {σ : sv_G} {x y : Int} {off : Int} {tgt : Nat} (C : sx_ok X E D) (hd : decode D.2.1 pc = .ok (.if_icmp .ne off, 3)) (ht : (pc : Int) + off = (tgt : Int)) (hx9 : -2147483648 ≤ x ∧ x ≤ 2147483647) (hy9 : -2147483648 ≤ y ∧ y ≤ 2147483647) (kt : x ≠ y → SW X E Q u w tgt ls st σ) (kf : x = y → SW X E Q u w (pc + 3) ls st σ) : SW X E Q u w pc ls (vI y :: vI x :: st) σ := by
  obtain ⟨p, l, e, R, s, m, args, below, meth, c⟩ := X
  obtain ⟨own, cc, nL, rt, tb, k, mc, ms⟩ := D
  obtain ⟨hx, hb, hnl, -⟩ := C
  intro H locs lsA hR hL
  have hq := sn_eq hx9 hy9
  refine lv_icmp_ne hx hb hd ht (fun h => kt ?_ H locs lsA hR hL) (fun h => kf ?_ H locs lsA hR hL)
  · exact fun z => h (hq.mpr z)
  · exact hq.mp h
theorem s_if_ne {X : sx_T} {E : sv_E} {D : sd_T} {Q : State → Prop} {u w pc : Nat} {ls : List (Option sv_V)} {st : List sv_V} {σ : sv_G} {x : Int} {off : Int} {tgt : Nat} (C : sx_ok X E D) (hd : decode D.2.1 pc = .ok (.ifCond .ne off, 3)) (ht : (pc : Int) + off = (tgt : Int)) (hx9 : -2147483648 ≤ x ∧ x ≤ 2147483647)  (kt : x ≠ 0 → SW X E Q u w tgt ls st σ) (kf : x = 0 → SW X E Q u w (pc + 3) ls st σ) : SW X E Q u w pc ls (vI x :: st) σ := by
  obtain ⟨p, l, e, R, s, m, args, below, meth, c⟩ := X
  obtain ⟨own, cc, nL, rt, tb, k, mc, ms⟩ := D
  obtain ⟨hx, hb, hnl, -⟩ := C
  intro H locs lsA hR hL
  have hq := sn_eq hx9 (show (-2147483648 : Int) ≤ 0 ∧ (0 : Int) ≤ 2147483647 by decide)
  refine lv_if_ne hx hb hd ht (fun h => kt ?_ H locs lsA hR hL) (fun h => kf ?_ H locs lsA hR hL)
  · exact fun z => h (hq.mpr z)
  · exact hq.mp h
theorem s_icmp_lt {X : sx_T} {E : sv_E} {D : sd_T} {Q : State → Prop} {u w pc : Nat} {ls : List (Option sv_V)} {st : List sv_V} {σ : sv_G} {x y : Int} {off : Int} {tgt : Nat} (C : sx_ok X E D) (hd : decode D.2.1 pc = .ok (.if_icmp .lt off, 3)) (ht : (pc : Int) + off = (tgt : Int)) (hx9 : -2147483648 ≤ x ∧ x ≤ 2147483647) (hy9 : -2147483648 ≤ y ∧ y ≤ 2147483647) (kt : x < y → SW X E Q u w tgt ls st σ) (kf : ¬ (x < y) → SW X E Q u w (pc + 3) ls st σ) : SW X E Q u w pc ls (vI y :: vI x :: st) σ := by
  obtain ⟨p, l, e, R, s, m, args, below, meth, c⟩ := X
  obtain ⟨own, cc, nL, rt, tb, k, mc, ms⟩ := D
  obtain ⟨hx, hb, hnl, -⟩ := C
  intro H locs lsA hR hL
  have hq := sn_lt hx9 hy9
  refine lv_icmp_lt hx hb hd ht (fun h => kt ?_ H locs lsA hR hL) (fun h => kf ?_ H locs lsA hR hL)
  · exact hq.mp h
  · exact fun z => h (hq.mpr z)
theorem s_if_lt {X : sx_T} {E : sv_E} {D : sd_T} {Q : State → Prop} {u w pc : Nat} {ls : List (Option sv_V)} {st : List sv_V} {σ : sv_G} {x : Int} {off : Int} {tgt : Nat} (C : sx_ok X E D) (hd : decode D.2.1 pc = .ok (.ifCond .lt off, 3)) (ht : (pc : Int) + off = (tgt : Int)) (hx9 : -2147483648 ≤ x ∧ x ≤ 2147483647)  (kt : x < 0 → SW X E Q u w tgt ls st σ) (kf : ¬ (x < 0) → SW X E Q u w (pc + 3) ls st σ) : SW X E Q u w pc ls (vI x :: st) σ := by
  obtain ⟨p, l, e, R, s, m, args, below, meth, c⟩ := X
  obtain ⟨own, cc, nL, rt, tb, k, mc, ms⟩ := D
  obtain ⟨hx, hb, hnl, -⟩ := C
  intro H locs lsA hR hL
  have hq := sn_lt hx9 (show (-2147483648 : Int) ≤ 0 ∧ (0 : Int) ≤ 2147483647 by decide)
  refine lv_if_lt hx hb hd ht (fun h => kt ?_ H locs lsA hR hL) (fun h => kf ?_ H locs lsA hR hL)
  · exact hq.mp h
  · exact fun z => h (hq.mpr z)
theorem s_icmp_ge {X : sx_T} {E : sv_E} {D : sd_T} {Q : State → Prop} {u w pc : Nat} {ls : List (Option sv_V)} {st : List sv_V} {σ : sv_G} {x y : Int} {off : Int} {tgt : Nat} (C : sx_ok X E D) (hd : decode D.2.1 pc = .ok (.if_icmp .ge off, 3)) (ht : (pc : Int) + off = (tgt : Int)) (hx9 : -2147483648 ≤ x ∧ x ≤ 2147483647) (hy9 : -2147483648 ≤ y ∧ y ≤ 2147483647) (kt : y ≤ x → SW X E Q u w tgt ls st σ) (kf : ¬ (y ≤ x) → SW X E Q u w (pc + 3) ls st σ) : SW X E Q u w pc ls (vI y :: vI x :: st) σ := by
  obtain ⟨p, l, e, R, s, m, args, below, meth, c⟩ := X
  obtain ⟨own, cc, nL, rt, tb, k, mc, ms⟩ := D
  obtain ⟨hx, hb, hnl, -⟩ := C
  intro H locs lsA hR hL
  have hq := sn_le hy9 hx9
  refine lv_icmp_ge hx hb hd ht (fun h => kt ?_ H locs lsA hR hL) (fun h => kf ?_ H locs lsA hR hL)
  · exact hq.mp h
  · exact fun z => h (hq.mpr z)
theorem s_if_ge {X : sx_T} {E : sv_E} {D : sd_T} {Q : State → Prop} {u w pc : Nat} {ls : List (Option sv_V)} {st : List sv_V} {σ : sv_G} {x : Int} {off : Int} {tgt : Nat} (C : sx_ok X E D) (hd : decode D.2.1 pc = .ok (.ifCond .ge off, 3)) (ht : (pc : Int) + off = (tgt : Int)) (hx9 : -2147483648 ≤ x ∧ x ≤ 2147483647)  (kt : 0 ≤ x → SW X E Q u w tgt ls st σ) (kf : ¬ (0 ≤ x) → SW X E Q u w (pc + 3) ls st σ) : SW X E Q u w pc ls (vI x :: st) σ := by
  obtain ⟨p, l, e, R, s, m, args, below, meth, c⟩ := X
  obtain ⟨own, cc, nL, rt, tb, k, mc, ms⟩ := D
  obtain ⟨hx, hb, hnl, -⟩ := C
  intro H locs lsA hR hL
  have hq := sn_le (show (-2147483648 : Int) ≤ 0 ∧ (0 : Int) ≤ 2147483647 by decide) hx9
  refine lv_if_ge hx hb hd ht (fun h => kt ?_ H locs lsA hR hL) (fun h => kf ?_ H locs lsA hR hL)
  · exact hq.mp h
  · exact fun z => h (hq.mpr z)
theorem s_icmp_gt {X : sx_T} {E : sv_E} {D : sd_T} {Q : State → Prop} {u w pc : Nat} {ls : List (Option sv_V)} {st : List sv_V} {σ : sv_G} {x y : Int} {off : Int} {tgt : Nat} (C : sx_ok X E D) (hd : decode D.2.1 pc = .ok (.if_icmp .gt off, 3)) (ht : (pc : Int) + off = (tgt : Int)) (hx9 : -2147483648 ≤ x ∧ x ≤ 2147483647) (hy9 : -2147483648 ≤ y ∧ y ≤ 2147483647) (kt : y < x → SW X E Q u w tgt ls st σ) (kf : ¬ (y < x) → SW X E Q u w (pc + 3) ls st σ) : SW X E Q u w pc ls (vI y :: vI x :: st) σ := by
  obtain ⟨p, l, e, R, s, m, args, below, meth, c⟩ := X
  obtain ⟨own, cc, nL, rt, tb, k, mc, ms⟩ := D
  obtain ⟨hx, hb, hnl, -⟩ := C
  intro H locs lsA hR hL
  have hq := sn_lt hy9 hx9
  refine lv_icmp_gt hx hb hd ht (fun h => kt ?_ H locs lsA hR hL) (fun h => kf ?_ H locs lsA hR hL)
  · exact hq.mp h
  · exact fun z => h (hq.mpr z)
theorem s_if_gt {X : sx_T} {E : sv_E} {D : sd_T} {Q : State → Prop} {u w pc : Nat} {ls : List (Option sv_V)} {st : List sv_V} {σ : sv_G} {x : Int} {off : Int} {tgt : Nat} (C : sx_ok X E D) (hd : decode D.2.1 pc = .ok (.ifCond .gt off, 3)) (ht : (pc : Int) + off = (tgt : Int)) (hx9 : -2147483648 ≤ x ∧ x ≤ 2147483647)  (kt : 0 < x → SW X E Q u w tgt ls st σ) (kf : ¬ (0 < x) → SW X E Q u w (pc + 3) ls st σ) : SW X E Q u w pc ls (vI x :: st) σ := by
  obtain ⟨p, l, e, R, s, m, args, below, meth, c⟩ := X
  obtain ⟨own, cc, nL, rt, tb, k, mc, ms⟩ := D
  obtain ⟨hx, hb, hnl, -⟩ := C
  intro H locs lsA hR hL
  have hq := sn_lt (show (-2147483648 : Int) ≤ 0 ∧ (0 : Int) ≤ 2147483647 by decide) hx9
  refine lv_if_gt hx hb hd ht (fun h => kt ?_ H locs lsA hR hL) (fun h => kf ?_ H locs lsA hR hL)
  · exact hq.mp h
  · exact fun z => h (hq.mpr z)
theorem s_icmp_le {X : sx_T} {E : sv_E} {D : sd_T} {Q : State → Prop} {u w pc : Nat} {ls : List (Option sv_V)} {st : List sv_V} {σ : sv_G} {x y : Int} {off : Int} {tgt : Nat} (C : sx_ok X E D) (hd : decode D.2.1 pc = .ok (.if_icmp .le off, 3)) (ht : (pc : Int) + off = (tgt : Int)) (hx9 : -2147483648 ≤ x ∧ x ≤ 2147483647) (hy9 : -2147483648 ≤ y ∧ y ≤ 2147483647) (kt : x ≤ y → SW X E Q u w tgt ls st σ) (kf : ¬ (x ≤ y) → SW X E Q u w (pc + 3) ls st σ) : SW X E Q u w pc ls (vI y :: vI x :: st) σ := by
  obtain ⟨p, l, e, R, s, m, args, below, meth, c⟩ := X
  obtain ⟨own, cc, nL, rt, tb, k, mc, ms⟩ := D
  obtain ⟨hx, hb, hnl, -⟩ := C
  intro H locs lsA hR hL
  have hq := sn_le hx9 hy9
  refine lv_icmp_le hx hb hd ht (fun h => kt ?_ H locs lsA hR hL) (fun h => kf ?_ H locs lsA hR hL)
  · exact hq.mp h
  · exact fun z => h (hq.mpr z)
theorem s_if_le {X : sx_T} {E : sv_E} {D : sd_T} {Q : State → Prop} {u w pc : Nat} {ls : List (Option sv_V)} {st : List sv_V} {σ : sv_G} {x : Int} {off : Int} {tgt : Nat} (C : sx_ok X E D) (hd : decode D.2.1 pc = .ok (.ifCond .le off, 3)) (ht : (pc : Int) + off = (tgt : Int)) (hx9 : -2147483648 ≤ x ∧ x ≤ 2147483647)  (kt : x ≤ 0 → SW X E Q u w tgt ls st σ) (kf : ¬ (x ≤ 0) → SW X E Q u w (pc + 3) ls st σ) : SW X E Q u w pc ls (vI x :: st) σ := by
  obtain ⟨p, l, e, R, s, m, args, below, meth, c⟩ := X
  obtain ⟨own, cc, nL, rt, tb, k, mc, ms⟩ := D
  obtain ⟨hx, hb, hnl, -⟩ := C
  intro H locs lsA hR hL
  have hq := sn_le hx9 (show (-2147483648 : Int) ≤ 0 ∧ (0 : Int) ≤ 2147483647 by decide)
  refine lv_if_le hx hb hd ht (fun h => kt ?_ H locs lsA hR hL) (fun h => kf ?_ H locs lsA hR hL)
  · exact hq.mp h
  · exact fun z => h (hq.mpr z)
theorem s_goto {X : sx_T} {E : sv_E} {D : sd_T} {Q : State → Prop} {u w pc : Nat} {ls : List (Option sv_V)} {st : List sv_V} {σ : sv_G} {off : Int} {tgt : Nat} (C : sx_ok X E D) (hd : decode D.2.1 pc = .ok (.goto off, 3)) (ht : (pc : Int) + off = (tgt : Int)) (kk : SW X E Q u w tgt ls st σ) : SW X E Q u w pc ls st σ := by
  obtain ⟨p, l, e, R, s, m, args, below, meth, c⟩ := X
  obtain ⟨own, cc, nL, rt, tb, k, mc, ms⟩ := D
  obtain ⟨hx, hb, hnl, -⟩ := C
  intro H locs lsA hR hL
  exact lv_goto hx hb hd ht (kk H locs lsA hR hL)
theorem s_ifnull {X : sx_T} {E : sv_E} {D : sd_T} {Q : State → Prop} {u w pc : Nat} {ls : List (Option sv_V)} {st : List sv_V} {σ : sv_G} {a : Nat} {off : Int} (C : sx_ok X E D) (hd : decode D.2.1 pc = .ok (.ifnull off, 3)) (kk : SW X E Q u w (pc + 3) ls st σ) : SW X E Q u w pc ls (vR a :: st) σ := by
  obtain ⟨p, l, e, R, s, m, args, below, meth, c⟩ := X
  obtain ⟨own, cc, nL, rt, tb, k, mc, ms⟩ := D
  obtain ⟨hx, hb, hnl, -⟩ := C
  intro H locs lsA hR hL
  exact lv_ifnull hx hb hd (kk H locs lsA hR hL)
theorem s_ifnullN {X : sx_T} {E : sv_E} {D : sd_T} {Q : State → Prop} {u w pc : Nat} {ls : List (Option sv_V)} {st : List sv_V} {σ : sv_G} {off : Int} {tgt : Nat} (C : sx_ok X E D) (hd : decode D.2.1 pc = .ok (.ifnull off, 3)) (ht : (pc : Int) + off = (tgt : Int)) (kk : SW X E Q u w tgt ls st σ) : SW X E Q u w pc ls (vN :: st) σ := by
  obtain ⟨p, l, e, R, s, m, args, below, meth, c⟩ := X
  obtain ⟨own, cc, nL, rt, tb, k, mc, ms⟩ := D
  obtain ⟨hx, hb, hnl, -⟩ := C
  intro H locs lsA hR hL
  exact lv_ifnullN hx hb hd ht (kk H locs lsA hR hL)
theorem s_tsIn {X : sx_T} {E : sv_E} {D : sd_T} {Q : State → Prop} {u w pc : Nat} {ls : List (Option sv_V)} {st : List sv_V} {σ : sv_G} {x dflt lo hi off : Int} {offs : Array Int} {len tgt : Nat} (C : sx_ok X E D) (hd : decode D.2.1 pc = .ok (.tableswitch dflt lo hi offs, len)) (hx9 : -2147483648 ≤ x ∧ x ≤ 2147483647) (h1 : ¬ x < lo) (h2 : ¬ hi < x) (ho : offs[(x - lo).toNat]? = some off) (ht : (pc : Int) + off = (tgt : Int)) (kk : SW X E Q u w tgt ls st σ) : SW X E Q u w pc ls (vI x :: st) σ := by
  obtain ⟨p, l, e, R, s, m, args, below, meth, c⟩ := X
  obtain ⟨own, cc, nL, rt, tb, k, mc, ms⟩ := D
  obtain ⟨hx, hb, hnl, -⟩ := C
  intro H locs lsA hR hL
  have hq := sn_ofI hx9
  exact lv_tableIn hx hb hd (by rw [hq]; exact h1) (by rw [hq]; exact h2) (by rw [hq]; exact ho) ht (kk H locs lsA hR hL)
theorem s_tsOut {X : sx_T} {E : sv_E} {D : sd_T} {Q : State → Prop} {u w pc : Nat} {ls : List (Option sv_V)} {st : List sv_V} {σ : sv_G} {x dflt lo hi : Int} {offs : Array Int} {len tgt : Nat} (C : sx_ok X E D) (hd : decode D.2.1 pc = .ok (.tableswitch dflt lo hi offs, len)) (hx9 : -2147483648 ≤ x ∧ x ≤ 2147483647) (h : x < lo ∨ hi < x) (ht : (pc : Int) + dflt = (tgt : Int)) (kk : SW X E Q u w tgt ls st σ) : SW X E Q u w pc ls (vI x :: st) σ := by
  obtain ⟨p, l, e, R, s, m, args, below, meth, c⟩ := X
  obtain ⟨own, cc, nL, rt, tb, k, mc, ms⟩ := D
  obtain ⟨hx, hb, hnl, -⟩ := C
  intro H locs lsA hR hL
  have hq := sn_ofI hx9
  exact lv_tableOut hx hb hd (by rw [hq]; exact h) ht (kk H locs lsA hR hL)
theorem s_ldc2 {X : sx_T} {E : sv_E} {D : sd_T} {Q : State → Prop} {u w pc : Nat} {ls : List (Option sv_V)} {st : List sv_V} {σ : sv_G} {n : Int} {v : Int64} {idx : Nat} (C : sx_ok X E D) (hd : decode D.2.1 pc = .ok (.ldc2_w idx, 3)) (hw : Cond.constantLong D.1 idx v ∈ LW) (hv : v = Int64.ofInt n) (kk : SW X E Q u w (pc + 3) ls (vL n :: st) σ) : SW X E Q u w pc ls st σ := by
  obtain ⟨p, l, e, R, s, m, args, below, meth, c⟩ := X
  obtain ⟨own, cc, nL, rt, tb, k, mc, ms⟩ := D
  obtain ⟨hx, hb, hnl, hown, hts, -⟩ := C
  intro H locs lsA hR hL
  have kk := kk H locs lsA hR hL
  subst hv
  exact lv_ldc2 hx hb hown (hts _ hw) hd kk
