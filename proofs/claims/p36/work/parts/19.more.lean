/-! More rows. -/
def lxorL (x y : Int) : Int := (Int64.ofInt x ^^^ Int64.ofInt y).toInt
theorem s_lxor {X : sx_T} {E : sv_E} {D : sd_T} {Q : State → Prop} {u w pc : Nat} {ls : List (Option sv_V)} {st : List sv_V} {σ : sv_G} {x y : Int} (C : sx_ok X E D) (hd : decode D.2.1 pc = .ok (.lxor, 1)) (kk : SW X E Q u w (pc + 1) ls (vL (lxorL x y) :: st) σ) : SW X E Q u w pc ls (vL y :: vL x :: st) σ := by
  obtain ⟨p, l, e, R, s, m, args, below, meth, c⟩ := X
  obtain ⟨own, cc, nL, rt, tb, k, mc, ms⟩ := D
  obtain ⟨hx, hb, hnl, -⟩ := C
  intro H locs lsA hR hL
  have kk := kk H locs lsA hR hL
  refine lv_lxor hx hb hd ?_
  unfold lxorL at kk
  simp only [List.map_cons] at kk
  rw [show cv E (vL (Int64.ofInt x ^^^ Int64.ofInt y).toInt) = Value.long (Int64.ofInt x ^^^ Int64.ofInt y) from congrArg Value.long (Int64.ofInt_toInt _)] at kk
  exact kk
theorem lxor_neg {x y : Int} (hx : -9223372036854775808 ≤ x ∧ x ≤ 9223372036854775807) (hy : 0 ≤ y ∧ y ≤ 9223372036854775807) : lxorL x y < 0 ↔ x < 0 := by
  have h1 : ∀ a : Int64, a.toInt < 0 ↔ a.toBitVec.msb = true := by
    intro a
    rw [BitVec.msb_eq_toInt, decide_eq_true_iff]
    rfl
  have hx2 := sn_ofL hx
  have hy2 := sn_ofL (z := y) (by omega)
  have e1 := h1 (Int64.ofInt x)
  have e2 := h1 (Int64.ofInt y)
  rw [hx2] at e1
  rw [hy2] at e2
  unfold lxorL
  rw [h1, e1, Int64.toBitVec_xor, BitVec.msb_xor]
  have h3 : (Int64.ofInt y).toBitVec.msb = false := by
    cases h : (Int64.ofInt y).toBitVec.msb
    · rfl
    · have := e2.mpr h; omega
  rw [h3, Bool.xor_false]
theorem lxor_rng (x y : Int) : -9223372036854775808 ≤ lxorL x y ∧ lxorL x y ≤ 9223372036854775807 := by
  have h1 := Int64.le_toInt (Int64.ofInt x ^^^ Int64.ofInt y)
  have h2 := Int64.toInt_lt (Int64.ofInt x ^^^ Int64.ofInt y)
  unfold lxorL
  omega
theorem s_alen {X : sx_T} {E : sv_E} {D : sd_T} {Q : State → Prop} {u w pc : Nat} {ls : List (Option sv_V)} {st : List sv_V} {σ : sv_G} {a n : Nat} {z : Int} (C : sx_ok X E D) (ha : shp a = (10, n)) (hz : (n : Int) = z) (hd : decode D.2.1 pc = .ok (.arraylength, 1)) (kk : SW X E Q u w (pc + 1) ls (vI z :: st) σ) : SW X E Q u w pc ls (vR a :: st) σ := by
  subst hz
  obtain ⟨p, l, e, R, s, m, args, below, meth, c⟩ := X
  obtain ⟨own, cc, nL, rt, tb, k, mc, ms⟩ := D
  obtain ⟨hx, hb, hnl, hown, hts, hMW, hK, -⟩ := C
  intro H locs lsA hR hL
  have kk := kk H locs lsA hR hL
  obtain ⟨hP, hD, hS, hG⟩ := hR
  refine va_alen (x := (n, .inl fun k => Int32.ofInt (σ a k))) (ty := .int) hx hb hK hP a 0 (by rw [sv_ws_at (shp_lt ha (by omega)), cel_I ha]; rfl) rfl (v := Int32.ofInt n) Int32.ofInt_eq_ofNat.symm hd ?_
  exact kk
theorem cmpL_ge {x y : Int} : 0 ≤ cmpL x y ↔ y ≤ x := by
  unfold cmpL
  split
  · omega
  · split <;> omega
theorem cmpL_eq {x y : Int} : cmpL x y = 0 ↔ x = y := by
  unfold cmpL
  split
  · omega
  · split <;> omega
theorem cmpL_rng {x y : Int} : -2147483648 ≤ cmpL x y ∧ cmpL x y ≤ 2147483647 := by
  unfold cmpL
  split
  · omega
  · split <;> omega
theorem mfill_lt {a b : Int} (h : 0 ≤ a) (h2 : 0 < b) : a.tdiv b = a / b := Int.tdiv_eq_ediv_of_nonneg h
theorem tdiv_neg {a b : Int} (h : a < 0) (hb : 0 < b) : a.tdiv b = if a % b = 0 then a / b else a / b + 1 := by
  rw [Int.tdiv_eq_ediv]
  by_cases q : a % b = 0
  · rw [if_pos q, if_pos (Or.inr (Int.dvd_of_emod_eq_zero q))]; simp
  · rw [if_neg q, if_neg (by
      intro z
      rcases z with z | z
      · omega
      · exact q (Int.emod_eq_zero_of_dvd z)), Int.sign_eq_one_of_pos hb]
theorem tmod_neg {a b : Int} (h : a < 0) (hb : 0 < b) : a.tmod b = if a % b = 0 then 0 else a % b - b := by
  rw [Int.tmod_eq_emod]
  by_cases q : a % b = 0
  · rw [if_pos q, if_pos (Or.inr (Int.dvd_of_emod_eq_zero q)), q]; simp
  · rw [if_neg q, if_neg (by
      intro z
      rcases z with z | z
      · omega
      · exact q (Int.emod_eq_zero_of_dvd z))]
    omega
