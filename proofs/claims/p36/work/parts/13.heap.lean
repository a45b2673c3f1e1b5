/-! Fields and rows of the cells. -/
theorem ic_0 : ∀ w ∈ u_ws RX0 TX0 3, w ∈ LW := LW_sub [149, 151, 153] (by decide +kernel) (by decide +kernel)
theorem ic_1 : ∀ w ∈ u_ws RX1 TX1 7, w ∈ LW := LW_sub [203, 205, 207, 209, 211, 213, 215] (by decide +kernel) (by decide +kernel)
theorem ic_2 : ∀ w ∈ u_ws RX2 TX2 3, w ∈ LW := LW_sub [126, 128, 130] (by decide +kernel) (by decide +kernel)
theorem ic_3 : ∀ w ∈ u_ws RX3 TX3 4, w ∈ LW := LW_sub [169, 171, 173, 175] (by decide +kernel) (by decide +kernel)
theorem ic_4 : ∀ w ∈ u_ws RX4 TX4 9, w ∈ LW := LW_sub [233, 235, 237, 239, 241, 243, 245, 247, 249] (by decide +kernel) (by decide +kernel)
theorem ic_5 : ∀ w ∈ u_ws RX5 TX5 3, w ∈ LW := LW_sub [106, 108, 110] (by decide +kernel) (by decide +kernel)
theorem ic_6 : ∀ w ∈ u_ws RX6 TX6 2, w ∈ LW := LW_sub [91, 93] (by decide +kernel) (by decide +kernel)
theorem ic_7 : ∀ w ∈ u_ws RX7 TX7 14, w ∈ LW := LW_sub [266, 268, 270, 272, 274, 276, 278, 280, 282, 284, 286, 288, 290, 292] (by decide +kernel) (by decide +kernel)
def cl_ok (c : Nat) (C : String) (T : u_T) (N : Nat) : Prop := vwCl[c]? = some (C, T, N) ∧ N = nfd c ∧ c < 9 ∧ (∀ w ∈ u_ws C T N, w ∈ LW) ∧ (∀ a, a < N → ∀ b, b < N → a ≠ b → (T a).2.1 ≠ (T b).2.1) ∧ (∃ ty : Nat → FieldType, (∀ k, k < N → parseFieldDescriptor (T k).2.2.1 = some (ty k)) ∧ ∀ k, k < N → (fkd c k = 0 → ty k = .int) ∧ (fkd c k = 1 → ty k = .long))
theorem cl_0 : cl_ok 0 RX0 TX0 3 := ⟨rfl, by decide +kernel, by decide, ic_0, nmX0, tyX0, tyX0_ok, by decide +kernel⟩
theorem cl_1 : cl_ok 1 RX1 TX1 7 := ⟨rfl, by decide +kernel, by decide, ic_1, nmX1, tyX1, tyX1_ok, by decide +kernel⟩
theorem cl_2 : cl_ok 2 RX2 TX2 3 := ⟨rfl, by decide +kernel, by decide, ic_2, nmX2, tyX2, tyX2_ok, by decide +kernel⟩
theorem cl_3 : cl_ok 3 RX3 TX3 4 := ⟨rfl, by decide +kernel, by decide, ic_3, nmX3, tyX3, tyX3_ok, by decide +kernel⟩
theorem cl_4 : cl_ok 4 RX4 TX4 9 := ⟨rfl, by decide +kernel, by decide, ic_4, nmX4, tyX4, tyX4_ok, by decide +kernel⟩
theorem cl_5 : cl_ok 5 RX5 TX5 3 := ⟨rfl, by decide +kernel, by decide, ic_5, nmX5, tyX5, tyX5_ok, by decide +kernel⟩
theorem cl_6 : cl_ok 6 RX6 TX6 2 := ⟨rfl, by decide +kernel, by decide, ic_6, nmX6, tyX6, tyX6_ok, by decide +kernel⟩
theorem cl_7 : cl_ok 7 RX7 TX7 14 := ⟨rfl, by decide +kernel, by decide, ic_7, nmX7, tyX7, tyX7_ok, by decide +kernel⟩
/-- entry idx of class own's pool names field k of class c -/
def fl_ok (own : String) (idx c k : Nat) : Prop := ∃ (C : String) (T : u_T) (N : Nat), cl_ok c C T N ∧ k < N ∧ (Cond.fieldLink own idx (T k).1 (T k).2.1 (T k).2.2.1 ∈ LW ∨ ∃ h, Cond.fieldLinkNest own idx (T k).1 (T k).2.1 (T k).2.2.1 h ∈ NW)
theorem fl_A {own : String} {idx c k : Nat} {C : String} {T : u_T} {N : Nat} (i : Nat) (hc : cl_ok c C T N) (hk : k < N) (h : lw_tbl[i]? = some (Cond.fieldLink own idx (T k).1 (T k).2.1 (T k).2.2.1)) : fl_ok own idx c k := ⟨C, T, N, hc, hk, Or.inl (LW_in i h rfl)⟩
theorem fl_N {own : String} {idx c k : Nat} {C : String} {T : u_T} {N : Nat} {hh : String} (i : Nat) (hc : cl_ok c C T N) (hk : k < N) (h : lw_tbl[i]? = some (Cond.fieldLinkNest own idx (T k).1 (T k).2.1 (T k).2.2.1 hh)) : fl_ok own idx c k := ⟨C, T, N, hc, hk, Or.inr ⟨hh, NW_in i h rfl⟩⟩
theorem fl_6_9 : fl_ok RX6 9 6 0 := fl_A 88 cl_6 (by decide) (by decide +kernel)
theorem fl_6_15 : fl_ok RX6 15 6 1 := fl_A 89 cl_6 (by decide) (by decide +kernel)
theorem fl_7_180 : fl_ok RX7 180 6 1 := fl_N (hh := "NumeralBabel") 90 cl_6 (by decide) (by decide +kernel)
theorem fl_5_9 : fl_ok RX5 9 5 0 := fl_A 103 cl_5 (by decide) (by decide +kernel)
theorem fl_5_15 : fl_ok RX5 15 5 1 := fl_A 104 cl_5 (by decide) (by decide +kernel)
theorem fl_5_18 : fl_ok RX5 18 5 2 := fl_A 105 cl_5 (by decide) (by decide +kernel)
theorem fl_2_9 : fl_ok RX2 9 2 0 := fl_A 120 cl_2 (by decide) (by decide +kernel)
theorem fl_7_278 : fl_ok RX7 278 2 0 := fl_N (hh := "NumeralBabel") 121 cl_2 (by decide) (by decide +kernel)
theorem fl_2_15 : fl_ok RX2 15 2 1 := fl_A 122 cl_2 (by decide) (by decide +kernel)
theorem fl_7_285 : fl_ok RX7 285 2 1 := fl_N (hh := "NumeralBabel") 123 cl_2 (by decide) (by decide +kernel)
theorem fl_2_18 : fl_ok RX2 18 2 2 := fl_A 124 cl_2 (by decide) (by decide +kernel)
theorem fl_7_288 : fl_ok RX7 288 2 2 := fl_N (hh := "NumeralBabel") 125 cl_2 (by decide) (by decide +kernel)
theorem fl_0_9 : fl_ok RX0 9 0 0 := fl_A 144 cl_0 (by decide) (by decide +kernel)
theorem fl_0_15 : fl_ok RX0 15 0 1 := fl_A 145 cl_0 (by decide) (by decide +kernel)
theorem fl_0_18 : fl_ok RX0 18 0 2 := fl_A 146 cl_0 (by decide) (by decide +kernel)
theorem fl_4_52 : fl_ok RX4 52 0 2 := fl_N (hh := "NumeralBabel") 147 cl_0 (by decide) (by decide +kernel)
theorem fl_7_167 : fl_ok RX7 167 0 2 := fl_N (hh := "NumeralBabel") 148 cl_0 (by decide) (by decide +kernel)
theorem fl_3_9 : fl_ok RX3 9 3 0 := fl_A 164 cl_3 (by decide) (by decide +kernel)
theorem fl_3_15 : fl_ok RX3 15 3 1 := fl_A 165 cl_3 (by decide) (by decide +kernel)
theorem fl_3_18 : fl_ok RX3 18 3 2 := fl_A 166 cl_3 (by decide) (by decide +kernel)
theorem fl_3_21 : fl_ok RX3 21 3 3 := fl_A 167 cl_3 (by decide) (by decide +kernel)
theorem fl_4_55 : fl_ok RX4 55 3 3 := fl_N (hh := "NumeralBabel") 168 cl_3 (by decide) (by decide +kernel)
theorem fl_1_9 : fl_ok RX1 9 1 0 := fl_A 183 cl_1 (by decide) (by decide +kernel)
theorem fl_4_56 : fl_ok RX4 56 1 0 := fl_N (hh := "NumeralBabel") 184 cl_1 (by decide) (by decide +kernel)
theorem fl_7_258 : fl_ok RX7 258 1 0 := fl_N (hh := "NumeralBabel") 185 cl_1 (by decide) (by decide +kernel)
theorem fl_1_15 : fl_ok RX1 15 1 1 := fl_A 186 cl_1 (by decide) (by decide +kernel)
theorem fl_4_67 : fl_ok RX4 67 1 1 := fl_N (hh := "NumeralBabel") 187 cl_1 (by decide) (by decide +kernel)
theorem fl_7_261 : fl_ok RX7 261 1 1 := fl_N (hh := "NumeralBabel") 188 cl_1 (by decide) (by decide +kernel)
theorem fl_1_18 : fl_ok RX1 18 1 2 := fl_A 189 cl_1 (by decide) (by decide +kernel)
theorem fl_4_134 : fl_ok RX4 134 1 2 := fl_N (hh := "NumeralBabel") 190 cl_1 (by decide) (by decide +kernel)
theorem fl_7_264 : fl_ok RX7 264 1 2 := fl_N (hh := "NumeralBabel") 191 cl_1 (by decide) (by decide +kernel)
theorem fl_1_21 : fl_ok RX1 21 1 3 := fl_A 192 cl_1 (by decide) (by decide +kernel)
theorem fl_7_267 : fl_ok RX7 267 1 3 := fl_N (hh := "NumeralBabel") 193 cl_1 (by decide) (by decide +kernel)
theorem fl_1_24 : fl_ok RX1 24 1 4 := fl_A 194 cl_1 (by decide) (by decide +kernel)
theorem fl_7_130 : fl_ok RX7 130 1 4 := fl_N (hh := "NumeralBabel") 195 cl_1 (by decide) (by decide +kernel)
theorem fl_4_131 : fl_ok RX4 131 1 4 := fl_N (hh := "NumeralBabel") 196 cl_1 (by decide) (by decide +kernel)
theorem fl_1_27 : fl_ok RX1 27 1 5 := fl_A 197 cl_1 (by decide) (by decide +kernel)
theorem fl_7_135 : fl_ok RX7 135 1 5 := fl_N (hh := "NumeralBabel") 198 cl_1 (by decide) (by decide +kernel)
theorem fl_4_122 : fl_ok RX4 122 1 5 := fl_N (hh := "NumeralBabel") 199 cl_1 (by decide) (by decide +kernel)
theorem fl_1_30 : fl_ok RX1 30 1 6 := fl_A 200 cl_1 (by decide) (by decide +kernel)
theorem fl_7_138 : fl_ok RX7 138 1 6 := fl_N (hh := "NumeralBabel") 201 cl_1 (by decide) (by decide +kernel)
theorem fl_4_125 : fl_ok RX4 125 1 6 := fl_N (hh := "NumeralBabel") 202 cl_1 (by decide) (by decide +kernel)
theorem fl_4_12 : fl_ok RX4 12 4 0 := fl_A 218 cl_4 (by decide) (by decide +kernel)
theorem fl_7_74 : fl_ok RX7 74 4 0 := fl_N (hh := "NumeralBabel") 219 cl_4 (by decide) (by decide +kernel)
theorem fl_4_20 : fl_ok RX4 20 4 1 := fl_A 220 cl_4 (by decide) (by decide +kernel)
theorem fl_7_300 : fl_ok RX7 300 4 1 := fl_N (hh := "NumeralBabel") 221 cl_4 (by decide) (by decide +kernel)
theorem fl_4_24 : fl_ok RX4 24 4 2 := fl_A 222 cl_4 (by decide) (by decide +kernel)
theorem fl_7_110 : fl_ok RX7 110 4 2 := fl_N (hh := "NumeralBabel") 223 cl_4 (by decide) (by decide +kernel)
theorem fl_4_31 : fl_ok RX4 31 4 3 := fl_A 224 cl_4 (by decide) (by decide +kernel)
theorem fl_7_141 : fl_ok RX7 141 4 3 := fl_N (hh := "NumeralBabel") 225 cl_4 (by decide) (by decide +kernel)
theorem fl_4_35 : fl_ok RX4 35 4 4 := fl_A 226 cl_4 (by decide) (by decide +kernel)
theorem fl_7_156 : fl_ok RX7 156 4 4 := fl_N (hh := "NumeralBabel") 227 cl_4 (by decide) (by decide +kernel)
theorem fl_4_38 : fl_ok RX4 38 4 5 := fl_A 228 cl_4 (by decide) (by decide +kernel)
theorem fl_4_42 : fl_ok RX4 42 4 6 := fl_A 229 cl_4 (by decide) (by decide +kernel)
theorem fl_4_45 : fl_ok RX4 45 4 7 := fl_A 230 cl_4 (by decide) (by decide +kernel)
theorem fl_4_48 : fl_ok RX4 48 4 8 := fl_A 231 cl_4 (by decide) (by decide +kernel)
theorem fl_7_159 : fl_ok RX7 159 4 8 := fl_N (hh := "NumeralBabel") 232 cl_4 (by decide) (by decide +kernel)
theorem fl_7_11 : fl_ok RX7 11 7 0 := fl_A 252 cl_7 (by decide) (by decide +kernel)
theorem fl_7_18 : fl_ok RX7 18 7 1 := fl_A 253 cl_7 (by decide) (by decide +kernel)
theorem fl_7_22 : fl_ok RX7 22 7 2 := fl_A 254 cl_7 (by decide) (by decide +kernel)
theorem fl_7_25 : fl_ok RX7 25 7 3 := fl_A 255 cl_7 (by decide) (by decide +kernel)
theorem fl_7_28 : fl_ok RX7 28 7 4 := fl_A 256 cl_7 (by decide) (by decide +kernel)
theorem fl_7_31 : fl_ok RX7 31 7 5 := fl_A 257 cl_7 (by decide) (by decide +kernel)
theorem fl_7_35 : fl_ok RX7 35 7 6 := fl_A 258 cl_7 (by decide) (by decide +kernel)
theorem fl_7_41 : fl_ok RX7 41 7 7 := fl_A 259 cl_7 (by decide) (by decide +kernel)
theorem fl_7_45 : fl_ok RX7 45 7 8 := fl_A 260 cl_7 (by decide) (by decide +kernel)
theorem fl_7_48 : fl_ok RX7 48 7 9 := fl_A 261 cl_7 (by decide) (by decide +kernel)
theorem fl_7_52 : fl_ok RX7 52 7 10 := fl_A 262 cl_7 (by decide) (by decide +kernel)
theorem fl_7_56 : fl_ok RX7 56 7 11 := fl_A 263 cl_7 (by decide) (by decide +kernel)
theorem fl_7_59 : fl_ok RX7 59 7 12 := fl_A 264 cl_7 (by decide) (by decide +kernel)
theorem fl_7_65 : fl_ok RX7 65 7 13 := fl_A 265 cl_7 (by decide) (by decide +kernel)
theorem fld_at {E : sv_E} {σ : sv_G} {a c k : Nat} (hk : k < nfd c) : ((List.range (nfd c)).map (fld E σ a c))[k]? = some (fld E σ a c k) := by simp [hk]
theorem up_cel {E : sv_E} {σ : sv_G} {a b : Nat} {k v : Int} (h : b ≠ a) : cel E (up σ a k v) b = cel E σ b := by
  have e : ∀ j, up σ a k v b j = σ b j := fun j => up_a h
  have e1 : ∀ c, fld E (up σ a k v) b c = fld E σ b c := by
    intro c
    funext j
    unfold fld
    rw [e]
  unfold cel
  split <;> simp only [celI, celL, celR, celO, e, e1]
theorem ws_set {E : sv_E} {σ : sv_G} {a : Nat} {k v : Int} (ha : a < 195) : (sv_ws E σ).set a (E.1 + a, cel E (up σ a k v) a) = sv_ws E (up σ a k v) := by
  have hx : sv_wx E (up σ a k v) = sv_wx E σ := by
    unfold sv_wx
    refine List.map_congr_left fun j _ => ?_
    have e : ∀ i, up σ a k v (195 + j) i = σ (195 + j) i := fun i => up_a (by omega)
    unfold celI
    simp only [e]
  unfold sv_ws
  rw [hx, List.set_append_left _ _ (by simp [ha])]
  congr 1
  apply List.ext_getElem?
  intro i
  by_cases q : i = a
  · subst q
    rw [List.getElem?_set_self (by simp [ha])]
    simp [ha]
  · rw [List.getElem?_set_ne (Ne.symm q)]
    by_cases q2 : i < 195
    · simp only [List.getElem?_map, List.getElem?_range q2, Option.map_some]
      rw [up_cel q]
    · rw [List.getElem?_eq_none (by simp; omega), List.getElem?_eq_none (by simp; omega)]
theorem fld_set {E : sv_E} {σ : sv_G} {a c k : Nat} {v : Int} (x : Value) (hk : k < nfd c) (hx : fld E (up σ a k v) a c k = x) : ((List.range (nfd c)).map (fld E σ a c)).set k x = (List.range (nfd c)).map (fld E (up σ a k v) a c) := by
  apply List.ext_getElem?
  intro i
  by_cases q : i = k
  · subst q
    rw [List.getElem?_set_self (by simp [hk])]
    simp [hk, hx]
  · rw [List.getElem?_set_ne (Ne.symm q)]
    by_cases q2 : i < nfd c
    · simp only [List.getElem?_map, List.getElem?_range q2, Option.map_some]
      congr 1
      unfold fld
      rw [up_k (by omega : (i : Int) ≠ (k : Int))]
    · rw [List.getElem?_eq_none (by simp; omega), List.getElem?_eq_none (by simp; omega)]
theorem shp_n {a c n : Nat} (h : shp a = (c, n)) (hc : c < 99) : n ≤ 20000 := by
  have ha := shp_lt h hc
  have hh : ∀ a, a < 195 → (shp a).2 ≤ 20000 := by decide +kernel
  have h2 := hh a ha
  rw [h] at h2
  exact h2
theorem ix_in {i : Int} {n : Nat} (h0 : 0 ≤ i) (h1 : i < (n : Int)) (hn : n ≤ 20000) : vp_in (Int32.ofInt i) n := vp_in_iff.mpr (by rw [sn_ofI (by omega)]; exact ⟨h0, h1⟩)
theorem ix_cl {i : Int} (h0 : 0 ≤ i) (h1 : i ≤ 2147483647) : (((Int32.ofInt i).toNatClampNeg : Nat) : Int) = i := by
  have h3 : ((i.toNat : Nat) : Int) = i := Int.toNat_of_nonneg h0
  have h2 : Int32.ofInt ((i.toNat : Nat) : Int) = nI i.toNat := Int32.ofInt_eq_ofNat
  rw [h3] at h2
  rw [h2, nI_clamp (by omega)]
  omega
theorem SW.withG {X : sx_T} {E : sv_E} {Q : State → Prop} {u w pc : Nat} {ls : List (Option sv_V)} {st : List sv_V} {σ : sv_G} (h : RG σ → SW X E Q u w pc ls st σ) : SW X E Q u w pc ls st σ := by
  obtain ⟨p, l, e, R, s, m, args, below, meth, c⟩ := X
  intro H locs lsA hR hL
  exact h hR.2.2.2 H locs lsA hR hL
theorem s_getX {X : sx_T} {E : sv_E} {D : sd_T} {Q : State → Prop} {u w pc : Nat} {ls : List (Option sv_V)} {st : List sv_V} {σ : sv_G} {idx a c k9 : Nat} {v : sv_V} (C : sx_ok X E D) (hf : fl_ok D.1 idx c k9) (hd : decode D.2.1 pc = .ok (.getfield idx, 3)) (ha : shp a = (c, 0)) (hv : fld E σ a c k9 = cv E v) (kk : SW X E Q u w (pc + 3) ls (v :: st) σ) : SW X E Q u w pc ls (vR a :: st) σ := by
  obtain ⟨p, l, e, R, s, m, args, below, meth, c_⟩ := X
  obtain ⟨own, cc, nL, rt, tb, k, mc, ms⟩ := D
  obtain ⟨hx, hb, hnl, hown, hts, hMW, hK, -⟩ := C
  intro H locs lsA hR hL
  obtain ⟨hP, hD, hS, hG⟩ := hR
  have kk := kk H locs lsA ⟨hP, hD, hS, hG⟩ hL
  obtain ⟨C9, T9, N9, ⟨g1, rfl, g3, g4, -⟩, hk9, hl⟩ := hf
  have hw : (sv_ws E σ)[a]? = some (E.1 + a, .inr (c, (List.range (nfd c)).map (fld E σ a c))) := by rw [sv_ws_at (shp_lt ha (by omega)), cel_O ha (by omega)]; rfl
  have hv9 : ((List.range (nfd c)).map (fld E σ a c))[k9]? = some (cv E v) := by rw [fld_at hk9, hv]
  rcases hl with hl | ⟨h9, hl⟩
  · exact va_get (T := T9) hx hb hts g4 hown hK hP a hw g1 k9 hk9 (hts _ hl) (fun _ h => h) hv9 hd kk
  · exact va_getN (T := T9) hx hb hts g4 hown hK hP a hw g1 k9 hk9 (va_Nw.use rfl (hMW.1 _ hl)) (fun _ h => h) hv9 hd kk
theorem s_getI {X : sx_T} {E : sv_E} {D : sd_T} {Q : State → Prop} {u w pc : Nat} {ls : List (Option sv_V)} {st : List sv_V} {σ : sv_G} {idx a c k9 : Nat} {kz : Int} (C : sx_ok X E D) (hf : fl_ok D.1 idx c k9) (hd : decode D.2.1 pc = .ok (.getfield idx, 3)) (ha : shp a = (c, 0)) (hk : fkd c k9 = 0) (hkz : (k9 : Int) = kz) (kk : (-2147483648 ≤ σ a kz ∧ σ a kz ≤ 2147483647) → SW X E Q u w (pc + 3) ls (vI (σ a kz) :: st) σ) : SW X E Q u w pc ls (vR a :: st) σ   := by
  subst hkz
  have hc : c < 10 := by obtain ⟨_, _, _, ⟨_, _, g3, _⟩, _⟩ := hf; omega
  refine SW.withG fun hG => ?_
  exact s_getX C hf hd ha (v := vI (σ a k9)) (by unfold fld; rw [hk]; rfl) (kk (hG.i (by rw [isLg_O ha hc, hk]; rfl)))
theorem s_getL {X : sx_T} {E : sv_E} {D : sd_T} {Q : State → Prop} {u w pc : Nat} {ls : List (Option sv_V)} {st : List sv_V} {σ : sv_G} {idx a c k9 : Nat} {kz : Int} (C : sx_ok X E D) (hf : fl_ok D.1 idx c k9) (hd : decode D.2.1 pc = .ok (.getfield idx, 3)) (ha : shp a = (c, 0)) (hk : fkd c k9 = 1) (hkz : (k9 : Int) = kz) (kk : (-9223372036854775808 ≤ σ a kz ∧ σ a kz ≤ 9223372036854775807) → SW X E Q u w (pc + 3) ls (vL (σ a kz) :: st) σ) : SW X E Q u w pc ls (vR a :: st) σ   := by
  subst hkz
  refine SW.withG fun hG => ?_
  exact s_getX C hf hd ha (v := vL (σ a k9)) (by unfold fld; rw [hk]; rfl) (kk (hG a k9).2)
theorem s_getR {X : sx_T} {E : sv_E} {D : sd_T} {Q : State → Prop} {u w pc : Nat} {ls : List (Option sv_V)} {st : List sv_V} {σ : sv_G} {idx a c k9 b : Nat} (C : sx_ok X E D) (hf : fl_ok D.1 idx c k9) (hd : decode D.2.1 pc = .ok (.getfield idx, 3)) (ha : shp a = (c, 0)) (hk : fkd c k9 = 2) (hr : rfs a k9 = b) (kk : SW X E Q u w (pc + 3) ls (vR b :: st) σ) : SW X E Q u w pc ls (vR a :: st) σ := by
  subst hr
  exact s_getX C hf hd ha (v := vR (rfs a k9)) (by unfold fld; rw [hk]; rfl) kk
theorem s_putI {X : sx_T} {E : sv_E} {D : sd_T} {Q : State → Prop} {u w pc : Nat} {ls : List (Option sv_V)} {st : List sv_V} {σ : sv_G} {idx a c k9 : Nat} {z kz : Int} (C : sx_ok X E D) (hf : fl_ok D.1 idx c k9) (hd : decode D.2.1 pc = .ok (.putfield idx, 3)) (ha : shp a = (c, 0)) (hk : fkd c k9 = 0) (hfin : ∀ (C9 : String) (T9 : u_T), vwCl[c]? = some (C9, T9, nfd c) → (T9 k9).2.2.2 = false) (hz : -2147483648 ≤ z ∧ z ≤ 2147483647) (hkz : (k9 : Int) = kz) (kk : SW X E Q u w (pc + 3) ls st (up σ a kz z)) : SW X E Q u w pc ls (vI z :: vR a :: st) σ := by
  subst hkz
  obtain ⟨p, l, e, R, s, m, args, below, meth, c_⟩ := X
  obtain ⟨own, cc, nL, rt, tb, k, mc, ms⟩ := D
  obtain ⟨hx, hb, hnl, hown, hts, hMW, hK, -⟩ := C
  intro H locs lsA hR hL
  obtain ⟨hP, hD, hS, hG⟩ := hR
  obtain ⟨C9, T9, N9, ⟨g1, rfl, g3, g4, g5, ty, g6, g7⟩, hk9, hl⟩ := hf
  have ha9 := shp_lt ha (by omega)
  have hw : (sv_ws E σ)[a]? = some (E.1 + a, .inr (c, (List.range (nfd c)).map (fld E σ a c))) := by rw [sv_ws_at ha9, cel_O ha (by omega)]; rfl
  have he : (sv_ws E σ).set a (E.1 + a, .inr (c, ((List.range (nfd c)).map (fld E σ a c)).set k9 (.int (Int32.ofInt z)))) = sv_ws E (up σ a k9 z) := by
    rw [fld_set (v := z) _ hk9 (by unfold fld; rw [hk]; simp only [up_s]), ← ws_set (k := (k9 : Int)) (v := z) ha9, cel_O ha (by omega)]; rfl
  have kk9 : ∀ (H1 : Heap) (locs1 : List Loc), va_P E.2.2.2 vwCl ((sv_ws E σ).set a (E.1 + a, .inr (c, ((List.range (nfd c)).map (fld E σ a c)).set k9 (.int (Int32.ofInt z))))) H1 → va_D (fun q => E.1 ≤ q) ((sv_ws E σ).set a (E.1 + a, .inr (c, ((List.range (nfd c)).map (fld E σ a c)).set k9 (.int (Int32.ofInt z))))) → va_S (fun q => E.1 ≤ q) s.heap H1 locs1 → W p l e R s m args below meth c_ H1 locs1 u w Q (F0 m (pc + 3) lsA (st.map (cv E))) := by
    rw [he]
    exact fun H1 locs1 a1 a2 a3 => kk H1 locs1 lsA ⟨a1, a2, a3, hG.upI hz⟩ hL
  rcases hl with hl | ⟨h9, hl⟩
  · exact va_put (T := T9) (ty := .int) hx hb hts g4 ty g6 g5 hown hK hP hD hS a hw g1 k9 hk9 (hts _ hl) (fun _ h => h) (hfin C9 T9 g1) (by rw [g6 k9 hk9, (g7 k9 hk9).1 hk]) rfl rfl (by simp [hk9]) hd kk9
  · exact va_putN (T := T9) (ty := .int) hx hb hts g4 ty g6 g5 hown hK hP hD hS a hw g1 k9 hk9 (va_Nw.use rfl (hMW.1 _ hl)) (fun _ h => h) (hfin C9 T9 g1) (by rw [g6 k9 hk9, (g7 k9 hk9).1 hk]) rfl rfl (by simp [hk9]) hd kk9
theorem s_putL {X : sx_T} {E : sv_E} {D : sd_T} {Q : State → Prop} {u w pc : Nat} {ls : List (Option sv_V)} {st : List sv_V} {σ : sv_G} {idx a c k9 : Nat} {z kz : Int} (C : sx_ok X E D) (hf : fl_ok D.1 idx c k9) (hd : decode D.2.1 pc = .ok (.putfield idx, 3)) (ha : shp a = (c, 0)) (hk : fkd c k9 = 1) (hfin : ∀ (C9 : String) (T9 : u_T), vwCl[c]? = some (C9, T9, nfd c) → (T9 k9).2.2.2 = false) (hz : -9223372036854775808 ≤ z ∧ z ≤ 9223372036854775807) (hkz : (k9 : Int) = kz) (kk : SW X E Q u w (pc + 3) ls st (up σ a kz z)) : SW X E Q u w pc ls (vL z :: vR a :: st) σ := by
  subst hkz
  obtain ⟨p, l, e, R, s, m, args, below, meth, c_⟩ := X
  obtain ⟨own, cc, nL, rt, tb, k, mc, ms⟩ := D
  obtain ⟨hx, hb, hnl, hown, hts, hMW, hK, -⟩ := C
  intro H locs lsA hR hL
  obtain ⟨hP, hD, hS, hG⟩ := hR
  obtain ⟨C9, T9, N9, ⟨g1, rfl, g3, g4, g5, ty, g6, g7⟩, hk9, hl⟩ := hf
  have ha9 := shp_lt ha (by omega)
  have hw : (sv_ws E σ)[a]? = some (E.1 + a, .inr (c, (List.range (nfd c)).map (fld E σ a c))) := by rw [sv_ws_at ha9, cel_O ha (by omega)]; rfl
  have he : (sv_ws E σ).set a (E.1 + a, .inr (c, ((List.range (nfd c)).map (fld E σ a c)).set k9 (.long (Int64.ofInt z)))) = sv_ws E (up σ a k9 z) := by
    rw [fld_set (v := z) _ hk9 (by unfold fld; rw [hk]; simp only [up_s]), ← ws_set (k := (k9 : Int)) (v := z) ha9, cel_O ha (by omega)]; rfl
  have kk9 : ∀ (H1 : Heap) (locs1 : List Loc), va_P E.2.2.2 vwCl ((sv_ws E σ).set a (E.1 + a, .inr (c, ((List.range (nfd c)).map (fld E σ a c)).set k9 (.long (Int64.ofInt z))))) H1 → va_D (fun q => E.1 ≤ q) ((sv_ws E σ).set a (E.1 + a, .inr (c, ((List.range (nfd c)).map (fld E σ a c)).set k9 (.long (Int64.ofInt z))))) → va_S (fun q => E.1 ≤ q) s.heap H1 locs1 → W p l e R s m args below meth c_ H1 locs1 u w Q (F0 m (pc + 3) lsA (st.map (cv E))) := by
    rw [he]
    exact fun H1 locs1 a1 a2 a3 => kk H1 locs1 lsA ⟨a1, a2, a3, hG.upL (by rw [isLg_O ha (by omega), hk]; rfl) hz⟩ hL
  rcases hl with hl | ⟨h9, hl⟩
  · exact va_put (T := T9) (ty := .long) hx hb hts g4 ty g6 g5 hown hK hP hD hS a hw g1 k9 hk9 (hts _ hl) (fun _ h => h) (hfin C9 T9 g1) (by rw [g6 k9 hk9, (g7 k9 hk9).2 hk]) rfl rfl (by simp [hk9]) hd kk9
  · exact va_putN (T := T9) (ty := .long) hx hb hts g4 ty g6 g5 hown hK hP hD hS a hw g1 k9 hk9 (va_Nw.use rfl (hMW.1 _ hl)) (fun _ h => h) (hfin C9 T9 g1) (by rw [g6 k9 hk9, (g7 k9 hk9).2 hk]) rfl rfl (by simp [hk9]) hd kk9
theorem s_iald {X : sx_T} {E : sv_E} {D : sd_T} {Q : State → Prop} {u w pc : Nat} {ls : List (Option sv_V)} {st : List sv_V} {σ : sv_G} {a n : Nat} {i : Int} (C : sx_ok X E D) (hd : decode D.2.1 pc = .ok (.iaload, 1)) (ha : shp a = (10, n)) (hi : 0 ≤ i ∧ i < (n : Int)) (kk : (-2147483648 ≤ σ a i ∧ σ a i ≤ 2147483647) → SW X E Q u w (pc + 1) ls (vI (σ a i) :: st) σ) : SW X E Q u w pc ls (vI i :: vR a :: st) σ := by
  obtain ⟨p, l, e, R, s, m, args, below, meth, c⟩ := X
  obtain ⟨own, cc, nL, rt, tb, k, mc, ms⟩ := D
  obtain ⟨hx, hb, hnl, hown, hts, hMW, hK, -⟩ := C
  intro H locs lsA hR hL
  obtain ⟨hP, hD, hS, hG⟩ := hR
  have kk := kk (hG.i (isLg_A ha)) H locs lsA ⟨hP, hD, hS, hG⟩ hL
  have hn := shp_n ha (by omega)
  refine va_iald hx hb hK hP a 0 (f := fun k => Int32.ofInt (σ a k)) (by rw [sv_ws_at (shp_lt ha (by omega)), cel_I ha]; rfl) rfl (ix_in hi.1 hi.2 hn) hd ?_
  simp only [ix_cl hi.1 (by omega : i ≤ 2147483647)]
  exact kk
theorem s_iast {X : sx_T} {E : sv_E} {D : sd_T} {Q : State → Prop} {u w pc : Nat} {ls : List (Option sv_V)} {st : List sv_V} {σ : sv_G} {a n : Nat} {i z : Int} (C : sx_ok X E D) (hd : decode D.2.1 pc = .ok (.iastore, 1)) (ha : shp a = (10, n)) (hi : 0 ≤ i ∧ i < (n : Int)) (hz : -2147483648 ≤ z ∧ z ≤ 2147483647) (kk : SW X E Q u w (pc + 1) ls st (up σ a i z)) : SW X E Q u w pc ls (vI z :: vI i :: vR a :: st) σ := by
  obtain ⟨p, l, e, R, s, m, args, below, meth, c⟩ := X
  obtain ⟨own, cc, nL, rt, tb, k, mc, ms⟩ := D
  obtain ⟨hx, hb, hnl, hown, hts, hMW, hK, -⟩ := C
  intro H locs lsA hR hL
  obtain ⟨hP, hD, hS, hG⟩ := hR
  have hn := shp_n ha (by omega)
  have ha9 := shp_lt ha (by omega)
  have he : upd (fun k : Nat => Int32.ofInt (σ a k)) (Int32.ofInt i).toNatClampNeg (Int32.ofInt z) = fun k : Nat => Int32.ofInt (up σ a i z a k) := by
    funext k
    have h1 := ix_cl hi.1 (by omega : i ≤ 2147483647)
    unfold upd up
    by_cases q : k = (Int32.ofInt i).toNatClampNeg
    · rw [if_pos q, if_pos ⟨rfl, by omega⟩]
    · rw [if_neg q, if_neg (by omega)]
  have he2 : cel E (up σ a i z) a = celI E (up σ a i z) a n := cel_I ha
  refine va_iast hx hb hK hP hD hS a 0 (f := fun k => Int32.ofInt (σ a k)) (by rw [sv_ws_at ha9, cel_I ha]; rfl) rfl (ix_in hi.1 hi.2 hn) hd (fun H1 locs1 a1 a2 a3 => ?_)
  rw [he] at a1 a2
  refine kk H1 locs1 lsA ⟨?_, ?_, a3, hG.upI hz⟩ hL
  · rw [← ws_set ha9, he2]; exact a1
  · rw [← ws_set ha9, he2]; exact a2
theorem s_aald {X : sx_T} {E : sv_E} {D : sd_T} {Q : State → Prop} {u w pc : Nat} {ls : List (Option sv_V)} {st : List sv_V} {σ : sv_G} {a n t b : Nat} {i : Int} (C : sx_ok X E D) (hd : decode D.2.1 pc = .ok (.aaload, 1)) (ha : shp a = (10 + t, n)) (ht : 2 ≤ t ∧ t ≤ 4) (hi : 0 ≤ i ∧ i < (n : Int)) (hr : rfs a i.toNat = b) (kk : SW X E Q u w (pc + 1) ls (vR b :: st) σ) : SW X E Q u w pc ls (vI i :: vR a :: st) σ := by
  obtain ⟨p, l, e, R, s, m, args, below, meth, c⟩ := X
  obtain ⟨own, cc, nL, rt, tb, k, mc, ms⟩ := D
  obtain ⟨hx, hb, hnl, hown, hts, hMW, hK, -⟩ := C
  intro H locs lsA hR hL
  obtain ⟨hP, hD, hS, hG⟩ := hR
  subst hr
  have kk := kk H locs lsA ⟨hP, hD, hS, hG⟩ hL
  have hn := shp_n ha (by omega)
  have hty : ∃ C9, (sv_tys E)[t]? = some (E.2.2.1 t, .object C9) := by
    match t, ht with
    | 2, _ => exact ⟨_, rfl⟩
    | 3, _ => exact ⟨_, rfl⟩
    | 4, _ => exact ⟨_, rfl⟩
  obtain ⟨C9, hty⟩ := hty
  have hc := ix_cl hi.1 (by omega : i ≤ 2147483647)
  have hc2 : (Int32.ofInt i).toNatClampNeg = i.toNat := by omega
  refine va_aldq hx hb hK hP a t (f := fun k => if k < n then some (E.1 + rfs a k) else none) (by rw [sv_ws_at (shp_lt ha (by omega)), cel_R ha ht.1 ht.2]; rfl) hty (ix_in hi.1 hi.2 hn) hd ?_
  simp only [hc2, if_pos (show i.toNat < n by omega)]
  exact kk
