/-! Fields and rows of the cells. -/
theorem ic_0 : ∀ w ∈ u_ws RX0 TX0 3, w ∈ LW := LW_sub [178, 180, 182] (by decide +kernel) (by decide +kernel)
theorem ic_1 : ∀ w ∈ u_ws RX1 TX1 7, w ∈ LW := LW_sub [232, 234, 236, 238, 240, 242, 244] (by decide +kernel) (by decide +kernel)
theorem ic_2 : ∀ w ∈ u_ws RX2 TX2 3, w ∈ LW := LW_sub [155, 157, 159] (by decide +kernel) (by decide +kernel)
theorem ic_3 : ∀ w ∈ u_ws RX3 TX3 4, w ∈ LW := LW_sub [198, 200, 202, 204] (by decide +kernel) (by decide +kernel)
theorem ic_4 : ∀ w ∈ u_ws RX4 TX4 9, w ∈ LW := LW_sub [262, 264, 266, 268, 270, 272, 274, 276, 278] (by decide +kernel) (by decide +kernel)
theorem ic_5 : ∀ w ∈ u_ws RX5 TX5 3, w ∈ LW := LW_sub [135, 137, 139] (by decide +kernel) (by decide +kernel)
theorem ic_6 : ∀ w ∈ u_ws RX6 TX6 2, w ∈ LW := LW_sub [120, 122] (by decide +kernel) (by decide +kernel)
theorem ic_7 : ∀ w ∈ u_ws RX7 TX7 14, w ∈ LW := LW_sub [295, 297, 299, 301, 303, 305, 307, 309, 311, 313, 315, 317, 319, 321] (by decide +kernel) (by decide +kernel)
theorem ic_8 : ∀ w ∈ u_ws RX8 TX8 39, w ∈ LW := LW_sub [955, 957, 959, 961, 963, 965, 967, 969, 971, 973, 975, 977, 979, 981, 983, 985, 987, 989, 991, 993, 995, 997, 999, 1001, 1003, 1005, 1007, 1009, 1011, 1013, 1015, 1017, 1019, 1021, 1023, 1025, 1027, 1029, 1031] (by decide +kernel) (by decide +kernel)
def cl_ok (c : Nat) (C : String) (T : u_T) (N : Nat) : Prop := vwCl[c]? = some (C, T, N) ∧ N = nfd c ∧ c < 9 ∧ (∀ w ∈ u_ws C T N, w ∈ LW) ∧ (∀ a, a < N → ∀ b, b < N → a ≠ b → (T a).2.1 ≠ (T b).2.1) ∧ (∃ ty : Nat → FieldType, (∀ k, k < N → parseFieldDescriptor (T k).2.2.1 = some (ty k)) ∧ ∀ k, k < N → (fkd c k = 0 → ty k = .int) ∧ (fkd c k = 1 → ty k = .long))
theorem cl_0 : cl_ok 0 RX0 TX0 3 := ⟨rfl, by decide +kernel, by decide, ic_0, nmX0, tyX0, tyX0_ok, by decide +kernel⟩
theorem cl_1 : cl_ok 1 RX1 TX1 7 := ⟨rfl, by decide +kernel, by decide, ic_1, nmX1, tyX1, tyX1_ok, by decide +kernel⟩
theorem cl_2 : cl_ok 2 RX2 TX2 3 := ⟨rfl, by decide +kernel, by decide, ic_2, nmX2, tyX2, tyX2_ok, by decide +kernel⟩
theorem cl_3 : cl_ok 3 RX3 TX3 4 := ⟨rfl, by decide +kernel, by decide, ic_3, nmX3, tyX3, tyX3_ok, by decide +kernel⟩
theorem cl_4 : cl_ok 4 RX4 TX4 9 := ⟨rfl, by decide +kernel, by decide, ic_4, nmX4, tyX4, tyX4_ok, by decide +kernel⟩
theorem cl_5 : cl_ok 5 RX5 TX5 3 := ⟨rfl, by decide +kernel, by decide, ic_5, nmX5, tyX5, tyX5_ok, by decide +kernel⟩
theorem cl_6 : cl_ok 6 RX6 TX6 2 := ⟨rfl, by decide +kernel, by decide, ic_6, nmX6, tyX6, tyX6_ok, by decide +kernel⟩
theorem cl_7 : cl_ok 7 RX7 TX7 14 := ⟨rfl, by decide +kernel, by decide, ic_7, nmX7, tyX7, tyX7_ok, by decide +kernel⟩
theorem cl_8 : cl_ok 8 RX8 TX8 39 := ⟨rfl, by decide +kernel, by decide, ic_8, nmX8, tyX8, tyX8_ok, by decide +kernel⟩
/-- entry idx of class own's pool names field k of class c -/
def fl_ok (own : String) (idx c k : Nat) : Prop := ∃ (C : String) (T : u_T) (N : Nat), cl_ok c C T N ∧ k < N ∧ (Cond.fieldLink own idx (T k).1 (T k).2.1 (T k).2.2.1 ∈ LW ∨ ∃ h, Cond.fieldLinkNest own idx (T k).1 (T k).2.1 (T k).2.2.1 h ∈ NW)
theorem fl_A {own : String} {idx c k : Nat} {C : String} {T : u_T} {N : Nat} (i : Nat) (hc : cl_ok c C T N) (hk : k < N) (h : lw_tbl[i]? = some (Cond.fieldLink own idx (T k).1 (T k).2.1 (T k).2.2.1)) : fl_ok own idx c k := ⟨C, T, N, hc, hk, Or.inl (LW_in i h rfl)⟩
theorem fl_N {own : String} {idx c k : Nat} {C : String} {T : u_T} {N : Nat} {hh : String} (i : Nat) (hc : cl_ok c C T N) (hk : k < N) (h : lw_tbl[i]? = some (Cond.fieldLinkNest own idx (T k).1 (T k).2.1 (T k).2.2.1 hh)) : fl_ok own idx c k := ⟨C, T, N, hc, hk, Or.inr ⟨hh, NW_in i h rfl⟩⟩
theorem fl_6_9 : fl_ok RX6 9 6 0 := fl_A 117 cl_6 (by decide) (by decide +kernel)
theorem fl_6_15 : fl_ok RX6 15 6 1 := fl_A 118 cl_6 (by decide) (by decide +kernel)
theorem fl_7_180 : fl_ok RX7 180 6 1 := fl_N (hh := "NumeralBabel") 119 cl_6 (by decide) (by decide +kernel)
theorem fl_5_9 : fl_ok RX5 9 5 0 := fl_A 132 cl_5 (by decide) (by decide +kernel)
theorem fl_5_15 : fl_ok RX5 15 5 1 := fl_A 133 cl_5 (by decide) (by decide +kernel)
theorem fl_5_18 : fl_ok RX5 18 5 2 := fl_A 134 cl_5 (by decide) (by decide +kernel)
theorem fl_2_9 : fl_ok RX2 9 2 0 := fl_A 149 cl_2 (by decide) (by decide +kernel)
theorem fl_7_278 : fl_ok RX7 278 2 0 := fl_N (hh := "NumeralBabel") 150 cl_2 (by decide) (by decide +kernel)
theorem fl_2_15 : fl_ok RX2 15 2 1 := fl_A 151 cl_2 (by decide) (by decide +kernel)
theorem fl_7_285 : fl_ok RX7 285 2 1 := fl_N (hh := "NumeralBabel") 152 cl_2 (by decide) (by decide +kernel)
theorem fl_2_18 : fl_ok RX2 18 2 2 := fl_A 153 cl_2 (by decide) (by decide +kernel)
theorem fl_7_288 : fl_ok RX7 288 2 2 := fl_N (hh := "NumeralBabel") 154 cl_2 (by decide) (by decide +kernel)
theorem fl_0_9 : fl_ok RX0 9 0 0 := fl_A 173 cl_0 (by decide) (by decide +kernel)
theorem fl_0_15 : fl_ok RX0 15 0 1 := fl_A 174 cl_0 (by decide) (by decide +kernel)
theorem fl_0_18 : fl_ok RX0 18 0 2 := fl_A 175 cl_0 (by decide) (by decide +kernel)
theorem fl_4_52 : fl_ok RX4 52 0 2 := fl_N (hh := "NumeralBabel") 176 cl_0 (by decide) (by decide +kernel)
theorem fl_7_167 : fl_ok RX7 167 0 2 := fl_N (hh := "NumeralBabel") 177 cl_0 (by decide) (by decide +kernel)
theorem fl_3_9 : fl_ok RX3 9 3 0 := fl_A 193 cl_3 (by decide) (by decide +kernel)
theorem fl_3_15 : fl_ok RX3 15 3 1 := fl_A 194 cl_3 (by decide) (by decide +kernel)
theorem fl_3_18 : fl_ok RX3 18 3 2 := fl_A 195 cl_3 (by decide) (by decide +kernel)
theorem fl_3_21 : fl_ok RX3 21 3 3 := fl_A 196 cl_3 (by decide) (by decide +kernel)
theorem fl_4_55 : fl_ok RX4 55 3 3 := fl_N (hh := "NumeralBabel") 197 cl_3 (by decide) (by decide +kernel)
theorem fl_1_9 : fl_ok RX1 9 1 0 := fl_A 212 cl_1 (by decide) (by decide +kernel)
theorem fl_4_56 : fl_ok RX4 56 1 0 := fl_N (hh := "NumeralBabel") 213 cl_1 (by decide) (by decide +kernel)
theorem fl_7_258 : fl_ok RX7 258 1 0 := fl_N (hh := "NumeralBabel") 214 cl_1 (by decide) (by decide +kernel)
theorem fl_1_15 : fl_ok RX1 15 1 1 := fl_A 215 cl_1 (by decide) (by decide +kernel)
theorem fl_4_67 : fl_ok RX4 67 1 1 := fl_N (hh := "NumeralBabel") 216 cl_1 (by decide) (by decide +kernel)
theorem fl_7_261 : fl_ok RX7 261 1 1 := fl_N (hh := "NumeralBabel") 217 cl_1 (by decide) (by decide +kernel)
theorem fl_1_18 : fl_ok RX1 18 1 2 := fl_A 218 cl_1 (by decide) (by decide +kernel)
theorem fl_4_134 : fl_ok RX4 134 1 2 := fl_N (hh := "NumeralBabel") 219 cl_1 (by decide) (by decide +kernel)
theorem fl_7_264 : fl_ok RX7 264 1 2 := fl_N (hh := "NumeralBabel") 220 cl_1 (by decide) (by decide +kernel)
theorem fl_1_21 : fl_ok RX1 21 1 3 := fl_A 221 cl_1 (by decide) (by decide +kernel)
theorem fl_7_267 : fl_ok RX7 267 1 3 := fl_N (hh := "NumeralBabel") 222 cl_1 (by decide) (by decide +kernel)
theorem fl_1_24 : fl_ok RX1 24 1 4 := fl_A 223 cl_1 (by decide) (by decide +kernel)
theorem fl_7_130 : fl_ok RX7 130 1 4 := fl_N (hh := "NumeralBabel") 224 cl_1 (by decide) (by decide +kernel)
theorem fl_4_131 : fl_ok RX4 131 1 4 := fl_N (hh := "NumeralBabel") 225 cl_1 (by decide) (by decide +kernel)
theorem fl_1_27 : fl_ok RX1 27 1 5 := fl_A 226 cl_1 (by decide) (by decide +kernel)
theorem fl_7_135 : fl_ok RX7 135 1 5 := fl_N (hh := "NumeralBabel") 227 cl_1 (by decide) (by decide +kernel)
theorem fl_4_122 : fl_ok RX4 122 1 5 := fl_N (hh := "NumeralBabel") 228 cl_1 (by decide) (by decide +kernel)
theorem fl_1_30 : fl_ok RX1 30 1 6 := fl_A 229 cl_1 (by decide) (by decide +kernel)
theorem fl_7_138 : fl_ok RX7 138 1 6 := fl_N (hh := "NumeralBabel") 230 cl_1 (by decide) (by decide +kernel)
theorem fl_4_125 : fl_ok RX4 125 1 6 := fl_N (hh := "NumeralBabel") 231 cl_1 (by decide) (by decide +kernel)
theorem fl_4_12 : fl_ok RX4 12 4 0 := fl_A 247 cl_4 (by decide) (by decide +kernel)
theorem fl_7_74 : fl_ok RX7 74 4 0 := fl_N (hh := "NumeralBabel") 248 cl_4 (by decide) (by decide +kernel)
theorem fl_4_20 : fl_ok RX4 20 4 1 := fl_A 249 cl_4 (by decide) (by decide +kernel)
theorem fl_7_300 : fl_ok RX7 300 4 1 := fl_N (hh := "NumeralBabel") 250 cl_4 (by decide) (by decide +kernel)
theorem fl_4_24 : fl_ok RX4 24 4 2 := fl_A 251 cl_4 (by decide) (by decide +kernel)
theorem fl_7_110 : fl_ok RX7 110 4 2 := fl_N (hh := "NumeralBabel") 252 cl_4 (by decide) (by decide +kernel)
theorem fl_4_31 : fl_ok RX4 31 4 3 := fl_A 253 cl_4 (by decide) (by decide +kernel)
theorem fl_7_141 : fl_ok RX7 141 4 3 := fl_N (hh := "NumeralBabel") 254 cl_4 (by decide) (by decide +kernel)
theorem fl_4_35 : fl_ok RX4 35 4 4 := fl_A 255 cl_4 (by decide) (by decide +kernel)
theorem fl_7_156 : fl_ok RX7 156 4 4 := fl_N (hh := "NumeralBabel") 256 cl_4 (by decide) (by decide +kernel)
theorem fl_4_38 : fl_ok RX4 38 4 5 := fl_A 257 cl_4 (by decide) (by decide +kernel)
theorem fl_4_42 : fl_ok RX4 42 4 6 := fl_A 258 cl_4 (by decide) (by decide +kernel)
theorem fl_4_45 : fl_ok RX4 45 4 7 := fl_A 259 cl_4 (by decide) (by decide +kernel)
theorem fl_4_48 : fl_ok RX4 48 4 8 := fl_A 260 cl_4 (by decide) (by decide +kernel)
theorem fl_7_159 : fl_ok RX7 159 4 8 := fl_N (hh := "NumeralBabel") 261 cl_4 (by decide) (by decide +kernel)
theorem fl_7_11 : fl_ok RX7 11 7 0 := fl_A 281 cl_7 (by decide) (by decide +kernel)
theorem fl_7_18 : fl_ok RX7 18 7 1 := fl_A 282 cl_7 (by decide) (by decide +kernel)
theorem fl_7_22 : fl_ok RX7 22 7 2 := fl_A 283 cl_7 (by decide) (by decide +kernel)
theorem fl_7_25 : fl_ok RX7 25 7 3 := fl_A 284 cl_7 (by decide) (by decide +kernel)
theorem fl_7_28 : fl_ok RX7 28 7 4 := fl_A 285 cl_7 (by decide) (by decide +kernel)
theorem fl_7_31 : fl_ok RX7 31 7 5 := fl_A 286 cl_7 (by decide) (by decide +kernel)
theorem fl_7_35 : fl_ok RX7 35 7 6 := fl_A 287 cl_7 (by decide) (by decide +kernel)
theorem fl_7_41 : fl_ok RX7 41 7 7 := fl_A 288 cl_7 (by decide) (by decide +kernel)
theorem fl_7_45 : fl_ok RX7 45 7 8 := fl_A 289 cl_7 (by decide) (by decide +kernel)
theorem fl_7_48 : fl_ok RX7 48 7 9 := fl_A 290 cl_7 (by decide) (by decide +kernel)
theorem fl_7_52 : fl_ok RX7 52 7 10 := fl_A 291 cl_7 (by decide) (by decide +kernel)
theorem fl_7_56 : fl_ok RX7 56 7 11 := fl_A 292 cl_7 (by decide) (by decide +kernel)
theorem fl_7_59 : fl_ok RX7 59 7 12 := fl_A 293 cl_7 (by decide) (by decide +kernel)
theorem fl_7_65 : fl_ok RX7 65 7 13 := fl_A 294 cl_7 (by decide) (by decide +kernel)
theorem fl_8_7 : fl_ok RX8 7 8 0 := fl_A 916 cl_8 (by decide) (by decide +kernel)
theorem fl_8_13 : fl_ok RX8 13 8 1 := fl_A 917 cl_8 (by decide) (by decide +kernel)
theorem fl_8_16 : fl_ok RX8 16 8 2 := fl_A 918 cl_8 (by decide) (by decide +kernel)
theorem fl_8_19 : fl_ok RX8 19 8 3 := fl_A 919 cl_8 (by decide) (by decide +kernel)
theorem fl_8_22 : fl_ok RX8 22 8 4 := fl_A 920 cl_8 (by decide) (by decide +kernel)
theorem fl_8_25 : fl_ok RX8 25 8 5 := fl_A 921 cl_8 (by decide) (by decide +kernel)
theorem fl_8_28 : fl_ok RX8 28 8 6 := fl_A 922 cl_8 (by decide) (by decide +kernel)
theorem fl_8_31 : fl_ok RX8 31 8 7 := fl_A 923 cl_8 (by decide) (by decide +kernel)
theorem fl_8_34 : fl_ok RX8 34 8 8 := fl_A 924 cl_8 (by decide) (by decide +kernel)
theorem fl_8_37 : fl_ok RX8 37 8 9 := fl_A 925 cl_8 (by decide) (by decide +kernel)
theorem fl_8_40 : fl_ok RX8 40 8 10 := fl_A 926 cl_8 (by decide) (by decide +kernel)
theorem fl_8_43 : fl_ok RX8 43 8 11 := fl_A 927 cl_8 (by decide) (by decide +kernel)
theorem fl_8_46 : fl_ok RX8 46 8 12 := fl_A 928 cl_8 (by decide) (by decide +kernel)
theorem fl_8_49 : fl_ok RX8 49 8 13 := fl_A 929 cl_8 (by decide) (by decide +kernel)
theorem fl_8_52 : fl_ok RX8 52 8 14 := fl_A 930 cl_8 (by decide) (by decide +kernel)
theorem fl_8_55 : fl_ok RX8 55 8 15 := fl_A 931 cl_8 (by decide) (by decide +kernel)
theorem fl_8_58 : fl_ok RX8 58 8 16 := fl_A 932 cl_8 (by decide) (by decide +kernel)
theorem fl_8_61 : fl_ok RX8 61 8 17 := fl_A 933 cl_8 (by decide) (by decide +kernel)
theorem fl_8_64 : fl_ok RX8 64 8 18 := fl_A 934 cl_8 (by decide) (by decide +kernel)
theorem fl_8_67 : fl_ok RX8 67 8 19 := fl_A 935 cl_8 (by decide) (by decide +kernel)
theorem fl_8_158 : fl_ok RX8 158 8 20 := fl_A 936 cl_8 (by decide) (by decide +kernel)
theorem fl_8_70 : fl_ok RX8 70 8 21 := fl_A 937 cl_8 (by decide) (by decide +kernel)
theorem fl_8_181 : fl_ok RX8 181 8 22 := fl_A 938 cl_8 (by decide) (by decide +kernel)
theorem fl_8_73 : fl_ok RX8 73 8 23 := fl_A 939 cl_8 (by decide) (by decide +kernel)
theorem fl_8_142 : fl_ok RX8 142 8 24 := fl_A 940 cl_8 (by decide) (by decide +kernel)
theorem fl_8_76 : fl_ok RX8 76 8 25 := fl_A 941 cl_8 (by decide) (by decide +kernel)
theorem fl_8_197 : fl_ok RX8 197 8 26 := fl_A 942 cl_8 (by decide) (by decide +kernel)
theorem fl_8_79 : fl_ok RX8 79 8 27 := fl_A 943 cl_8 (by decide) (by decide +kernel)
theorem fl_8_220 : fl_ok RX8 220 8 28 := fl_A 944 cl_8 (by decide) (by decide +kernel)
theorem fl_8_82 : fl_ok RX8 82 8 29 := fl_A 945 cl_8 (by decide) (by decide +kernel)
theorem fl_8_85 : fl_ok RX8 85 8 30 := fl_A 946 cl_8 (by decide) (by decide +kernel)
theorem fl_8_88 : fl_ok RX8 88 8 31 := fl_A 947 cl_8 (by decide) (by decide +kernel)
theorem fl_8_91 : fl_ok RX8 91 8 32 := fl_A 948 cl_8 (by decide) (by decide +kernel)
theorem fl_8_94 : fl_ok RX8 94 8 33 := fl_A 949 cl_8 (by decide) (by decide +kernel)
theorem fl_8_97 : fl_ok RX8 97 8 34 := fl_A 950 cl_8 (by decide) (by decide +kernel)
theorem fl_8_100 : fl_ok RX8 100 8 35 := fl_A 951 cl_8 (by decide) (by decide +kernel)
theorem fl_8_248 : fl_ok RX8 248 8 36 := fl_A 952 cl_8 (by decide) (by decide +kernel)
theorem fl_8_106 : fl_ok RX8 106 8 37 := fl_A 953 cl_8 (by decide) (by decide +kernel)
theorem fl_8_103 : fl_ok RX8 103 8 38 := fl_A 954 cl_8 (by decide) (by decide +kernel)
theorem fld_at {E : sv_E} {σ : sv_G} {a c k : Nat} (hk : k < nfd c) : ((List.range (nfd c)).map (fld E σ a c))[k]? = some (fld E σ a c k) := by simp [hk]
theorem up_cel {E : sv_E} {σ : sv_G} {a b : Nat} {k v : Int} (h : b ≠ a) : cel E (up σ a k v) b = cel E σ b := by
  have e : ∀ j, up σ a k v b j = σ b j := fun j => up_a h
  have e1 : ∀ c, fld E (up σ a k v) b c = fld E σ b c := by
    intro c
    funext j
    unfold fld
    rw [e]
  unfold cel
  split <;> simp only [celI, celL, celR, celO, e, e1]
theorem ws_set {E : sv_E} {σ : sv_G} {a : Nat} {k v : Int} (ha : a < 229) : (sv_ws E σ).set a (E.1 + a, cel E (up σ a k v) a) = sv_ws E (up σ a k v) := by
  apply List.ext_getElem?
  intro i
  by_cases q : i = a
  · subst q
    rw [List.getElem?_set_self (by simp [sv_ws, ha]), sv_ws_at ha]
  · rw [List.getElem?_set_ne (Ne.symm q)]
    by_cases q2 : i < 229
    · rw [sv_ws_at q2, sv_ws_at q2, up_cel q]
    · rw [List.getElem?_eq_none (by simp [sv_ws]; omega), List.getElem?_eq_none (by simp [sv_ws]; omega)]
theorem fld_set {E : sv_E} {σ : sv_G} {a c k : Nat} {v : Int} (x : Value) (hk : k < nfd c) (hx : fld E (up σ a k v) a c k = x) : ((List.range (nfd c)).map (fld E σ a c)).set k x = (List.range (nfd c)).map (fld E (up σ a k v) a c) := by
  apply List.ext_getElem?
  intro i
  by_cases q : i = k
  · subst q
    rw [List.getElem?_set_self (by simp [hk])]
    simp [hk, hx]
  · rw [List.getElem?_set_ne (Ne.symm q)]
    by_cases q2 : i < nfd c
    · simp only [List.getElem?_map, List.getElem?_range q2, Option.map_some]
      congr 1
      unfold fld
      rw [up_k (by omega : (i : Int) ≠ (k : Int))]
    · rw [List.getElem?_eq_none (by simp; omega), List.getElem?_eq_none (by simp; omega)]
theorem shp_n {a c n : Nat} (h : shp a = (c, n)) (hc : c < 99) : n ≤ 20000 := by
  have ha := shp_lt h hc
  have hh : ∀ a, a < 229 → (shp a).2 ≤ 20000 := by decide +kernel
  have h2 := hh a ha
  rw [h] at h2
  exact h2
theorem ix_in {i : Int} {n : Nat} (h0 : 0 ≤ i) (h1 : i < (n : Int)) (hn : n ≤ 20000) : vp_in (Int32.ofInt i) n := vp_in_iff.mpr (by rw [sn_ofI (by omega)]; exact ⟨h0, h1⟩)
theorem ix_cl {i : Int} (h0 : 0 ≤ i) (h1 : i ≤ 2147483647) : (((Int32.ofInt i).toNatClampNeg : Nat) : Int) = i := by
  have h3 : ((i.toNat : Nat) : Int) = i := Int.toNat_of_nonneg h0
  have h2 : Int32.ofInt ((i.toNat : Nat) : Int) = nI i.toNat := Int32.ofInt_eq_ofNat
  rw [h3] at h2
  rw [h2, nI_clamp (by omega)]
  omega
theorem SW.withG {X : sx_T} {E : sv_E} {Q : State → Prop} {u w pc : Nat} {ls : List (Option sv_V)} {st : List sv_V} {σ : sv_G} (h : RG σ → SW X E Q u w pc ls st σ) : SW X E Q u w pc ls st σ := by
  obtain ⟨p, l, e, R, s, m, args, below, meth, c⟩ := X
  intro H locs lsA hR hL
  exact h hR.2.2.2 H locs lsA hR hL
theorem s_getX {X : sx_T} {E : sv_E} {D : sd_T} {Q : State → Prop} {u w pc : Nat} {ls : List (Option sv_V)} {st : List sv_V} {σ : sv_G} {idx a c k9 : Nat} {v : sv_V} (C : sx_ok X E D) (hf : fl_ok D.1 idx c k9) (hd : decode D.2.1 pc = .ok (.getfield idx, 3)) (ha : shp a = (c, 0)) (hv : fld E σ a c k9 = cv E v) (kk : SW X E Q u w (pc + 3) ls (v :: st) σ) : SW X E Q u w pc ls (vR a :: st) σ := by
  obtain ⟨p, l, e, R, s, m, args, below, meth, c_⟩ := X
  obtain ⟨own, cc, nL, rt, tb, k, mc, ms⟩ := D
  obtain ⟨hx, hb, hnl, hown, hts, hMW, hK, -⟩ := C
  intro H locs lsA hR hL
  obtain ⟨hP, hD, hS, hG⟩ := hR
  have kk := kk H locs lsA ⟨hP, hD, hS, hG⟩ hL
  obtain ⟨C9, T9, N9, ⟨g1, rfl, g3, g4, -⟩, hk9, hl⟩ := hf
  have hw : (sv_ws E σ)[a]? = some (E.1 + a, .inr (c, (List.range (nfd c)).map (fld E σ a c))) := by rw [sv_ws_at (shp_lt ha (by omega)), cel_O ha (by omega)]; rfl
  have hv9 : ((List.range (nfd c)).map (fld E σ a c))[k9]? = some (cv E v) := by rw [fld_at hk9, hv]
  rcases hl with hl | ⟨h9, hl⟩
  · exact va_get (T := T9) hx hb hts g4 hown hK hP a hw g1 k9 hk9 (hts _ hl) (fun _ h => h) hv9 hd kk
  · exact va_getN (T := T9) hx hb hts g4 hown hK hP a hw g1 k9 hk9 (va_Nw.use rfl (hMW.1 _ hl)) (fun _ h => h) hv9 hd kk
theorem s_getI {X : sx_T} {E : sv_E} {D : sd_T} {Q : State → Prop} {u w pc : Nat} {ls : List (Option sv_V)} {st : List sv_V} {σ : sv_G} {idx a c k9 : Nat} {kz : Int} (C : sx_ok X E D) (hf : fl_ok D.1 idx c k9) (hd : decode D.2.1 pc = .ok (.getfield idx, 3)) (ha : shp a = (c, 0)) (hk : fkd c k9 = 0) (hkz : (k9 : Int) = kz) (kk : (-2147483648 ≤ σ a kz ∧ σ a kz ≤ 2147483647) → SW X E Q u w (pc + 3) ls (vI (σ a kz) :: st) σ) : SW X E Q u w pc ls (vR a :: st) σ   := by
  subst hkz
  have hc : c < 10 := by obtain ⟨_, _, _, ⟨_, _, g3, _⟩, _⟩ := hf; omega
  refine SW.withG fun hG => ?_
  exact s_getX C hf hd ha (v := vI (σ a k9)) (by unfold fld; rw [hk]; rfl) (kk (hG.i (by rw [isLg_O ha hc, hk]; rfl)))
theorem s_getL {X : sx_T} {E : sv_E} {D : sd_T} {Q : State → Prop} {u w pc : Nat} {ls : List (Option sv_V)} {st : List sv_V} {σ : sv_G} {idx a c k9 : Nat} {kz : Int} (C : sx_ok X E D) (hf : fl_ok D.1 idx c k9) (hd : decode D.2.1 pc = .ok (.getfield idx, 3)) (ha : shp a = (c, 0)) (hk : fkd c k9 = 1) (hkz : (k9 : Int) = kz) (kk : (-9223372036854775808 ≤ σ a kz ∧ σ a kz ≤ 9223372036854775807) → SW X E Q u w (pc + 3) ls (vL (σ a kz) :: st) σ) : SW X E Q u w pc ls (vR a :: st) σ   := by
  subst hkz
  refine SW.withG fun hG => ?_
  exact s_getX C hf hd ha (v := vL (σ a k9)) (by unfold fld; rw [hk]; rfl) (kk (hG a k9).2)
theorem s_getR {X : sx_T} {E : sv_E} {D : sd_T} {Q : State → Prop} {u w pc : Nat} {ls : List (Option sv_V)} {st : List sv_V} {σ : sv_G} {idx a c k9 b : Nat} (C : sx_ok X E D) (hf : fl_ok D.1 idx c k9) (hd : decode D.2.1 pc = .ok (.getfield idx, 3)) (ha : shp a = (c, 0)) (hk : fkd c k9 = 2) (hr : rfs a k9 = b) (kk : SW X E Q u w (pc + 3) ls (vR b :: st) σ) : SW X E Q u w pc ls (vR a :: st) σ := by
  subst hr
  exact s_getX C hf hd ha (v := vR (rfs a k9)) (by unfold fld; rw [hk]; rfl) kk
theorem s_putI {X : sx_T} {E : sv_E} {D : sd_T} {Q : State → Prop} {u w pc : Nat} {ls : List (Option sv_V)} {st : List sv_V} {σ : sv_G} {idx a c k9 : Nat} {z kz : Int} (C : sx_ok X E D) (hf : fl_ok D.1 idx c k9) (hd : decode D.2.1 pc = .ok (.putfield idx, 3)) (ha : shp a = (c, 0)) (hk : fkd c k9 = 0) (hfin : ∀ (C9 : String) (T9 : u_T), vwCl[c]? = some (C9, T9, nfd c) → (T9 k9).2.2.2 = false) (hz : -2147483648 ≤ z ∧ z ≤ 2147483647) (hkz : (k9 : Int) = kz) (kk : SW X E Q u w (pc + 3) ls st (up σ a kz z)) : SW X E Q u w pc ls (vI z :: vR a :: st) σ := by
  subst hkz
  obtain ⟨p, l, e, R, s, m, args, below, meth, c_⟩ := X
  obtain ⟨own, cc, nL, rt, tb, k, mc, ms⟩ := D
  obtain ⟨hx, hb, hnl, hown, hts, hMW, hK, -⟩ := C
  intro H locs lsA hR hL
  obtain ⟨hP, hD, hS, hG⟩ := hR
  obtain ⟨C9, T9, N9, ⟨g1, rfl, g3, g4, g5, ty, g6, g7⟩, hk9, hl⟩ := hf
  have ha9 := shp_lt ha (by omega)
  have hw : (sv_ws E σ)[a]? = some (E.1 + a, .inr (c, (List.range (nfd c)).map (fld E σ a c))) := by rw [sv_ws_at ha9, cel_O ha (by omega)]; rfl
  have he : (sv_ws E σ).set a (E.1 + a, .inr (c, ((List.range (nfd c)).map (fld E σ a c)).set k9 (.int (Int32.ofInt z)))) = sv_ws E (up σ a k9 z) := by
    rw [fld_set (v := z) _ hk9 (by unfold fld; rw [hk]; simp only [up_s]), ← ws_set (k := (k9 : Int)) (v := z) ha9, cel_O ha (by omega)]; rfl
  have kk9 : ∀ (H1 : Heap) (locs1 : List Loc), va_P E.2.2.2 vwCl ((sv_ws E σ).set a (E.1 + a, .inr (c, ((List.range (nfd c)).map (fld E σ a c)).set k9 (.int (Int32.ofInt z))))) H1 → va_D (fun q => E.1 ≤ q) ((sv_ws E σ).set a (E.1 + a, .inr (c, ((List.range (nfd c)).map (fld E σ a c)).set k9 (.int (Int32.ofInt z))))) → va_S (fun q => E.1 ≤ q) s.heap H1 locs1 → W p l e R s m args below meth c_ H1 locs1 u w Q (F0 m (pc + 3) lsA (st.map (cv E))) := by
    rw [he]
    exact fun H1 locs1 a1 a2 a3 => kk H1 locs1 lsA ⟨a1, a2, a3, hG.upI hz⟩ hL
  rcases hl with hl | ⟨h9, hl⟩
  · exact va_put (T := T9) (ty := .int) hx hb hts g4 ty g6 g5 hown hK hP hD hS a hw g1 k9 hk9 (hts _ hl) (fun _ h => h) (hfin C9 T9 g1) (by rw [g6 k9 hk9, (g7 k9 hk9).1 hk]) rfl rfl (by simp [hk9]) hd kk9
  · exact va_putN (T := T9) (ty := .int) hx hb hts g4 ty g6 g5 hown hK hP hD hS a hw g1 k9 hk9 (va_Nw.use rfl (hMW.1 _ hl)) (fun _ h => h) (hfin C9 T9 g1) (by rw [g6 k9 hk9, (g7 k9 hk9).1 hk]) rfl rfl (by simp [hk9]) hd kk9
theorem s_putL {X : sx_T} {E : sv_E} {D : sd_T} {Q : State → Prop} {u w pc : Nat} {ls : List (Option sv_V)} {st : List sv_V} {σ : sv_G} {idx a c k9 : Nat} {z kz : Int} (C : sx_ok X E D) (hf : fl_ok D.1 idx c k9) (hd : decode D.2.1 pc = .ok (.putfield idx, 3)) (ha : shp a = (c, 0)) (hk : fkd c k9 = 1) (hfin : ∀ (C9 : String) (T9 : u_T), vwCl[c]? = some (C9, T9, nfd c) → (T9 k9).2.2.2 = false) (hz : -9223372036854775808 ≤ z ∧ z ≤ 9223372036854775807) (hkz : (k9 : Int) = kz) (kk : SW X E Q u w (pc + 3) ls st (up σ a kz z)) : SW X E Q u w pc ls (vL z :: vR a :: st) σ := by
  subst hkz
  obtain ⟨p, l, e, R, s, m, args, below, meth, c_⟩ := X
  obtain ⟨own, cc, nL, rt, tb, k, mc, ms⟩ := D
  obtain ⟨hx, hb, hnl, hown, hts, hMW, hK, -⟩ := C
  intro H locs lsA hR hL
  obtain ⟨hP, hD, hS, hG⟩ := hR
  obtain ⟨C9, T9, N9, ⟨g1, rfl, g3, g4, g5, ty, g6, g7⟩, hk9, hl⟩ := hf
  have ha9 := shp_lt ha (by omega)
  have hw : (sv_ws E σ)[a]? = some (E.1 + a, .inr (c, (List.range (nfd c)).map (fld E σ a c))) := by rw [sv_ws_at ha9, cel_O ha (by omega)]; rfl
  have he : (sv_ws E σ).set a (E.1 + a, .inr (c, ((List.range (nfd c)).map (fld E σ a c)).set k9 (.long (Int64.ofInt z)))) = sv_ws E (up σ a k9 z) := by
    rw [fld_set (v := z) _ hk9 (by unfold fld; rw [hk]; simp only [up_s]), ← ws_set (k := (k9 : Int)) (v := z) ha9, cel_O ha (by omega)]; rfl
  have kk9 : ∀ (H1 : Heap) (locs1 : List Loc), va_P E.2.2.2 vwCl ((sv_ws E σ).set a (E.1 + a, .inr (c, ((List.range (nfd c)).map (fld E σ a c)).set k9 (.long (Int64.ofInt z))))) H1 → va_D (fun q => E.1 ≤ q) ((sv_ws E σ).set a (E.1 + a, .inr (c, ((List.range (nfd c)).map (fld E σ a c)).set k9 (.long (Int64.ofInt z))))) → va_S (fun q => E.1 ≤ q) s.heap H1 locs1 → W p l e R s m args below meth c_ H1 locs1 u w Q (F0 m (pc + 3) lsA (st.map (cv E))) := by
    rw [he]
    exact fun H1 locs1 a1 a2 a3 => kk H1 locs1 lsA ⟨a1, a2, a3, hG.upL (by rw [isLg_O ha (by omega), hk]; rfl) hz⟩ hL
  rcases hl with hl | ⟨h9, hl⟩
  · exact va_put (T := T9) (ty := .long) hx hb hts g4 ty g6 g5 hown hK hP hD hS a hw g1 k9 hk9 (hts _ hl) (fun _ h => h) (hfin C9 T9 g1) (by rw [g6 k9 hk9, (g7 k9 hk9).2 hk]) rfl rfl (by simp [hk9]) hd kk9
  · exact va_putN (T := T9) (ty := .long) hx hb hts g4 ty g6 g5 hown hK hP hD hS a hw g1 k9 hk9 (va_Nw.use rfl (hMW.1 _ hl)) (fun _ h => h) (hfin C9 T9 g1) (by rw [g6 k9 hk9, (g7 k9 hk9).2 hk]) rfl rfl (by simp [hk9]) hd kk9
theorem s_iald {X : sx_T} {E : sv_E} {D : sd_T} {Q : State → Prop} {u w pc : Nat} {ls : List (Option sv_V)} {st : List sv_V} {σ : sv_G} {a n : Nat} {i : Int} (C : sx_ok X E D) (hd : decode D.2.1 pc = .ok (.iaload, 1)) (ha : shp a = (10, n)) (hi : 0 ≤ i ∧ i < (n : Int)) (kk : (-2147483648 ≤ σ a i ∧ σ a i ≤ 2147483647) → SW X E Q u w (pc + 1) ls (vI (σ a i) :: st) σ) : SW X E Q u w pc ls (vI i :: vR a :: st) σ := by
  obtain ⟨p, l, e, R, s, m, args, below, meth, c⟩ := X
  obtain ⟨own, cc, nL, rt, tb, k, mc, ms⟩ := D
  obtain ⟨hx, hb, hnl, hown, hts, hMW, hK, -⟩ := C
  intro H locs lsA hR hL
  obtain ⟨hP, hD, hS, hG⟩ := hR
  have kk := kk (hG.i (isLg_A ha)) H locs lsA ⟨hP, hD, hS, hG⟩ hL
  have hn := shp_n ha (by omega)
  refine va_iald hx hb hK hP a 0 (f := fun k => Int32.ofInt (σ a k)) (by rw [sv_ws_at (shp_lt ha (by omega)), cel_I ha]; rfl) rfl (ix_in hi.1 hi.2 hn) hd ?_
  simp only [ix_cl hi.1 (by omega : i ≤ 2147483647)]
  exact kk
theorem s_lald {X : sx_T} {E : sv_E} {D : sd_T} {Q : State → Prop} {u w pc : Nat} {ls : List (Option sv_V)} {st : List sv_V} {σ : sv_G} {a n : Nat} {i : Int} (C : sx_ok X E D) (hd : decode D.2.1 pc = .ok (.laload, 1)) (ha : shp a = (11, n)) (hi : 0 ≤ i ∧ i < (n : Int)) (kk : (-9223372036854775808 ≤ σ a i ∧ σ a i ≤ 9223372036854775807) → SW X E Q u w (pc + 1) ls (vL (σ a i) :: st) σ) : SW X E Q u w pc ls (vI i :: vR a :: st) σ := by
  obtain ⟨p, l, e, R, s, m, args, below, meth, c⟩ := X
  obtain ⟨own, cc, nL, rt, tb, k, mc, ms⟩ := D
  obtain ⟨hx, hb, hnl, hown, hts, hMW, hK, -⟩ := C
  intro H locs lsA hR hL
  obtain ⟨hP, hD, hS, hG⟩ := hR
  have kk := kk ((hG a i).2) H locs lsA ⟨hP, hD, hS, hG⟩ hL
  have hn := shp_n ha (by omega)
  refine va_lald hx hb hK hP a 1 (f := fun k => Int64.ofInt (σ a k)) (by rw [sv_ws_at (shp_lt ha (by omega)), cel_L ha]; rfl) rfl (ix_in hi.1 hi.2 hn) hd ?_
  simp only [ix_cl hi.1 (by omega : i ≤ 2147483647)]
  exact kk
theorem s_iast {X : sx_T} {E : sv_E} {D : sd_T} {Q : State → Prop} {u w pc : Nat} {ls : List (Option sv_V)} {st : List sv_V} {σ : sv_G} {a n : Nat} {i z : Int} (C : sx_ok X E D) (hd : decode D.2.1 pc = .ok (.iastore, 1)) (ha : shp a = (10, n)) (hi : 0 ≤ i ∧ i < (n : Int)) (hz : -2147483648 ≤ z ∧ z ≤ 2147483647) (kk : SW X E Q u w (pc + 1) ls st (up σ a i z)) : SW X E Q u w pc ls (vI z :: vI i :: vR a :: st) σ := by
  obtain ⟨p, l, e, R, s, m, args, below, meth, c⟩ := X
  obtain ⟨own, cc, nL, rt, tb, k, mc, ms⟩ := D
  obtain ⟨hx, hb, hnl, hown, hts, hMW, hK, -⟩ := C
  intro H locs lsA hR hL
  obtain ⟨hP, hD, hS, hG⟩ := hR
  have hn := shp_n ha (by omega)
  have ha9 := shp_lt ha (by omega)
  have he : upd (fun k : Nat => Int32.ofInt (σ a k)) (Int32.ofInt i).toNatClampNeg (Int32.ofInt z) = fun k : Nat => Int32.ofInt (up σ a i z a k) := by
    funext k
    have h1 := ix_cl hi.1 (by omega : i ≤ 2147483647)
    unfold upd up
    by_cases q : k = (Int32.ofInt i).toNatClampNeg
    · rw [if_pos q, if_pos ⟨rfl, by omega⟩]
    · rw [if_neg q, if_neg (by omega)]
  have he2 : cel E (up σ a i z) a = celI E (up σ a i z) a n := cel_I ha
  refine va_iast hx hb hK hP hD hS a 0 (f := fun k => Int32.ofInt (σ a k)) (by rw [sv_ws_at ha9, cel_I ha]; rfl) rfl (ix_in hi.1 hi.2 hn) hd (fun H1 locs1 a1 a2 a3 => ?_)
  rw [he] at a1 a2
  refine kk H1 locs1 lsA ⟨?_, ?_, a3, hG.upI hz⟩ hL
  · rw [← ws_set ha9, he2]; exact a1
  · rw [← ws_set ha9, he2]; exact a2
theorem s_last {X : sx_T} {E : sv_E} {D : sd_T} {Q : State → Prop} {u w pc : Nat} {ls : List (Option sv_V)} {st : List sv_V} {σ : sv_G} {a n : Nat} {i z : Int} (C : sx_ok X E D) (hd : decode D.2.1 pc = .ok (.lastore, 1)) (ha : shp a = (11, n)) (hi : 0 ≤ i ∧ i < (n : Int)) (hz : -9223372036854775808 ≤ z ∧ z ≤ 9223372036854775807) (kk : SW X E Q u w (pc + 1) ls st (up σ a i z)) : SW X E Q u w pc ls (vL z :: vI i :: vR a :: st) σ := by
  obtain ⟨p, l, e, R, s, m, args, below, meth, c⟩ := X
  obtain ⟨own, cc, nL, rt, tb, k, mc, ms⟩ := D
  obtain ⟨hx, hb, hnl, hown, hts, hMW, hK, -⟩ := C
  intro H locs lsA hR hL
  obtain ⟨hP, hD, hS, hG⟩ := hR
  have hn := shp_n ha (by omega)
  have ha9 := shp_lt ha (by omega)
  have he : vp_updL (fun k : Nat => Int64.ofInt (σ a k)) (Int32.ofInt i).toNatClampNeg (Int64.ofInt z) = fun k : Nat => Int64.ofInt (up σ a i z a k) := by
    funext k
    have h1 := ix_cl hi.1 (by omega : i ≤ 2147483647)
    unfold vp_updL up
    by_cases q : k = (Int32.ofInt i).toNatClampNeg
    · rw [if_pos q, if_pos ⟨rfl, by omega⟩]
    · rw [if_neg q, if_neg (by omega)]
  have he2 : cel E (up σ a i z) a = celL E (up σ a i z) a n := cel_L ha
  refine va_last hx hb hK hP hD hS a 1 (f := fun k => Int64.ofInt (σ a k)) (by rw [sv_ws_at ha9, cel_L ha]; rfl) rfl (ix_in hi.1 hi.2 hn) hd (fun H1 locs1 a1 a2 a3 => ?_)
  rw [he] at a1 a2
  refine kk H1 locs1 lsA ⟨?_, ?_, a3, hG.upL (isLg_J ha) hz⟩ hL
  · rw [← ws_set ha9, he2]; exact a1
  · rw [← ws_set ha9, he2]; exact a2
theorem s_aald {X : sx_T} {E : sv_E} {D : sd_T} {Q : State → Prop} {u w pc : Nat} {ls : List (Option sv_V)} {st : List sv_V} {σ : sv_G} {a n t b : Nat} {i : Int} (C : sx_ok X E D) (hd : decode D.2.1 pc = .ok (.aaload, 1)) (ha : shp a = (10 + t, n)) (ht : 2 ≤ t ∧ t ≤ 4) (hi : 0 ≤ i ∧ i < (n : Int)) (hr : rfs a i.toNat = b) (kk : SW X E Q u w (pc + 1) ls (vR b :: st) σ) : SW X E Q u w pc ls (vI i :: vR a :: st) σ := by
  obtain ⟨p, l, e, R, s, m, args, below, meth, c⟩ := X
  obtain ⟨own, cc, nL, rt, tb, k, mc, ms⟩ := D
  obtain ⟨hx, hb, hnl, hown, hts, hMW, hK, -⟩ := C
  intro H locs lsA hR hL
  obtain ⟨hP, hD, hS, hG⟩ := hR
  subst hr
  have kk := kk H locs lsA ⟨hP, hD, hS, hG⟩ hL
  have hn := shp_n ha (by omega)
  have hty : ∃ C9, (sv_tys E)[t]? = some (E.2.2.1 t, .object C9) := by
    match t, ht with
    | 2, _ => exact ⟨_, rfl⟩
    | 3, _ => exact ⟨_, rfl⟩
    | 4, _ => exact ⟨_, rfl⟩
  obtain ⟨C9, hty⟩ := hty
  have hc := ix_cl hi.1 (by omega : i ≤ 2147483647)
  have hc2 : (Int32.ofInt i).toNatClampNeg = i.toNat := by omega
  refine va_aldq hx hb hK hP a t (f := fun k => if k < n then some (E.1 + rfs a k) else none) (by rw [sv_ws_at (shp_lt ha (by omega)), cel_R ha ht.1 ht.2]; rfl) hty (ix_in hi.1 hi.2 hn) hd ?_
  simp only [hc2, if_pos (show i.toNat < n by omega)]
  exact kk
