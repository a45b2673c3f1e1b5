/-! The cells behind the constructors: an abstract world of 195 cells by their order; kinds of cells (0 to 8 a class, 10 ints, 11 longs, 12 to 14 references), the references that never change. -/
def sh_L : List (Nat × Nat) := [(7, 0), (12, 4), (6, 0), (10, 20), (6, 0), (10, 20), (6, 0), (10, 20), (6, 0), (10, 20), (10, 4000), (10, 20), (5, 0), (10, 256), (10, 1000), (10, 1000), (10, 20), (13, 20), (10, 32), (13, 32), (2, 0), (10, 6), (10, 6), (4, 0), (0, 0), (10, 40), (10, 40), (14, 5), (3, 0), (10, 30), (10, 30), (10, 30), (10, 6), (10, 6), (10, 6), (1, 0), (1, 0), (1, 0), (1, 0), (1, 0), (4, 0), (0, 0), (10, 40), (10, 40), (14, 5), (3, 0), (10, 30), (10, 30), (10, 30), (10, 6), (10, 6), (10, 6), (1, 0), (1, 0), (1, 0), (1, 0), (1, 0), (4, 0), (0, 0), (10, 40), (10, 40), (14, 5), (3, 0), (10, 30), (10, 30), (10, 30), (10, 6), (10, 6), (10, 6), (1, 0), (1, 0), (1, 0), (1, 0), (1, 0), (4, 0), (0, 0), (10, 40), (10, 40), (14, 5), (3, 0), (10, 30), (10, 30), (10, 30), (10, 6), (10, 6), (10, 6), (1, 0), (1, 0), (1, 0), (1, 0), (1, 0), (6, 0), (10, 20), (6, 0), (10, 20), (6, 0), (10, 20), (6, 0), (10, 20), (6, 0), (10, 20), (6, 0), (10, 20), (6, 0), (10, 20), (6, 0), (10, 20), (6, 0), (10, 20), (6, 0), (10, 20), (6, 0), (10, 20), (6, 0), (10, 20), (6, 0), (10, 20), (6, 0), (10, 20), (6, 0), (10, 20), (6, 0), (10, 20), (6, 0), (10, 20), (6, 0), (10, 20), (6, 0), (10, 20), (6, 0), (10, 20), (6, 0), (10, 20), (6, 0), (10, 20), (6, 0), (10, 20), (6, 0), (10, 20), (6, 0), (10, 20), (6, 0), (10, 20), (6, 0), (10, 20), (6, 0), (10, 20), (6, 0), (10, 20), (6, 0), (10, 20), (6, 0), (10, 20), (6, 0), (10, 20), (6, 0), (10, 20), (6, 0), (10, 20), (6, 0), (10, 20), (6, 0), (10, 20), (6, 0), (10, 20), (6, 0), (10, 20), (6, 0), (10, 20), (6, 0), (10, 20), (6, 0), (10, 20), (6, 0), (10, 20), (6, 0), (10, 20), (6, 0), (10, 20), (6, 0), (10, 20), (6, 0), (10, 20), (6, 0), (10, 20), (6, 0), (10, 20), (6, 0), (10, 20), (6, 0), (10, 20), (6, 0), (10, 20), (6, 0), (10, 20)]
def shp (a : Nat) : Nat × Nat := sh_L.getD a (99, 0)
def rf_L : List (List Nat) := [[1, 2, 4, 6, 8, 10, 11, 12, 16, 17, 0, 18, 19, 20], [23, 40, 57, 74], [3], [], [5], [], [7], [], [9], [], [], [], [13, 14, 15], [], [], [], [], [91, 93, 95, 97, 99, 101, 103, 105, 107, 109, 111, 113, 115, 117, 119, 121, 123, 125, 127, 129], [], [131, 133, 135, 137, 139, 141, 143, 145, 147, 149, 151, 153, 155, 157, 159, 161, 163, 165, 167, 169, 171, 173, 175, 177, 179, 181, 183, 185, 187, 189, 191, 193], [21, 22], [], [], [24, 27, 0, 28, 0, 32, 33, 34], [25, 26], [], [], [35, 36, 37, 38, 39], [29, 30, 31], [], [], [], [], [], [], [], [], [], [], [], [41, 44, 0, 45, 0, 49, 50, 51], [42, 43], [], [], [52, 53, 54, 55, 56], [46, 47, 48], [], [], [], [], [], [], [], [], [], [], [], [58, 61, 0, 62, 0, 66, 67, 68], [59, 60], [], [], [69, 70, 71, 72, 73], [63, 64, 65], [], [], [], [], [], [], [], [], [], [], [], [75, 78, 0, 79, 0, 83, 84, 85], [76, 77], [], [], [86, 87, 88, 89, 90], [80, 81, 82], [], [], [], [], [], [], [], [], [], [], [], [92], [], [94], [], [96], [], [98], [], [100], [], [102], [], [104], [], [106], [], [108], [], [110], [], [112], [], [114], [], [116], [], [118], [], [120], [], [122], [], [124], [], [126], [], [128], [], [130], [], [132], [], [134], [], [136], [], [138], [], [140], [], [142], [], [144], [], [146], [], [148], [], [150], [], [152], [], [154], [], [156], [], [158], [], [160], [], [162], [], [164], [], [166], [], [168], [], [170], [], [172], [], [174], [], [176], [], [178], [], [180], [], [182], [], [184], [], [186], [], [188], [], [190], [], [192], [], [194], []]
def rfs (a k : Nat) : Nat := (rf_L.getD a []).getD k 0
/-- fields: how many, and their kinds: 0 int, 1 long, 2 a reference -/
def fk_L : List (List Nat) := [[2, 2, 0], [0, 0, 0, 0, 0, 0, 0], [2, 2, 1], [2, 2, 2, 0], [2, 2, 0, 2, 0, 2, 2, 2, 0], [2, 2, 2], [2, 0], [2, 2, 2, 2, 2, 2, 2, 2, 2, 2, 0, 2, 2, 2]]
def fkd (c k : Nat) : Nat := (fk_L.getD c []).getD k 9
def nfd (c : Nat) : Nat := (fk_L.getD c []).length
theorem shp_lt {a c n : Nat} (h : shp a = (c, n)) (hc : c < 99) : a < 195 := by
  rcases Nat.lt_or_ge a 195 with q | q
  · exact q
  · exfalso
    have h2 : shp a = (99, 0) := by
      unfold shp
      rw [List.getD_eq_getElem?_getD, List.getElem?_eq_none (by show sh_L.length ≤ a; exact Nat.le_trans (by decide +kernel) q)]
      rfl
    rw [h2] at h
    have := congrArg Prod.fst h
    simp at this
    omega
theorem shp_all {P : Nat → Prop} {c n : Nat} (hc : c < 99) (hP : ∀ a, a < 195 → shp a = (c, n) → P a) {a : Nat} (h : shp a = (c, n)) : P a := hP a (shp_lt h hc) h
theorem sh_0 : shp 0 = (7, 0) := by decide +kernel
theorem sh_1 : shp 1 = (12, 4) := by decide +kernel
theorem sh_10 : shp 10 = (10, 4000) := by decide +kernel
theorem sh_11 : shp 11 = (10, 20) := by decide +kernel
theorem sh_12 : shp 12 = (5, 0) := by decide +kernel
theorem sh_13 : shp 13 = (10, 256) := by decide +kernel
theorem sh_14 : shp 14 = (10, 1000) := by decide +kernel
theorem sh_15 : shp 15 = (10, 1000) := by decide +kernel
theorem sh_16 : shp 16 = (10, 20) := by decide +kernel
theorem sh_17 : shp 17 = (13, 20) := by decide +kernel
theorem sh_18 : shp 18 = (10, 32) := by decide +kernel
theorem sh_19 : shp 19 = (13, 32) := by decide +kernel
theorem sh_20 : shp 20 = (2, 0) := by decide +kernel
theorem sh_21 : shp 21 = (10, 6) := by decide +kernel
theorem sh_22 : shp 22 = (10, 6) := by decide +kernel
theorem sh_2 : shp 2 = (6, 0) := by decide +kernel
theorem sh_4 : shp 4 = (6, 0) := by decide +kernel
theorem sh_6 : shp 6 = (6, 0) := by decide +kernel
theorem sh_8 : shp 8 = (6, 0) := by decide +kernel
theorem rf_0_0 : rfs 0 0 = 1 := by decide +kernel
theorem rf_0_1 : rfs 0 1 = 2 := by decide +kernel
theorem rf_0_2 : rfs 0 2 = 4 := by decide +kernel
theorem rf_0_3 : rfs 0 3 = 6 := by decide +kernel
theorem rf_0_4 : rfs 0 4 = 8 := by decide +kernel
theorem rf_0_5 : rfs 0 5 = 10 := by decide +kernel
theorem rf_0_6 : rfs 0 6 = 11 := by decide +kernel
theorem rf_0_7 : rfs 0 7 = 12 := by decide +kernel
theorem rf_0_8 : rfs 0 8 = 16 := by decide +kernel
theorem rf_0_9 : rfs 0 9 = 17 := by decide +kernel
theorem rf_0_11 : rfs 0 11 = 18 := by decide +kernel
theorem rf_0_12 : rfs 0 12 = 19 := by decide +kernel
theorem rf_0_13 : rfs 0 13 = 20 := by decide +kernel
theorem rf_12_0 : rfs 12 0 = 13 := by decide +kernel
theorem rf_12_1 : rfs 12 1 = 14 := by decide +kernel
theorem rf_12_2 : rfs 12 2 = 15 := by decide +kernel
theorem rf_20_0 : rfs 20 0 = 21 := by decide +kernel
theorem rf_20_1 : rfs 20 1 = 22 := by decide +kernel
theorem rfc_0_0 {a : Nat} (h : shp a = (0, 0)) : rfs a 0 = a + 1 := shp_all (P := fun a => rfs a 0 = a + 1) (by decide) (by decide +kernel) h
theorem shc_0_0 {a : Nat} (h : shp a = (0, 0)) : shp (a + 1) = (10, 40) := shp_all (P := fun a => shp (a + 1) = (10, 40)) (by decide) (by decide +kernel) h
theorem rfc_0_1 {a : Nat} (h : shp a = (0, 0)) : rfs a 1 = a + 2 := shp_all (P := fun a => rfs a 1 = a + 2) (by decide) (by decide +kernel) h
theorem shc_0_1 {a : Nat} (h : shp a = (0, 0)) : shp (a + 2) = (10, 40) := shp_all (P := fun a => shp (a + 2) = (10, 40)) (by decide) (by decide +kernel) h
theorem rfc_3_0 {a : Nat} (h : shp a = (3, 0)) : rfs a 0 = a + 1 := shp_all (P := fun a => rfs a 0 = a + 1) (by decide) (by decide +kernel) h
theorem shc_3_0 {a : Nat} (h : shp a = (3, 0)) : shp (a + 1) = (10, 30) := shp_all (P := fun a => shp (a + 1) = (10, 30)) (by decide) (by decide +kernel) h
theorem rfc_3_1 {a : Nat} (h : shp a = (3, 0)) : rfs a 1 = a + 2 := shp_all (P := fun a => rfs a 1 = a + 2) (by decide) (by decide +kernel) h
theorem shc_3_1 {a : Nat} (h : shp a = (3, 0)) : shp (a + 2) = (10, 30) := shp_all (P := fun a => shp (a + 2) = (10, 30)) (by decide) (by decide +kernel) h
theorem rfc_3_2 {a : Nat} (h : shp a = (3, 0)) : rfs a 2 = a + 3 := shp_all (P := fun a => rfs a 2 = a + 3) (by decide) (by decide +kernel) h
theorem shc_3_2 {a : Nat} (h : shp a = (3, 0)) : shp (a + 3) = (10, 30) := shp_all (P := fun a => shp (a + 3) = (10, 30)) (by decide) (by decide +kernel) h
theorem rfc_4_0 {a : Nat} (h : shp a = (4, 0)) : rfs a 0 = a + 1 := shp_all (P := fun a => rfs a 0 = a + 1) (by decide) (by decide +kernel) h
theorem shc_4_0 {a : Nat} (h : shp a = (4, 0)) : shp (a + 1) = (0, 0) := shp_all (P := fun a => shp (a + 1) = (0, 0)) (by decide) (by decide +kernel) h
theorem rfc_4_1 {a : Nat} (h : shp a = (4, 0)) : rfs a 1 = a + 4 := shp_all (P := fun a => rfs a 1 = a + 4) (by decide) (by decide +kernel) h
theorem shc_4_1 {a : Nat} (h : shp a = (4, 0)) : shp (a + 4) = (14, 5) := shp_all (P := fun a => shp (a + 4) = (14, 5)) (by decide) (by decide +kernel) h
theorem rfc_4_3 {a : Nat} (h : shp a = (4, 0)) : rfs a 3 = a + 5 := shp_all (P := fun a => rfs a 3 = a + 5) (by decide) (by decide +kernel) h
theorem shc_4_3 {a : Nat} (h : shp a = (4, 0)) : shp (a + 5) = (3, 0) := shp_all (P := fun a => shp (a + 5) = (3, 0)) (by decide) (by decide +kernel) h
theorem rfc_4_5 {a : Nat} (h : shp a = (4, 0)) : rfs a 5 = a + 9 := shp_all (P := fun a => rfs a 5 = a + 9) (by decide) (by decide +kernel) h
theorem shc_4_5 {a : Nat} (h : shp a = (4, 0)) : shp (a + 9) = (10, 6) := shp_all (P := fun a => shp (a + 9) = (10, 6)) (by decide) (by decide +kernel) h
theorem rfc_4_6 {a : Nat} (h : shp a = (4, 0)) : rfs a 6 = a + 10 := shp_all (P := fun a => rfs a 6 = a + 10) (by decide) (by decide +kernel) h
theorem shc_4_6 {a : Nat} (h : shp a = (4, 0)) : shp (a + 10) = (10, 6) := shp_all (P := fun a => shp (a + 10) = (10, 6)) (by decide) (by decide +kernel) h
theorem rfc_4_7 {a : Nat} (h : shp a = (4, 0)) : rfs a 7 = a + 11 := shp_all (P := fun a => rfs a 7 = a + 11) (by decide) (by decide +kernel) h
theorem shc_4_7 {a : Nat} (h : shp a = (4, 0)) : shp (a + 11) = (10, 6) := shp_all (P := fun a => shp (a + 11) = (10, 6)) (by decide) (by decide +kernel) h
theorem rfc_6_0 {a : Nat} (h : shp a = (6, 0)) : rfs a 0 = a + 1 := shp_all (P := fun a => rfs a 0 = a + 1) (by decide) (by decide +kernel) h
theorem shc_6_0 {a : Nat} (h : shp a = (6, 0)) : shp (a + 1) = (10, 20) := shp_all (P := fun a => shp (a + 1) = (10, 20)) (by decide) (by decide +kernel) h
theorem rfa_1 {k : Nat} (h : k < 4) : rfs 1 k = 23 + 17 * k := by revert k; decide +kernel
theorem sha_1 {k : Nat} (h : k < 4) : shp (23 + 17 * k) = (4, 0) := by revert k; decide +kernel
theorem rfa_17 {k : Nat} (h : k < 20) : rfs 17 k = 91 + 2 * k := by revert k; decide +kernel
theorem sha_17 {k : Nat} (h : k < 20) : shp (91 + 2 * k) = (6, 0) := by revert k; decide +kernel
theorem rfa_19 {k : Nat} (h : k < 32) : rfs 19 k = 131 + 2 * k := by revert k; decide +kernel
theorem sha_19 {k : Nat} (h : k < 32) : shp (131 + 2 * k) = (6, 0) := by revert k; decide +kernel
theorem rfa_14 {a : Nat} (h : shp a = (14, 5)) {k : Nat} (hk : k < 5) : rfs a k = a + 8 + k := shp_all (P := fun a => ∀ k, k < 5 → rfs a k = a + 8 + k) (by decide) (by decide +kernel) h k hk
theorem sha_14 {a : Nat} (h : shp a = (14, 5)) {k : Nat} (hk : k < 5) : shp (a + 8 + k) = (1, 0) := shp_all (P := fun a => ∀ k, k < 5 → shp (a + 8 + k) = (1, 0)) (by decide) (by decide +kernel) h k hk
theorem id_4 {a : Nat} (h : shp a = (4, 0)) : a = 23 ∨ a = 40 ∨ a = 57 ∨ a = 74 := shp_all (P := fun a => a = 23 ∨ a = 40 ∨ a = 57 ∨ a = 74) (by decide) (by decide +kernel) h
theorem id_6 {a : Nat} (h : shp a = (6, 0)) : (a = 2 ∨ a = 4 ∨ a = 6 ∨ a = 8) ∨ (91 ≤ a ∧ a < 195 ∧ a % 2 = 1) := shp_all (P := fun a => (a = 2 ∨ a = 4 ∨ a = 6 ∨ a = 8) ∨ (91 ≤ a ∧ a < 195 ∧ a % 2 = 1)) (by decide) (by decide +kernel) h
theorem id_1 {a : Nat} (h : shp a = (1, 0)) : (35 ≤ a ∧ a < 40) ∨ (52 ≤ a ∧ a < 57) ∨ (69 ≤ a ∧ a < 74) ∨ (86 ≤ a ∧ a < 91) := shp_all (P := fun a => (35 ≤ a ∧ a < 40) ∨ (52 ≤ a ∧ a < 57) ∨ (69 ≤ a ∧ a < 74) ∨ (86 ≤ a ∧ a < 91)) (by decide) (by decide +kernel) h
