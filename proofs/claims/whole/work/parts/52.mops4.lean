/-! The model: examples, what is told of a grammar, cords. -/
def nfA (σ : sv_G) (D : gd_T) (g y f m : Int) : Prop := (f = 10000 ∧ ∀ i, 0 ≤ i → 40 * g + i < m → σ 198 (40 * g + i) ≠ y) ∨ ((0 ≤ f ∧ f ≤ 9999) ∧ gF D f = y ∧ ∀ i, 0 ≤ i → 40 * g + i < m → σ 198 (40 * g + i) = y → f ≤ σ 197 (40 * g + i))
theorem nfA.hit {σ : sv_G} {D : gd_T} {g y f m : Int} (h : nfA σ D g y f m) (hm : 40 * g ≤ m) (e : σ 198 m = y) (hn : 0 ≤ σ 197 m ∧ σ 197 m ≤ 9999) (hF : gF D (σ 197 m) = y) (hl : σ 197 m < f) : nfA σ D g y (σ 197 m) (m + 1) := by
  refine Or.inr ⟨hn, hF, fun i h1 h2 h3 => ?_⟩
  by_cases c : 40 * g + i = m
  · rw [c]; exact Int.le_refl _
  · rcases h with ⟨-, h⟩ | ⟨-, -, h⟩
    · exact absurd h3 (h i h1 (by omega))
    · have h4 := h i h1 (by omega) h3
      omega
theorem nfA.miss {σ : sv_G} {D : gd_T} {g y f m : Int} (h : nfA σ D g y f m) (q : σ 198 m ≠ y ∨ (f ≤ σ 197 m ∧ σ 197 m ≤ 9999)) : nfA σ D g y f (m + 1) := by
  rcases h with ⟨h0, h⟩ | ⟨h0, h1, h⟩
  · refine Or.inl ⟨h0, fun i i1 i2 => ?_⟩
    by_cases c : 40 * g + i = m
    · rw [c]
      rcases q with q | q
      · exact q
      · omega
    · exact h i i1 (by omega)
  · refine Or.inr ⟨h0, h1, fun i i1 i2 i3 => ?_⟩
    by_cases c : 40 * g + i = m
    · rw [c] at i3 ⊢
      rcases q with q | q
      · exact absurd i3 q
      · exact q.1
    · exact h i i1 (by omega) i3
def nfB (D : gd_T) (y f m : Int) : Prop := (f = 10000 ∧ (∀ n, gF D n ≠ y) ∧ ∀ i, 0 ≤ i → i < m → gB D i 1 ≠ y) ∨ ((0 ≤ f ∧ f ≤ 9999) ∧ (gF D f = y ∨ ∃ i, 0 ≤ i ∧ i < gC D 1 ∧ gB D i 1 = y ∧ f = gB D i 0) ∧ (∀ n, gF D n = y → f ≤ n) ∧ ∀ i, 0 ≤ i → i < m → gB D i 1 = y → f ≤ gB D i 0)
theorem nfA.fin {σ : sv_G} {D : gd_T} {g y f m : Int} (hA : AM σ g D) (hy : 0 ≤ y) (h : nfA σ D g y f m) (hm : 40 * g + gC D 0 ≤ m) : nfB D y f 0 := by
  have hx : ∀ n, gF D n = y → ∃ i, 0 ≤ i ∧ i < gC D 0 ∧ σ 197 (40 * g + i) = n ∧ σ 198 (40 * g + i) = y := fun n q => by
    obtain ⟨i, i1, i2, i3⟩ := hA.2.2.1 n (by omega)
    have a := hA.2.1 i i1 i2
    rw [i3, q] at a
    exact ⟨i, i1, i2, i3, a.1.symm⟩
  rcases h with ⟨h0, h⟩ | ⟨h0, h1, h⟩
  · refine Or.inl ⟨h0, fun n q => ?_, fun i a b => by omega⟩
    obtain ⟨i, i1, i2, -, i4⟩ := hx n q
    exact h i i1 (by omega) i4
  · refine Or.inr ⟨h0, Or.inl h1, fun n q => ?_, fun i a b => by omega⟩
    obtain ⟨i, i1, i2, i3, i4⟩ := hx n q
    have z := h i i1 (by omega) i4
    rw [i3] at z; exact z
theorem nfB.hit {D : gd_T} {y f m : Int} (h : nfB D y f m) (hm : 0 ≤ m ∧ m < gC D 1) (e : gB D m 1 = y) (hn : 0 ≤ gB D m 0 ∧ gB D m 0 ≤ 9999) (hl : gB D m 0 < f) : nfB D y (gB D m 0) (m + 1) := by
  refine Or.inr ⟨hn, Or.inr ⟨m, hm.1, hm.2, e, rfl⟩, fun n q => ?_, fun i i1 i2 i3 => ?_⟩
  · rcases h with ⟨-, h, -⟩ | ⟨-, -, h, -⟩
    · exact absurd q (h n)
    · have z := h n q
      omega
  · by_cases c : i = m
    · rw [c]; exact Int.le_refl _
    · rcases h with ⟨-, -, h⟩ | ⟨-, -, -, h⟩
      · exact absurd i3 (h i i1 (by omega))
      · have z := h i i1 (by omega) i3
        omega
theorem nfB.miss {D : gd_T} {y f m : Int} (h : nfB D y f m) (q : gB D m 1 ≠ y ∨ (f ≤ gB D m 0 ∧ gB D m 0 ≤ 9999)) : nfB D y f (m + 1) := by
  rcases h with ⟨h0, h1, h⟩ | ⟨h0, h1, h2, h⟩
  · refine Or.inl ⟨h0, h1, fun i i1 i2 => ?_⟩
    by_cases c : i = m
    · rw [c]
      rcases q with q | q
      · exact q
      · omega
    · exact h i i1 (by omega)
  · refine Or.inr ⟨h0, h1, h2, fun i i1 i2 i3 => ?_⟩
    by_cases c : i = m
    · rw [c] at i3 ⊢
      rcases q with q | q
      · exact absurd i3 q
      · exact q.1
    · exact h i i1 (by omega) i3
theorem nfB.rng {D : gd_T} {y f m : Int} (h : nfB D y f m) : 0 ≤ f ∧ f ≤ 10000 := by
  rcases h with h | h
  · have z := h.1
    omega
  · have z := h.1
    omega
theorem nfA.rng {σ : sv_G} {D : gd_T} {g y f m : Int} (h : nfA σ D g y f m) : 0 ≤ f ∧ f ≤ 10000 := by
  rcases h with h | h
  · have z := h.1
    omega
  · have z := h.1
    omega
theorem nfB.fin {D : gd_T} {y f m : Int} (h : nfB D y f m) (hm : gC D 1 ≤ m) : LW_ D y (if f = 10000 then -1 else f) := by
  rcases h with ⟨h0, h1, h⟩ | ⟨h0, h1, h2, h⟩
  · rw [if_pos h0]
    exact Or.inl ⟨rfl, h1, fun i a b => h i a (by omega)⟩
  · rw [if_neg (by omega)]
    exact Or.inr ⟨h1, h2, fun i a b => h i a (by omega)⟩
theorem fl_dm {d b : Int} (hb : 0 < b) : (d.tmod b < 0 → d.tdiv b - 1 = d / b ∧ d.tmod b + b = d % b) ∧ (¬ d.tmod b < 0 → d.tdiv b = d / b ∧ d.tmod b = d % b) := by
  have h2 := Int.emod_nonneg d (show b ≠ 0 by omega)
  have h3 := Int.emod_lt_of_pos d hb
  by_cases q : d < 0
  · rw [tdiv_neg q hb, tmod_neg q hb]
    by_cases c : d % b = 0
    · rw [if_pos c, if_pos c]
      exact ⟨fun z => by omega, fun _ => ⟨rfl, by omega⟩⟩
    · rw [if_neg c, if_neg c]
      exact ⟨fun _ => ⟨by omega, by omega⟩, fun z => by omega⟩
  · have e1 := mfill_lt (a := d) (b := b) (by omega) hb
    have e2 := Int.tmod_eq_emod_of_nonneg (a := d) (b := b) (by omega)
    rw [e1, e2]
    exact ⟨fun z => by omega, fun _ => ⟨rfl, rfl⟩⟩
theorem ct_dm {d t b : Int} (hb : 0 < b) (ht : 0 ≤ t ∧ t < b) : (d % b + t).tmod b = (t + d) % b ∧ d / b + (d % b + t).tdiv b = (t + d) / b := by
  have dm := dm_add (c := d) ht.1 ht.2
  have h2 := Int.emod_nonneg d (show b ≠ 0 by omega)
  have h3 := Int.emod_lt_of_pos d hb
  rw [mfill_lt (a := d % b + t) (b := b) (by omega) hb, Int.tmod_eq_emod_of_nonneg (a := d % b + t) (b := b) (by omega)]
  by_cases q : t + d % b < b
  · have u := dm.1 q
    have w : (d % b + t) / b = 0 ∧ (d % b + t) % b = d % b + t := (Int.ediv_emod_unique hb).mpr ⟨by omega, by omega, by omega⟩
    omega
  · have u := dm.2 (by omega)
    have w : (d % b + t) / b = 1 ∧ (d % b + t) % b = d % b + t - b := (Int.ediv_emod_unique hb).mpr ⟨by rw [Int.mul_one]; omega, by omega, by omega⟩
    omega
theorem cdW_s (b : Int → Int) (m : Int) (h : 0 ≤ m) : cdW b (m + 1).toNat = cdW b m.toNat * b m := by
  rw [show (m + 1).toNat = m.toNat + 1 by omega]
  show cdW b m.toNat * b (m.toNat : Int) = _
  rw [show (m.toNat : Int) = m by omega]
theorem cdT_s (b t : Int → Int) (m : Int) (h : 0 ≤ m) : cdT b t (m + 1).toNat = cdT b t m.toNat + t m * cdW b m.toNat := by
  rw [show (m + 1).toNat = m.toNat + 1 by omega]
  show cdT b t m.toNat + t (m.toNat : Int) * cdW b m.toNat = _
  rw [show (m.toNat : Int) = m by omega]
theorem cdC_s (b t : Int → Int) (c m : Int) (h : 0 ≤ m) : cdC b t c (m + 1).toNat = (t m + cdC b t c m.toNat) / b m := by
  rw [show (m + 1).toNat = m.toNat + 1 by omega]
  show (t (m.toNat : Int) + cdC b t c m.toNat) / b (m.toNat : Int) = _
  rw [show (m.toNat : Int) = m by omega]
/-- examples that were put behind the others -/
theorem getD_snoc {α : Type} (l : List α) (x d : α) (i : Nat) : (l ++ [x]).getD i d = if i = l.length then x else l.getD i d := by
  rw [List.getD_eq_getElem?_getD, List.getD_eq_getElem?_getD]
  by_cases q : i = l.length
  · rw [if_pos q, q, List.getElem?_append_right (Nat.le_refl _), Nat.sub_self]; rfl
  · rw [if_neg q]
    by_cases c : i < l.length
    · rw [List.getElem?_append_left c]
    · rw [List.getElem?_eq_none (by rw [List.length_append]; show l.length + 1 ≤ i; omega), List.getElem?_eq_none (by omega)]

set_option maxRecDepth 100000 in
set_option maxHeartbeats 8000000 in
theorem kX8_baseTold {E : sv_E} {σ : sv_G} {S : st_T} (hS : StOK S) (hO : RO σ S) {x : Int} (hx : -2147483648 ≤ x ∧ x ≤ 2147483647) {y : Int} (hy : -2147483648 ≤ y ∧ y ≤ 2147483647) {z : Int} (hz : -2147483648 ≤ z ∧ z ≤ 2147483647) : CT E MX8_baseTold 3 [(vR 195), (vI x), (vI y), (vI z)] σ (PI fun r σ9 => moP σ σ9 S r (op_baseTold S x y z)) := by
  refine CT.of (RX8, cX8_baseTold, 5, (some .int), [], 3, 0, 0) rfl moX8_baseTold (Nat.le_of_ble_eq_true rfl) (ls0 := [some (vR 195), some (vI x), some (vI y), some (vI z), none]) rfl ?_
  intro X Q C hR
  have hb9 : ∀ g, 0 ≤ g → g ≤ 3 → σ 199 g = gC (sD S g) 1 ∧ 0 ≤ gC (sD S g) 1 ∧ gC (sD S g) 1 ≤ 5 := fun g a b => ⟨(hO.1 g a b).2.1.1, (hS.1 g a b).2.2.2.1⟩
  refine s_aload_n C dX8_baseTold_0 rfl ?_
  refine s_aload_n C dX8_baseTold_1 rfl ?_
  refine s_iload_n C dX8_baseTold_2 rfl ?_
  refine s_iload_n C dX8_baseTold_3 rfl ?_
  refine s_cV2i C dX8_baseTold_4 lkX8_131 moX8_isBase mvX8_isBase (kX8_isBase (N9 := sD S) hb9 (by omega) (by omega)) sh_195 ⟨_, _, rfl⟩ (by decide) (Nat.le_of_ble_eq_true rfl) rfl (by decide) (kpI (fun r4 hp4 => ?_))
  have hb4 := (hp4).b
  have J29 : ∀ (c : Int), (c = (op_baseTold S x y z).1) → (0 ≤ c ∧ c ≤ 3) → SW X E Q 0 0 29 [some (vR 195), some (vI x), some (vI y), some (vI z), none] [(vI c), (vR 195)] σ := by
    intro c j29_0 j29_1
    refine s_cV1i C dX8_baseTold_29 lkX8_128 moX8_can mvX8_can (kX8_can (by omega)) sh_195 ⟨_, _, rfl⟩ (by decide) (Nat.le_of_ble_eq_true rfl) rfl (by decide) (fun r29 σ_29 hp29 => ?_)
    have hb29 := (hp29.2).b
    have hO2 := hO.t (can_T2 hp29.1)
    refine s_if_ne (tgt := 37) C dX8_baseTold_32 (by decide) (by omega) (fun c32 => ?_) (fun c32 => ?_)
    · have y32 := (hp29.2).y (by omega)
      have h0 : (op_baseTold S x y z).1 = 0 := by rw [← j29_0]; exact y32
      have hk := ifc2 (show (if ¬ (0 ≤ x ∧ x ≤ 3 ∧ 0 ≤ y ∧ y < gC (sD S x) 1) then 1 else if ¬ (0 ≤ z ∧ z ≤ 6) then 2 else 0 : Int) = 0 from h0)
      have h37 : σ_29 195 37 = 0 := by rw [hp29.1, up_s]; exact y32
      have hD := hS.1 x (by omega) (by omega)
      have hM := hO2.1 x (by omega) (by omega)
      have hn0 := hD.2.2.1
      have hn1 := hD.2.2.2.1
      have hn2 := hD.2.2.2.2.1
      have hn3 := hD.2.2.2.2.2.1
      have hn4 := hD.2.2.2.2.2.2.1
      have eb : ∀ k : Nat, k < 7 → σ_29 (200 + k) (5 * x + y) = gB (sD S x) y k := fun k hk => hM.2.1.2 y k (by omega) (by omega) hk
      refine s_iconst C dX8_baseTold_37 ?_
      refine s_iload_n C dX8_baseTold_38 rfl ?_
      refine s_imul C dX8_baseTold_39 ?_
      refine s_iload_n C dX8_baseTold_40 rfl ?_
      refine s_iadd C dX8_baseTold_41 ?_
      refine s_topI (fun x4_42 ex4_42 => ?_)
      refine s_istore (ls2 := [some (vR 195), some (vI x), some (vI y), some (vI z), some (vI x4_42)]) C dX8_baseTold_42 (by decide) rfl ?_
      refine s_iload_n C dX8_baseTold_44 rfl ?_
      refine s_topI (fun sw45 esw45 => ?_)
      have hsw45 : sw45 = 0 ∨ sw45 = 1 ∨ sw45 = 2 ∨ sw45 = 3 ∨ sw45 = 4 ∨ sw45 = 5 ∨ (sw45 < 0 ∨ 5 < sw45) := by omega
      rcases hsw45 with hsw45_0 | hsw45_1 | hsw45_2 | hsw45_3 | hsw45_4 | hsw45_5 | hsw45_d
      · refine s_tsIn (tgt := 84) C dX8_baseTold_45 (by omega) (by rw [hsw45_0]; decide) (by rw [hsw45_0]; decide) (by rw [hsw45_0]; rfl) (by decide) ?_
        have hz0 : z = 0 := by omega
        refine s_aload_n C dX8_baseTold_84 rfl ?_
        refine s_getR (c := 8) C fl_8_22 dX8_baseTold_85 sh_195 rfl rf_195_4 ?_
        refine s_iload C dX8_baseTold_88 rfl ?_
        refine s_iald C dX8_baseTold_90 sh_200 (by omega) (fun g90 => ?_)
        refine s_iret C hR dX8_baseTold_91 rfl ⟨_, rfl, ?_⟩ (by decide)
        exact moP.yes h0 h37 (show _ = gB (sD S x) y z.toNat by rw [hz0, ex4_42]; exact eb 0 (by decide)) hO2 (can_T2 hp29.1).M
      · refine s_tsIn (tgt := 92) C dX8_baseTold_45 (by omega) (by rw [hsw45_1]; decide) (by rw [hsw45_1]; decide) (by rw [hsw45_1]; rfl) (by decide) ?_
        have hz0 : z = 1 := by omega
        refine s_aload_n C dX8_baseTold_92 rfl ?_
        refine s_getR (c := 8) C fl_8_25 dX8_baseTold_93 sh_195 rfl rf_195_5 ?_
        refine s_iload C dX8_baseTold_96 rfl ?_
        refine s_iald C dX8_baseTold_98 sh_201 (by omega) (fun g98 => ?_)
        refine s_iret C hR dX8_baseTold_99 rfl ⟨_, rfl, ?_⟩ (by decide)
        exact moP.yes h0 h37 (show _ = gB (sD S x) y z.toNat by rw [hz0, ex4_42]; exact eb 1 (by decide)) hO2 (can_T2 hp29.1).M
      · refine s_tsIn (tgt := 100) C dX8_baseTold_45 (by omega) (by rw [hsw45_2]; decide) (by rw [hsw45_2]; decide) (by rw [hsw45_2]; rfl) (by decide) ?_
        have hz0 : z = 2 := by omega
        refine s_aload_n C dX8_baseTold_100 rfl ?_
        refine s_getR (c := 8) C fl_8_28 dX8_baseTold_101 sh_195 rfl rf_195_6 ?_
        refine s_iload C dX8_baseTold_104 rfl ?_
        refine s_iald C dX8_baseTold_106 sh_202 (by omega) (fun g106 => ?_)
        refine s_iret C hR dX8_baseTold_107 rfl ⟨_, rfl, ?_⟩ (by decide)
        exact moP.yes h0 h37 (show _ = gB (sD S x) y z.toNat by rw [hz0, ex4_42]; exact eb 2 (by decide)) hO2 (can_T2 hp29.1).M
      · refine s_tsIn (tgt := 108) C dX8_baseTold_45 (by omega) (by rw [hsw45_3]; decide) (by rw [hsw45_3]; decide) (by rw [hsw45_3]; rfl) (by decide) ?_
        have hz0 : z = 3 := by omega
        refine s_aload_n C dX8_baseTold_108 rfl ?_
        refine s_getR (c := 8) C fl_8_31 dX8_baseTold_109 sh_195 rfl rf_195_7 ?_
        refine s_iload C dX8_baseTold_112 rfl ?_
        refine s_iald C dX8_baseTold_114 sh_203 (by omega) (fun g114 => ?_)
        refine s_iret C hR dX8_baseTold_115 rfl ⟨_, rfl, ?_⟩ (by decide)
        exact moP.yes h0 h37 (show _ = gB (sD S x) y z.toNat by rw [hz0, ex4_42]; exact eb 3 (by decide)) hO2 (can_T2 hp29.1).M
      · refine s_tsIn (tgt := 116) C dX8_baseTold_45 (by omega) (by rw [hsw45_4]; decide) (by rw [hsw45_4]; decide) (by rw [hsw45_4]; rfl) (by decide) ?_
        have hz0 : z = 4 := by omega
        refine s_aload_n C dX8_baseTold_116 rfl ?_
        refine s_getR (c := 8) C fl_8_34 dX8_baseTold_117 sh_195 rfl rf_195_8 ?_
        refine s_iload C dX8_baseTold_120 rfl ?_
        refine s_iald C dX8_baseTold_122 sh_204 (by omega) (fun g122 => ?_)
        refine s_iret C hR dX8_baseTold_123 rfl ⟨_, rfl, ?_⟩ (by decide)
        exact moP.yes h0 h37 (show _ = gB (sD S x) y z.toNat by rw [hz0, ex4_42]; exact eb 4 (by decide)) hO2 (can_T2 hp29.1).M
      · refine s_tsIn (tgt := 124) C dX8_baseTold_45 (by omega) (by rw [hsw45_5]; decide) (by rw [hsw45_5]; decide) (by rw [hsw45_5]; rfl) (by decide) ?_
        have hz0 : z = 5 := by omega
        refine s_aload_n C dX8_baseTold_124 rfl ?_
        refine s_getR (c := 8) C fl_8_37 dX8_baseTold_125 sh_195 rfl rf_195_9 ?_
        refine s_iload C dX8_baseTold_128 rfl ?_
        refine s_iald C dX8_baseTold_130 sh_205 (by omega) (fun g130 => ?_)
        refine s_iret C hR dX8_baseTold_131 rfl ⟨_, rfl, ?_⟩ (by decide)
        exact moP.yes h0 h37 (show _ = gB (sD S x) y z.toNat by rw [hz0, ex4_42]; exact eb 5 (by decide)) hO2 (can_T2 hp29.1).M
      · refine s_tsOut (tgt := 132) C dX8_baseTold_45 (by omega) hsw45_d (by decide) ?_
        have hz0 : z = 6 := by omega
        refine s_aload_n C dX8_baseTold_132 rfl ?_
        refine s_getR (c := 8) C fl_8_40 dX8_baseTold_133 sh_195 rfl rf_195_10 ?_
        refine s_iload C dX8_baseTold_136 rfl ?_
        refine s_iald C dX8_baseTold_138 sh_206 (by omega) (fun g138 => ?_)
        refine s_iret C hR dX8_baseTold_139 rfl ⟨_, rfl, ?_⟩ (by decide)
        exact moP.yes h0 h37 (show _ = gB (sD S x) y z.toNat by rw [hz0, ex4_42]; exact eb 6 (by decide)) hO2 (can_T2 hp29.1).M
    · have y32 := (hp29.2).n (by omega)
      refine s_iconst C dX8_baseTold_35 ?_
      refine s_iret C hR dX8_baseTold_36 rfl ⟨_, rfl, ?_⟩ (by decide)
      exact moP.no hO hp29.1 j29_0 y32
  refine s_if_ne (tgt := 14) C dX8_baseTold_7 (by decide) (by omega) (fun c7 => ?_) (fun c7 => ?_)
  · have y7 := (hp4).y (by omega)
    refine s_iload_n C dX8_baseTold_14 rfl ?_
    refine s_iconst C dX8_baseTold_15 ?_
    refine s_bipush C dX8_baseTold_16 (by decide) ?_
    refine s_cS3i C dX8_baseTold_18 lkX8_110 moX8_isIn mvX8_isIn (kX8_isIn (by omega) (by omega) (by omega)) (by decide) (Nat.le_of_ble_eq_true rfl) rfl (by decide) (kpI (fun r18 hp18 => ?_))
    have hb18 := (hp18).b
    refine s_if_eq (tgt := 28) C dX8_baseTold_21 (by decide) (by omega) (fun c21 => ?_) (fun c21 => ?_)
    · have y21 := (hp18).n (by omega)
      refine s_iconst C dX8_baseTold_28 ?_
      refine J29 2 ?_ (by first | assumption | omega)
      · unfold op_baseTold; dsimp only; (repeat' split) <;> omega
    · have y21 := (hp18).y (by omega)
      refine s_iconst C dX8_baseTold_24 ?_
      refine s_goto (tgt := 29) C dX8_baseTold_25 (by decide) ?_
      refine J29 0 ?_ (by first | assumption | omega)
      · unfold op_baseTold; dsimp only; (repeat' split) <;> omega
  · have y7 := (hp4).n (by omega)
    refine s_iconst C dX8_baseTold_10 ?_
    refine s_goto (tgt := 29) C dX8_baseTold_11 (by decide) ?_
    refine J29 1 ?_ (by first | assumption | omega)
    · unfold op_baseTold; dsimp only; (repeat' split) <;> omega

set_option maxRecDepth 100000 in
set_option maxHeartbeats 8000000 in
theorem kX8_numberOf {E : sv_E} {σ : sv_G} {S : st_T} (hS : StOK S) (hO : RO σ S) {x : Int} (hx : -2147483648 ≤ x ∧ x ≤ 2147483647) {y : Int} (hy : -2147483648 ≤ y ∧ y ≤ 2147483647) : CT E MX8_numberOf 2 [(vR 195), (vI x), (vI y)] σ (PI fun r σ9 => moP σ σ9 S r (op_numberOf S x y)) := by
  refine CT.of (RX8, cX8_numberOf, 5, (some .int), [], 2, 0, 0) rfl moX8_numberOf (Nat.le_of_ble_eq_true rfl) (ls0 := [some (vR 195), some (vI x), some (vI y), none, none]) rfl ?_
  intro X Q C hR
  refine s_aload_n C dX8_numberOf_0 rfl ?_
  refine s_iload_n C dX8_numberOf_1 rfl ?_
  refine s_cS1i C dX8_numberOf_2 lkX8_114 moX8_isGrammar mvX8_isGrammar (kX8_isGrammar (by omega)) (by decide) (Nat.le_of_ble_eq_true rfl) rfl (by decide) (kpI (fun r2 hp2 => ?_))
  have hb2 := (hp2).b
  have J20 : ∀ (c : Int), (c = (op_numberOf S x y).1) → (0 ≤ c ∧ c ≤ 3) → SW X E Q 0 0 20 [some (vR 195), some (vI x), some (vI y), none, none] [(vI c), (vR 195)] σ := by
    intro c j20_0 j20_1
    refine s_cV1i C dX8_numberOf_20 lkX8_128 moX8_can mvX8_can (kX8_can (by omega)) sh_195 ⟨_, _, rfl⟩ (by decide) (Nat.le_of_ble_eq_true rfl) rfl (by decide) (fun r20 σ_20 hp20 => ?_)
    have hb20 := (hp20.2).b
    have hO2 := hO.t (can_T2 hp20.1)
    refine s_if_ne (tgt := 28) C dX8_numberOf_23 (by decide) (by omega) (fun c23 => ?_) (fun c23 => ?_)
    · have y23 := (hp20.2).y (by omega)
      have h0 : (op_numberOf S x y).1 = 0 := by rw [← j20_0]; exact y23
      have hk := ifc1 (show (if ¬ ((0 ≤ x ∧ x ≤ 3) ∧ 0 ≤ y ∧ y ≤ 199) then 1 else 0 : Int) = 0 from h0)
      have h37 : σ_20 195 37 = 0 := by rw [hp20.1, up_s]; exact y23
      have hD := hS.1 x (by omega) (by omega)
      have hM := hO2.1 x (by omega) (by omega)
      have hn0 := hD.2.2.1
      have hn1 := hD.2.2.2.1
      have hn2 := hD.2.2.2.2.1
      have hn3 := hD.2.2.2.2.2.1
      have hn4 := hD.2.2.2.2.2.2.1
      have e196 : σ_20 196 x = gC (sD S x) 0 := hM.1.1
      have e199 : σ_20 199 x = gC (sD S x) 1 := hM.2.1.1
      refine s_sipush C dX8_numberOf_28 (by decide) ?_
      refine s_istore_n (ls2 := [some (vR 195), some (vI x), some (vI y), some (vI 10000), none]) C dX8_numberOf_31 (by decide) rfl ?_
      refine s_bipush C dX8_numberOf_32 (by decide) ?_
      refine s_iload_n C dX8_numberOf_34 rfl ?_
      refine s_imul C dX8_numberOf_35 ?_
      refine s_topI (fun x4_36 ex4_36 => ?_)
      refine s_istore (ls2 := [some (vR 195), some (vI x), some (vI y), some (vI 10000), some (vI x4_36)]) C dX8_numberOf_36 (by decide) rfl ?_
      have L38 : ∀ (n : Nat) (f : Int) (m : Int), (40 * x + gC (sD S x) 0 - m).toNat < n → (40 * x ≤ m ∧ m ≤ 40 * x + gC (sD S x) 0) → (nfA σ_20 (sD S x) x y f m) → SW X E Q 0 0 38 [some (vR 195), some (vI x), some (vI y), some (vI f), some (vI m)] [] σ_20 := by
        intro n
        induction n with
        | zero => intro f m hm; exact absurd hm (Nat.not_lt_zero _)
        | succ n ih38 =>
          intro f m hm38 i38_0 i38_1
          have hfr := i38_1.rng
          refine s_iload C dX8_numberOf_38 rfl ?_
          refine s_bipush C dX8_numberOf_40 (by decide) ?_
          refine s_iload_n C dX8_numberOf_42 rfl ?_
          refine s_imul C dX8_numberOf_43 ?_
          refine s_aload_n C dX8_numberOf_44 rfl ?_
          refine s_getR (c := 8) C fl_8_7 dX8_numberOf_45 sh_195 rfl rf_195_0 ?_
          refine s_iload_n C dX8_numberOf_48 rfl ?_
          refine s_iald C dX8_numberOf_49 sh_196 (by omega) (fun g49 => ?_)
          refine s_iadd C dX8_numberOf_50 ?_
          refine s_icmp_ge (tgt := 94) C dX8_numberOf_51 (by decide) (by omega) (by omega) (fun c51 => ?_) (fun c51 => ?_)
          · refine s_iconst C dX8_numberOf_94 ?_
            refine s_iload_n C dX8_numberOf_95 rfl ?_
            refine s_imul C dX8_numberOf_96 ?_
            refine s_topI (fun x4_97 ex4_97 => ?_)
            refine s_istore (ls2 := [some (vR 195), some (vI x), some (vI y), some (vI f), some (vI x4_97)]) C dX8_numberOf_97 (by decide) rfl ?_
            have L99 : ∀ (n : Nat) (f2 : Int) (m2 : Int), (5 * x + gC (sD S x) 1 - m2).toNat < n → (5 * x ≤ m2 ∧ m2 ≤ 5 * x + gC (sD S x) 1) → (nfB (sD S x) y f2 (m2 - 5 * x)) → SW X E Q 0 0 99 [some (vR 195), some (vI x), some (vI y), some (vI f2), some (vI m2)] [] σ_20 := by
              intro n
              induction n with
              | zero => intro f2 m2 hm; exact absurd hm (Nat.not_lt_zero _)
              | succ n ih99 =>
                intro f2 m2 hm99 i99_0 i99_1
                have hfr2 := i99_1.rng
                refine s_iload C dX8_numberOf_99 rfl ?_
                refine s_iconst C dX8_numberOf_101 ?_
                refine s_iload_n C dX8_numberOf_102 rfl ?_
                refine s_imul C dX8_numberOf_103 ?_
                refine s_aload_n C dX8_numberOf_104 rfl ?_
                refine s_getR (c := 8) C fl_8_19 dX8_numberOf_105 sh_195 rfl rf_195_3 ?_
                refine s_iload_n C dX8_numberOf_108 rfl ?_
                refine s_iald C dX8_numberOf_109 sh_199 (by omega) (fun g109 => ?_)
                refine s_iadd C dX8_numberOf_110 ?_
                refine s_icmp_ge (tgt := 154) C dX8_numberOf_111 (by decide) (by omega) (by omega) (fun c111 => ?_) (fun c111 => ?_)
                · refine s_iload_n C dX8_numberOf_154 rfl ?_
                  refine s_sipush C dX8_numberOf_155 (by decide) ?_
                  refine s_icmp_ne (tgt := 165) C dX8_numberOf_158 (by decide) (by omega) (by omega) (fun c158 => ?_) (fun c158 => ?_)
                  · refine s_iload_n C dX8_numberOf_165 rfl ?_
                    refine s_iret C hR dX8_numberOf_166 rfl ⟨_, rfl, ?_⟩ (by decide)
                    have hw := i99_1.fin (by omega)
                    first
                      | (rw [if_pos (by omega)] at hw; exact moP.yes h0 h37 (nuF_of hw) hO2 (can_T2 hp20.1).M)
                      | (rw [if_neg (by omega)] at hw; exact moP.yes h0 h37 (nuF_of hw) hO2 (can_T2 hp20.1).M)
                  · refine s_iconst C dX8_numberOf_161 ?_
                    refine s_goto (tgt := 166) C dX8_numberOf_162 (by decide) ?_
                    refine s_iret C hR dX8_numberOf_166 rfl ⟨_, rfl, ?_⟩ (by decide)
                    have hw := i99_1.fin (by omega)
                    first
                      | (rw [if_pos (by omega)] at hw; exact moP.yes h0 h37 (nuF_of hw) hO2 (can_T2 hp20.1).M)
                      | (rw [if_neg (by omega)] at hw; exact moP.yes h0 h37 (nuF_of hw) hO2 (can_T2 hp20.1).M)
                · refine s_aload_n C dX8_numberOf_114 rfl ?_
                  refine s_getR (c := 8) C fl_8_25 dX8_numberOf_115 sh_195 rfl rf_195_5 ?_
                  refine s_iload C dX8_numberOf_118 rfl ?_
                  have eb0 : σ_20 200 m2 = gB (sD S x) (m2 - 5 * x) 0 := by
                    have z := hM.2.1.2 (m2 - 5 * x) 0 (by omega) (by omega) (by decide)
                    rw [show 5 * x + (m2 - 5 * x) = m2 by omega] at z; exact z
                  have eb1 : σ_20 201 m2 = gB (sD S x) (m2 - 5 * x) 1 := by
                    have z := hM.2.1.2 (m2 - 5 * x) 1 (by omega) (by omega) (by decide)
                    rw [show 5 * x + (m2 - 5 * x) = m2 by omega] at z; exact z
                  have hbo := (hD.2.2.2.2.2.2.2.1 (m2 - 5 * x) (by omega) (by omega)).1
                  refine s_iald C dX8_numberOf_120 sh_201 (by omega) (fun g120 => ?_)
                  refine s_iload_n C dX8_numberOf_121 rfl ?_
                  have J147 : ∀ (f4 : Int), (nfB (sD S x) y f4 (m2 - 5 * x + 1)) → (0 ≤ f4 ∧ f4 ≤ 10000) → SW X E Q 0 0 147 [some (vR 195), some (vI x), some (vI y), some (vI f2), some (vI m2)] [(vI f4)] σ_20 := by
                    intro f4 j147_0 j147_1
                    refine s_istore_n (ls2 := [some (vR 195), some (vI x), some (vI y), some (vI f4), some (vI m2)]) C dX8_numberOf_147 (by decide) rfl ?_
                    obtain ⟨x4_148, ex4_148⟩ : ∃ y : Int, y = m2 + 1 := ⟨_, rfl⟩
                    refine s_iinc (z2 := x4_148) (ls2 := [some (vR 195), some (vI x), some (vI y), some (vI f4), some (vI x4_148)]) C dX8_numberOf_148 (by decide) rfl ex4_148 rfl ?_
                    refine s_goto (tgt := 99) C dX8_numberOf_151 (by decide) ?_
                    refine ih99 f4 x4_148 (by omega) (by first | assumption | omega) ?_
                    · rw [show x4_148 - 5 * x = m2 - 5 * x + 1 by omega]; exact j147_0
                  refine s_icmp_ne (tgt := 146) C dX8_numberOf_122 (by decide) (by omega) (by omega) (fun c122 => ?_) (fun c122 => ?_)
                  · refine s_iload_n C dX8_numberOf_146 rfl ?_
                    refine J147 f2 ?_ (by first | assumption | omega)
                    · first
                        | exact i99_1.miss (Or.inl (by omega))
                        | exact i99_1.miss (Or.inr (by omega))
                  · refine s_aload_n C dX8_numberOf_125 rfl ?_
                    refine s_getR (c := 8) C fl_8_22 dX8_numberOf_126 sh_195 rfl rf_195_4 ?_
                    refine s_iload C dX8_numberOf_129 rfl ?_
                    refine s_iald C dX8_numberOf_131 sh_200 (by omega) (fun g131 => ?_)
                    refine s_iload_n C dX8_numberOf_132 rfl ?_
                    refine s_icmp_ge (tgt := 146) C dX8_numberOf_133 (by decide) (by omega) (by omega) (fun c133 => ?_) (fun c133 => ?_)
                    · refine s_iload_n C dX8_numberOf_146 rfl ?_
                      refine J147 f2 ?_ (by first | assumption | omega)
                      · first
                          | exact i99_1.miss (Or.inl (by omega))
                          | exact i99_1.miss (Or.inr (by omega))
                    · refine s_aload_n C dX8_numberOf_136 rfl ?_
                      refine s_getR (c := 8) C fl_8_22 dX8_numberOf_137 sh_195 rfl rf_195_4 ?_
                      refine s_iload C dX8_numberOf_140 rfl ?_
                      refine s_iald C dX8_numberOf_142 sh_200 (by omega) (fun g142 => ?_)
                      refine s_goto (tgt := 147) C dX8_numberOf_143 (by decide) ?_
                      refine J147 (σ_20 200 m2) ?_ (by first | assumption | omega)
                      · rw [eb0]; exact i99_1.hit (by omega) (by omega) (by omega) (by omega)
            refine L99 _ f x4_97 (Nat.lt_succ_self _) (by first | assumption | omega) ?_
            · rw [show x4_97 - 5 * x = 0 by omega]; exact i38_1.fin hM.1 (by omega) (by omega)
          · refine s_aload_n C dX8_numberOf_54 rfl ?_
            refine s_getR (c := 8) C fl_8_16 dX8_numberOf_55 sh_195 rfl rf_195_2 ?_
            refine s_iload C dX8_numberOf_58 rfl ?_
            have ea := hM.1.2.1 (m - 40 * x) (by omega) (by omega)
            rw [show 40 * x + (m - 40 * x) = m by omega] at ea
            have er := hD.2.1 (σ_20 197 m) (by omega)
            refine s_iald C dX8_numberOf_60 sh_198 (by omega) (fun g60 => ?_)
            refine s_iload_n C dX8_numberOf_61 rfl ?_
            have J87 : ∀ (f3 : Int), (nfA σ_20 (sD S x) x y f3 (m + 1)) → (0 ≤ f3 ∧ f3 ≤ 10000) → SW X E Q 0 0 87 [some (vR 195), some (vI x), some (vI y), some (vI f), some (vI m)] [(vI f3)] σ_20 := by
              intro f3 j87_0 j87_1
              refine s_istore_n (ls2 := [some (vR 195), some (vI x), some (vI y), some (vI f3), some (vI m)]) C dX8_numberOf_87 (by decide) rfl ?_
              obtain ⟨x4_88, ex4_88⟩ : ∃ y : Int, y = m + 1 := ⟨_, rfl⟩
              refine s_iinc (z2 := x4_88) (ls2 := [some (vR 195), some (vI x), some (vI y), some (vI f3), some (vI x4_88)]) C dX8_numberOf_88 (by decide) rfl ex4_88 rfl ?_
              refine s_goto (tgt := 38) C dX8_numberOf_91 (by decide) ?_
              refine ih38 f3 x4_88 (by omega) (by first | assumption | omega) ?_
              · rw [show x4_88 = m + 1 from ex4_88]; exact j87_0
            refine s_icmp_ne (tgt := 86) C dX8_numberOf_62 (by decide) (by omega) (by omega) (fun c62 => ?_) (fun c62 => ?_)
            · refine s_iload_n C dX8_numberOf_86 rfl ?_
              refine J87 f ?_ (by first | assumption | omega)
              · first
                  | exact i38_1.miss (Or.inl (by omega))
                  | exact i38_1.miss (Or.inr (by omega))
            · refine s_aload_n C dX8_numberOf_65 rfl ?_
              refine s_getR (c := 8) C fl_8_13 dX8_numberOf_66 sh_195 rfl rf_195_1 ?_
              refine s_iload C dX8_numberOf_69 rfl ?_
              refine s_iald C dX8_numberOf_71 sh_197 (by omega) (fun g71 => ?_)
              refine s_iload_n C dX8_numberOf_72 rfl ?_
              refine s_icmp_ge (tgt := 86) C dX8_numberOf_73 (by decide) (by omega) (by omega) (fun c73 => ?_) (fun c73 => ?_)
              · refine s_iload_n C dX8_numberOf_86 rfl ?_
                refine J87 f ?_ (by first | assumption | omega)
                · first
                    | exact i38_1.miss (Or.inl (by omega))
                    | exact i38_1.miss (Or.inr (by omega))
              · refine s_aload_n C dX8_numberOf_76 rfl ?_
                refine s_getR (c := 8) C fl_8_13 dX8_numberOf_77 sh_195 rfl rf_195_1 ?_
                refine s_iload C dX8_numberOf_80 rfl ?_
                refine s_iald C dX8_numberOf_82 sh_197 (by omega) (fun g82 => ?_)
                refine s_goto (tgt := 87) C dX8_numberOf_83 (by decide) ?_
                refine J87 (σ_20 197 m) ?_ (by first | assumption | omega)
                · exact i38_1.hit (by omega) (by omega) (by omega) (by omega) (by omega)
      refine L38 _ 10000 x4_36 (Nat.lt_succ_self _) (by first | assumption | omega) ?_
      · exact Or.inl ⟨rfl, fun i h1 h2 => by omega⟩
    · have y23 := (hp20.2).n (by omega)
      refine s_iconst C dX8_numberOf_26 ?_
      refine s_iret C hR dX8_numberOf_27 rfl ⟨_, rfl, ?_⟩ (by decide)
      exact moP.no hO hp20.1 j20_0 y23
  refine s_if_eq (tgt := 19) C dX8_numberOf_5 (by decide) (by omega) (fun c5 => ?_) (fun c5 => ?_)
  · have y5 := (hp2).n (by omega)
    refine s_iconst C dX8_numberOf_19 ?_
    refine J20 1 ?_ (by first | assumption | omega)
    · unfold op_numberOf; dsimp only; (repeat' split) <;> omega
  · have y5 := (hp2).y (by omega)
    refine s_iload_n C dX8_numberOf_8 rfl ?_
    refine s_cS1i C dX8_numberOf_9 lkX8_118 moX8_isWord mvX8_isWord (kX8_isWord (by omega)) (by decide) (Nat.le_of_ble_eq_true rfl) rfl (by decide) (kpI (fun r9 hp9 => ?_))
    have hb9 := (hp9).b
    refine s_if_eq (tgt := 19) C dX8_numberOf_12 (by decide) (by omega) (fun c12 => ?_) (fun c12 => ?_)
    · have y12 := (hp9).n (by omega)
      refine s_iconst C dX8_numberOf_19 ?_
      refine J20 1 ?_ (by first | assumption | omega)
      · unfold op_numberOf; dsimp only; (repeat' split) <;> omega
    · have y12 := (hp9).y (by omega)
      refine s_iconst C dX8_numberOf_15 ?_
      refine s_goto (tgt := 20) C dX8_numberOf_16 (by decide) ?_
      refine J20 0 ?_ (by first | assumption | omega)
      · unfold op_numberOf; dsimp only; (repeat' split) <;> omega

set_option maxRecDepth 100000 in
set_option maxHeartbeats 8000000 in
theorem kX8_cord {E : sv_E} {σ : sv_G} {S : st_T} (hS : StOK S) (hO : RO σ S) {x : Int} (hx : -2147483648 ≤ x ∧ x ≤ 2147483647) {y : Int} (hy : -2147483648 ≤ y ∧ y ≤ 2147483647) : CT E MX8_cord 2 [(vR 195), (vI x), (vI y)] σ (PI fun r σ9 => moP σ σ9 S r (op_cord S x y)) := by
  refine CT.of (RX8, cX8_cord, 5, (some .int), [], 2, 0, 0) rfl moX8_cord (Nat.le_of_ble_eq_true rfl) (ls0 := [some (vR 195), some (vI x), some (vI y), none, none]) rfl ?_
  intro X Q C hR
  refine s_aload_n C dX8_cord_0 rfl ?_
  refine s_iload_n C dX8_cord_1 rfl ?_
  refine s_cS1i C dX8_cord_2 lkX8_245 moX8_isCord mvX8_isCord (kX8_isCord (by omega)) (by decide) (Nat.le_of_ble_eq_true rfl) rfl (by decide) (kpI (fun r2 hp2 => ?_))
  have hb2 := (hp2).b
  have J27 : ∀ (c : Int), (c = (op_cord S x y).1) → (0 ≤ c ∧ c ≤ 3) → SW X E Q 0 0 27 [some (vR 195), some (vI x), some (vI y), none, none] [(vI c), (vR 195)] σ := by
    intro c j27_0 j27_1
    refine s_cV1i C dX8_cord_27 lkX8_128 moX8_can mvX8_can (kX8_can (by omega)) sh_195 ⟨_, _, rfl⟩ (by decide) (Nat.le_of_ble_eq_true rfl) rfl (by decide) (fun r27 σ_27 hp27 => ?_)
    have hb27 := (hp27.2).b
    have hO2 := hO.t (can_T2 hp27.1)
    refine s_if_ne (tgt := 35) C dX8_cord_30 (by decide) (by omega) (fun c30 => ?_) (fun c30 => ?_)
    · have y30 := (hp27.2).y (by omega)
      have h0 : (op_cord S x y).1 = 0 := by rw [← j27_0]; exact y30
      have hk := ifc2 (show (if ¬ (0 ≤ x ∧ x ≤ 5) then 1 else if ¬ (2 ≤ y ∧ y ≤ 60) then 2 else 0 : Int) = 0 from h0)
      have h37 : σ_27 195 37 = 0 := by rw [hp27.1, up_s]; exact y30
      have h6 := hO2.2.2.2.2.1 x (by omega) (by omega)
      refine s_aload_n C dX8_cord_35 rfl ?_
      refine s_getR (c := 8) C fl_8_97 dX8_cord_36 sh_195 rfl rf_195_34 ?_
      refine s_iload_n C dX8_cord_39 rfl ?_
      refine s_iald C dX8_cord_40 sh_225 (by omega) (fun g40 => ?_)
      refine s_topI (fun x3_41 ex3_41 => ?_)
      refine s_istore_n (ls2 := [some (vR 195), some (vI x), some (vI y), some (vI x3_41), none]) C dX8_cord_41 (by decide) rfl ?_
      refine s_aload_n C dX8_cord_42 rfl ?_
      refine s_getR (c := 8) C fl_8_97 dX8_cord_43 sh_195 rfl rf_195_34 ?_
      refine s_iload_n C dX8_cord_46 rfl ?_
      refine s_iload_n C dX8_cord_47 rfl ?_
      refine s_iast C dX8_cord_48 sh_225 (by omega) (by omega) ?_
      refine s_nameG (fun σ_48 hσ_48 => ?_)
      refine s_iconst C dX8_cord_49 ?_
      refine s_istore (ls2 := [some (vR 195), some (vI x), some (vI y), some (vI x3_41), some (vI 0)]) C dX8_cord_50 (by decide) rfl ?_
      have L52 : ∀ (n : Nat) (m : Int) (τ : sv_G), (6 - m).toNat < n → (0 ≤ m ∧ m ≤ 6) → (∀ i, 0 ≤ i → i < m → τ 226 i = 0) → (∀ b k, b ≠ 226 → τ b k = σ_48 b k) → SW X E Q 0 0 52 [some (vR 195), some (vI x), some (vI y), some (vI x3_41), some (vI m)] [] τ := by
        intro n
        induction n with
        | zero => intro m τ hm; exact absurd hm (Nat.not_lt_zero _)
        | succ n ih52 =>
          intro m τ hm52 i52_0 i52_1 i52_2
          refine s_iload C dX8_cord_52 rfl ?_
          refine s_bipush C dX8_cord_54 (by decide) ?_
          refine s_icmp_ge (tgt := 73) C dX8_cord_56 (by decide) (by omega) (by omega) (fun c56 => ?_) (fun c56 => ?_)
          · refine s_aload_n C dX8_cord_73 rfl ?_
            refine s_lconst C dX8_cord_74 ?_
            refine s_putL (c := 8) (kz := 36) C fl_8_248 dX8_cord_75 sh_195 rfl (fun _ _ h9 => by cases h9; rfl) (by omega) rfl ?_
            refine s_nameG (fun σ_75 hσ_75 => ?_)
            refine s_iload_n C dX8_cord_78 rfl ?_
            refine s_iret C hR dX8_cord_79 rfl ⟨_, rfl, ?_⟩ (by decide)
            have hf : ∀ b k, b ≠ 225 → b ≠ 226 → (b ≠ 195 ∨ (k ≠ 36 ∧ k ≠ 37)) → σ_75 b k = σ b k := fun b k q1 q2 q3 => by rw [hσ_75, up_n (by omega), i52_2 b k q2, hσ_48, up_a q1, hp27.1, up_n (by omega)]
            refine moP.yes h0 (by rw [hσ_75, up_k (by decide), i52_2 _ _ (by decide), hσ_48, up_a (by decide)]; exact h37) (show _ = sB S x by rw [ex3_41]; exact h6.1) (hO.uC (b := fun i => if i = x then y else sB S i) (t := fun _ => 0) (z := 0) (fun i h1 h2 => ⟨?_, ?_⟩) (by rw [hσ_75, up_s]; rfl) fun b k q => hf b k (by omega) (by omega) (by omega)) fun b k q => hf b k (by omega) (by omega) (by omega)
            · rw [hσ_75, up_a (by decide), i52_2 _ _ (by decide), hσ_48, up_i]
              show _ = if i = x then y else sB S i
              by_cases q : i = x
              · rw [if_pos q, if_pos q]
              · rw [if_neg q, if_neg q]; exact (hO2.2.2.2.2.1 i h1 h2).1
            · rw [hσ_75, up_a (by decide)]; exact i52_1 i h1 (by omega)
          · refine s_aload_n C dX8_cord_59 rfl ?_
            refine s_getR (c := 8) C fl_8_100 dX8_cord_60 sh_195 rfl rf_195_35 ?_
            refine s_iload C dX8_cord_63 rfl ?_
            refine s_iconst C dX8_cord_65 ?_
            refine s_iast C dX8_cord_66 sh_226 (by omega) (by omega) ?_
            refine s_nameG (fun σ_66 hσ_66 => ?_)
            obtain ⟨x4_67, ex4_67⟩ : ∃ y : Int, y = m + 1 := ⟨_, rfl⟩
            refine s_iinc (z2 := x4_67) (ls2 := [some (vR 195), some (vI x), some (vI y), some (vI x3_41), some (vI x4_67)]) C dX8_cord_67 (by decide) rfl ex4_67 rfl ?_
            refine s_goto (tgt := 52) C dX8_cord_70 (by decide) ?_
            refine ih52 x4_67 σ_66 (by omega) (by first | assumption | omega) ?_ ?_
            · intro i h1 h2
              rw [hσ_66, up_i]
              by_cases q : i = m
              · rw [if_pos q]
              · rw [if_neg q]; exact i52_1 i h1 (by omega)
            · intro b k q; rw [hσ_66, up_a q]; exact i52_2 b k q
      refine L52 _ 0 σ_48 (Nat.lt_succ_self _) (by first | assumption | omega) ?_ ?_
      · intro i h1 h2; omega
      · exact fun _ _ _ => rfl
    · have y30 := (hp27.2).n (by omega)
      refine s_iconst C dX8_cord_33 ?_
      refine s_iret C hR dX8_cord_34 rfl ⟨_, rfl, ?_⟩ (by decide)
      exact moP.no hO hp27.1 j27_0 y30
  refine s_if_ne (tgt := 12) C dX8_cord_5 (by decide) (by omega) (fun c5 => ?_) (fun c5 => ?_)
  · have y5 := (hp2).y (by omega)
    refine s_iload_n C dX8_cord_12 rfl ?_
    refine s_iconst C dX8_cord_13 ?_
    refine s_bipush C dX8_cord_14 (by decide) ?_
    refine s_cS3i C dX8_cord_16 lkX8_110 moX8_isIn mvX8_isIn (kX8_isIn (by omega) (by omega) (by omega)) (by decide) (Nat.le_of_ble_eq_true rfl) rfl (by decide) (kpI (fun r16 hp16 => ?_))
    have hb16 := (hp16).b
    refine s_if_eq (tgt := 26) C dX8_cord_19 (by decide) (by omega) (fun c19 => ?_) (fun c19 => ?_)
    · have y19 := (hp16).n (by omega)
      refine s_iconst C dX8_cord_26 ?_
      refine J27 2 ?_ (by first | assumption | omega)
      · unfold op_cord; dsimp only; (repeat' split) <;> omega
    · have y19 := (hp16).y (by omega)
      refine s_iconst C dX8_cord_22 ?_
      refine s_goto (tgt := 27) C dX8_cord_23 (by decide) ?_
      refine J27 0 ?_ (by first | assumption | omega)
      · unfold op_cord; dsimp only; (repeat' split) <;> omega
  · have y5 := (hp2).n (by omega)
    refine s_iconst C dX8_cord_8 ?_
    refine s_goto (tgt := 27) C dX8_cord_9 (by decide) ?_
    refine J27 1 ?_ (by first | assumption | omega)
    · unfold op_cord; dsimp only; (repeat' split) <;> omega

set_option maxRecDepth 100000 in
set_option maxHeartbeats 8000000 in
theorem kX8_knots {E : sv_E} {σ : sv_G} {S : st_T} (hS : StOK S) (hO : RO σ S) {x : Int} (hx : -2147483648 ≤ x ∧ x ≤ 2147483647) : CT E MX8_knots 2 [(vR 195), (vI x)] σ (PI fun r σ9 => moP σ σ9 S r (op_knots S x)) := by
  refine CT.of (RX8, cX8_knots, 2, (some .int), [], 2, 0, 0) rfl moX8_knots (Nat.le_of_ble_eq_true rfl) (ls0 := [some (vR 195), some (vI x)]) rfl ?_
  intro X Q C hR
  refine s_aload_n C dX8_knots_0 rfl ?_
  refine s_iload_n C dX8_knots_1 rfl ?_
  refine s_cS1i C dX8_knots_2 lkX8_245 moX8_isCord mvX8_isCord (kX8_isCord (by omega)) (by decide) (Nat.le_of_ble_eq_true rfl) rfl (by decide) (kpI (fun r2 hp2 => ?_))
  have hb2 := (hp2).b
  have J13 : ∀ (c : Int), (c = (op_knots S x).1) → (0 ≤ c ∧ c ≤ 3) → SW X E Q 0 0 13 [some (vR 195), some (vI x)] [(vI c), (vR 195)] σ := by
    intro c j13_0 j13_1
    refine s_cV1i C dX8_knots_13 lkX8_128 moX8_can mvX8_can (kX8_can (by omega)) sh_195 ⟨_, _, rfl⟩ (by decide) (Nat.le_of_ble_eq_true rfl) rfl (by decide) (fun r13 σ_13 hp13 => ?_)
    have hb13 := (hp13.2).b
    have hO2 := hO.t (can_T2 hp13.1)
    refine s_if_eq (tgt := 28) C dX8_knots_16 (by decide) (by omega) (fun c16 => ?_) (fun c16 => ?_)
    · have y16 := (hp13.2).n (by omega)
      refine s_iconst C dX8_knots_28 ?_
      refine s_iret C hR dX8_knots_29 rfl ⟨_, rfl, ?_⟩ (by decide)
      first
        | exact moP.no hO hp13.1 j13_0 y16
        | exact moP.yes h0 h37 (show _ = sT S x from h6.2) hO2 (can_T2 hp13.1).M
    · have y16 := (hp13.2).y (by omega)
      have h0 : (op_knots S x).1 = 0 := by rw [← j13_0]; exact y16
      have hk := ifc1 (show (if ¬ (0 ≤ x ∧ x ≤ 5) then 1 else 0 : Int) = 0 from h0)
      have h37 : σ_13 195 37 = 0 := by rw [hp13.1, up_s]; exact y16
      have h6 := hO2.2.2.2.2.1 x (by omega) (by omega)
      refine s_aload_n C dX8_knots_19 rfl ?_
      refine s_getR (c := 8) C fl_8_100 dX8_knots_20 sh_195 rfl rf_195_35 ?_
      refine s_iload_n C dX8_knots_23 rfl ?_
      refine s_iald C dX8_knots_24 sh_226 (by omega) (fun g24 => ?_)
      refine s_goto (tgt := 29) C dX8_knots_25 (by decide) ?_
      refine s_iret C hR dX8_knots_29 rfl ⟨_, rfl, ?_⟩ (by decide)
      first
        | exact moP.no hO hp13.1 j13_0 y16
        | exact moP.yes h0 h37 (show _ = sT S x from h6.2) hO2 (can_T2 hp13.1).M
  refine s_if_eq (tgt := 12) C dX8_knots_5 (by decide) (by omega) (fun c5 => ?_) (fun c5 => ?_)
  · have y5 := (hp2).n (by omega)
    refine s_iconst C dX8_knots_12 ?_
    refine J13 1 ?_ (by first | assumption | omega)
    · unfold op_knots; dsimp only; (repeat' split) <;> omega
  · have y5 := (hp2).y (by omega)
    refine s_iconst C dX8_knots_8 ?_
    refine s_goto (tgt := 13) C dX8_knots_9 (by decide) ?_
    refine J13 0 ?_ (by first | assumption | omega)
    · unfold op_knots; dsimp only; (repeat' split) <;> omega
set_option maxRecDepth 100000 in
set_option maxHeartbeats 8000000 in
theorem kX8_lost {E : sv_E} {σ : sv_G} {S : st_T} (hS : StOK S) (hO : RO σ S)  : CT E MX8_lost 0 [(vR 195)] σ (PL fun r σ9 => moP σ σ9 S r (0, sZ S, S)) := by
  refine CT.of (RX8, cX8_lost, 1, (some .long), [], 0, 0, 0) rfl moX8_lost (Nat.le_of_ble_eq_true rfl) (ls0 := [some (vR 195)]) rfl ?_
  intro X Q C hR
  refine s_aload_n C dX8_lost_0 rfl ?_
  refine s_iconst C dX8_lost_1 ?_
  refine s_putI (c := 8) (kz := 37) C fl_8_106 dX8_lost_2 sh_195 rfl (fun _ _ h9 => by cases h9; rfl) (by omega) rfl ?_
  refine s_nameG (fun σ_2 hσ_2 => ?_)
  refine s_aload_n C dX8_lost_5 rfl ?_
  refine s_getL (c := 8) (kz := 36) C fl_8_248 dX8_lost_6 sh_195 rfl rfl (fun g6 => ?_)
  refine s_lret C hR dX8_lost_9 rfl ⟨_, rfl, ?_⟩ (by decide)
  exact moP.yes rfl (by rw [hσ_2, up_s]) (show _ = sZ S by rw [hσ_2, up_k (by decide)]; exact hO.2.2.2.2.2) (hO.t (can_T2 hσ_2)) (can_T2 hσ_2).M
set_option maxRecDepth 100000 in
set_option maxHeartbeats 8000000 in
theorem kX8_shown {E : sv_E} {σ : sv_G} {S : st_T} (hS : StOK S) (hO : RO σ S)  : CT E MX8_shown 0 [(vR 195)] σ (PL fun r σ9 => moP σ σ9 S r (0, cdT (sB S) (sT S) 6, S)) := by
  refine CT.of (RX8, cX8_shown, 4, (some .long), [], 0, 0, 0) rfl moX8_shown (Nat.le_of_ble_eq_true rfl) (ls0 := [some (vR 195), none, none, none]) rfl ?_
  intro X Q C hR
  refine s_aload_n C dX8_shown_0 rfl ?_
  refine s_iconst C dX8_shown_1 ?_
  refine s_putI (c := 8) (kz := 37) C fl_8_106 dX8_shown_2 sh_195 rfl (fun _ _ h9 => by cases h9; rfl) (by omega) rfl ?_
  refine s_nameG (fun σ_2 hσ_2 => ?_)
  have h6 : ∀ i, 0 ≤ i → i < 6 → σ_2 225 i = sB S i ∧ σ_2 226 i = sT S i := fun i h1 h2 => by rw [hσ_2, up_a (by decide), up_a (by decide)]; exact hO.2.2.2.2.1 i h1 h2
  refine s_lconst C dX8_shown_5 ?_
  refine s_lstore_n (ls2 := [some (vR 195), some (vL 0), none, none]) C dX8_shown_6 (by decide) rfl ?_
  refine s_iconst C dX8_shown_7 ?_
  refine s_istore_n (ls2 := [some (vR 195), some (vL 0), none, some (vI 5)]) C dX8_shown_8 (by decide) rfl ?_
  have L9 : ∀ (n : Nat) (s : Int) (m : Int), (m + 1).toNat < n → (-1 ≤ m ∧ m ≤ 5) → (cdT (sB S) (sT S) 6 = s * cdW (sB S) (m + 1).toNat + cdT (sB S) (sT S) (m + 1).toNat) → SW X E Q 0 0 9 [some (vR 195), some (vL s), none, some (vI m)] [] σ_2 := by
    intro n
    induction n with
    | zero => intro s m hm; exact absurd hm (Nat.not_lt_zero _)
    | succ n ih9 =>
      intro s m hm9 i9_0 i9_1
      refine s_iload_n C dX8_shown_9 rfl ?_
      refine s_if_lt (tgt := 37) C dX8_shown_10 (by decide) (by omega) (fun c10 => ?_) (fun c10 => ?_)
      · refine s_lload_n C dX8_shown_37 rfl ?_
        refine s_lret C hR dX8_shown_38 rfl ⟨_, rfl, ?_⟩ (by decide)
        have e : m = -1 := by omega
        have h9 := i9_1
        rw [e] at h9
        have h8 : cdT (sB S) (sT S) 6 = s * 1 + 0 := h9
        exact moP.yes rfl (by rw [hσ_2, up_s]) (show _ = cdT (sB S) (sT S) 6 by omega) (hO.t (can_T2 hσ_2)) (can_T2 hσ_2).M
      · refine s_lload_n C dX8_shown_13 rfl ?_
        refine s_aload_n C dX8_shown_14 rfl ?_
        refine s_getR (c := 8) C fl_8_97 dX8_shown_15 sh_195 rfl rf_195_34 ?_
        refine s_iload_n C dX8_shown_18 rfl ?_
        refine s_iald C dX8_shown_19 sh_225 (by omega) (fun g19 => ?_)
        refine s_i2l C dX8_shown_20 (by omega) ?_
        refine s_lmul C dX8_shown_21 ?_
        refine s_aload_n C dX8_shown_22 rfl ?_
        refine s_getR (c := 8) C fl_8_100 dX8_shown_23 sh_195 rfl rf_195_35 ?_
        refine s_iload_n C dX8_shown_26 rfl ?_
        refine s_iald C dX8_shown_27 sh_226 (by omega) (fun g27 => ?_)
        refine s_i2l C dX8_shown_28 (by omega) ?_
        refine s_ladd C dX8_shown_29 ?_
        refine s_topL (fun x1_30 ex1_30 => ?_)
        refine s_lstore_n (ls2 := [some (vR 195), some (vL x1_30), none, some (vI m)]) C dX8_shown_30 (by decide) rfl ?_
        obtain ⟨x3_31, ex3_31⟩ : ∃ y : Int, y = m + (-1) := ⟨_, rfl⟩
        refine s_iinc (z2 := x3_31) (ls2 := [some (vR 195), some (vL x1_30), none, some (vI x3_31)]) C dX8_shown_31 (by decide) rfl ex3_31 rfl ?_
        refine s_goto (tgt := 9) C dX8_shown_34 (by decide) ?_
        refine ih9 x1_30 x3_31 (by omega) (by first | assumption | omega) ?_
        · have h7 := h6 m (by omega) (by omega)
          rw [i9_1, cdW_s _ m (by omega), cdT_s _ _ m (by omega), show x3_31 + 1 = m by omega, ex1_30, h7.1, h7.2, Int.add_mul, Int.mul_assoc, Int.mul_comm (cdW (sB S) m.toNat)]
          omega
  refine L9 _ 0 5 (Nat.lt_succ_self _) (by first | assumption | omega) ?_
  · rw [Int.zero_mul, Int.zero_add]; rfl
set_option maxRecDepth 100000 in
set_option maxHeartbeats 8000000 in
theorem kX8_count {E : sv_E} {σ : sv_G} {S : st_T} (hS : StOK S) (hO : RO σ S) {x : Int} (hx : (-9223372036854775808 ≤ x ∧ x ≤ 9223372036854775807)) : CT E MX8_count 0 [(vR 195), (vL x)] σ (PL fun r σ9 => (-9223372036854775808 ≤ r ∧ r ≤ 9223372036854775807) ∧ moP σ σ9 S r (0, cdC (sB S) (sT S) x 6, nx_count S x)) := by
  refine CT.of (RX8, cX8_count, 10, (some .long), [], 0, 0, 0) rfl moX8_count (Nat.le_of_ble_eq_true rfl) (ls0 := [some (vR 195), some (vL x), none, none, none, none, none, none, none, none]) rfl ?_
  intro X Q C hR
  have h6 := hO.2.2.2.2.1
  have hcd := hS.2.2.2.2.1
  refine s_aload_n C dX8_count_0 rfl ?_
  refine s_iconst C dX8_count_1 ?_
  refine s_putI (c := 8) (kz := 37) C fl_8_106 dX8_count_2 sh_195 rfl (fun _ _ h9 => by cases h9; rfl) (by omega) rfl ?_
  refine s_nameG (fun σ_2 hσ_2 => ?_)
  refine s_lload_n C dX8_count_5 rfl ?_
  refine s_lstore_n (ls2 := [some (vR 195), some (vL x), none, some (vL x), none, none, none, none, none, none]) C dX8_count_6 (by decide) rfl ?_
  refine s_iconst C dX8_count_7 ?_
  refine s_istore (ls2 := [some (vR 195), some (vL x), none, some (vL x), none, some (vI 0), none, none, none, none]) C dX8_count_8 (by decide) rfl ?_
  have L10 : ∀ (n : Nat) (d : Int) (m : Int) (τ : sv_G), (6 - m).toNat < n → (0 ≤ m ∧ m ≤ 6) → ((-9223372036854775808 ≤ d ∧ d ≤ 9223372036854775807)) → (d = cdC (sB S) (sT S) x m.toNat) → (∀ b k, b ≠ 226 → (b ≠ 195 ∨ k ≠ 37) → τ b k = σ b k) → (∀ i, 0 ≤ i → i < m → τ 226 i = (sT S i + cdC (sB S) (sT S) x i.toNat) % sB S i) → (∀ i, m ≤ i → i < 6 → τ 226 i = sT S i) → (τ 195 37 = 0) → SW X E Q 0 0 10 [some (vR 195), some (vL x), none, some (vL d), none, some (vI m), none, none, none, none] [] τ := by
    intro n
    induction n with
    | zero => intro d m τ hm; exact absurd hm (Nat.not_lt_zero _)
    | succ n ih10 =>
      intro d m τ hm10 i10_0 i10_1 i10_2 i10_3 i10_4 i10_5 i10_6
      refine s_iload C dX8_count_10 rfl ?_
      refine s_bipush C dX8_count_12 (by decide) ?_
      refine s_icmp_ge (tgt := 135) C dX8_count_14 (by decide) (by omega) (by omega) (fun c14 => ?_) (fun c14 => ?_)
      · refine s_aload_n C dX8_count_135 rfl ?_
        refine s_dup C dX8_count_136 rfl ?_
        refine s_getL (c := 8) (kz := 36) C fl_8_248 dX8_count_137 sh_195 rfl rfl (fun g137 => ?_)
        refine s_lload_n C dX8_count_140 rfl ?_
        refine s_ladd C dX8_count_141 ?_
        refine s_asL (wrL_ofInt _) ?_
        refine s_putL (c := 8) (kz := 36) C fl_8_248 dX8_count_142 sh_195 rfl (fun _ _ h9 => by cases h9; rfl) (by exact wrL_rng _) rfl ?_
        refine s_nameG (fun σ_142 hσ_142 => ?_)
        refine s_lload_n C dX8_count_145 rfl ?_
        refine s_lret C hR dX8_count_146 rfl ⟨_, rfl, ?_⟩ (by decide)
        have hf : ∀ b k, b ≠ 226 → (b ≠ 195 ∨ (k ≠ 36 ∧ k ≠ 37)) → σ_142 b k = σ b k := fun b k q1 q2 => by rw [hσ_142, up_n (by omega)]; exact i10_3 b k q1 (by omega)
        have e6 : d = cdC (sB S) (sT S) x 6 := by rw [i10_2, show m.toNat = 6 by omega]
        refine ⟨i10_1, moP.yes rfl (by rw [hσ_142, up_k (by decide)]; exact i10_6) e6 (hO.uC (fun i h1 h2 => ⟨?_, ?_⟩) ?_ fun b k q => hf b k (by omega) (by omega)) fun b k q => hf b k (by omega) (by omega)⟩
        · rw [hf _ _ (by decide) (Or.inl (by decide))]; exact (h6 i h1 h2).1
        · rw [hσ_142, up_a (by decide)]; exact i10_4 i h1 (by omega)
        · rw [hσ_142, up_s, i10_3 195 36 (by decide) (by decide), hO.2.2.2.2.2, e6]
      · have hb := hcd m (by omega) (by omega)
        have e225 : τ 225 m = sB S m := by rw [i10_3 _ _ (by decide) (Or.inl (by decide))]; exact (h6 m (by omega) (by omega)).1
        have e226 : τ 226 m = sT S m := i10_5 m (by omega) (by omega)
        have fl := fl_dm (d := d) (b := τ 225 m) (by omega)
        have m2 := Int.emod_nonneg d (show τ 225 m ≠ 0 by omega)
        have m3 := Int.emod_lt_of_pos d (show 0 < τ 225 m by omega)
        refine s_lload_n C dX8_count_17 rfl ?_
        refine s_aload_n C dX8_count_18 rfl ?_
        refine s_getR (c := 8) C fl_8_97 dX8_count_19 sh_195 rfl rf_195_34 ?_
        refine s_iload C dX8_count_22 rfl ?_
        refine s_iald C dX8_count_24 sh_225 (by omega) (fun g24 => ?_)
        refine s_i2l C dX8_count_25 (by omega) ?_
        refine s_lrem C dX8_count_26 (by omega) (by omega) ?_
        refine s_topL (fun x6_27 ex6_27 => ?_)
        refine s_lstore (ls2 := [some (vR 195), some (vL x), none, some (vL d), none, some (vI m), some (vL x6_27), none, none, none]) C dX8_count_27 (by decide) rfl ?_
        refine s_lload_n C dX8_count_29 rfl ?_
        refine s_aload_n C dX8_count_30 rfl ?_
        refine s_getR (c := 8) C fl_8_97 dX8_count_31 sh_195 rfl rf_195_34 ?_
        refine s_iload C dX8_count_34 rfl ?_
        refine s_iald C dX8_count_36 sh_225 (by omega) (fun g36 => ?_)
        refine s_i2l C dX8_count_37 (by omega) ?_
        refine s_ldiv C dX8_count_38 (by omega) (by omega) ?_
        refine s_topL (fun x8_39 ex8_39 => ?_)
        refine s_lstore (ls2 := [some (vR 195), some (vL x), none, some (vL d), none, some (vI m), some (vL x6_27), none, some (vL x8_39), none]) C dX8_count_39 (by decide) rfl ?_
        refine s_lload C dX8_count_41 rfl ?_
        refine s_lload C dX8_count_43 rfl ?_
        refine s_lconst C dX8_count_45 ?_
        refine s_lcmp C dX8_count_46 (by omega) (by omega) ?_
        have J55 : ∀ (e : Int), ((x6_27 < 0 ∧ e = 1) ∨ (¬ x6_27 < 0 ∧ e = 0)) → SW X E Q 0 0 55 [some (vR 195), some (vL x), none, some (vL d), none, some (vI m), some (vL x6_27), none, some (vL x8_39), none] [(vL e), (vL x8_39)] τ := by
          intro e j55_0
          refine s_lsub C dX8_count_55 ?_
          refine s_topL (fun x8_56 ex8_56 => ?_)
          refine s_lstore (ls2 := [some (vR 195), some (vL x), none, some (vL d), none, some (vI m), some (vL x6_27), none, some (vL x8_56), none]) C dX8_count_56 (by decide) rfl ?_
          refine s_lload C dX8_count_58 rfl ?_
          refine s_lload C dX8_count_60 rfl ?_
          refine s_lconst C dX8_count_62 ?_
          refine s_lcmp C dX8_count_63 (by omega) (by omega) ?_
          have J79 : ∀ (e2 : Int), ((x6_27 < 0 ∧ e2 = τ 225 m) ∨ (¬ x6_27 < 0 ∧ e2 = 0)) → SW X E Q 0 0 79 [some (vR 195), some (vL x), none, some (vL d), none, some (vI m), some (vL x6_27), none, some (vL x8_56), none] [(vL e2), (vL x6_27)] τ := by
            intro e2 j79_0
            refine s_ladd C dX8_count_79 ?_
            refine s_topL (fun x6_80 ex6_80 => ?_)
            refine s_lstore (ls2 := [some (vR 195), some (vL x), none, some (vL d), none, some (vI m), some (vL x6_80), none, some (vL x8_56), none]) C dX8_count_80 (by decide) rfl ?_
            refine s_lload C dX8_count_82 rfl ?_
            refine s_aload_n C dX8_count_84 rfl ?_
            refine s_getR (c := 8) C fl_8_100 dX8_count_85 sh_195 rfl rf_195_35 ?_
            refine s_iload C dX8_count_88 rfl ?_
            refine s_iald C dX8_count_90 sh_226 (by omega) (fun g90 => ?_)
            refine s_i2l C dX8_count_91 (by omega) ?_
            refine s_ladd C dX8_count_92 ?_
            refine s_topL (fun x6_93 ex6_93 => ?_)
            refine s_lstore (ls2 := [some (vR 195), some (vL x), none, some (vL d), none, some (vI m), some (vL x6_93), none, some (vL x8_56), none]) C dX8_count_93 (by decide) rfl ?_
            have hrest : x6_93 = d % τ 225 m + τ 226 m := by omega
            have hwh : x8_56 = d / τ 225 m := by omega
            have cm := ct_dm (d := d) (t := τ 226 m) (b := τ 225 m) (by omega) (by omega)
            have q2 := Int.emod_nonneg (τ 226 m + d) (show τ 225 m ≠ 0 by omega)
            have q3 := Int.emod_lt_of_pos (τ 226 m + d) (show 0 < τ 225 m by omega)
            rw [← hrest] at cm
            have hnk : x6_93.tmod (τ 225 m) = (sT S m + d) % sB S m := by rw [cm.1, e225, e226]
            have hrk := cm.1
            have e225b : ∀ σ8 : sv_G, σ8 = up τ 226 m (x6_93.tmod (τ 225 m)) → σ8 225 m = τ 225 m := fun σ8 e => by rw [e, up_a (by decide)]
            refine s_aload_n C dX8_count_95 rfl ?_
            refine s_getR (c := 8) C fl_8_100 dX8_count_96 sh_195 rfl rf_195_35 ?_
            refine s_iload C dX8_count_99 rfl ?_
            refine s_lload C dX8_count_101 rfl ?_
            refine s_aload_n C dX8_count_103 rfl ?_
            refine s_getR (c := 8) C fl_8_97 dX8_count_104 sh_195 rfl rf_195_34 ?_
            refine s_iload C dX8_count_107 rfl ?_
            refine s_iald C dX8_count_109 sh_225 (by omega) (fun g109 => ?_)
            refine s_i2l C dX8_count_110 (by omega) ?_
            refine s_lrem C dX8_count_111 (by omega) (by omega) ?_
            refine s_l2i C dX8_count_112 ?_
            refine s_iast C dX8_count_113 sh_226 (by omega) (by omega) ?_
            refine s_nameG (fun σ_113 hσ_113 => ?_)
            have e113 : σ_113 225 m = τ 225 m := e225b _ hσ_113
            have hnd : x8_56 + x6_93.tdiv (σ_113 225 m) = (sT S m + d) / sB S m := by rw [e113, hwh, cm.2, e225, e226]
            have hnr : (-9223372036854775808 ≤ x8_56 + x6_93.tdiv (σ_113 225 m) ∧ x8_56 + x6_93.tdiv (σ_113 225 m) ≤ 9223372036854775807) := by rw [hnd]; exact cd_rng hb.2.2.1 hb.2.2.2 hb.1 i10_1
            refine s_lload C dX8_count_114 rfl ?_
            refine s_lload C dX8_count_116 rfl ?_
            refine s_aload_n C dX8_count_118 rfl ?_
            refine s_getR (c := 8) C fl_8_97 dX8_count_119 sh_195 rfl rf_195_34 ?_
            refine s_iload C dX8_count_122 rfl ?_
            refine s_iald C dX8_count_124 sh_225 (by omega) (fun g124 => ?_)
            refine s_i2l C dX8_count_125 (by omega) ?_
            refine s_ldiv C dX8_count_126 (by omega) (by omega) ?_
            refine s_ladd C dX8_count_127 ?_
            refine s_topL (fun x3_128 ex3_128 => ?_)
            refine s_lstore_n (ls2 := [some (vR 195), some (vL x), none, some (vL x3_128), none, some (vI m), some (vL x6_93), none, some (vL x8_56), none]) C dX8_count_128 (by decide) rfl ?_
            obtain ⟨x5_129, ex5_129⟩ : ∃ y : Int, y = m + 1 := ⟨_, rfl⟩
            refine s_iinc (z2 := x5_129) (ls2 := [some (vR 195), some (vL x), none, some (vL x3_128), none, some (vI x5_129), some (vL x6_93), none, some (vL x8_56), none]) C dX8_count_129 (by decide) rfl ex5_129 rfl ?_
            refine s_goto (tgt := 10) C dX8_count_132 (by decide) ?_
            refine s_weak (ls2 := [some (vR 195), some (vL x), none, some (vL x3_128), none, some (vI x5_129), none, none, none, none]) (sv_wk_c (sv_wk_c (sv_wk_n (sv_wk_c (sv_wk_n (sv_wk_c (sv_wk_n (sv_wk_n (sv_wk_n (sv_wk_n sv_wk_0)))))))))) ?_
            refine ih10 x3_128 x5_129 σ_113 (by omega) (by first | assumption | omega) ?_ ?_ ?_ ?_ ?_ ?_
            · rw [ex3_128]; exact hnr
            · rw [show x5_129 = m + 1 from ex5_129, cdC_s _ _ _ m (by omega), ← i10_2, ← hnd]; exact ex3_128
            · intro b k q1 q2; rw [hσ_113, up_a q1]; exact i10_3 b k q1 q2
            · intro i h1 h2
              rw [hσ_113, up_i]
              by_cases q : i = m
              · rw [if_pos q, q, ← i10_2, ← hnk]
              · rw [if_neg q]; exact i10_4 i h1 (by omega)
            · intro i h1 h2; rw [hσ_113, up_k (by omega)]; exact i10_5 i (by omega) h2
            · rw [hσ_113, up_a (by decide)]; exact i10_6
          refine s_if_ge (tgt := 78) C dX8_count_64 (by decide) (by exact cmpL_rng) (fun c64 => ?_) (fun c64 => ?_)
          · refine s_lconst C dX8_count_78 ?_
            refine J79 0 ?_
            · have z : (0 : Int) ≤ x6_27 := cmpL_ge.mp c64
              exact Or.inr ⟨by omega, rfl⟩
          · refine s_aload_n C dX8_count_67 rfl ?_
            refine s_getR (c := 8) C fl_8_97 dX8_count_68 sh_195 rfl rf_195_34 ?_
            refine s_iload C dX8_count_71 rfl ?_
            refine s_iald C dX8_count_73 sh_225 (by omega) (fun g73 => ?_)
            refine s_i2l C dX8_count_74 (by omega) ?_
            refine s_goto (tgt := 79) C dX8_count_75 (by decide) ?_
            refine J79 (τ 225 m) ?_
            · have z : ¬ (0 : Int) ≤ x6_27 := fun w => c64 (cmpL_ge.mpr w)
              exact Or.inl ⟨by omega, rfl⟩
        have n27 : x6_27 = d.tmod (τ 225 m) := ex6_27
        refine s_if_ge (tgt := 54) C dX8_count_47 (by decide) (by exact cmpL_rng) (fun c47 => ?_) (fun c47 => ?_)
        · refine s_lconst C dX8_count_54 ?_
          refine J55 0 ?_
          · have z : (0 : Int) ≤ x6_27 := cmpL_ge.mp c47
            exact Or.inr ⟨by omega, rfl⟩
        · refine s_lconst C dX8_count_50 ?_
          refine s_goto (tgt := 55) C dX8_count_51 (by decide) ?_
          refine J55 1 ?_
          · have z : ¬ (0 : Int) ≤ x6_27 := fun w => c47 (cmpL_ge.mpr w)
            exact Or.inl ⟨by omega, rfl⟩
  refine L10 _ x 0 σ_2 (Nat.lt_succ_self _) (by first | assumption | omega) ?_ ?_ ?_ ?_ ?_ ?_
  · exact hx
  · rfl
  · intro b k q1 q2; rw [hσ_2, up_n q2]
  · intro i h1 h2; omega
  · intro i h1 h2; rw [hσ_2, up_a (by decide)]; exact (h6 i (by omega) h2).2
  · rw [hσ_2, up_s]
