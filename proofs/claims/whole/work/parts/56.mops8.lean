/-! The model: learn, what is asked of examples, examples. -/
theorem ctR_s {R : Nat → List Int} {x : List Int} {m : Int} (h : 0 ≤ m) : ctR R x (m + 1).toNat = ctR R x m.toNat + (if R m.toNat = x then 1 else 0) := by rw [toN1 h]; rfl
theorem mxR_s {R : Nat → List Int} {n : Nat} {m : Int} (h : 0 ≤ m) : mxR R n (m + 1).toNat = if mxR R n m.toNat < ctR R (R m.toNat) n then ctR R (R m.toNat) n else mxR R n m.toNat := by rw [toN1 h]; rfl
theorem okH_any {l : List Int} : okH l = if l ≠ [] ∧ ¬ (-1 : Int) ∈ l then 1 else 0 := rfl
def exI (l : List Int) (b m : Int) : Prop := yn b (0 < l.length ∧ ∀ i : Nat, (i : Int) < m → l.getD i 0 ≠ -1)
theorem exI.fin {l : List Int} {b m : Int} (h : exI l b m) (hm : l.length ≤ m ∧ m ≤ l.length) : (b = 1 ∧ okH l = 1) ∨ (b = 0 ∧ okH l = 0) := by
  rcases h with ⟨h1, h2, h3⟩ | ⟨h1, h2⟩
  · refine Or.inl ⟨h1, okH_1 (by omega) fun q => ?_⟩
    obtain ⟨i, i1, i2⟩ := mem_getD2 (d := 0) q
    exact h3 i (by omega) i2
  · refine Or.inr ⟨h1, okH_0 ?_⟩
    by_cases c : l.length = 0
    · exact Or.inl c
    · refine Or.inr (Classical.byContradiction fun w => h2 ⟨by omega, fun i hi q => w ?_⟩)
      rw [← q]
      exact getD_mem2 (by omega)
theorem exI.one {l : List Int} {b m : Int} (h : exI l b m) (hb : b ≠ 0) (hm : 0 ≤ m) (q : l.getD m.toNat 0 ≠ -1) : exI l 1 (m + 1) := by
  have z := h.y hb
  refine Or.inl ⟨rfl, z.1, fun i hi => ?_⟩
  by_cases c : (i : Int) = m
  · rw [show i = m.toNat by omega]; exact q
  · exact z.2 i (by omega)
theorem exI.off {l : List Int} {b m : Int} (h : exI l b m) (hb : b = 0) : exI l 0 (m + 1) := Or.inr ⟨rfl, fun z => h.n hb ⟨z.1, fun i hi => z.2 i (by omega)⟩⟩
theorem exI.no {l : List Int} {m : Int} (hm : 0 ≤ m) (q : l.getD m.toNat 0 = -1) : exI l 0 (m + 1) := Or.inr ⟨rfl, fun z => z.2 m.toNat (by omega) q⟩

set_option maxRecDepth 100000 in
set_option maxHeartbeats 8000000 in
theorem kX8_learn {E : sv_E} {σ : sv_G} {S : st_T} (hS : StOK S) (hO : RO σ S) {x : Int} (hx : -2147483648 ≤ x ∧ x ≤ 2147483647) {y : Int} (hy : -2147483648 ≤ y ∧ y ≤ 2147483647) {z : Int} (hz : -2147483648 ≤ z ∧ z ≤ 2147483647) : CT E MX8_learn 7 [(vR 195), (vI x), (vI y), (vI z)] σ (PI fun r σ9 => moP σ σ9 S r (op_learn S x y z)) := by
  refine CT.of (RX8, cX8_learn, 9, (some .int), [], 7, 0, 0) rfl moX8_learn (Nat.le_of_ble_eq_true rfl) (ls0 := [some (vR 195), some (vI x), some (vI y), some (vI z), none, none, none, none, none]) rfl ?_
  intro X Q C hR
  have hb9 : ∀ g, 0 ≤ g → g ≤ 3 → σ 199 g = gC (sD S g) 1 ∧ 0 ≤ gC (sD S g) 1 ∧ gC (sD S g) 1 ≤ 5 := fun g a b => ⟨(hO.1 g a b).2.1.1, (hS.1 g a b).2.2.2.1⟩
  refine s_aload_n C dX8_learn_0 rfl ?_
  refine s_iload_n C dX8_learn_1 rfl ?_
  refine s_iload_n C dX8_learn_2 rfl ?_
  refine s_cV2i C dX8_learn_3 lkX8_131 moX8_isBase mvX8_isBase (kX8_isBase (N9 := sD S) hb9 (by omega) (by omega)) sh_195 ⟨_, _, rfl⟩ (by decide) (Nat.le_of_ble_eq_true rfl) rfl (by decide) (kpI (fun r3 hp3 => ?_))
  have hb3 := (hp3).b
  have J21 : ∀ (a : Int), (yn a ((0 ≤ x ∧ x ≤ 3 ∧ 0 ≤ y ∧ y < gC (sD S x) 1) ∧ 0 ≤ z ∧ z ≤ 199)) → SW X E Q 0 0 21 [some (vR 195), some (vI x), some (vI y), some (vI z), none, none, none, none, none] [(vI a)] σ := by
    intro a j21_0
    have hbj21_0 := j21_0.b
    refine s_istore (ls2 := [some (vR 195), some (vI x), some (vI y), some (vI z), some (vI a), none, none, none, none]) C dX8_learn_21 (by decide) rfl ?_
    refine s_iconst C dX8_learn_23 ?_
    refine s_iload_n C dX8_learn_24 rfl ?_
    refine s_imul C dX8_learn_25 ?_
    refine s_iload_n C dX8_learn_26 rfl ?_
    refine s_iadd C dX8_learn_27 ?_
    refine s_topI (fun x5_28 ex5_28 => ?_)
    refine s_istore (ls2 := [some (vR 195), some (vI x), some (vI y), some (vI z), some (vI a), some (vI x5_28), none, none, none]) C dX8_learn_28 (by decide) rfl ?_
    refine s_iload C dX8_learn_30 rfl ?_
    have J47 : ∀ (τ : sv_G) (st : Int), (frN σ τ) → (a ≠ 0 → BSet st (sD S x) y z (sE S) 32) → ((-9223372036854775808 ≤ st ∧ st ≤ 9223372036854775807)) → SW X E Q 0 0 47 [some (vR 195), some (vI x), some (vI y), some (vI z), some (vI a), some (vI x5_28), none, none, none] [(vL st)] τ := by
      intro τ st j47_0 j47_1 j47_2
      have hOt := hO.t j47_0.T2
      refine s_lstore (ls2 := [some (vR 195), some (vI x), some (vI y), some (vI z), some (vI a), some (vI x5_28), some (vL st), none, none]) C dX8_learn_47 (by decide) rfl ?_
      refine s_aload_n C dX8_learn_49 rfl ?_
      refine s_iload C dX8_learn_50 rfl ?_
      have J71 : ∀ (c : Int), (c = (op_learn S x y z).1) → (0 ≤ c ∧ c ≤ 3) → SW X E Q 0 0 71 [some (vR 195), some (vI x), some (vI y), some (vI z), some (vI a), some (vI x5_28), some (vL st), none, none] [(vI c), (vR 195)] τ := by
        intro c j71_0 j71_1
        refine s_cV1i C dX8_learn_71 lkX8_128 moX8_can mvX8_can (kX8_can (by omega)) sh_195 ⟨_, _, rfl⟩ (by decide) (Nat.le_of_ble_eq_true rfl) rfl (by decide) (fun r71 σ_71 hp71 => ?_)
        have hb71 := (hp71.2).b
        have hO2 := hOt.t (can_T2 hp71.1)
        refine s_if_ne (tgt := 79) C dX8_learn_74 (by decide) (by omega) (fun c74 => ?_) (fun c74 => ?_)
        · have y74 := (hp71.2).y (by omega)
          have h0 : (op_learn S x y z).1 = 0 := by rw [← j71_0]; exact y74
          have hk := ifc2 (show (if ¬ ((0 ≤ x ∧ x ≤ 3 ∧ 0 ≤ y ∧ y < gC (sD S x) 1) ∧ 0 ≤ z ∧ z ≤ 199) then 1 else if (fsL (sD S x) y z (sE S)).length = 0 then 2 else 0 : Int) = 0 from h0)
          have h37 : σ_71 195 37 = 0 := by rw [hp71.1, up_s]; exact y74
          have hD := hS.1 x (by omega) (by omega)
          have hM := hO2.1 x (by omega) (by omega)
          have hn0 := hD.2.2.1
          have hn1 := hD.2.2.2.1
          have hn2 := hD.2.2.2.2.1
          have hn3 := hD.2.2.2.2.2.1
          have hn4 := hD.2.2.2.2.2.2.1
          have hBS := j47_1 (show a ≠ 0 by rcases j21_0 with q | q <;> omega)
          refine s_iconst C dX8_learn_79 ?_
          refine s_istore (ls2 := [some (vR 195), some (vI x), some (vI y), some (vI z), some (vI a), some (vI x5_28), some (vL st), none, some (vI 0)]) C dX8_learn_80 (by decide) rfl ?_
          have L82 : ∀ (n : Nat) (t : Int), (32 - t).toNat < n → (0 ≤ t ∧ t ≤ 31) → (fsR (sD S x) y z (sE S) t.toNat = []) → SW X E Q 0 0 82 [some (vR 195), some (vI x), some (vI y), some (vI z), some (vI a), some (vI x5_28), some (vL st), none, some (vI t)] [] σ_71 := by
            intro n
            induction n with
            | zero => intro t hm; exact absurd hm (Nat.not_lt_zero _)
            | succ n ih82 =>
              intro t hm82 i82_0 i82_1
              refine s_lload C dX8_learn_82 rfl ?_
              refine s_iload C dX8_learn_84 rfl ?_
              refine s_lshr C dX8_learn_86 ?_
              refine s_lconst C dX8_learn_87 ?_
              refine s_land C dX8_learn_88 ?_
              refine s_lconst C dX8_learn_89 ?_
              refine s_lcmp C dX8_learn_90 (by exact landL_rng _ _) (by omega) ?_
              refine s_if_ne (tgt := 100) C dX8_learn_91 (by decide) (by exact cmpL_rng) (fun c91 => ?_) (fun c91 => ?_)
              · have hbt := bit_T0 (z := st) (m := t) (by omega) c91
                have hme := (hBS.bit (m := t) (by omega)).mp hbt
                have hval := fsL_first (by omega) i82_1 hme
                refine s_aload_n C dX8_learn_100 rfl ?_
                refine s_iload C dX8_learn_101 rfl ?_
                refine s_iload C dX8_learn_103 rfl ?_
                refine s_iload_n C dX8_learn_105 rfl ?_
                refine s_cV3v C dX8_learn_106 lkX8_226 moX8_sets mvX8_sets (kX8_sets (by omega) (by omega) (by omega)) sh_195 ⟨_, _, rfl⟩ (by decide) (Nat.le_of_ble_eq_true rfl) rfl (by decide) (fun σ_106 hp106 => ?_)
                refine s_iload C dX8_learn_109 rfl ?_
                refine s_iret C hR dX8_learn_111 rfl ⟨_, rfl, ?_⟩ (by decide)
                have f9 : ∀ b i, (b ≠ 203 ∨ i ≠ 5 * x + y) → (b ≠ 204 ∨ i ≠ 5 * x + y) → σ_106 b i = σ_71 b i := fun b i q1 q2 => by rw [hp106, up_n (by omega), up_n (by omega)]
                have hMs : RM σ_106 x (dSet (sD S x) y t z) := hM.sets (by omega) (by rw [hp106, ← ex5_28, up_a (by decide), up_s]) (by rw [hp106, ← ex5_28, up_s]) fun b i _ _ q1 q2 => f9 b i q1 q2
                refine moP.pre j47_0.T2.M (moP.gr (g := x) (D := dSet (sD S x) y t z) hS hOt h0 (show _ = (fsL (sD S x) y z (sE S)).getD 0 0 from hval.symm) (show uD S x (dSet (sD S x) y ((fsL (sD S x) y z (sE S)).getD 0 0) z) = uD S x (dSet (sD S x) y t z) by rw [hval]) hMs (by rw [f9 _ _ (Or.inl (by decide)) (Or.inl (by decide))]; exact h37) fun b i q1 q2 => ?_)
                rw [f9 b i, hp71.1, up_n q2]
                · by_cases c : b = 203
                  · refine Or.inr fun w => q1 ?_
                    rw [c, w]; unfold own; omega
                  · exact Or.inl c
                · by_cases c : b = 204
                  · refine Or.inr fun w => q1 ?_
                    rw [c, w]; unfold own; omega
                  · exact Or.inl c
              · have hbf := bit_F0 (z := st) (m := t) (by omega) c91
                have hnm : ¬ meE (dSet (sD S x) y t z) (sE S) := fun q => by
                  rw [(hBS.bit (m := t) (by omega)).mpr q] at hbf; cases hbf
                have hfn : fsR (sD S x) y z (sE S) (t + 1).toNat = [] := by rw [fsR_n (by omega) hnm]; exact i82_1
                have ht31 : t ≠ 31 := fun q => by
                  rw [q] at hfn
                  exact hk.2 (show (fsR (sD S x) y z (sE S) 32).length = 0 by rw [show fsR (sD S x) y z (sE S) 32 = [] from hfn]; rfl)
                obtain ⟨x8_94, ex8_94⟩ : ∃ y : Int, y = t + 1 := ⟨_, rfl⟩
                refine s_iinc (z2 := x8_94) (ls2 := [some (vR 195), some (vI x), some (vI y), some (vI z), some (vI a), some (vI x5_28), some (vL st), none, some (vI x8_94)]) C dX8_learn_94 (by decide) rfl ex8_94 rfl ?_
                refine s_goto (tgt := 82) C dX8_learn_97 (by decide) ?_
                refine ih82 x8_94 (by omega) (by first | assumption | omega) ?_
                · rw [show x8_94 = t + 1 from ex8_94]; exact hfn
          refine L82 _ 0 (Nat.lt_succ_self _) (by first | assumption | omega) ?_
          · rfl
        · have y74 := (hp71.2).n (by omega)
          refine s_iconst C dX8_learn_77 ?_
          refine s_iret C hR dX8_learn_78 rfl ⟨_, rfl, ?_⟩ (by decide)
          exact moP.pre j47_0.T2.M (moP.no hOt hp71.1 j71_0 y74)
      refine s_if_ne (tgt := 59) C dX8_learn_52 (by decide) (by omega) (fun c52 => ?_) (fun c52 => ?_)
      · have y52 := (j21_0).y (by omega)
        have hBS := j47_1 (by omega)
        have hbn := hBS.none
        refine s_lload C dX8_learn_59 rfl ?_
        refine s_lconst C dX8_learn_61 ?_
        refine s_lcmp C dX8_learn_62 (by exact j47_2) (by omega) ?_
        refine s_if_ne (tgt := 70) C dX8_learn_63 (by decide) (by exact cmpL_rng) (fun c63 => ?_) (fun c63 => ?_)
        · have hne : ¬ (fsL (sD S x) y z (sE S)).length = 0 := fun q => c63 (cmpL_eq.mpr (hbn.mpr q))
          refine s_iconst C dX8_learn_70 ?_
          refine J71 0 ?_ (by first | assumption | omega)
          · unfold op_learn; dsimp only; (repeat' split) <;> omega
        · have hne : (fsL (sD S x) y z (sE S)).length = 0 := hbn.mp (cmpL_eq.mp c63)
          refine s_iconst C dX8_learn_66 ?_
          refine s_goto (tgt := 71) C dX8_learn_67 (by decide) ?_
          refine J71 2 ?_ (by first | assumption | omega)
          · unfold op_learn; dsimp only; (repeat' split) <;> omega
      · have y52 := (j21_0).n (by omega)
        refine s_iconst C dX8_learn_55 ?_
        refine s_goto (tgt := 71) C dX8_learn_56 (by decide) ?_
        refine J71 1 ?_ (by first | assumption | omega)
        · unfold op_learn; dsimp only; (repeat' split) <;> omega
    refine s_if_eq (tgt := 46) C dX8_learn_32 (by decide) (by omega) (fun c32 => ?_) (fun c32 => ?_)
    · have y32 := (j21_0).n (by omega)
      refine s_lconst C dX8_learn_46 ?_
      refine J47 σ 0 ?_ ?_ ?_
      · exact fun _ _ _ _ _ => rfl
      · intro q; omega
      · decide
    · have y32 := (j21_0).y (by omega)
      refine s_aload_n C dX8_learn_35 rfl ?_
      refine s_iload_n C dX8_learn_36 rfl ?_
      refine s_iload C dX8_learn_37 rfl ?_
      refine s_iload_n C dX8_learn_39 rfl ?_
      refine s_cV3l C dX8_learn_40 lkX8_233 moX8_fitting mvX8_fitting (kX8_fitting (p := y) (by exact hS.1 x (by omega) (by omega)) (by omega) (by exact hO.1 x (by omega) (by omega)) (by exact hO.2.2.2.1) (by exact hS.2.2.2.1) (by omega) (by omega) (by exact ex5_28)) sh_195 ⟨_, _, rfl⟩ (by decide) (Nat.le_of_ble_eq_true rfl) rfl (by decide) (fun r40 σ_40 hp40 => ?_)
      refine s_goto (tgt := 47) C dX8_learn_43 (by decide) ?_
      refine J47 σ_40 r40 ?_ ?_ ?_
      · exact hp40.1
      · exact fun _ => hp40.2
      · exact hp40.2.1
  refine s_if_eq (tgt := 20) C dX8_learn_6 (by decide) (by omega) (fun c6 => ?_) (fun c6 => ?_)
  · have y6 := (hp3).n (by omega)
    refine s_iconst C dX8_learn_20 ?_
    refine J21 0 ?_
    · exact yn.zero (by omega)
  · have y6 := (hp3).y (by omega)
    refine s_iload_n C dX8_learn_9 rfl ?_
    refine s_cS1i C dX8_learn_10 lkX8_118 moX8_isWord mvX8_isWord (kX8_isWord (by omega)) (by decide) (Nat.le_of_ble_eq_true rfl) rfl (by decide) (kpI (fun r10 hp10 => ?_))
    have hb10 := (hp10).b
    refine s_if_eq (tgt := 20) C dX8_learn_13 (by decide) (by omega) (fun c13 => ?_) (fun c13 => ?_)
    · have y13 := (hp10).n (by omega)
      refine s_iconst C dX8_learn_20 ?_
      refine J21 0 ?_
      · exact yn.zero (by omega)
    · have y13 := (hp10).y (by omega)
      refine s_iconst C dX8_learn_16 ?_
      refine s_goto (tgt := 21) C dX8_learn_17 (by decide) ?_
      refine J21 1 ?_
      · exact yn.one (by omega)
set_option maxRecDepth 100000 in
set_option maxHeartbeats 8000000 in
theorem kX8_greatestBy {E : sv_E} {σ : sv_G} {ρ : sv_G} {D : gd_T} {g : Int} (hD : GDok D) (hg : 0 ≤ g ∧ g ≤ 3) (hM9 : RM ρ g D) {Ex : List (Int × List Int)} {p w a z k : Int} (hp9 : 0 ≤ p ∧ p < gC D 1) (hw : 0 ≤ w ∧ w ≤ 199) (ha9 : a = 5 * g + p) (hz9 : BSet z D p w Ex 32) (hf9 : ∀ b i, 196 ≤ b → b ≤ 215 → (b ≠ 203 ∨ i ≠ a) → (b ≠ 204 ∨ i ≠ a) → σ b i = ρ b i) (hk9 : 0 ≤ k ∧ k ≤ 9999) : CT E MX8_greatestBy 5 [(vR 195), (vI g), (vI a), (vI w), (vL z), (vI k)] σ (PI fun r σ9 => r = mxR (anR D p w (fsL D p w Ex) k) (fsL D p w Ex).length (fsL D p w Ex).length ∧ frG1 σ σ9 a) := by
  refine CT.of (RX8, cX8_greatestBy, 12, (some .int), [], 5, 0, 0) rfl moX8_greatestBy (Nat.le_of_ble_eq_true rfl) (ls0 := [some (vR 195), some (vI g), some (vI a), some (vI w), some (vL z), none, some (vI k), none, none, none, none, none]) rfl ?_
  intro X Q C hR
  have hn1 := hD.2.2.2.1
  refine s_iconst C dX8_greatestBy_0 ?_
  refine s_istore (ls2 := [some (vR 195), some (vI g), some (vI a), some (vI w), some (vL z), none, some (vI k), some (vI 0), none, none, none, none]) C dX8_greatestBy_1 (by decide) rfl ?_
  refine s_iconst C dX8_greatestBy_3 ?_
  refine s_istore (ls2 := [some (vR 195), some (vI g), some (vI a), some (vI w), some (vL z), none, some (vI k), some (vI 0), some (vI 0), none, none, none]) C dX8_greatestBy_4 (by decide) rfl ?_
  have L6 : ∀ (n : Nat) (q : Int) (m : Int) (τ : sv_G), (32 - m).toNat < n → (0 ≤ m ∧ m ≤ 32) → (q = (fsR D p w Ex m.toNat).length) → (0 ≤ q ∧ q ≤ m) → (frG1 σ τ a) → (∀ i : Nat, (i : Int) < q → KR τ i (anR D p w (fsL D p w Ex) k i)) → SW X E Q 0 0 6 [some (vR 195), some (vI g), some (vI a), some (vI w), some (vL z), none, some (vI k), some (vI q), some (vI m), none, none, none] [] τ := by
    intro n
    induction n with
    | zero => intro q m τ hm; exact absurd hm (Nat.not_lt_zero _)
    | succ n ih6 =>
      intro q m τ hm6 i6_0 i6_1 i6_2 i6_3 i6_4
      refine s_iload C dX8_greatestBy_6 rfl ?_
      refine s_bipush C dX8_greatestBy_8 (by decide) ?_
      refine s_icmp_ge (tgt := 58) C dX8_greatestBy_10 (by decide) (by omega) (by omega) (fun c10 => ?_) (fun c10 => ?_)
      · have hqm : q = ((fsL D p w Ex).length : Int) := by rw [i6_1, show m.toNat = 32 by omega]; rfl
        have hsp : ∀ i2 : Nat, (i2 : Int) < q → (anR D p w (fsL D p w Ex) k i2).length ≤ 20 := fun i2 hi2 => (spF_ok (dSet_ok hD hp9 (fsL_in _ (getD_mem2 (l := fsL D p w Ex) (d := 0) (i := i2) (by omega))) hw) _ _).2
        refine s_iconst C dX8_greatestBy_58 ?_
        refine s_istore (ls2 := [some (vR 195), some (vI g), some (vI a), some (vI w), some (vL z), none, some (vI k), some (vI q), some (vI 0), none, none, none]) C dX8_greatestBy_59 (by decide) rfl ?_
        refine s_iconst C dX8_greatestBy_61 ?_
        refine s_istore (ls2 := [some (vR 195), some (vI g), some (vI a), some (vI w), some (vL z), none, some (vI k), some (vI q), some (vI 0), some (vI 0), none, none]) C dX8_greatestBy_62 (by decide) rfl ?_
        have L64 : ∀ (n : Nat) (bs : Int) (i : Int), (q - i).toNat < n → (0 ≤ i ∧ i ≤ q) → (bs = mxR (anR D p w (fsL D p w Ex) k) q.toNat i.toNat) → (0 ≤ bs ∧ bs ≤ 32) → SW X E Q 0 0 64 [some (vR 195), some (vI g), some (vI a), some (vI w), some (vL z), none, some (vI k), some (vI q), some (vI bs), some (vI i), none, none] [] τ := by
          intro n
          induction n with
          | zero => intro bs i hm; exact absurd hm (Nat.not_lt_zero _)
          | succ n ih64 =>
            intro bs i hm64 i64_0 i64_1 i64_2
            refine s_iload C dX8_greatestBy_64 rfl ?_
            refine s_iload C dX8_greatestBy_66 rfl ?_
            refine s_icmp_ge (tgt := 133) C dX8_greatestBy_68 (by decide) (by omega) (by omega) (fun c68 => ?_) (fun c68 => ?_)
            · refine s_iload C dX8_greatestBy_133 rfl ?_
              refine s_iret C hR dX8_greatestBy_135 rfl ⟨_, rfl, ?_⟩ (by decide)
              exact ⟨by rw [i64_1, show i = q by omega, hqm]; rfl, i6_3⟩
            · refine s_iconst C dX8_greatestBy_71 ?_
              refine s_istore (ls2 := [some (vR 195), some (vI g), some (vI a), some (vI w), some (vL z), none, some (vI k), some (vI q), some (vI bs), some (vI i), some (vI 0), none]) C dX8_greatestBy_72 (by decide) rfl ?_
              refine s_iconst C dX8_greatestBy_74 ?_
              refine s_istore (ls2 := [some (vR 195), some (vI g), some (vI a), some (vI w), some (vL z), none, some (vI k), some (vI q), some (vI bs), some (vI i), some (vI 0), some (vI 0)]) C dX8_greatestBy_75 (by decide) rfl ?_
              have L77 : ∀ (n : Nat) (s : Int) (j : Int), (q - j).toNat < n → (0 ≤ j ∧ j ≤ q) → (s = ctR (anR D p w (fsL D p w Ex) k) (anR D p w (fsL D p w Ex) k i.toNat) j.toNat) → (0 ≤ s ∧ s ≤ j) → SW X E Q 0 0 77 [some (vR 195), some (vI g), some (vI a), some (vI w), some (vL z), none, some (vI k), some (vI q), some (vI bs), some (vI i), some (vI s), some (vI j)] [] τ := by
                intro n
                induction n with
                | zero => intro s j hm; exact absurd hm (Nat.not_lt_zero _)
                | succ n ih77 =>
                  intro s j hm77 i77_0 i77_1 i77_2
                  refine s_iload C dX8_greatestBy_77 rfl ?_
                  refine s_iload C dX8_greatestBy_79 rfl ?_
                  refine s_icmp_ge (tgt := 111) C dX8_greatestBy_81 (by decide) (by omega) (by omega) (fun c81 => ?_) (fun c81 => ?_)
                  · have hct : ctR (anR D p w (fsL D p w Ex) k) (anR D p w (fsL D p w Ex) k i.toNat) q.toNat = s := by rw [i77_1, show j = q by omega]
                    refine s_iload C dX8_greatestBy_111 rfl ?_
                    refine s_iload C dX8_greatestBy_113 rfl ?_
                    have J125 : ∀ (b2 : Int), (b2 = mxR (anR D p w (fsL D p w Ex) k) q.toNat (i + 1).toNat) → (0 ≤ b2 ∧ b2 ≤ 32) → SW X E Q 0 0 125 [some (vR 195), some (vI g), some (vI a), some (vI w), some (vL z), none, some (vI k), some (vI q), some (vI bs), some (vI i), some (vI s), some (vI j)] [(vI b2)] τ := by
                      intro b2 j125_0 j125_1
                      refine s_istore (ls2 := [some (vR 195), some (vI g), some (vI a), some (vI w), some (vL z), none, some (vI k), some (vI q), some (vI b2), some (vI i), some (vI s), some (vI j)]) C dX8_greatestBy_125 (by decide) rfl ?_
                      obtain ⟨x9_127, ex9_127⟩ : ∃ y : Int, y = i + 1 := ⟨_, rfl⟩
                      refine s_iinc (z2 := x9_127) (ls2 := [some (vR 195), some (vI g), some (vI a), some (vI w), some (vL z), none, some (vI k), some (vI q), some (vI b2), some (vI x9_127), some (vI s), some (vI j)]) C dX8_greatestBy_127 (by decide) rfl ex9_127 rfl ?_
                      refine s_goto (tgt := 64) C dX8_greatestBy_130 (by decide) ?_
                      refine s_weak (ls2 := [some (vR 195), some (vI g), some (vI a), some (vI w), some (vL z), none, some (vI k), some (vI q), some (vI b2), some (vI x9_127), none, none]) (sv_wk_c (sv_wk_c (sv_wk_c (sv_wk_c (sv_wk_c (sv_wk_n (sv_wk_c (sv_wk_c (sv_wk_c (sv_wk_c (sv_wk_n (sv_wk_n sv_wk_0)))))))))))) ?_
                      refine ih64 b2 x9_127 (by omega) (by first | assumption | omega) ?_ (by first | assumption | omega)
                      · rw [show x9_127 = i + 1 from ex9_127]; exact j125_0
                    refine s_icmp_le (tgt := 123) C dX8_greatestBy_115 (by decide) (by omega) (by omega) (fun c115 => ?_) (fun c115 => ?_)
                    · refine s_iload C dX8_greatestBy_123 rfl ?_
                      refine J125 bs ?_ (by first | assumption | omega)
                      · rw [mxR_s (by omega), ← i64_1, hct, if_neg (by omega)]
                    · refine s_iload C dX8_greatestBy_118 rfl ?_
                      refine s_goto (tgt := 125) C dX8_greatestBy_120 (by decide) ?_
                      refine J125 s ?_ (by first | assumption | omega)
                      · rw [mxR_s (by omega), ← i64_1, hct, if_pos (by omega)]
                  · have hKj := i6_4 j.toNat (by omega)
                    rw [show (j.toNat : Int) = j by omega] at hKj
                    have hKi := i6_4 i.toNat (by omega)
                    rw [show (i.toNat : Int) = i by omega] at hKi
                    refine s_iload C dX8_greatestBy_84 rfl ?_
                    refine s_aload_n C dX8_greatestBy_86 rfl ?_
                    refine s_iload C dX8_greatestBy_87 rfl ?_
                    refine s_iload C dX8_greatestBy_89 rfl ?_
                    refine s_cV2i C dX8_greatestBy_91 lkX8_217 moX8_areAlike mvX8_areAlike (kX8_areAlike (by exact hKj) (by exact hKi) (by exact hsp j.toNat (by omega)) (by exact hsp i.toNat (by omega)) (by omega) (by omega)) sh_195 ⟨_, _, rfl⟩ (by decide) (Nat.le_of_ble_eq_true rfl) rfl (by decide) (kpI (fun r91 hp91 => ?_))
                    have hb91 := (hp91).b
                    have J102 : ∀ (c2 : Int), (c2 = if (anR D p w (fsL D p w Ex) k j.toNat) = (anR D p w (fsL D p w Ex) k i.toNat) then 1 else 0) → (0 ≤ c2 ∧ c2 ≤ 1) → SW X E Q 0 0 102 [some (vR 195), some (vI g), some (vI a), some (vI w), some (vL z), none, some (vI k), some (vI q), some (vI bs), some (vI i), some (vI s), some (vI j)] [(vI c2), (vI s)] τ := by
                      intro c2 j102_0 j102_1
                      refine s_iadd C dX8_greatestBy_102 ?_
                      refine s_topI (fun x10_103 ex10_103 => ?_)
                      refine s_istore (ls2 := [some (vR 195), some (vI g), some (vI a), some (vI w), some (vL z), none, some (vI k), some (vI q), some (vI bs), some (vI i), some (vI x10_103), some (vI j)]) C dX8_greatestBy_103 (by decide) rfl ?_
                      obtain ⟨x11_105, ex11_105⟩ : ∃ y : Int, y = j + 1 := ⟨_, rfl⟩
                      refine s_iinc (z2 := x11_105) (ls2 := [some (vR 195), some (vI g), some (vI a), some (vI w), some (vL z), none, some (vI k), some (vI q), some (vI bs), some (vI i), some (vI x10_103), some (vI x11_105)]) C dX8_greatestBy_105 (by decide) rfl ex11_105 rfl ?_
                      refine s_goto (tgt := 77) C dX8_greatestBy_108 (by decide) ?_
                      refine ih77 x10_103 x11_105 (by omega) (by first | assumption | omega) ?_ (by first | assumption | omega)
                      · rw [show x11_105 = j + 1 from ex11_105, ctR_s (by omega), ← i77_1, ← j102_0]; exact ex10_103
                    refine s_if_eq (tgt := 101) C dX8_greatestBy_94 (by decide) (by omega) (fun c94 => ?_) (fun c94 => ?_)
                    · have y94 := (hp91).n (by omega)
                      refine s_iconst C dX8_greatestBy_101 ?_
                      refine J102 0 ?_ (by first | assumption | omega)
                      · rw [if_neg y94]
                    · have y94 := (hp91).y (by omega)
                      refine s_iconst C dX8_greatestBy_97 ?_
                      refine s_goto (tgt := 102) C dX8_greatestBy_98 (by decide) ?_
                      refine J102 1 ?_ (by first | assumption | omega)
                      · rw [if_pos y94]
              refine L77 _ 0 0 (Nat.lt_succ_self _) (by first | assumption | omega) ?_ (by first | assumption | omega)
              · rfl
        refine L64 _ 0 0 (Nat.lt_succ_self _) (by first | assumption | omega) ?_ (by first | assumption | omega)
        · rfl
      · refine s_lload C dX8_greatestBy_13 rfl ?_
        refine s_iload C dX8_greatestBy_15 rfl ?_
        refine s_lshr C dX8_greatestBy_17 ?_
        refine s_lconst C dX8_greatestBy_18 ?_
        refine s_land C dX8_greatestBy_19 ?_
        refine s_lconst C dX8_greatestBy_20 ?_
        refine s_lcmp C dX8_greatestBy_21 (by exact landL_rng _ _) (by omega) ?_
        have J52 : ∀ (q2 : Int) (τ2 : sv_G), (q2 = (fsR D p w Ex (m + 1).toNat).length) → (0 ≤ q2 ∧ q2 ≤ m + 1) → (frG1 σ τ2 a) → (∀ i : Nat, (i : Int) < q2 → KR τ2 i (anR D p w (fsL D p w Ex) k i)) → SW X E Q 0 0 52 [some (vR 195), some (vI g), some (vI a), some (vI w), some (vL z), none, some (vI k), some (vI q2), some (vI m), none, none, none] [] τ2 := by
          intro q2 τ2 j52_0 j52_1 j52_2 j52_3
          obtain ⟨x8_52, ex8_52⟩ : ∃ y : Int, y = m + 1 := ⟨_, rfl⟩
          refine s_iinc (z2 := x8_52) (ls2 := [some (vR 195), some (vI g), some (vI a), some (vI w), some (vL z), none, some (vI k), some (vI q2), some (vI x8_52), none, none, none]) C dX8_greatestBy_52 (by decide) rfl ex8_52 rfl ?_
          refine s_goto (tgt := 6) C dX8_greatestBy_55 (by decide) ?_
          refine ih6 q2 x8_52 τ2 (by omega) (by first | assumption | omega) ?_ (by first | assumption | omega) ?_ ?_
          · rw [show x8_52 = m + 1 from ex8_52]; exact j52_0
          · exact j52_2
          · exact j52_3
        refine s_if_ne (tgt := 52) C dX8_greatestBy_22 (by decide) (by exact cmpL_rng) (fun c22 => ?_) (fun c22 => ?_)
        · have hbf := bit_F (z := z) (m := m) (by omega) c22
          have hnm : ¬ meE (dSet D p m w) Ex := fun q9 => by
            rw [(hz9.bit (m := m) (by omega)).mpr q9] at hbf; cases hbf
          refine J52 q τ ?_ (by first | assumption | omega) ?_ ?_
          · rw [fsR_n (by omega) hnm]; exact i6_1
          · exact i6_3
          · exact i6_4
        · have hbt := bit_T (z := z) (m := m) (by omega) c22
          have hme := (hz9.bit (m := m) (by omega)).mp hbt
          have hDs := dSet_ok hD hp9 (s := m) (w := w) (by omega) hw
          refine s_aload_n C dX8_greatestBy_25 rfl ?_
          refine s_iload_n C dX8_greatestBy_26 rfl ?_
          refine s_iload C dX8_greatestBy_27 rfl ?_
          refine s_iload_n C dX8_greatestBy_29 rfl ?_
          refine s_cV3v C dX8_greatestBy_30 lkX8_226 moX8_sets mvX8_sets (kX8_sets (by omega) (by omega) (by omega)) sh_195 ⟨_, _, rfl⟩ (by decide) (Nat.le_of_ble_eq_true rfl) rfl (by decide) (fun σ_30 hp30 => ?_)
          have f30 : ∀ b i, (b ≠ 203 ∨ i ≠ a) → (b ≠ 204 ∨ i ≠ a) → σ_30 b i = τ b i := fun b i q1 q2 => by rw [hp30, up_n q2, up_n q1]
          have hM30 : RM σ_30 g (dSet D p m w) := hM9.sets hp9 (by rw [hp30, ← ha9, up_a (by decide), up_s]) (by rw [hp30, ← ha9, up_s]) fun b i q1 q2 q3 q4 => by
            rw [← ha9] at q3 q4
            rw [f30 b i q3 q4, i6_3 b i (by omega) (by omega) (by omega) (by omega) (by omega) q3 q4]
            exact hf9 b i q1 q2 q3 q4
          refine s_aload_n C dX8_greatestBy_33 rfl ?_
          refine s_iload_n C dX8_greatestBy_34 rfl ?_
          refine s_iload C dX8_greatestBy_35 rfl ?_
          refine s_iconst C dX8_greatestBy_37 ?_
          refine s_cV3i C dX8_greatestBy_38 lkX8_187 moX8_finds mvX8_finds (kX8_finds (by exact hDs) (by exact hg) (by exact hM30) (by exact hk9) (by decide)) sh_195 ⟨_, _, rfl⟩ (by decide) (Nat.le_of_ble_eq_true rfl) rfl (by decide) (fun r38 σ_38 hp38 => ?_)
          refine s_istore (ls2 := [some (vR 195), some (vI g), some (vI a), some (vI w), some (vL z), none, some (vI k), some (vI q), some (vI m), some (vI r38), none, none]) C dX8_greatestBy_41 (by decide) rfl ?_
          refine s_aload_n C dX8_greatestBy_43 rfl ?_
          refine s_iload C dX8_greatestBy_44 rfl ?_
          refine s_cV1v C dX8_greatestBy_46 lkX8_211 moX8_keepsRow mvX8_keepsRow (kX8_keepsRow (by exact hp38.2.1) (by exact (spF_ok hDs _ _).2) (by omega)) sh_195 ⟨_, _, rfl⟩ (by decide) (Nat.le_of_ble_eq_true rfl) rfl (by decide) (fun σ_46 hp46 => ?_)
          have f44 : frG1 σ σ_46 a := fun b i q1 q2 q3 q4 q5 q6 q7 => by rw [hp46.2 b i (Or.inl q4) (Or.inl q5), hp38.1 b i q1 q2 q3, f30 b i q6 q7]; exact i6_3 b i q1 q2 q3 q4 q5 q6 q7
          have hfy := fsR_y (D := D) (p := p) (j := w) (m := m) (E := Ex) (by omega) hme
          have hK44 : ∀ i : Nat, (i : Int) < q + 1 → KR σ_46 i (anR D p w (fsL D p w Ex) k i) := fun i hi => by
            by_cases c : (i : Int) = q
            · have e := (fsR_pre (D := D) (p := p) (w := w) (Ex := Ex) (m + 1).toNat (32 - (m + 1).toNat) i (by rw [hfy, List.length_append]; show i < (fsR D p w Ex m.toNat).length + 1; omega)).1
              rw [show (m + 1).toNat + (32 - (m + 1).toNat) = 32 by omega, hfy, getD_snoc, if_pos (by omega)] at e
              have e2 : anR D p w (fsL D p w Ex) k i = spF (dSet D p m w) k 0 := by
                show spF (dSet D p ((fsR D p w Ex 32).getD i 0) w) k 0 = _
                rw [e]
              rw [e2, c]; exact hp46.1
            · refine (KR.fr (i6_4 i (by omega)) fun b i2 q1 => ?_).k (spF_ok (D := dSet D p ((fsL D p w Ex).getD i 0) w) ?_ _ _).2 hp46.2 c
              · rw [hp38.1 b i2 (by omega) (by omega) (by omega), f30 b i2 (by omega) (by omega)]
              · have hin := fsL_in (D := D) (p := p) (j := w) (E := Ex) _ (getD_mem2 (l := fsL D p w Ex) (d := 0) (i := i) (by
                  have z9 := fsR_pre (D := D) (p := p) (w := w) (Ex := Ex) m.toNat (32 - m.toNat) i (by omega)
                  rw [show m.toNat + (32 - m.toNat) = 32 by omega] at z9
                  exact Nat.lt_of_lt_of_le (by omega) z9.2))
                exact dSet_ok hD hp9 hin hw
          obtain ⟨x7_49, ex7_49⟩ : ∃ y : Int, y = q + 1 := ⟨_, rfl⟩
          refine s_iinc (z2 := x7_49) (ls2 := [some (vR 195), some (vI g), some (vI a), some (vI w), some (vL z), none, some (vI k), some (vI x7_49), some (vI m), some (vI r38), none, none]) C dX8_greatestBy_49 (by decide) rfl ex7_49 rfl ?_
          refine s_weak (ls2 := [some (vR 195), some (vI g), some (vI a), some (vI w), some (vL z), none, some (vI k), some (vI x7_49), some (vI m), none, none, none]) (sv_wk_c (sv_wk_c (sv_wk_c (sv_wk_c (sv_wk_c (sv_wk_n (sv_wk_c (sv_wk_c (sv_wk_c (sv_wk_n (sv_wk_n (sv_wk_n sv_wk_0)))))))))))) ?_
          refine J52 x7_49 σ_46 ?_ (by first | assumption | omega) ?_ ?_
          · rw [hfy, List.length_append, show x7_49 = q + 1 from ex7_49, i6_1]; rfl
          · exact f44
          · intro i hi; exact hK44 i (by omega)
  refine L6 _ 0 0 σ (Nat.lt_succ_self _) (by first | assumption | omega) ?_ (by first | assumption | omega) ?_ ?_
  · rfl
  · exact fun _ _ _ _ _ _ _ _ _ => rfl
  · intro i hi; omega

set_option maxRecDepth 100000 in
set_option maxHeartbeats 8000000 in
theorem kX8_askNumber {E : sv_E} {σ : sv_G} {S : st_T} (hS : StOK S) (hO : RO σ S) {x : Int} (hx : -2147483648 ≤ x ∧ x ≤ 2147483647) {y : Int} (hy : -2147483648 ≤ y ∧ y ≤ 2147483647) {z : Int} (hz : -2147483648 ≤ z ∧ z ≤ 2147483647) {v : Int} (hv : -2147483648 ≤ v ∧ v ≤ 2147483647) : CT E MX8_askNumber 7 [(vR 195), (vI x), (vI y), (vI z), (vI v)] σ (PI fun r σ9 => moP σ σ9 S r (op_askNumber S x y z v)) := by
  refine CT.of (RX8, cX8_askNumber, 15, (some .int), [], 7, 0, 0) rfl moX8_askNumber (Nat.le_of_ble_eq_true rfl) (ls0 := [some (vR 195), some (vI x), some (vI y), some (vI z), some (vI v), none, none, none, none, none, none, none, none, none, none]) rfl ?_
  intro X Q C hR
  have hb9 : ∀ g, 0 ≤ g → g ≤ 3 → σ 199 g = gC (sD S g) 1 ∧ 0 ≤ gC (sD S g) 1 ∧ gC (sD S g) 1 ≤ 5 := fun g a b => ⟨(hO.1 g a b).2.1.1, (hS.1 g a b).2.2.2.1⟩
  refine s_aload_n C dX8_askNumber_0 rfl ?_
  refine s_iload_n C dX8_askNumber_1 rfl ?_
  refine s_iload_n C dX8_askNumber_2 rfl ?_
  refine s_cV2i C dX8_askNumber_3 lkX8_131 moX8_isBase mvX8_isBase (kX8_isBase (N9 := sD S) hb9 (by omega) (by omega)) sh_195 ⟨_, _, rfl⟩ (by decide) (Nat.le_of_ble_eq_true rfl) rfl (by decide) (kpI (fun r3 hp3 => ?_))
  have hb3 := (hp3).b
  have J21 : ∀ (a : Int), (yn a ((0 ≤ x ∧ x ≤ 3 ∧ 0 ≤ y ∧ y < gC (sD S x) 1) ∧ 0 ≤ z ∧ z ≤ 199)) → SW X E Q 0 0 21 [some (vR 195), some (vI x), some (vI y), some (vI z), some (vI v), none, none, none, none, none, none, none, none, none, none] [(vI a)] σ := by
    intro a j21_0
    have hbj21_0 := j21_0.b
    refine s_istore (ls2 := [some (vR 195), some (vI x), some (vI y), some (vI z), some (vI v), some (vI a), none, none, none, none, none, none, none, none, none]) C dX8_askNumber_21 (by decide) rfl ?_
    refine s_aload_n C dX8_askNumber_23 rfl ?_
    refine s_iload C dX8_askNumber_24 rfl ?_
    have J49 : ∀ (c : Int), (c = (op_askNumber S x y z v).1) → (0 ≤ c ∧ c ≤ 3) → SW X E Q 0 0 49 [some (vR 195), some (vI x), some (vI y), some (vI z), some (vI v), some (vI a), none, none, none, none, none, none, none, none, none] [(vI c), (vR 195)] σ := by
      intro c j49_0 j49_1
      refine s_cV1i C dX8_askNumber_49 lkX8_128 moX8_can mvX8_can (kX8_can (by omega)) sh_195 ⟨_, _, rfl⟩ (by decide) (Nat.le_of_ble_eq_true rfl) rfl (by decide) (fun r49 σ_49 hp49 => ?_)
      have hb49 := (hp49.2).b
      have hO2 := hO.t (can_T2 hp49.1)
      refine s_if_ne (tgt := 57) C dX8_askNumber_52 (by decide) (by omega) (fun c52 => ?_) (fun c52 => ?_)
      · have y52 := (hp49.2).y (by omega)
        have h0 : (op_askNumber S x y z v).1 = 0 := by rw [← j49_0]; exact y52
        have hk := ifc2 (show (if ¬ ((0 ≤ x ∧ x ≤ 3 ∧ 0 ≤ y ∧ y < gC (sD S x) 1) ∧ 0 ≤ z ∧ z ≤ 199) then 1 else if ¬ (0 ≤ v ∧ v ≤ 99) then 2 else 0 : Int) = 0 from h0)
        have h37 : σ_49 195 37 = 0 := by rw [hp49.1, up_s]; exact y52
        have hD := hS.1 x (by omega) (by omega)
        have hM := hO2.1 x (by omega) (by omega)
        have hn0 := hD.2.2.1
        have hn1 := hD.2.2.2.1
        have hn2 := hD.2.2.2.2.1
        have hn3 := hD.2.2.2.2.2.1
        have hn4 := hD.2.2.2.2.2.2.1
        refine s_iconst C dX8_askNumber_57 ?_
        refine s_iload_n C dX8_askNumber_58 rfl ?_
        refine s_imul C dX8_askNumber_59 ?_
        refine s_iload_n C dX8_askNumber_60 rfl ?_
        refine s_iadd C dX8_askNumber_61 ?_
        refine s_topI (fun x6_62 ex6_62 => ?_)
        refine s_istore (ls2 := [some (vR 195), some (vI x), some (vI y), some (vI z), some (vI v), some (vI a), some (vI x6_62), none, none, none, none, none, none, none, none]) C dX8_askNumber_62 (by decide) rfl ?_
        refine s_aload_n C dX8_askNumber_64 rfl ?_
        refine s_getR (c := 8) C fl_8_31 dX8_askNumber_65 sh_195 rfl rf_195_7 ?_
        refine s_iload C dX8_askNumber_68 rfl ?_
        refine s_iald C dX8_askNumber_70 sh_203 (by omega) (fun g70 => ?_)
        refine s_topI (fun x7_71 ex7_71 => ?_)
        refine s_istore (ls2 := [some (vR 195), some (vI x), some (vI y), some (vI z), some (vI v), some (vI a), some (vI x6_62), some (vI x7_71), none, none, none, none, none, none, none]) C dX8_askNumber_71 (by decide) rfl ?_
        refine s_aload_n C dX8_askNumber_73 rfl ?_
        refine s_getR (c := 8) C fl_8_34 dX8_askNumber_74 sh_195 rfl rf_195_8 ?_
        refine s_iload C dX8_askNumber_77 rfl ?_
        refine s_iald C dX8_askNumber_79 sh_204 (by omega) (fun g79 => ?_)
        refine s_topI (fun x8_80 ex8_80 => ?_)
        refine s_istore (ls2 := [some (vR 195), some (vI x), some (vI y), some (vI z), some (vI v), some (vI a), some (vI x6_62), some (vI x7_71), some (vI x8_80), none, none, none, none, none, none]) C dX8_askNumber_80 (by decide) rfl ?_
        refine s_aload_n C dX8_askNumber_82 rfl ?_
        refine s_iload_n C dX8_askNumber_83 rfl ?_
        refine s_iload C dX8_askNumber_84 rfl ?_
        refine s_iload_n C dX8_askNumber_86 rfl ?_
        refine s_cV3l C dX8_askNumber_87 lkX8_233 moX8_fitting mvX8_fitting (kX8_fitting (p := y) (by exact hD) (by omega) (by exact hM) (by exact hO2.2.2.2.1) (by exact hS.2.2.2.1) (by omega) (by omega) (by exact ex6_62)) sh_195 ⟨_, _, rfl⟩ (by decide) (Nat.le_of_ble_eq_true rfl) rfl (by decide) (fun r87 σ_87 hp87 => ?_)
        refine s_lstore (ls2 := [some (vR 195), some (vI x), some (vI y), some (vI z), some (vI v), some (vI a), some (vI x6_62), some (vI x7_71), some (vI x8_80), some (vL r87), none, none, none, none, none]) C dX8_askNumber_90 (by decide) rfl ?_
        refine s_iconst C dX8_askNumber_92 ?_
        refine s_istore (ls2 := [some (vR 195), some (vI x), some (vI y), some (vI z), some (vI v), some (vI a), some (vI x6_62), some (vI x7_71), some (vI x8_80), some (vL r87), none, some (vI (-1)), none, none, none]) C dX8_askNumber_93 (by decide) rfl ?_
        refine s_lload C dX8_askNumber_95 rfl ?_
        refine s_cS1i C dX8_askNumber_97 lkX8_237 moX8_many mvX8_many (kX8_many (by exact hp87.2)) (by decide) (Nat.le_of_ble_eq_true rfl) rfl (by decide) (kpI (fun r97 hp97 => ?_))
        have hF32 := fsL_len (D := sD S x) (p := y) (j := z) (E := sE S)
        refine s_istore (ls2 := [some (vR 195), some (vI x), some (vI y), some (vI z), some (vI v), some (vI a), some (vI x6_62), some (vI x7_71), some (vI x8_80), some (vL r87), none, some (vI (-1)), some (vI r97), none, none]) C dX8_askNumber_100 (by decide) rfl ?_
        refine s_iconst C dX8_askNumber_102 ?_
        refine s_istore (ls2 := [some (vR 195), some (vI x), some (vI y), some (vI z), some (vI v), some (vI a), some (vI x6_62), some (vI x7_71), some (vI x8_80), some (vL r87), none, some (vI (-1)), some (vI r97), some (vI 0), none]) C dX8_askNumber_103 (by decide) rfl ?_
        have L105 : ∀ (n : Nat) (bb : Int) (ls : Int) (m : Int) (τ : sv_G), (v + 1 - m).toNat < n → (0 ≤ m ∧ m ≤ v + 1) → (bb = (anS (sD S x) y z (fsL (sD S x) y z (sE S)) m.toNat).1) → (ls = (anS (sD S x) y z (fsL (sD S x) y z (sE S)) m.toNat).2) → (-1 ≤ bb ∧ bb ≤ 99 ∧ 0 ≤ ls ∧ ls ≤ 32) → (frG1 σ_49 τ x6_62) → (m = 0 ∨ 1 < (fsL (sD S x) y z (sE S)).length) → SW X E Q 0 0 105 [some (vR 195), some (vI x), some (vI y), some (vI z), some (vI v), some (vI a), some (vI x6_62), some (vI x7_71), some (vI x8_80), some (vL r87), none, some (vI bb), some (vI ls), some (vI m), none] [] τ := by
          intro n
          induction n with
          | zero => intro bb ls m τ hm; exact absurd hm (Nat.not_lt_zero _)
          | succ n ih105 =>
            intro bb ls m τ hm105 i105_0 i105_1 i105_2 i105_3 i105_4 i105_5
            have hfm : ∀ b i, 196 ≤ b → b ≤ 215 → (b ≠ 203 ∨ i ≠ x6_62) → (b ≠ 204 ∨ i ≠ x6_62) → τ b i = σ_49 b i := fun b i q1 q2 q3 q4 => i105_4 b i (by omega) (by omega) (by omega) (by omega) (by omega) q3 q4
            refine s_iload C dX8_askNumber_105 rfl ?_
            refine s_iload C dX8_askNumber_107 rfl ?_
            have J173 : (m = v + 1 ∨ (m = 0 ∧ (fsL (sD S x) y z (sE S)).length ≤ 1)) → SW X E Q 0 0 173 [some (vR 195), some (vI x), some (vI y), some (vI z), some (vI v), some (vI a), some (vI x6_62), some (vI x7_71), some (vI x8_80), some (vL r87), none, some (vI bb), some (vI ls), some (vI m), none] [] τ := by
              intro  j173_0
              refine s_aload_n C dX8_askNumber_173 rfl ?_
              refine s_getR (c := 8) C fl_8_31 dX8_askNumber_174 sh_195 rfl rf_195_7 ?_
              refine s_iload C dX8_askNumber_177 rfl ?_
              refine s_iload C dX8_askNumber_179 rfl ?_
              refine s_iast C dX8_askNumber_181 sh_203 (by omega) (by omega) ?_
              refine s_nameG (fun σ_181 hσ_181 => ?_)
              refine s_aload_n C dX8_askNumber_182 rfl ?_
              refine s_getR (c := 8) C fl_8_34 dX8_askNumber_183 sh_195 rfl rf_195_8 ?_
              refine s_iload C dX8_askNumber_186 rfl ?_
              refine s_iload C dX8_askNumber_188 rfl ?_
              refine s_iast C dX8_askNumber_190 sh_204 (by omega) (by omega) ?_
              refine s_nameG (fun σ_190 hσ_190 => ?_)
              refine s_iload C dX8_askNumber_191 rfl ?_
              refine s_iret C hR dX8_askNumber_193 rfl ⟨_, rfl, ?_⟩ (by decide)
              have hfin : bb = (anS (sD S x) y z (fsL (sD S x) y z (sE S)) (v + 1).toNat).1 := by
                rcases j173_0 with q | q
                · rw [i105_1, q]
                · rw [i105_1, anS_small q.2, anS_small q.2]
              have hb : ∀ b i, (b ≠ 195 ∨ (i ≠ 20 ∧ i ≠ 24)) → b ≠ 216 → b ≠ 218 → b ≠ 223 → b ≠ 224 → σ_190 b i = σ_49 b i := fun b i q1 q2 q3 q4 q5 => by
                rw [hσ_190]
                by_cases c4 : b = 204 ∧ i = x6_62
                · rw [c4.1, c4.2, up_s]; exact ex8_80
                · rw [up_n (by omega), hσ_181]
                  by_cases c3 : b = 203 ∧ i = x6_62
                  · rw [c3.1, c3.2, up_s]; exact ex7_71
                  · rw [up_n (by omega)]; exact i105_4 b i q1 q2 q3 q4 q5 (by omega) (by omega)
              have f9 : frT3 σ_49 σ_190 := fun b i q1 q2 q3 q4 q5 _ => hb b i q1 q2 q3 q4 q5
              exact moP.yes h0 (by rw [f9.h]; exact h37) (show _ = (anS (sD S x) y z (fsL (sD S x) y z (sE S)) (v + 1).toNat).1 from hfin) (hO2.t f9.T2) ((can_T2 hp49.1).M.tr f9.T2.M)
            refine s_icmp_gt (tgt := 173) C dX8_askNumber_109 (by decide) (by omega) (by omega) (fun c109 => ?_) (fun c109 => ?_)
            · refine J173 ?_
              · exact Or.inl (by omega)
            · refine s_lload C dX8_askNumber_112 rfl ?_
              refine s_cS1i C dX8_askNumber_114 lkX8_237 moX8_many mvX8_many (kX8_many (by exact hp87.2)) (by decide) (Nat.le_of_ble_eq_true rfl) rfl (by decide) (kpI (fun r114 hp114 => ?_))
              refine s_iconst C dX8_askNumber_117 ?_
              refine s_icmp_le (tgt := 173) C dX8_askNumber_118 (by decide) (by omega) (by omega) (fun c118 => ?_) (fun c118 => ?_)
              · refine J173 ?_
                · exact Or.inr (by omega)
              · refine s_aload_n C dX8_askNumber_121 rfl ?_
                refine s_iload_n C dX8_askNumber_122 rfl ?_
                refine s_iload C dX8_askNumber_123 rfl ?_
                refine s_iload_n C dX8_askNumber_125 rfl ?_
                refine s_lload C dX8_askNumber_126 rfl ?_
                refine s_iload C dX8_askNumber_128 rfl ?_
                refine s_cV5i C dX8_askNumber_130 lkX8_241 moX8_greatestBy mvX8_greatestBy (kX8_greatestBy (p := y) (by exact hD) (by omega) (by exact hM) (by omega) (by omega) (by exact ex6_62) (by exact hp87.2) (by exact hfm) (by omega)) sh_195 ⟨_, _, rfl⟩ (by decide) (Nat.le_of_ble_eq_true rfl) rfl (by decide) (fun r130 σ_130 hp130 => ?_)
                have hst := anS_s (D := sD S x) (p := y) (j := z) (m := m) (F := fsL (sD S x) y z (sE S)) i105_0.1
                have hg130 := hp130.1
                have hgr := mxR_in (R := anR (sD S x) y z (fsL (sD S x) y z (sE S)) m) (n := (fsL (sD S x) y z (sE S)).length) (fsL (sD S x) y z (sE S)).length
                rw [← hg130] at hst hgr
                refine s_istore (ls2 := [some (vR 195), some (vI x), some (vI y), some (vI z), some (vI v), some (vI a), some (vI x6_62), some (vI x7_71), some (vI x8_80), some (vL r87), none, some (vI bb), some (vI ls), some (vI m), some (vI r130)]) C dX8_askNumber_133 (by decide) rfl ?_
                refine s_iload C dX8_askNumber_135 rfl ?_
                refine s_iload C dX8_askNumber_137 rfl ?_
                have J149 : ∀ (b3 : Int), (b3 = (anS (sD S x) y z (fsL (sD S x) y z (sE S)) (m + 1).toNat).1) → (-1 ≤ b3 ∧ b3 ≤ 99) → SW X E Q 0 0 149 [some (vR 195), some (vI x), some (vI y), some (vI z), some (vI v), some (vI a), some (vI x6_62), some (vI x7_71), some (vI x8_80), some (vL r87), none, some (vI bb), some (vI ls), some (vI m), some (vI r130)] [(vI b3)] σ_130 := by
                  intro b3 j149_0 j149_1
                  refine s_istore (ls2 := [some (vR 195), some (vI x), some (vI y), some (vI z), some (vI v), some (vI a), some (vI x6_62), some (vI x7_71), some (vI x8_80), some (vL r87), none, some (vI b3), some (vI ls), some (vI m), some (vI r130)]) C dX8_askNumber_149 (by decide) rfl ?_
                  refine s_iload C dX8_askNumber_151 rfl ?_
                  refine s_iload C dX8_askNumber_153 rfl ?_
                  have J165 : ∀ (l3 : Int), (l3 = (anS (sD S x) y z (fsL (sD S x) y z (sE S)) (m + 1).toNat).2) → (0 ≤ l3 ∧ l3 ≤ 32) → SW X E Q 0 0 165 [some (vR 195), some (vI x), some (vI y), some (vI z), some (vI v), some (vI a), some (vI x6_62), some (vI x7_71), some (vI x8_80), some (vL r87), none, some (vI b3), some (vI ls), some (vI m), some (vI r130)] [(vI l3)] σ_130 := by
                    intro l3 j165_0 j165_1
                    refine s_istore (ls2 := [some (vR 195), some (vI x), some (vI y), some (vI z), some (vI v), some (vI a), some (vI x6_62), some (vI x7_71), some (vI x8_80), some (vL r87), none, some (vI b3), some (vI l3), some (vI m), some (vI r130)]) C dX8_askNumber_165 (by decide) rfl ?_
                    obtain ⟨x13_167, ex13_167⟩ : ∃ y : Int, y = m + 1 := ⟨_, rfl⟩
                    refine s_iinc (z2 := x13_167) (ls2 := [some (vR 195), some (vI x), some (vI y), some (vI z), some (vI v), some (vI a), some (vI x6_62), some (vI x7_71), some (vI x8_80), some (vL r87), none, some (vI b3), some (vI l3), some (vI x13_167), some (vI r130)]) C dX8_askNumber_167 (by decide) rfl ex13_167 rfl ?_
                    refine s_goto (tgt := 105) C dX8_askNumber_170 (by decide) ?_
                    refine s_weak (ls2 := [some (vR 195), some (vI x), some (vI y), some (vI z), some (vI v), some (vI a), some (vI x6_62), some (vI x7_71), some (vI x8_80), some (vL r87), none, some (vI b3), some (vI l3), some (vI x13_167), none]) (sv_wk_c (sv_wk_c (sv_wk_c (sv_wk_c (sv_wk_c (sv_wk_c (sv_wk_c (sv_wk_c (sv_wk_c (sv_wk_c (sv_wk_n (sv_wk_c (sv_wk_c (sv_wk_c (sv_wk_n sv_wk_0))))))))))))))) ?_
                    refine ih105 b3 l3 x13_167 σ_130 (by omega) (by first | assumption | omega) ?_ ?_ (by first | assumption | omega) ?_ (by first | assumption | omega)
                    · rw [show x13_167 = m + 1 from ex13_167]; exact j149_0
                    · rw [show x13_167 = m + 1 from ex13_167]; exact j165_0
                    · exact fun b i q1 q2 q3 q4 q5 q6 q7 => (hp130.2 b i q1 q2 q3 q4 q5 q6 q7).trans (i105_4 b i q1 q2 q3 q4 q5 q6 q7)
                  refine s_icmp_ge (tgt := 163) C dX8_askNumber_155 (by decide) (by omega) (by omega) (fun c155 => ?_) (fun c155 => ?_)
                  · refine s_iload C dX8_askNumber_163 rfl ?_
                    refine J165 ls ?_ (by first | assumption | omega)
                    · rw [hst, if_neg (by omega)]; exact i105_2
                  · refine s_iload C dX8_askNumber_158 rfl ?_
                    refine s_goto (tgt := 165) C dX8_askNumber_160 (by decide) ?_
                    refine J165 r130 ?_ (by first | assumption | omega)
                    · rw [hst, if_pos (by omega)]
                refine s_icmp_ge (tgt := 147) C dX8_askNumber_139 (by decide) (by omega) (by omega) (fun c139 => ?_) (fun c139 => ?_)
                · refine s_iload C dX8_askNumber_147 rfl ?_
                  refine J149 bb ?_ (by first | assumption | omega)
                  · rw [hst, if_neg (by omega)]; exact i105_1
                · refine s_iload C dX8_askNumber_142 rfl ?_
                  refine s_goto (tgt := 149) C dX8_askNumber_144 (by decide) ?_
                  refine J149 m ?_ (by first | assumption | omega)
                  · rw [hst, if_pos (by omega)]
        refine L105 _ (-1) r97 0 σ_87 (Nat.lt_succ_self _) (by first | assumption | omega) ?_ ?_ (by first | assumption | omega) ?_ (by first | assumption | omega)
        · rfl
        · exact hp97
        · exact fun b i q1 q2 q3 _ _ _ _ => hp87.1 b i q1 q2 q3
      · have y52 := (hp49.2).n (by omega)
        refine s_iconst C dX8_askNumber_55 ?_
        refine s_iret C hR dX8_askNumber_56 rfl ⟨_, rfl, ?_⟩ (by decide)
        exact moP.no hO hp49.1 j49_0 y52
    refine s_if_ne (tgt := 33) C dX8_askNumber_26 (by decide) (by omega) (fun c26 => ?_) (fun c26 => ?_)
    · have y26 := (j21_0).y (by omega)
      refine s_iload C dX8_askNumber_33 rfl ?_
      refine s_iconst C dX8_askNumber_35 ?_
      refine s_bipush C dX8_askNumber_36 (by decide) ?_
      refine s_cS3i C dX8_askNumber_38 lkX8_110 moX8_isIn mvX8_isIn (kX8_isIn (by omega) (by omega) (by omega)) (by decide) (Nat.le_of_ble_eq_true rfl) rfl (by decide) (kpI (fun r38 hp38 => ?_))
      have hb38 := (hp38).b
      refine s_if_eq (tgt := 48) C dX8_askNumber_41 (by decide) (by omega) (fun c41 => ?_) (fun c41 => ?_)
      · have y41 := (hp38).n (by omega)
        refine s_iconst C dX8_askNumber_48 ?_
        refine J49 2 ?_ (by first | assumption | omega)
        · unfold op_askNumber; dsimp only; (repeat' split) <;> omega
      · have y41 := (hp38).y (by omega)
        refine s_iconst C dX8_askNumber_44 ?_
        refine s_goto (tgt := 49) C dX8_askNumber_45 (by decide) ?_
        refine J49 0 ?_ (by first | assumption | omega)
        · unfold op_askNumber; dsimp only; (repeat' split) <;> omega
    · have y26 := (j21_0).n (by omega)
      refine s_iconst C dX8_askNumber_29 ?_
      refine s_goto (tgt := 49) C dX8_askNumber_30 (by decide) ?_
      refine J49 1 ?_ (by first | assumption | omega)
      · unfold op_askNumber; dsimp only; (repeat' split) <;> omega
  refine s_if_eq (tgt := 20) C dX8_askNumber_6 (by decide) (by omega) (fun c6 => ?_) (fun c6 => ?_)
  · have y6 := (hp3).n (by omega)
    refine s_iconst C dX8_askNumber_20 ?_
    refine J21 0 ?_
    · exact yn.zero (by omega)
  · have y6 := (hp3).y (by omega)
    refine s_iload_n C dX8_askNumber_9 rfl ?_
    refine s_cS1i C dX8_askNumber_10 lkX8_118 moX8_isWord mvX8_isWord (kX8_isWord (by omega)) (by decide) (Nat.le_of_ble_eq_true rfl) rfl (by decide) (kpI (fun r10 hp10 => ?_))
    have hb10 := (hp10).b
    refine s_if_eq (tgt := 20) C dX8_askNumber_13 (by decide) (by omega) (fun c13 => ?_) (fun c13 => ?_)
    · have y13 := (hp10).n (by omega)
      refine s_iconst C dX8_askNumber_20 ?_
      refine J21 0 ?_
      · exact yn.zero (by omega)
    · have y13 := (hp10).y (by omega)
      refine s_iconst C dX8_askNumber_16 ?_
      refine s_goto (tgt := 21) C dX8_askNumber_17 (by decide) ?_
      refine J21 1 ?_
      · exact yn.one (by omega)

set_option maxRecDepth 100000 in
set_option maxHeartbeats 8000000 in
theorem kX8_example {E : sv_E} {σ : sv_G} {S : st_T} (hS : StOK S) (hO : RO σ S) {x : Int} (hx : -2147483648 ≤ x ∧ x ≤ 2147483647) : CT E MX8_example 2 [(vR 195), (vI x)] σ (PI fun r σ9 => moP σ σ9 S r (op_example S x)) := by
  refine CT.of (RX8, cX8_example, 4, (some .int), [], 2, 0, 0) rfl moX8_example (Nat.le_of_ble_eq_true rfl) (ls0 := [some (vR 195), some (vI x), none, none]) rfl ?_
  intro X Q C hR
  have hH := hO.2.2.1.1
  have hHg := hO.2.2.1.2
  have hHl := hS.2.2.1.2
  have hEn := hO.2.2.2.1.1
  have hEl := hS.2.2.2.1.1
  refine s_aload_n C dX8_example_0 rfl ?_
  refine s_getI (c := 8) (kz := 26) C fl_8_197 dX8_example_1 sh_195 rfl rfl (fun g1 => ?_)
  have J12 : ∀ (a0 : Int), (yn a0 (0 < (sH S).length)) → SW X E Q 0 0 12 [some (vR 195), some (vI x), none, none] [(vI a0)] σ := by
    intro a0 j12_0
    have hbj12_0 := j12_0.b
    refine s_istore_n (ls2 := [some (vR 195), some (vI x), some (vI a0), none]) C dX8_example_12 (by decide) rfl ?_
    refine s_iconst C dX8_example_13 ?_
    refine s_istore_n (ls2 := [some (vR 195), some (vI x), some (vI a0), some (vI 0)]) C dX8_example_14 (by decide) rfl ?_
    have L15 : ∀ (n : Nat) (b : Int) (m : Int), (20 - m).toNat < n → (0 ≤ m ∧ m ≤ (sH S).length) → (exI (sH S) b m) → (0 ≤ b ∧ b ≤ 1) → SW X E Q 0 0 15 [some (vR 195), some (vI x), some (vI b), some (vI m)] [] σ := by
      intro n
      induction n with
      | zero => intro b m hm; exact absurd hm (Nat.not_lt_zero _)
      | succ n ih15 =>
        intro b m hm15 i15_0 i15_1 i15_2
        refine s_iload_n C dX8_example_15 rfl ?_
        refine s_aload_n C dX8_example_16 rfl ?_
        refine s_getI (c := 8) (kz := 26) C fl_8_197 dX8_example_17 sh_195 rfl rfl (fun g17 => ?_)
        refine s_icmp_ge (tgt := 49) C dX8_example_20 (by decide) (by omega) (by omega) (fun c20 => ?_) (fun c20 => ?_)
        · have hfn := i15_1.fin (by omega)
          refine s_aload_n C dX8_example_49 rfl ?_
          refine s_iload_n C dX8_example_50 rfl ?_
          refine s_cS1i C dX8_example_51 lkX8_121 moX8_isNumber mvX8_isNumber (kX8_isNumber (by omega)) (by decide) (Nat.le_of_ble_eq_true rfl) rfl (by decide) (kpI (fun r51 hp51 => ?_))
          have hb51 := (hp51).b
          have J79 : ∀ (c : Int), (c = (op_example S x).1) → (0 ≤ c ∧ c ≤ 3) → SW X E Q 0 0 79 [some (vR 195), some (vI x), some (vI b), some (vI m)] [(vI c), (vR 195)] σ := by
            intro c j79_0 j79_1
            refine s_cV1i C dX8_example_79 lkX8_128 moX8_can mvX8_can (kX8_can (by omega)) sh_195 ⟨_, _, rfl⟩ (by decide) (Nat.le_of_ble_eq_true rfl) rfl (by decide) (fun r79 σ_79 hp79 => ?_)
            have hb79 := (hp79.2).b
            have hO2 := hO.t (can_T2 hp79.1)
            refine s_if_ne (tgt := 87) C dX8_example_82 (by decide) (by omega) (fun c82 => ?_) (fun c82 => ?_)
            · have y82 := (hp79.2).y (by omega)
              have h0 : (op_example S x).1 = 0 := by rw [← j79_0]; exact y82
              have hk := ifc2 (show (if ¬ (0 ≤ x ∧ x ≤ 9999) then 1 else if (sE S).length = 20 ∨ okH (sH S) = 0 then 2 else 0 : Int) = 0 from h0)
              have h37 : σ_79 195 37 = 0 := by rw [hp79.1, up_s]; exact y82
              refine s_aload_n C dX8_example_87 rfl ?_
              have e79 : σ_79 195 28 = (sE S).length := hO2.2.2.2.1.1
              have e79a : σ_79 195 26 = (sH S).length := hO2.2.2.1.1
              refine s_getR (c := 8) C fl_8_82 dX8_example_88 sh_195 rfl rf_195_29 ?_
              refine s_aload_n C dX8_example_91 rfl ?_
              refine s_getI (c := 8) (kz := 28) C fl_8_220 dX8_example_92 sh_195 rfl rfl (fun g92 => ?_)
              refine s_iload_n C dX8_example_95 rfl ?_
              refine s_iast C dX8_example_96 sh_220 (by omega) (by omega) ?_
              refine s_nameG (fun σ_96 hσ_96 => ?_)
              have e96a : σ_96 195 26 = (sH S).length := by rw [hσ_96, up_a (by decide), hp79.1, up_k (by decide)]; exact hH
              have e96b : σ_96 195 28 = (sE S).length := by rw [hσ_96, up_a (by decide), hp79.1, up_k (by decide)]; exact hEn
              refine s_aload_n C dX8_example_97 rfl ?_
              refine s_getR (c := 8) C fl_8_85 dX8_example_98 sh_195 rfl rf_195_30 ?_
              refine s_aload_n C dX8_example_101 rfl ?_
              refine s_getI (c := 8) (kz := 28) C fl_8_220 dX8_example_102 sh_195 rfl rfl (fun g102 => ?_)
              refine s_aload_n C dX8_example_105 rfl ?_
              refine s_getI (c := 8) (kz := 26) C fl_8_197 dX8_example_106 sh_195 rfl rfl (fun g106 => ?_)
              refine s_iast C dX8_example_109 sh_221 (by omega) (by omega) ?_
              refine s_nameG (fun σ_109 hσ_109 => ?_)
              have e109a : σ_109 195 26 = (sH S).length := by rw [hσ_109, up_a (by decide)]; exact e96a
              have e109b : σ_109 195 28 = (sE S).length := by rw [hσ_109, up_a (by decide)]; exact e96b
              have f109 : ∀ b i, b ≠ 220 → b ≠ 221 → (b ≠ 195 ∨ i ≠ 37) → σ_109 b i = σ b i := fun b i q1 q2 q3 => by rw [hσ_109, up_a q2, hσ_96, up_a q1, hp79.1, up_n q3]
              refine s_iconst C dX8_example_110 ?_
              refine s_istore_n (ls2 := [some (vR 195), some (vI x), some (vI b), some (vI 0)]) C dX8_example_111 (by decide) rfl ?_
              have L112 : ∀ (n : Nat) (m2 : Int) (υ : sv_G), (20 - m2).toNat < n → (0 ≤ m2 ∧ m2 ≤ (sH S).length) → (∀ i : Nat, (i : Int) < m2 → υ 222 (20 * (sE S).length + i) = (sH S).getD i 0) → (∀ (b : Nat) (i : Int), (b ≠ 222 ∨ i < 20 * (sE S).length ∨ 20 * (sE S).length + 20 ≤ i) → υ b i = σ_109 b i) → SW X E Q 0 0 112 [some (vR 195), some (vI x), some (vI b), some (vI m2)] [] υ := by
                intro n
                induction n with
                | zero => intro m2 υ hm; exact absurd hm (Nat.not_lt_zero _)
                | succ n ih112 =>
                  intro m2 υ hm112 i112_0 i112_1 i112_2
                  have u26 : υ 195 26 = (sH S).length := by rw [i112_2 _ _ (Or.inl (by decide))]; exact e109a
                  have u28 : υ 195 28 = (sE S).length := by rw [i112_2 _ _ (Or.inl (by decide))]; exact e109b
                  refine s_iload_n C dX8_example_112 rfl ?_
                  refine s_aload_n C dX8_example_113 rfl ?_
                  refine s_getI (c := 8) (kz := 26) C fl_8_197 dX8_example_114 sh_195 rfl rfl (fun g114 => ?_)
                  refine s_icmp_ge (tgt := 146) C dX8_example_117 (by decide) (by omega) (by omega) (fun c117 => ?_) (fun c117 => ?_)
                  · refine s_aload_n C dX8_example_146 rfl ?_
                    refine s_dup C dX8_example_147 rfl ?_
                    refine s_getI (c := 8) (kz := 28) C fl_8_220 dX8_example_148 sh_195 rfl rfl (fun g148 => ?_)
                    refine s_iconst C dX8_example_151 ?_
                    refine s_iadd C dX8_example_152 ?_
                    refine s_putI (c := 8) (kz := 28) C fl_8_220 dX8_example_153 sh_195 rfl (fun _ _ h9 => by cases h9; rfl) (by omega) rfl ?_
                    refine s_nameG (fun σ_153 hσ_153 => ?_)
                    refine s_aload_n C dX8_example_156 rfl ?_
                    refine s_getI (c := 8) (kz := 28) C fl_8_220 dX8_example_157 sh_195 rfl rfl (fun g157 => ?_)
                    refine s_iret C hR dX8_example_160 rfl ⟨_, rfl, ?_⟩ (by decide)
                    have f153 : ∀ (b : Nat) (i : Int), (b ≠ 195 ∨ (i ≠ 28 ∧ i ≠ 37)) → b ≠ 220 → b ≠ 221 → (b ≠ 222 ∨ i < 20 * (sE S).length ∨ 20 * (sE S).length + 20 ≤ i) → σ_153 b i = σ b i := fun b i q1 q2 q3 q4 => by rw [hσ_153, up_n (by omega), i112_2 b i q4, f109 b i q2 q3 (by omega)]
                    have e153 : σ_153 195 28 = ((sE S).length : Int) + 1 := by rw [hσ_153, up_s, u28]
                    have e37 : σ_153 195 37 = 0 := by rw [hσ_153, up_k (by decide), i112_2 _ _ (Or.inl (by decide)), hσ_109, up_a (by decide), hσ_96, up_a (by decide)]; exact h37
                    refine moP.yes h0 e37 (show _ = ((sE S).length : Int) + 1 from e153) (hO.uE (l := sE S ++ [(x, sH S)]) (by rw [e153, List.length_append]; rfl) (fun i hi => ?_) fun b k q => f153 b k (by omega) (by omega) (by omega) (by omega)) fun b k q => f153 b k (by omega) (by omega) (by omega) (by omega)
                    rw [List.length_append] at hi
                    have hi2 : i < (sE S).length + 1 := hi
                    rw [getD_snoc]
                    by_cases c : i = (sE S).length
                    · rw [if_pos c, c]
                      refine ⟨?_, ?_, fun j hj => ?_⟩
                      · rw [hσ_153, up_a (by decide), i112_2 _ _ (Or.inl (by decide)), hσ_109, up_a (by decide), hσ_96, e79, up_s]
                      · rw [hσ_153, up_a (by decide), i112_2 _ _ (Or.inl (by decide)), hσ_109, e96b, up_s, e96a]
                      · rw [hσ_153, up_a (by decide)]
                        have hj2 : j < (sH S).length := hj
                        exact i112_1 j (by omega)
                    · rw [if_neg c]
                      have h9 := hO.2.2.2.1.2 i (by omega)
                      have hl9 := (hS.2.2.2.1.2 _ (sE_mem (S := S) (i := i) (by omega))).2.1
                      refine ⟨?_, ?_, fun j hj => ?_⟩
                      · rw [hσ_153, up_a (by decide), i112_2 _ _ (Or.inl (by decide)), hσ_109, up_a (by decide), hσ_96, e79, up_k (by omega), hp79.1, up_a (by decide)]; exact h9.1
                      · rw [hσ_153, up_a (by decide), i112_2 _ _ (Or.inl (by decide)), hσ_109, e96b, up_k (by omega), hσ_96, up_a (by decide), hp79.1, up_a (by decide)]; exact h9.2.1
                      · rw [f153 _ _ (Or.inl (by decide)) (by decide) (by decide) (by omega)]; exact h9.2.2 j hj
                  · have eh9 : ∀ i : Nat, i < (sH S).length → υ 219 (i : Int) = (sH S).getD i 0 := fun i hi => by
                      rw [i112_2 _ _ (Or.inl (by decide)), f109 _ _ (by decide) (by decide) (Or.inl (by decide))]
                      have h9 := hHg i hi
                      rwa [Int.zero_add] at h9
                    refine s_aload_n C dX8_example_120 rfl ?_
                    refine s_getR (c := 8) C fl_8_88 dX8_example_121 sh_195 rfl rf_195_31 ?_
                    refine s_bipush C dX8_example_124 (by decide) ?_
                    refine s_aload_n C dX8_example_126 rfl ?_
                    refine s_getI (c := 8) (kz := 28) C fl_8_220 dX8_example_127 sh_195 rfl rfl (fun g127 => ?_)
                    refine s_imul C dX8_example_130 ?_
                    refine s_iload_n C dX8_example_131 rfl ?_
                    refine s_iadd C dX8_example_132 ?_
                    refine s_aload_n C dX8_example_133 rfl ?_
                    refine s_getR (c := 8) C fl_8_79 dX8_example_134 sh_195 rfl rf_195_27 ?_
                    refine s_iload_n C dX8_example_137 rfl ?_
                    refine s_iald C dX8_example_138 sh_219 (by omega) (fun g138 => ?_)
                    refine s_iast C dX8_example_139 sh_222 (by omega) (by omega) ?_
                    refine s_nameG (fun σ_139 hσ_139 => ?_)
                    obtain ⟨x3_140, ex3_140⟩ : ∃ y : Int, y = m2 + 1 := ⟨_, rfl⟩
                    refine s_iinc (z2 := x3_140) (ls2 := [some (vR 195), some (vI x), some (vI b), some (vI x3_140)]) C dX8_example_140 (by decide) rfl ex3_140 rfl ?_
                    refine s_goto (tgt := 112) C dX8_example_143 (by decide) ?_
                    refine ih112 x3_140 σ_139 (by omega) (by first | assumption | omega) ?_ ?_
                    · intro i hi
                      rw [hσ_139, up_i]
                      by_cases q : (i : Int) = m2
                      · rw [if_pos (by omega), ← q]; exact eh9 i (by omega)
                      · rw [if_neg (by omega)]; exact i112_1 i (by omega)
                    · intro b i q; rw [hσ_139, up_n (by omega)]; exact i112_2 b i q
              refine L112 _ 0 σ_109 (Nat.lt_succ_self _) (by first | assumption | omega) ?_ ?_
              · intro i hi; omega
              · exact fun _ _ _ => rfl
            · have y82 := (hp79.2).n (by omega)
              refine s_iconst C dX8_example_85 ?_
              refine s_iret C hR dX8_example_86 rfl ⟨_, rfl, ?_⟩ (by decide)
              exact moP.no hO hp79.1 j79_0 y82
          refine s_if_ne (tgt := 61) C dX8_example_54 (by decide) (by omega) (fun c54 => ?_) (fun c54 => ?_)
          · have y54 := (hp51).y (by omega)
            refine s_aload_n C dX8_example_61 rfl ?_
            refine s_getI (c := 8) (kz := 28) C fl_8_220 dX8_example_62 sh_195 rfl rfl (fun g62 => ?_)
            refine s_bipush C dX8_example_65 (by decide) ?_
            refine s_icmp_eq (tgt := 74) C dX8_example_67 (by decide) (by omega) (by omega) (fun c67 => ?_) (fun c67 => ?_)
            · refine s_iconst C dX8_example_74 ?_
              refine s_goto (tgt := 79) C dX8_example_75 (by decide) ?_
              refine J79 2 ?_ (by first | assumption | omega)
              · unfold op_example; dsimp only; (repeat' split) <;> omega
            · refine s_iload_n C dX8_example_70 rfl ?_
              refine s_if_ne (tgt := 78) C dX8_example_71 (by decide) (by omega) (fun c71 => ?_) (fun c71 => ?_)
              · refine s_iconst C dX8_example_78 ?_
                refine J79 0 ?_ (by first | assumption | omega)
                · unfold op_example; dsimp only; (repeat' split) <;> omega
              · refine s_iconst C dX8_example_74 ?_
                refine s_goto (tgt := 79) C dX8_example_75 (by decide) ?_
                refine J79 2 ?_ (by first | assumption | omega)
                · unfold op_example; dsimp only; (repeat' split) <;> omega
          · have y54 := (hp51).n (by omega)
            refine s_iconst C dX8_example_57 ?_
            refine s_goto (tgt := 79) C dX8_example_58 (by decide) ?_
            refine J79 1 ?_ (by first | assumption | omega)
            · unfold op_example; dsimp only; (repeat' split) <;> omega
        · have ehm := hHg m.toNat (by omega)
          rw [show (0 : Int) + (m.toNat : Int) = m by omega] at ehm
          refine s_iload_n C dX8_example_23 rfl ?_
          have J42 : ∀ (c2 : Int), (exI (sH S) c2 (m + 1)) → (0 ≤ c2 ∧ c2 ≤ 1) → SW X E Q 0 0 42 [some (vR 195), some (vI x), some (vI b), some (vI m)] [(vI c2)] σ := by
            intro c2 j42_0 j42_1
            refine s_istore_n (ls2 := [some (vR 195), some (vI x), some (vI c2), some (vI m)]) C dX8_example_42 (by decide) rfl ?_
            obtain ⟨x3_43, ex3_43⟩ : ∃ y : Int, y = m + 1 := ⟨_, rfl⟩
            refine s_iinc (z2 := x3_43) (ls2 := [some (vR 195), some (vI x), some (vI c2), some (vI x3_43)]) C dX8_example_43 (by decide) rfl ex3_43 rfl ?_
            refine s_goto (tgt := 15) C dX8_example_46 (by decide) ?_
            refine ih15 c2 x3_43 (by omega) (by first | assumption | omega) ?_ (by first | assumption | omega)
            · rw [show x3_43 = m + 1 from ex3_43]; exact j42_0
          refine s_if_eq (tgt := 41) C dX8_example_24 (by decide) (by omega) (fun c24 => ?_) (fun c24 => ?_)
          · refine s_iconst C dX8_example_41 ?_
            refine J42 0 ?_ (by first | assumption | omega)
            · first
                | exact i15_1.off (by omega)
                | exact exI.no (by omega) (by omega)
          · refine s_aload_n C dX8_example_27 rfl ?_
            refine s_getR (c := 8) C fl_8_79 dX8_example_28 sh_195 rfl rf_195_27 ?_
            refine s_iload_n C dX8_example_31 rfl ?_
            refine s_iald C dX8_example_32 sh_219 (by omega) (fun g32 => ?_)
            refine s_iconst C dX8_example_33 ?_
            refine s_icmp_eq (tgt := 41) C dX8_example_34 (by decide) (by omega) (by omega) (fun c34 => ?_) (fun c34 => ?_)
            · refine s_iconst C dX8_example_41 ?_
              refine J42 0 ?_ (by first | assumption | omega)
              · first
                  | exact i15_1.off (by omega)
                  | exact exI.no (by omega) (by omega)
            · refine s_iconst C dX8_example_37 ?_
              refine s_goto (tgt := 42) C dX8_example_38 (by decide) ?_
              refine J42 1 ?_ (by first | assumption | omega)
              · exact i15_1.one (by omega) (by omega) (by omega)
    refine L15 _ a0 0 (Nat.lt_succ_self _) (by first | assumption | omega) ?_ (by first | assumption | omega)
    · rcases j12_0 with ⟨q1, q2⟩ | ⟨q1, q2⟩
      · exact Or.inl ⟨q1, q2, fun i hi => by omega⟩
      · exact Or.inr ⟨q1, fun z => q2 z.1⟩
  refine s_if_le (tgt := 11) C dX8_example_4 (by decide) (by omega) (fun c4 => ?_) (fun c4 => ?_)
  · refine s_iconst C dX8_example_11 ?_
    refine J12 0 ?_
    · exact yn.zero (by omega)
  · refine s_iconst C dX8_example_7 ?_
    refine s_goto (tgt := 12) C dX8_example_8 (by decide) ?_
    refine J12 1 ?_
    · exact yn.one (by omega)
