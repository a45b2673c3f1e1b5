/-! Two numbers that are said alike. -/
def mkI (ws : List Int) : Int := (Int32.ofInt (markF ws)).toInt
def bkI (D : gd_T) (c n : Int) : Int := landI (mkI (spF D n c)) 255
def prv (D : gd_T) (c b : Int) : Nat → Int
  | 0 => -1
  | n + 1 => if spF D (n : Int) c ≠ [] ∧ bkI D c (n : Int) = b then (n : Int) else prv D c b n
theorem prv_in {D : gd_T} {c b : Int} : ∀ n : Nat, prv D c b n = -1 ∨ ((0 ≤ prv D c b n ∧ prv D c b n < n) ∧ spF D (prv D c b n) c ≠ [] ∧ bkI D c (prv D c b n) = b)
  | 0 => Or.inl rfl
  | n + 1 => by
    unfold prv
    by_cases h : spF D (n : Int) c ≠ [] ∧ bkI D c (n : Int) = b
    · rw [if_pos h]; exact Or.inr ⟨by omega, h⟩
    · rw [if_neg h]
      rcases prv_in (D := D) (c := c) (b := b) n with q | q
      · exact Or.inl q
      · exact Or.inr ⟨by omega, q.2⟩
theorem prv_gap {D : gd_T} {c b : Int} : ∀ (n : Nat) (j : Int), 0 ≤ j → prv D c b n < j → j < n → ¬ (spF D j c ≠ [] ∧ bkI D c j = b)
  | 0, j, h0, _, h2 => by omega
  | n + 1, j, h0, h1, h2 => by
    unfold prv at h1
    by_cases h : spF D (n : Int) c ≠ [] ∧ bkI D c (n : Int) = b
    · rw [if_pos h] at h1; omega
    · rw [if_neg h] at h1
      by_cases q : j = n
      · rw [q]; exact h
      · exact prv_gap n j h0 h1 (by omega)
theorem prv_s {D : gd_T} {c b m : Int} (h : 0 ≤ m) : prv D c b (m + 1).toNat = if spF D m c ≠ [] ∧ bkI D c m = b then m else prv D c b m.toNat := by
  rw [show (m + 1).toNat = m.toNat + 1 by omega]
  show (if spF D (m.toNat : Int) c ≠ [] ∧ bkI D c (m.toNat : Int) = b then (m.toNat : Int) else prv D c b m.toNat) = _
  rw [show (m.toNat : Int) = m by omega]
def LkI (σ : sv_G) (D : gd_T) (c k : Int) : Prop := (∀ b, 0 ≤ b → b < 256 → σ 13 b = prv D c b k.toNat) ∧ ∀ j, 0 ≤ j → j < k → spF D j c ≠ [] → σ 15 j = mkI (spF D j c) ∧ σ 14 j = prv D c (bkI D c j) j.toNat
theorem LkI.fr {σ σ9 : sv_G} {D : gd_T} {c k : Int} (h : LkI σ D c k) (hf : ∀ b i, 13 ≤ b → b ≤ 15 → σ9 b i = σ b i) : LkI σ9 D c k := ⟨fun b h1 h2 => by rw [hf _ _ (by decide) (by decide)]; exact h.1 b h1 h2, fun j h1 h2 h3 => by rw [hf _ _ (by decide) (by decide), hf _ _ (by decide) (by decide)]; exact h.2 j h1 h2 h3⟩
theorem LkI.no {σ : sv_G} {D : gd_T} {c m : Int} (h : LkI σ D c m) (hm : 0 ≤ m) (he : spF D m c = []) : LkI σ D c (m + 1) := ⟨fun b h1 h2 => by rw [prv_s hm, if_neg (fun q => q.1 he)]; exact h.1 b h1 h2, fun j h1 h2 h3 => by
  by_cases q : j = m
  · rw [q] at h3; exact absurd he h3
  · exact h.2 j h1 (by omega) h3⟩
theorem LkI.put {σ σ9 : sv_G} {D : gd_T} {c m : Int} (h : LkI σ D c m) (hm : 0 ≤ m) (he : spF D m c ≠ []) (e : σ9 = up (up (up σ 15 m (mkI (spF D m c))) 14 m (σ 13 (bkI D c m))) 13 (bkI D c m) m) : LkI σ9 D c (m + 1) := by
  have hl := landI_255 (mkI (spF D m c))
  refine ⟨fun b h1 h2 => ?_, fun j h1 h2 h3 => ?_⟩
  · rw [e, prv_s hm]
    by_cases q : bkI D c m = b
    · rw [if_pos ⟨he, q⟩, q, up_s]
    · rw [if_neg (fun z => q z.2), up_k (by omega), up_a (by decide), up_a (by decide)]; exact h.1 b h1 h2
  · have e15 : σ9 15 j = if j = m then mkI (spF D m c) else σ 15 j := by rw [e, up_a (by decide), up_a (by decide), up_i]
    have e14 : σ9 14 j = if j = m then σ 13 (bkI D c m) else σ 14 j := by rw [e, up_a (by decide), up_i, up_a (by decide)]
    rw [e15, e14]
    by_cases q : j = m
    · rw [if_pos q, if_pos q, q]; exact ⟨rfl, h.1 _ hl.1 (by have := hl.2; unfold bkI; omega)⟩
    · rw [if_neg q, if_neg q]; exact h.2 j h1 (by omega) h3
def clP (D : gd_T) (c k : Int) : Prop := spF D k c ≠ [] ∧ ∃ j, 0 ≤ j ∧ j < k ∧ spF D j c = spF D k c
noncomputable def clR (D : gd_T) (c : Int) : Nat → Nat → Int
  | 0, _ => -1
  | m + 1, k => @ite Int (clP D c (k : Int)) (Classical.propDecidable _) (k : Int) (clR D c m (k + 1))
theorem clR_y {D : gd_T} {c m z : Int} (h : 0 ≤ m ∧ m ≤ z) (hp : clP D c m) : clR D c (z + 1 - m).toNat m.toNat = m := by
  rw [show (z + 1 - m).toNat = (z + 1 - (m + 1)).toNat + 1 by omega]
  have e : (m.toNat : Int) = m := by omega
  unfold clR
  rw [e, if_pos hp]
theorem clR_n {D : gd_T} {c m z : Int} (h : 0 ≤ m ∧ m ≤ z) (hp : ¬ clP D c m) : clR D c (z + 1 - m).toNat m.toNat = clR D c (z + 1 - (m + 1)).toNat (m + 1).toNat := by
  rw [show (z + 1 - m).toNat = (z + 1 - (m + 1)).toNat + 1 by omega, show (m + 1).toNat = m.toNat + 1 by omega]
  have e : (m.toNat : Int) = m := by omega
  conv => lhs; unfold clR
  rw [e, if_neg hp]
def frS (σ σ9 : sv_G) : Prop := ∀ b k, b < 6 ∨ 15 < b → σ9 b k = σ b k
theorem frS.tr {σ σ1 σ2 : sv_G} (h : frS σ σ1) (h2 : frS σ1 σ2) : frS σ σ2 := fun b k q => (h2 b k q).trans (h b k q)
theorem frS.of {σ σ1 : sv_G} {a : Nat} (h : frR σ σ1 a) (h1 : 6 ≤ a) (h2 : a ≤ 14) : frS σ σ1 := fun b k q => h b k (by omega) (by omega)
theorem RN.ls {σ σ9 : sv_G} {S : st_T} (hS : StOK S) (h : RN σ S) (hf : frS σ σ9) : RN σ9 S := h.fr hS fun b k q => hf b k (by omega)
theorem oP.ls {σ σ9 : sv_G} {S : st_T} {c v r : Int} (hS : StOK S) (hN : RN σ S) (hf : frS σ σ9) (hc : c = 0) (hr : r = v) : oP σ σ9 r (c, v, S) := ⟨hc, hr, hN.ls hS hf, hS, fun b k q => hf b k (by omega)⟩
set_option maxRecDepth 100000 in
set_option maxHeartbeats 8000000 in
theorem kX7_isSpokenLower {E : sv_E} {σ : sv_G} {G : Nat} {D : gd_T} (hG : shp G = (4, 0)) (hD : GDok D) (hC : RC σ G D) {c k v : Int} (hk : 0 ≤ k ∧ k ≤ 999) (hc : -2147483648 ≤ c ∧ c ≤ 2147483647) (hl : LkI σ D c k) (hw : Rw σ 6 (spF D k c)) (hv : v = mkI (spF D k c)) (hne : spF D k c ≠ []) : CT E MX7_isSpokenLower 88 [(vR 0), (vR G), (vI c), (vI v)] σ (PI fun r σ9 => frR σ σ9 8 ∧ ((r = 1 ∧ ∃ j, 0 ≤ j ∧ j < k ∧ spF D j c = spF D k c) ∨ (r = 0 ∧ ∀ j, 0 ≤ j → j < k → spF D j c ≠ spF D k c))) := by
  refine CT.of (RX7, cX7_isSpokenLower, 6, (some .boolean), [], 88, 0, 0) rfl moX7_isSpokenLower (Nat.le_of_ble_eq_true rfl) (ls0 := [some (vR 0), some (vR G), some (vI c), some (vI v), none, none]) rfl ?_
  intro X Q C hR
  have hlr := landI_255 v
  have hbk : landI v 255 = bkI D c k := by rw [hv]; rfl
  have hvr : -2147483648 ≤ v ∧ v ≤ 2147483647 := by
    rw [hv]
    exact ⟨Int32.le_toInt _, by have := Int32.toInt_lt (Int32.ofInt (markF (spF D k c))); unfold mkI; omega⟩
  refine s_aload_n C dX7_isSpokenLower_0 rfl ?_
  refine s_getR (c := 7) C fl_7_41 dX7_isSpokenLower_1 sh_0 rfl rf_0_7 ?_
  refine s_iload_n C dX7_isSpokenLower_4 rfl ?_
  refine s_cN1i C dX7_isSpokenLower_5 lkX7_320 moX5_firstIn mvX5_firstIn kX5_firstIn sh_12 ⟨_, _, rfl⟩ (by decide) (Nat.le_of_ble_eq_true rfl) rfl (by decide) (kpI (fun r5 hp5 => ?_))
  have hl5 : r5 = prv D c (bkI D c k) k.toNat := by rw [hp5.1, hbk]; exact hl.1 _ (by omega) (by omega)
  refine s_istore (ls2 := [some (vR 0), some (vR G), some (vI c), some (vI v), some (vI r5), none]) C dX7_isSpokenLower_8 (by decide) rfl ?_
  refine s_iconst C dX7_isSpokenLower_10 ?_
  refine s_istore (ls2 := [some (vR 0), some (vR G), some (vI c), some (vI v), some (vI r5), some (vI 0)]) C dX7_isSpokenLower_11 (by decide) rfl ?_
  have L13 : ∀ (n : Nat) (low : Int) (stp : Int) (τ : sv_G) (gn : Int), (1000 - stp).toNat < n → (0 ≤ gn ∧ gn ≤ k) → (low = prv D c (bkI D c k) gn.toNat) → (0 ≤ stp ∧ stp + gn ≤ k) → (frR σ τ 8) → (∀ j, gn ≤ j → j < k → spF D j c ≠ spF D k c) → (-2147483648 ≤ low ∧ low ≤ 2147483647) → SW X E Q 0 0 13 [some (vR 0), some (vR G), some (vI c), some (vI v), some (vI low), some (vI stp)] [] τ := by
    intro n
    induction n with
    | zero => intro low stp τ gn hm; exact absurd hm (Nat.not_lt_zero _)
    | succ n ih13 =>
      intro low stp τ gn hm13 i13_0 i13_1 i13_2 i13_3 i13_4 i13_5
      have hCt := hC.row hD hG sh_8 i13_3
      refine s_iload C dX7_isSpokenLower_13 rfl ?_
      refine s_sipush C dX7_isSpokenLower_15 (by decide) ?_
      have J87 : (low = -1) → SW X E Q 0 0 87 [some (vR 0), some (vR G), some (vI c), some (vI v), some (vI low), some (vI stp)] [] τ := by
        intro  j87_0
        refine s_iconst C dX7_isSpokenLower_87 ?_
        refine s_zret C hR dX7_isSpokenLower_88 rfl (by omega) ⟨_, rfl, ?_⟩ (by decide)
        refine ⟨i13_3, Or.inr ⟨rfl, fun j h1 h2 he => ?_⟩⟩
        by_cases q2 : j < gn
        · exact prv_gap (D := D) (c := c) (b := bkI D c k) gn.toNat j h1 (by rw [← i13_1]; omega) (by omega) ⟨by rw [he]; exact hne, by unfold bkI; rw [he]⟩
        · exact i13_4 j (by omega) h2 he
      refine s_icmp_gt (tgt := 87) C dX7_isSpokenLower_18 (by decide) (by omega) (by omega) (fun c18 => ?_) (fun c18 => ?_)
      · refine J87 ?_
        · exfalso; omega
      · refine s_iload C dX7_isSpokenLower_21 rfl ?_
        refine s_iconst C dX7_isSpokenLower_23 ?_
        refine s_icmp_eq (tgt := 87) C dX7_isSpokenLower_24 (by decide) (by omega) (by omega) (fun c24 => ?_) (fun c24 => ?_)
        · exact J87 (by first | assumption | omega)
        · have hpi : (0 ≤ low ∧ low < gn) ∧ spF D low c ≠ [] ∧ bkI D c low = bkI D c k := by
            have h9 := prv_in (D := D) (c := c) (b := bkI D c k) gn.toNat
            rw [← i13_1] at h9
            rcases h9 with q | q
            · exact absurd q c24
            · exact ⟨by omega, q.2⟩
          have hlo := hpi.1
          have hll := hl.2 low hlo.1 (by omega) hpi.2.1
          refine s_aload_n C dX7_isSpokenLower_27 rfl ?_
          refine s_getR (c := 7) C fl_7_41 dX7_isSpokenLower_28 sh_0 rfl rf_0_7 ?_
          refine s_iload C dX7_isSpokenLower_31 rfl ?_
          refine s_cN1i C dX7_isSpokenLower_33 lkX7_323 moX5_markOf mvX5_markOf (kX5_markOf (by omega)) sh_12 ⟨_, _, rfl⟩ (by decide) (Nat.le_of_ble_eq_true rfl) rfl (by decide) (kpI (fun r33 hp33 => ?_))
          have h33 : r33 = mkI (spF D low c) := by rw [hp33.1, i13_3 15 low (by decide) (by decide)]; exact hll.1
          refine s_iload_n C dX7_isSpokenLower_36 rfl ?_
          have J70 : ∀ (τ2 : sv_G), (frR σ τ2 8) → (spF D low c ≠ spF D k c) → SW X E Q 0 0 70 [some (vR 0), some (vR G), some (vI c), some (vI v), some (vI low), some (vI stp)] [] τ2 := by
            intro τ2 j70_0 j70_1
            refine s_aload_n C dX7_isSpokenLower_70 rfl ?_
            refine s_getR (c := 7) C fl_7_41 dX7_isSpokenLower_71 sh_0 rfl rf_0_7 ?_
            refine s_iload C dX7_isSpokenLower_74 rfl ?_
            refine s_cN1i C dX7_isSpokenLower_76 lkX7_329 moX5_behind mvX5_behind (kX5_behind (by omega)) sh_12 ⟨_, _, rfl⟩ (by decide) (Nat.le_of_ble_eq_true rfl) rfl (by decide) (kpI (fun r76 hp76 => ?_))
            have h76 : r76 = prv D c (bkI D c k) low.toNat := by
              rw [hp76.1, j70_0 14 low (by decide) (by decide), ← hpi.2.2]; exact hll.2
            refine s_istore (ls2 := [some (vR 0), some (vR G), some (vI c), some (vI v), some (vI r76), some (vI stp)]) C dX7_isSpokenLower_79 (by decide) rfl ?_
            obtain ⟨x5_81, ex5_81⟩ : ∃ y : Int, y = stp + 1 := ⟨_, rfl⟩
            refine s_iinc (z2 := x5_81) (ls2 := [some (vR 0), some (vR G), some (vI c), some (vI v), some (vI r76), some (vI x5_81)]) C dX7_isSpokenLower_81 (by decide) rfl ex5_81 rfl ?_
            refine s_goto (tgt := 13) C dX7_isSpokenLower_84 (by decide) ?_
            refine ih13 r76 x5_81 τ2 low (by omega) (by first | assumption | omega) ?_ (by first | assumption | omega) ?_ ?_ ?_
            · exact h76
            · exact j70_0
            · intro j h1 h2 he
              by_cases q : j = low
              · rw [q] at he; exact j70_1 he
              · by_cases q2 : j < gn
                · exact prv_gap (D := D) (c := c) (b := bkI D c k) gn.toNat j (by omega) (by rw [← i13_1]; omega) (by omega) ⟨by rw [he]; exact hne, by unfold bkI; rw [he]⟩
                · exact i13_4 j (by omega) h2 he
            · exact hp76.2
          refine s_icmp_ne (tgt := 70) C dX7_isSpokenLower_37 (by decide) (by omega) (by omega) (fun c37 => ?_) (fun c37 => ?_)
          · refine J70 τ ?_ ?_
            · exact i13_3
            · intro he; exact c37 (by rw [h33, hv, he])
          · refine s_aload_n C dX7_isSpokenLower_40 rfl ?_
            refine s_iload C dX7_isSpokenLower_41 rfl ?_
            refine s_iload_n C dX7_isSpokenLower_43 rfl ?_
            refine s_aload_n C dX7_isSpokenLower_44 rfl ?_
            refine s_getR (c := 7) C fl_7_28 dX7_isSpokenLower_45 sh_0 rfl rf_0_4 ?_
            refine s_cN3i C dX7_isSpokenLower_48 lkX7_176 moX4_speak mvX4_speak (kX4_speak (by exact hG) (by exact hD) (by exact hCt) (by omega) (by omega) (by exact sh_8)) hG ⟨_, _, rfl⟩ (by decide) (Nat.le_of_ble_eq_true rfl) rfl (by decide) (fun r48 σ_48 hp48 => ?_)
            have hb48 := zo1 hp48.2.2
            have f48 := i13_3.tr hp48.1
            have hw48 : Rw σ_48 6 (spF D k c) := hw.fr fun b i h1 h2 => f48 b i (by omega) (by omega)
            refine s_if_eq (tgt := 70) C dX7_isSpokenLower_51 (by decide) (by omega) (fun c51 => ?_) (fun c51 => ?_)
            · refine J70 σ_48 ?_ ?_
              · exact f48
              · rcases hp48.2.2 with q | q
                · exfalso; omega
                · exact absurd q.2 hpi.2.1
            · refine s_aload_n C dX7_isSpokenLower_54 rfl ?_
              refine s_getR (c := 7) C fl_7_28 dX7_isSpokenLower_55 sh_0 rfl rf_0_4 ?_
              refine s_aload_n C dX7_isSpokenLower_58 rfl ?_
              refine s_getR (c := 7) C fl_7_25 dX7_isSpokenLower_59 sh_0 rfl rf_0_3 ?_
              refine s_cN1i C dX7_isSpokenLower_62 lkX7_326 moX6_same mvX6_same (kX6_same (by exact sh_8) (by exact sh_6) (by exact hp48.2.1) (by exact hw48)) sh_8 ⟨_, _, rfl⟩ (by decide) (Nat.le_of_ble_eq_true rfl) rfl (by decide) (kpI (fun r62 hp62 => ?_))
              have hb62 := zo1 hp62
              refine s_if_eq (tgt := 70) C dX7_isSpokenLower_65 (by decide) (by omega) (fun c65 => ?_) (fun c65 => ?_)
              · refine J70 σ_48 ?_ ?_
                · exact f48
                · rcases hp62 with q | q
                  · exfalso; omega
                  · exact q.2
              · refine s_iconst C dX7_isSpokenLower_68 ?_
                refine s_zret C hR dX7_isSpokenLower_69 rfl (by omega) ⟨_, rfl, ?_⟩ (by decide)
                rcases hp62 with q | q
                · exact ⟨f48, Or.inl ⟨rfl, low, hlo.1, by omega, q.2⟩⟩
                · exfalso; omega
  refine L13 _ r5 0 σ k (Nat.lt_succ_self _) (by first | assumption | omega) ?_ (by first | assumption | omega) ?_ ?_ ?_
  · exact hl5
  · exact frR.rf
  · intro j h1 h2; omega
  · exact hp5.2
noncomputable def op_clash (S : st_T) (x y z : Int) : op_T := ((if ¬ (0 ≤ x ∧ x ≤ 3 ∧ 0 ≤ y ∧ y ≤ 2) then 1 else if ¬ (0 ≤ z ∧ z ≤ 999) then 2 else 0 : Int), clR (sD S x) y (z + 1).toNat 0, S)

set_option maxRecDepth 100000 in
set_option maxHeartbeats 8000000 in
theorem kX7_clash {E : sv_E} {σ : sv_G} {S : st_T} (hS : StOK S) (hN : RN σ S) {x : Int} (hx : -2147483648 ≤ x ∧ x ≤ 2147483647) {y : Int} (hy : -2147483648 ≤ y ∧ y ≤ 2147483647) {z : Int} (hz : -2147483648 ≤ z ∧ z ≤ 2147483647) : CX E MX7_clash 89 [(vR 0), (vI x), (vI y), (vI z)] σ (PI fun r σ9 => oP σ σ9 r (op_clash S x y z)) (px3 σ (op_clash S x y z).1 xI xA "") := by
  refine CX.of (RX7, cX7_clash, 7, (some .int), [], 89, 3, 18) rfl moX7_clash (by decide +kernel) (Nat.le_of_ble_eq_true rfl) (ls0 := [some (vR 0), some (vI x), some (vI y), some (vI z), none, none, none]) rfl ?_
  intro X Q C hR hT
  refine s_aload_n C dX7_clash_0 rfl ?_
  refine s_iload_n C dX7_clash_1 rfl ?_
  refine s_iload_n C dX7_clash_2 rfl ?_
  refine s_iload_n C dX7_clash_3 rfl ?_
  refine sx_cV3r (u2 := 3) (w2 := 18) C dX7_clash_4 lkX7_203 moX7_grammarToHear mvX7_grammarToHear (kX7_grammarToHear (by omega) (by omega) (by omega)) sh_0 ⟨_, _, rfl⟩ (by decide) (Nat.le_of_ble_eq_true rfl) (by decide) (by decide) hT rfl (by decide) (fun En σ9 h => ⟨h.1, h.2.elim (fun q => Or.inl ⟨q.1, by have h3 := q.2; unfold op_clash; dsimp only; (repeat' split) <;> omega⟩) (fun q => Or.inr (Or.inl ⟨q.1, by have h3 := q.2; unfold op_clash; dsimp only; (repeat' split) <;> omega⟩))⟩) (kpI (fun r4 hp4 => ?_))
  have hr := hp4.2.1
  have hsh := hp4.2.2
  have hD := hS.1 x (by omega) (by omega)
  have hC : RC σ r4 (sD S x) := by rw [hr]; exact hN.1 x (by omega) (by omega)
  have hnb := hD.2.2.2.1
  have hn1 : σ r4 2 = gC (sD S x) 1 := hC.2.2.2.1
  refine s_astore (ls2 := [some (vR 0), some (vI x), some (vI y), some (vI z), some (vR r4), none, none]) C dX7_clash_7 (by decide) rfl ?_
  refine s_aload_n C dX7_clash_9 rfl ?_
  refine s_getR (c := 7) C fl_7_41 dX7_clash_10 sh_0 rfl rf_0_7 ?_
  refine s_cN0v C dX7_clash_13 lkX7_229 moX5_clear mvX5_clear kX5_clear sh_12 ⟨_, _, rfl⟩ (by decide) (Nat.le_of_ble_eq_true rfl) rfl (by decide) (fun σ_13 hp13 => ?_)
  refine s_iconst C dX7_clash_16 ?_
  refine s_istore (ls2 := [some (vR 0), some (vI x), some (vI y), some (vI z), some (vR r4), some (vI 0), none]) C dX7_clash_17 (by decide) rfl ?_
  have L19 : ∀ (n : Nat) (m : Int) (τ : sv_G), (1000 - m).toNat < n → (0 ≤ m ∧ m ≤ z + 1) → (frS σ τ) → (LkI τ (sD S x) y m) → (clR (sD S x) y (z + 1).toNat 0 = clR (sD S x) y (z + 1 - m).toNat m.toNat) → SW X E Q 3 18 19 [some (vR 0), some (vI x), some (vI y), some (vI z), some (vR r4), some (vI m), none] [] τ := by
    intro n
    induction n with
    | zero => intro m τ hm; exact absurd hm (Nat.not_lt_zero _)
    | succ n ih19 =>
      intro m τ hm19 i19_0 i19_1 i19_2 i19_3
      have hCt : RC τ r4 (sD S x) := by rw [hr]; exact (hN.ls hS i19_1).1 x (by omega) (by omega)
      refine s_iload C dX7_clash_19 rfl ?_
      refine s_iload_n C dX7_clash_21 rfl ?_
      refine s_icmp_gt (tgt := 81) C dX7_clash_22 (by decide) (by omega) (by omega) (fun c22 => ?_) (fun c22 => ?_)
      · refine s_iconst C dX7_clash_81 ?_
        refine s_iret C hR dX7_clash_82 rfl ⟨_, rfl, ?_⟩ (by decide)
        exact oP.ls hS hN i19_1 (by (repeat' split) <;> omega) (by rw [i19_3, show (z + 1 - m).toNat = 0 by omega]; rfl)
      · refine s_aload C dX7_clash_25 rfl ?_
        refine s_iload C dX7_clash_27 rfl ?_
        refine s_iload_n C dX7_clash_29 rfl ?_
        refine s_aload_n C dX7_clash_30 rfl ?_
        refine s_getR (c := 7) C fl_7_25 dX7_clash_31 sh_0 rfl rf_0_3 ?_
        refine s_cN3i C dX7_clash_34 lkX7_176 moX4_speak mvX4_speak (kX4_speak (by exact hsh) (by exact hD) (by exact hCt) (by omega) (by omega) (by exact sh_6)) hp4.2.2 ⟨_, _, rfl⟩ (by decide) (Nat.le_of_ble_eq_true rfl) rfl (by decide) (fun r34 σ_34 hp34 => ?_)
        have hb34 := zo1 hp34.2.2
        have f34 : frS σ σ_34 := i19_1.tr (frS.of hp34.1 (by decide) (by decide))
        have hl34 : LkI σ_34 (sD S x) y m := i19_2.fr fun b i h1 h2 => hp34.1 b i (by omega) (by omega)
        have J75 : ∀ (τ3 : sv_G), (frS σ τ3) → (LkI τ3 (sD S x) y (m + 1)) → (clR (sD S x) y (z + 1).toNat 0 = clR (sD S x) y (z + 1 - (m + 1)).toNat (m + 1).toNat) → SW X E Q 3 18 75 [some (vR 0), some (vI x), some (vI y), some (vI z), some (vR r4), some (vI m), none] [] τ3 := by
          intro τ3 j75_0 j75_1 j75_2
          obtain ⟨x5_75, ex5_75⟩ : ∃ y : Int, y = m + 1 := ⟨_, rfl⟩
          refine s_iinc (z2 := x5_75) (ls2 := [some (vR 0), some (vI x), some (vI y), some (vI z), some (vR r4), some (vI x5_75), none]) C dX7_clash_75 (by decide) rfl ex5_75 rfl ?_
          refine s_goto (tgt := 19) C dX7_clash_78 (by decide) ?_
          refine ih19 x5_75 τ3 (by omega) (by first | assumption | omega) ?_ ?_ ?_
          · exact j75_0
          · rw [show x5_75 = m + 1 from ex5_75]; exact j75_1
          · rw [show x5_75 = m + 1 from ex5_75]; exact j75_2
        refine s_if_eq (tgt := 75) C dX7_clash_37 (by decide) (by omega) (fun c37 => ?_) (fun c37 => ?_)
        · refine J75 σ_34 ?_ ?_ ?_
          · exact f34
          · rcases hp34.2.2 with q | q
            · exfalso; omega
            · exact hl34.no (by omega) q.2
          · rw [i19_3, clR_n (by omega)]
            rintro ⟨q1, -⟩
            rcases hp34.2.2 with q | q
            · omega
            · exact q1 q.2
        · have hne : spF (sD S x) m y ≠ [] := by
            rcases hp34.2.2 with q | q
            · exact q.2
            · exfalso; omega
          have hC34 : RC σ_34 r4 (sD S x) := by rw [hr]; exact (hN.ls hS f34).1 x (by omega) (by omega)
          refine s_aload_n C dX7_clash_40 rfl ?_
          refine s_getR (c := 7) C fl_7_25 dX7_clash_41 sh_0 rfl rf_0_3 ?_
          refine s_cN0i C dX7_clash_44 lkX7_230 moX6_mark mvX6_mark (kX6_mark (by exact sh_6) (by exact hp34.2.1)) sh_6 ⟨_, _, rfl⟩ (by decide) (Nat.le_of_ble_eq_true rfl) rfl (by decide) (kpI (fun r44 hp44 => ?_))
          refine s_istore (ls2 := [some (vR 0), some (vI x), some (vI y), some (vI z), some (vR r4), some (vI m), some (vI r44)]) C dX7_clash_47 (by decide) rfl ?_
          refine s_aload_n C dX7_clash_49 rfl ?_
          refine s_aload C dX7_clash_50 rfl ?_
          refine s_iload_n C dX7_clash_52 rfl ?_
          refine s_iload C dX7_clash_53 rfl ?_
          refine s_cV3i C dX7_clash_55 lkX7_233 moX7_isSpokenLower mvX7_isSpokenLower (kX7_isSpokenLower hsh hD hC34 (k := m) (by omega) (by omega) hl34 hp34.2.1 hp44.2 hne) sh_0 ⟨_, _, rfl⟩ (by decide) (Nat.le_of_ble_eq_true rfl) rfl (by decide) (fun r55 σ_55 hp55 => ?_)
          have f55 : frS σ σ_55 := f34.tr (frS.of hp55.1 (by decide) (by decide))
          have hb55 := zo1 hp55.2
          have hl55 : LkI σ_55 (sD S x) y m := hl34.fr fun b i h1 h2 => hp55.1 b i (by omega) (by omega)
          have hcp : (r55 = 1 ∧ clP (sD S x) y m) ∨ (r55 = 0 ∧ ¬ clP (sD S x) y m) := by
            rcases hp55.2 with ⟨q1, q2⟩ | ⟨q1, q2⟩
            · exact Or.inl ⟨q1, hne, q2⟩
            · refine Or.inr ⟨q1, fun h => ?_⟩
              obtain ⟨-, j, h1, h2, h3⟩ := h
              exact q2 j h1 h2 h3
          refine s_if_eq (tgt := 64) C dX7_clash_58 (by decide) (by omega) (fun c58 => ?_) (fun c58 => ?_)
          · refine s_aload_n C dX7_clash_64 rfl ?_
            refine s_getR (c := 7) C fl_7_41 dX7_clash_65 sh_0 rfl rf_0_7 ?_
            refine s_iload C dX7_clash_68 rfl ?_
            refine s_iload C dX7_clash_70 rfl ?_
            refine s_cN2v C dX7_clash_72 lkX7_236 moX5_put mvX5_put (kX5_put (by omega) (by omega)) sh_12 ⟨_, _, rfl⟩ (by decide) (Nat.le_of_ble_eq_true rfl) rfl (by decide) (fun σ_72 hp72 => ?_)
            refine s_weak (ls2 := [some (vR 0), some (vI x), some (vI y), some (vI z), some (vR r4), some (vI m), none]) (sv_wk_c (sv_wk_c (sv_wk_c (sv_wk_c (sv_wk_c (sv_wk_c (sv_wk_n sv_wk_0))))))) ?_
            refine J75 σ_72 ?_ ?_ ?_
            · exact fun b k q => by rw [hp72, up_a (by omega), up_a (by omega), up_a (by omega)]; exact f55 b k q
            · rw [hp44.2] at hp72
              exact hl55.put (by omega) hne hp72
            · rcases hcp with q | q
              · exfalso; omega
              · rw [i19_3, clR_n (by omega) q.2]
          · refine s_iload C dX7_clash_61 rfl ?_
            refine s_iret C hR dX7_clash_63 rfl ⟨_, rfl, ?_⟩ (by decide)
            rcases hcp with q | q
            · exact oP.ls hS hN f55 (by (repeat' split) <;> omega) (by rw [i19_3, clR_y (by omega) q.2])
            · exfalso; omega
  refine L19 _ 0 σ_13 (Nat.lt_succ_self _) (by first | assumption | omega) ?_ ?_ ?_
  · exact fun b k q => hp13.2 b k (by omega)
  · exact ⟨fun b h1 h2 => hp13.1 b h1 h2, fun j h1 h2 _ => by omega⟩
  · rw [show (z + 1 - 0).toNat = (z + 1).toNat by omega]; rfl
