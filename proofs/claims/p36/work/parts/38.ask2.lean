theorem fsL_len {D : gd_T} {p j : Int} {E : List (Int × List Int)} : (fsL D p j E).length ≤ 32 := (fsR_in 32).1
theorem fsL_in {D : gd_T} {p j : Int} {E : List (Int × List Int)} : ∀ s ∈ fsL D p j E, 0 ≤ s ∧ s ≤ 31 := fun s h => by
  have h9 : 0 ≤ s ∧ s < (32 : Nat) := (fsR_in (D := D) (p := p) (j := j) (E := E) 32).2 s h
  omega
theorem anS_b {D : gd_T} {p j : Int} {F : List Int} : ∀ k : Nat, (-1 ≤ (anS D p j F k).1 ∧ (anS D p j F k).1 < k) ∧ 0 ≤ (anS D p j F k).2 ∧ (anS D p j F k).2 ≤ F.length
  | 0 => ⟨⟨Int.le_refl _, by show (-1 : Int) < ((0 : Nat) : Int); decide⟩, Int.natCast_nonneg _, Int.le_refl _⟩
  | k + 1 => by
    have ih := anS_b (D := D) (p := p) (j := j) (F := F) k
    have hm := mxR_in (R := anR D p j F (k : Int)) (n := F.length) F.length
    unfold anS
    split
    · exact ⟨⟨by show -1 ≤ (k : Int); omega, by show (k : Int) < ((k + 1 : Nat) : Int); omega⟩, hm⟩
    · exact ⟨⟨ih.1.1, by omega⟩, ih.2⟩
def frU (σ σ9 : sv_G) : Prop := ∀ b k, b ≠ 6 → b ≠ 7 → b ≠ 18 → (b < 131 ∨ 194 < b) → σ9 b k = σ b k
theorem oP.U {σ σ9 : sv_G} {S : st_T} {c v r : Int} (hS : StOK S) (hN : RN σ S) (hf : frU σ σ9) (hc : c = 0) (hr : r = v) : oP σ σ9 r (c, v, S) := ⟨hc, hr, hN.fr hS fun b k q => hf b k (by omega) (by omega) (by omega) (by omega), hS, fun b k q => hf b k (by omega) (by omega) (by omega) (by omega)⟩

set_option maxRecDepth 100000 in
set_option maxHeartbeats 8000000 in
theorem kX7_askNumber {E : sv_E} {σ : sv_G} {S : st_T} (hS : StOK S) (hN : RN σ S) {x : Int} (hx : -2147483648 ≤ x ∧ x ≤ 2147483647) {y : Int} (hy : -2147483648 ≤ y ∧ y ≤ 2147483647) {z : Int} (hz : -2147483648 ≤ z ∧ z ≤ 2147483647) {v : Int} (hv : -2147483648 ≤ v ∧ v ≤ 2147483647) : CX E MX7_askNumber 90 [(vR 0), (vI x), (vI y), (vI z), (vI v)] σ (PI fun r σ9 => oP σ σ9 r (op_askNumber S x y z v)) (px3 σ (op_askNumber S x y z v).1 xI xA "") := by
  refine CX.of (RX7, cX7_askNumber, 12, (some .int), [], 90, 4, 24) rfl moX7_askNumber (by decide +kernel) (Nat.le_of_ble_eq_true rfl) (ls0 := [some (vR 0), some (vI x), some (vI y), some (vI z), some (vI v), none, none, none, none, none, none, none]) rfl ?_
  intro X Q C hR hT
  refine s_aload_n C dX7_askNumber_0 rfl ?_
  refine s_iload_n C dX7_askNumber_1 rfl ?_
  refine sx_cV1r (u2 := 1) (w2 := 6) C dX7_askNumber_2 lkX7_70 moX7_grammarAt mvX7_grammarAt (kX7_grammarAt (by omega)) sh_0 ⟨_, _, rfl⟩ (by decide) (Nat.le_of_ble_eq_true rfl) (by decide) (by decide) hT rfl (by decide) (fun En σ9 h => ⟨h.1, Or.inl ⟨h.2.1, by have h3 := h.2.2; unfold op_askNumber; dsimp only; (repeat' split) <;> omega⟩⟩) (kpI (fun r2 hp2 => ?_))
  have hr := hp2.2.1
  have hsh := hp2.2.2
  have hD := hS.1 x (by omega) (by omega)
  have hC : RC σ r2 (sD S x) := by rw [hr]; exact hN.1 x (by omega) (by omega)
  have hnb := hD.2.2.2.1
  have hn1 : σ r2 2 = gC (sD S x) 1 := hC.2.2.2.1
  refine s_astore (ls2 := [some (vR 0), some (vI x), some (vI y), some (vI z), some (vI v), some (vR r2), none, none, none, none, none, none]) C dX7_askNumber_5 (by decide) rfl ?_
  refine s_aload C dX7_askNumber_7 rfl ?_
  refine s_iload_n C dX7_askNumber_9 rfl ?_
  refine sx_cS2r (u2 := 2) (w2 := 12) C dX7_askNumber_10 lkX7_123 moX7_baseAt mvX7_baseAt (kX7_baseAt (by exact hsh) (by exact hn1) (by omega) (by omega)) (by decide) (Nat.le_of_ble_eq_true rfl) (by decide) (by decide) hT rfl (by decide) (fun En σ9 h => ⟨h.1, Or.inl ⟨h.2.1, by have h3 := h.2.2; unfold op_askNumber; dsimp only; (repeat' split) <;> omega⟩⟩) (kpI (fun r10 hp10 => ?_))
  refine s_astore (ls2 := [some (vR 0), some (vI x), some (vI y), some (vI z), some (vI v), some (vR r2), some (vR r10), none, none, none, none, none]) C dX7_askNumber_13 (by decide) rfl ?_
  refine s_iload_n C dX7_askNumber_15 rfl ?_
  refine sx_cS1v (u2 := 3) (w2 := 18) C dX7_askNumber_16 lkX7_78 moX7_needWord mvX7_needWord (kX7_needWord (by omega)) (by decide) (Nat.le_of_ble_eq_true rfl) (by decide) (by decide) hT rfl (by decide) (fun En σ9 h => ⟨h.1, Or.inl ⟨h.2.1, by have h3 := h.2.2; unfold op_askNumber; dsimp only; (repeat' split) <;> omega⟩⟩) (kpV (fun hp16 => ?_))
  refine s_iload C dX7_askNumber_19 rfl ?_
  refine s_iconst C dX7_askNumber_21 ?_
  refine s_bipush C dX7_askNumber_22 (by decide) ?_
  refine sx_cS3v (u2 := 4) (w2 := 24) C dX7_askNumber_24 lkX7_82 moX7_needRange mvX7_needRange (kX7_needRange (by omega) (by decide) (by decide)) (by decide) (Nat.le_of_ble_eq_true rfl) (by decide) (by decide) hT rfl (by decide) (fun En σ9 h => ⟨h.1, Or.inr (Or.inl ⟨h.2.1, by have h3 := h.2.2; unfold op_askNumber; dsimp only; (repeat' split) <;> omega⟩)⟩) (kpV (fun hp24 => ?_))
  refine s_aload_n C dX7_askNumber_27 rfl ?_
  refine s_aload C dX7_askNumber_28 rfl ?_
  refine s_aload C dX7_askNumber_30 rfl ?_
  refine s_iload_n C dX7_askNumber_32 rfl ?_
  have hEs : EXs σ (sE S) := ⟨hN.2.2.2.1, hN.2.2.2.2.1⟩
  have hfs := kX7_findSettings (E := E) (σ := σ) hsh hD hC hEs hS.2.2.2.1.1 hS.2.2.2.1.2 (p := y) (z := z) (by omega) (by omega)
  rw [← hp10.2.1] at hfs
  refine s_cV3i C dX7_askNumber_33 lkX7_242 moX7_findSettings mvX7_findSettings hfs sh_0 ⟨_, _, rfl⟩ (by decide) (Nat.le_of_ble_eq_true rfl) rfl (by decide) (fun r33 σ_33 hp33 => ?_)
  have hfl : (fsL (sD S x) y z (sE S)).length ≤ 32 := fsL_len
  have f33 : frU σ σ_33 := fun b k h1 h2 h3 _ => hp33.2.1 b k h1 h2 h3
  refine s_istore (ls2 := [some (vR 0), some (vI x), some (vI y), some (vI z), some (vI v), some (vR r2), some (vR r10), some (vI r33), none, none, none, none]) C dX7_askNumber_36 (by decide) rfl ?_
  refine s_iconst C dX7_askNumber_38 ?_
  refine s_istore (ls2 := [some (vR 0), some (vI x), some (vI y), some (vI z), some (vI v), some (vR r2), some (vR r10), some (vI r33), some (vI (-1)), none, none, none]) C dX7_askNumber_39 (by decide) rfl ?_
  refine s_iload C dX7_askNumber_41 rfl ?_
  refine s_istore (ls2 := [some (vR 0), some (vI x), some (vI y), some (vI z), some (vI v), some (vR r2), some (vR r10), some (vI r33), some (vI (-1)), some (vI r33), none, none]) C dX7_askNumber_43 (by decide) rfl ?_
  refine s_iconst C dX7_askNumber_45 ?_
  refine s_istore (ls2 := [some (vR 0), some (vI x), some (vI y), some (vI z), some (vI v), some (vR r2), some (vR r10), some (vI r33), some (vI (-1)), some (vI r33), some (vI 0), none]) C dX7_askNumber_46 (by decide) rfl ?_
  have L48 : ∀ (n : Nat) (bst : Int) (few : Int) (m : Int) (τ : sv_G), (100 - m).toNat < n → (0 ≤ m ∧ m ≤ v + 1) → (frU σ τ) → (∀ i : Nat, i < (fsL (sD S x) y z (sE S)).length → τ 18 i = (fsL (sD S x) y z (sE S)).getD i 0) → (bst = (anS (sD S x) y z (fsL (sD S x) y z (sE S)) m.toNat).1) → (few = (anS (sD S x) y z (fsL (sD S x) y z (sE S)) m.toNat).2) → SW X E Q 4 24 48 [some (vR 0), some (vI x), some (vI y), some (vI z), some (vI v), some (vR r2), some (vR r10), some (vI r33), some (vI bst), some (vI few), some (vI m), none] [] τ := by
    intro n
    induction n with
    | zero => intro bst few m τ hm; exact absurd hm (Nat.not_lt_zero _)
    | succ n ih48 =>
      intro bst few m τ hm48 i48_0 i48_1 i48_2 i48_3 i48_4
      have hab := anS_b (D := sD S x) (p := y) (j := z) (F := (fsL (sD S x) y z (sE S))) m.toNat
      have hfl2 : (fsL (sD S x) y z (sE S)).length ≤ 32 := fsL_len
      have hshG := shG hsh
      refine s_iload C dX7_askNumber_48 rfl ?_
      refine s_iload C dX7_askNumber_50 rfl ?_
      refine s_icmp_gt (tgt := 97) C dX7_askNumber_52 (by decide) (by omega) (by omega) (fun c52 => ?_) (fun c52 => ?_)
      · refine s_iload C dX7_askNumber_97 rfl ?_
        refine s_iret C hR dX7_askNumber_99 rfl ⟨_, rfl, ?_⟩ (by decide)
        exact oP.U hS hN i48_1 (by (repeat' split) <;> omega) (by rw [i48_3, show m.toNat = (v + 1).toNat by omega])
      · refine s_aload_n C dX7_askNumber_55 rfl ?_
        refine s_aload C dX7_askNumber_56 rfl ?_
        refine s_aload C dX7_askNumber_58 rfl ?_
        refine s_iload_n C dX7_askNumber_60 rfl ?_
        refine s_iload C dX7_askNumber_61 rfl ?_
        refine s_iload C dX7_askNumber_63 rfl ?_
        have hCt : RC τ r2 (sD S x) := hC.fr hD fun b k h1 h2 => i48_1 b k (by omega) (by omega) (by omega) (by omega)
        have hsb := kX7_speakBySettings (E := E) (σ := τ) hsh hD hCt (p := y) (z := z) (nn := m) (f := r33) (by omega) (by omega) (by omega) (F := (fsL (sD S x) y z (sE S))) fsL_len fsL_in i48_2 hp33.1
        rw [← hp10.2.1] at hsb
        refine s_cV5v C dX7_askNumber_65 lkX7_251 moX7_speakBySettings mvX7_speakBySettings hsb sh_0 ⟨_, _, rfl⟩ (by decide) (Nat.le_of_ble_eq_true rfl) rfl (by decide) (fun σ_65 hp65 => ?_)
        have f65 : frU σ σ_65 := fun b k h1 h2 h3 h4 => (hp65.1 b k h4).trans (i48_1 b k h1 h2 h3 h4)
        refine s_aload_n C dX7_askNumber_68 rfl ?_
        refine s_iload C dX7_askNumber_69 rfl ?_
        refine s_cV1i C dX7_askNumber_71 lkX7_255 moX7_greatestAlike mvX7_greatestAlike (kX7_greatestAlike (R := anR (sD S x) y z (fsL (sD S x) y z (sE S)) m) (N := (fsL (sD S x) y z (sE S)).length) fsL_len hp65.2 hp33.1) sh_0 ⟨_, _, rfl⟩ (by decide) (Nat.le_of_ble_eq_true rfl) rfl (by decide) (kpI (fun r71 hp71 => ?_))
        have hmx := mxR_in (R := anR (sD S x) y z (fsL (sD S x) y z (sE S)) m) (n := (fsL (sD S x) y z (sE S)).length) (fsL (sD S x) y z (sE S)).length
        have hst := anS_s (D := sD S x) (p := y) (j := z) (m := m) (F := (fsL (sD S x) y z (sE S))) (by omega)
        refine s_istore (ls2 := [some (vR 0), some (vI x), some (vI y), some (vI z), some (vI v), some (vR r2), some (vR r10), some (vI r33), some (vI bst), some (vI few), some (vI m), some (vI r71)]) C dX7_askNumber_74 (by decide) rfl ?_
        refine s_iload C dX7_askNumber_76 rfl ?_
        refine s_iload C dX7_askNumber_78 rfl ?_
        have J91 : ∀ (b2 : Int) (f2 : Int), (b2 = (anS (sD S x) y z (fsL (sD S x) y z (sE S)) (m + 1).toNat).1) → (f2 = (anS (sD S x) y z (fsL (sD S x) y z (sE S)) (m + 1).toNat).2) → SW X E Q 4 24 91 [some (vR 0), some (vI x), some (vI y), some (vI z), some (vI v), some (vR r2), some (vR r10), some (vI r33), some (vI b2), some (vI f2), some (vI m), none] [] σ_65 := by
          intro b2 f2 j91_0 j91_1
          obtain ⟨x10_91, ex10_91⟩ : ∃ y : Int, y = m + 1 := ⟨_, rfl⟩
          refine s_iinc (z2 := x10_91) (ls2 := [some (vR 0), some (vI x), some (vI y), some (vI z), some (vI v), some (vR r2), some (vR r10), some (vI r33), some (vI b2), some (vI f2), some (vI x10_91), none]) C dX7_askNumber_91 (by decide) rfl ex10_91 rfl ?_
          refine s_goto (tgt := 48) C dX7_askNumber_94 (by decide) ?_
          refine ih48 b2 f2 x10_91 σ_65 (by omega) (by first | assumption | omega) ?_ ?_ ?_ ?_
          · exact f65
          · exact fun i hi => by rw [hp65.1 18 i (by omega)]; exact i48_2 i hi
          · rw [show x10_91 = m + 1 from ex10_91]; exact j91_0
          · rw [show x10_91 = m + 1 from ex10_91]; exact j91_1
        refine s_icmp_ge (tgt := 91) C dX7_askNumber_80 (by decide) (by omega) (by omega) (fun c80 => ?_) (fun c80 => ?_)
        · refine s_weak (ls2 := [some (vR 0), some (vI x), some (vI y), some (vI z), some (vI v), some (vR r2), some (vR r10), some (vI r33), some (vI bst), some (vI few), some (vI m), none]) (sv_wk_c (sv_wk_c (sv_wk_c (sv_wk_c (sv_wk_c (sv_wk_c (sv_wk_c (sv_wk_c (sv_wk_c (sv_wk_c (sv_wk_c (sv_wk_n sv_wk_0)))))))))))) ?_
          refine J91 bst few ?_ ?_
          · rw [hst, if_neg (by omega)]; exact i48_3
          · rw [hst, if_neg (by omega)]; exact i48_4
        · refine s_iload C dX7_askNumber_83 rfl ?_
          refine s_istore (ls2 := [some (vR 0), some (vI x), some (vI y), some (vI z), some (vI v), some (vR r2), some (vR r10), some (vI r33), some (vI bst), some (vI r71), some (vI m), some (vI r71)]) C dX7_askNumber_85 (by decide) rfl ?_
          refine s_iload C dX7_askNumber_87 rfl ?_
          refine s_istore (ls2 := [some (vR 0), some (vI x), some (vI y), some (vI z), some (vI v), some (vR r2), some (vR r10), some (vI r33), some (vI m), some (vI r71), some (vI m), some (vI r71)]) C dX7_askNumber_89 (by decide) rfl ?_
          refine s_weak (ls2 := [some (vR 0), some (vI x), some (vI y), some (vI z), some (vI v), some (vR r2), some (vR r10), some (vI r33), some (vI m), some (vI r71), some (vI m), none]) (sv_wk_c (sv_wk_c (sv_wk_c (sv_wk_c (sv_wk_c (sv_wk_c (sv_wk_c (sv_wk_c (sv_wk_c (sv_wk_c (sv_wk_c (sv_wk_n sv_wk_0)))))))))))) ?_
          refine J91 m r71 ?_ ?_
          · rw [hst, if_pos (by omega)]
          · rw [hst, if_pos (by omega)]; exact hp71
  refine L48 _ (-1) r33 0 σ_33 (Nat.lt_succ_self _) (by first | assumption | omega) ?_ ?_ ?_ ?_
  · exact f33
  · exact hp33.2.2
  · rfl
  · exact hp33.1
