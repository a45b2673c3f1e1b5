/-- how many of the first rows are one; the most among the first k -/
def ctR (R : Nat → List Int) (x : List Int) : Nat → Int
  | 0 => 0
  | j + 1 => ctR R x j + (if R j = x then 1 else 0)
def mxR (R : Nat → List Int) (n : Nat) : Nat → Int
  | 0 => 0
  | i + 1 => if mxR R n i < ctR R (R i) n then ctR R (R i) n else mxR R n i
theorem ctR_b {R : Nat → List Int} {x : List Int} : ∀ (i d : Nat), ctR R x i ≤ ctR R x (i + d) ∧ ctR R x (i + d) - ctR R x i ≤ d
  | i, 0 => by simp
  | i, d + 1 => by
    have ih := ctR_b (R := R) (x := x) i d
    have hs : ctR R x (i + (d + 1)) = ctR R x (i + d) + (if R (i + d) = x then 1 else 0) := rfl
    rw [hs]
    split <;> omega
theorem ctR_nn {R : Nat → List Int} {x : List Int} : ∀ i : Nat, 0 ≤ ctR R x i
  | 0 => Int.le_refl _
  | i + 1 => by
    have := ctR_nn (R := R) (x := x) i
    unfold ctR
    split <;> omega
theorem ctR_0 {R : Nat → List Int} {x : List Int} : ∀ i : Nat, (∀ j, j < i → R j ≠ x) → ctR R x i = 0
  | 0, _ => rfl
  | i + 1, h => by
    unfold ctR
    rw [if_neg (h i (Nat.lt_succ_self i)), ctR_0 i fun j hj => h j (Nat.lt_succ_of_lt hj)]
    rfl
theorem first_R {R : Nat → List Int} : ∀ i : Nat, ∃ j, j ≤ i ∧ R j = R i ∧ ctR R (R i) j = 0 := by
  intro i
  induction i using Nat.strongRecOn with
  | ind i ih =>
    by_cases h : ∃ j, j < i ∧ R j = R i
    · obtain ⟨j, h1, h2⟩ := h
      obtain ⟨j0, g1, g2, g3⟩ := ih j h1
      exact ⟨j0, by omega, g2.trans h2, by rw [← h2]; exact g3⟩
    · exact ⟨i, Nat.le_refl _, rfl, ctR_0 i fun j hj q => h ⟨j, hj, q⟩⟩
theorem mxR_ge {R : Nat → List Int} {n : Nat} : ∀ (k i : Nat), i < k → ctR R (R i) n ≤ mxR R n k
  | 0, i, h => absurd h (Nat.not_lt_zero i)
  | k + 1, i, h => by
    unfold mxR
    by_cases q : i = k
    · rw [q]; split <;> omega
    · have := mxR_ge (R := R) (n := n) k i (by omega)
      split <;> omega
theorem mxR_le {R : Nat → List Int} {n : Nat} {g : Int} (hg : 0 ≤ g) : ∀ k : Nat, (∀ i, i < k → ctR R (R i) n ≤ g) → mxR R n k ≤ g
  | 0, _ => hg
  | k + 1, h => by
    have h1 := h k (Nat.lt_succ_self k)
    have h2 := mxR_le hg k fun i hi => h i (Nat.lt_succ_of_lt hi)
    unfold mxR
    split <;> omega
theorem mxR_in {R : Nat → List Int} {n : Nat} : ∀ k : Nat, 0 ≤ mxR R n k ∧ mxR R n k ≤ n
  | 0 => ⟨Int.le_refl _, Int.natCast_nonneg n⟩
  | k + 1 => by
    have ih := mxR_in (R := R) (n := n) k
    have h1 := ctR_b (R := R) (x := R k) 0 n
    have h2 := ctR_nn (R := R) (x := R k) n
    rw [Nat.zero_add] at h1
    have h3 : ctR R (R k) 0 = 0 := rfl
    unfold mxR
    split <;> omega
theorem mxR_fin {R : Nat → List Int} {n m : Nat} {g : Int} (hm : (n : Int) - g ≤ m) (hmn : m ≤ n) (h0 : 0 ≤ g) (h1 : g ≤ mxR R n n) (h2 : ∀ i : Nat, i < m → ctR R (R i) n - ctR R (R i) i ≤ g) : g = mxR R n n := by
  have h3 : mxR R n n ≤ g := mxR_le h0 n fun i hi => by
    obtain ⟨j, g1, g2, g3⟩ := first_R (R := R) i
    rw [← g2] at g3 ⊢
    by_cases q : j < m
    · have := h2 j q; omega
    · have h4 := (ctR_b (R := R) (x := R j) j (n - j)).2
      rw [show j + (n - j) = n by omega] at h4
      omega
  omega
def anR (D : gd_T) (p j : Int) (F : List Int) (k : Int) : Nat → List Int := fun i => spF (dSet D p (F.getD i 0) j) k 0
def anS (D : gd_T) (p j : Int) (F : List Int) : Nat → Int × Int
  | 0 => (-1, F.length)
  | k + 1 => if mxR (anR D p j F (k : Int)) F.length F.length < (anS D p j F k).2 then ((k : Int), mxR (anR D p j F (k : Int)) F.length F.length) else anS D p j F k
theorem anS_s {D : gd_T} {p j m : Int} {F : List Int} (h : 0 ≤ m) : anS D p j F (m + 1).toNat = if mxR (anR D p j F m) F.length F.length < (anS D p j F m.toNat).2 then (m, mxR (anR D p j F m) F.length F.length) else anS D p j F m.toNat := by
  have e : (m.toNat : Int) = m := by omega
  rw [show (m + 1).toNat = m.toNat + 1 by omega]
  conv => lhs; unfold anS
  rw [e]
theorem oP.T {σ σ9 : sv_G} {S : st_T} {c v r : Int} (hS : StOK S) (hN : RN σ S) (hf : frT σ σ9) (hc : c = 0) (hr : r = v) : oP σ σ9 r (c, v, S) := ⟨hc, hr, hN.fr hS fun b k q => hf b k (by omega) (by omega) (by omega), hS, fun b k q => hf b k (by omega) (by omega) (by omega)⟩
noncomputable def op_settings (S : st_T) (x y z : Int) : op_T := ((if ¬ ((0 ≤ x ∧ x ≤ 3 ∧ 0 ≤ y ∧ y < gC (sD S x) 1) ∧ 0 ≤ z ∧ z ≤ 199) then 1 else 0 : Int), ((fsL (sD S x) y z (sE S)).length : Int), S)
noncomputable def op_learn (S : st_T) (x y z : Int) : op_T := ((if ¬ ((0 ≤ x ∧ x ≤ 3 ∧ 0 ≤ y ∧ y < gC (sD S x) 1) ∧ 0 ≤ z ∧ z ≤ 199) then 1 else if (fsL (sD S x) y z (sE S)).length = 0 then 2 else 0 : Int), (fsL (sD S x) y z (sE S)).getD 0 0, uD S x (dSet (sD S x) y ((fsL (sD S x) y z (sE S)).getD 0 0) z))
noncomputable def op_askNumber (S : st_T) (x y z v : Int) : op_T := ((if ¬ ((0 ≤ x ∧ x ≤ 3 ∧ 0 ≤ y ∧ y < gC (sD S x) 1) ∧ 0 ≤ z ∧ z ≤ 199) then 1 else if ¬ (0 ≤ v ∧ v ≤ 99) then 2 else 0 : Int), (anS (sD S x) y z (fsL (sD S x) y z (sE S)) (v + 1).toNat).1, S)

set_option maxRecDepth 100000 in
set_option maxHeartbeats 8000000 in
theorem kX7_settings {E : sv_E} {σ : sv_G} {S : st_T} (hS : StOK S) (hN : RN σ S) {x : Int} (hx : -2147483648 ≤ x ∧ x ≤ 2147483647) {y : Int} (hy : -2147483648 ≤ y ∧ y ≤ 2147483647) {z : Int} (hz : -2147483648 ≤ z ∧ z ≤ 2147483647) : CX E MX7_settings 90 [(vR 0), (vI x), (vI y), (vI z)] σ (PI fun r σ9 => oP σ σ9 r (op_settings S x y z)) (px3 σ (op_settings S x y z).1 xI "" "") := by
  refine CX.of (RX7, cX7_settings, 6, (some .int), [], 90, 3, 18) rfl moX7_settings (by decide +kernel) (Nat.le_of_ble_eq_true rfl) (ls0 := [some (vR 0), some (vI x), some (vI y), some (vI z), none, none]) rfl ?_
  intro X Q C hR hT
  refine s_aload_n C dX7_settings_0 rfl ?_
  refine s_iload_n C dX7_settings_1 rfl ?_
  refine sx_cV1r (u2 := 1) (w2 := 6) C dX7_settings_2 lkX7_70 moX7_grammarAt mvX7_grammarAt (kX7_grammarAt (by omega)) sh_0 ⟨_, _, rfl⟩ (by decide) (Nat.le_of_ble_eq_true rfl) (by decide) (by decide) hT rfl (by decide) (fun En σ9 h => ⟨h.1, Or.inl ⟨h.2.1, by have h3 := h.2.2; unfold op_settings; dsimp only; (repeat' split) <;> omega⟩⟩) (kpI (fun r2 hp2 => ?_))
  have hr := hp2.2.1
  have hsh := hp2.2.2
  have hD := hS.1 x (by omega) (by omega)
  have hC : RC σ r2 (sD S x) := by rw [hr]; exact hN.1 x (by omega) (by omega)
  have hnb := hD.2.2.2.1
  have hn1 : σ r2 2 = gC (sD S x) 1 := hC.2.2.2.1
  refine s_astore (ls2 := [some (vR 0), some (vI x), some (vI y), some (vI z), some (vR r2), none]) C dX7_settings_5 (by decide) rfl ?_
  refine s_aload C dX7_settings_7 rfl ?_
  refine s_iload_n C dX7_settings_9 rfl ?_
  refine sx_cS2r (u2 := 2) (w2 := 12) C dX7_settings_10 lkX7_123 moX7_baseAt mvX7_baseAt (kX7_baseAt (by exact hsh) (by exact hn1) (by omega) (by omega)) (by decide) (Nat.le_of_ble_eq_true rfl) (by decide) (by decide) hT rfl (by decide) (fun En σ9 h => ⟨h.1, Or.inl ⟨h.2.1, by have h3 := h.2.2; unfold op_settings; dsimp only; (repeat' split) <;> omega⟩⟩) (kpI (fun r10 hp10 => ?_))
  refine s_astore (ls2 := [some (vR 0), some (vI x), some (vI y), some (vI z), some (vR r2), some (vR r10)]) C dX7_settings_13 (by decide) rfl ?_
  refine s_iload_n C dX7_settings_15 rfl ?_
  refine sx_cS1v (u2 := 3) (w2 := 18) C dX7_settings_16 lkX7_78 moX7_needWord mvX7_needWord (kX7_needWord (by omega)) (by decide) (Nat.le_of_ble_eq_true rfl) (by decide) (by decide) hT rfl (by decide) (fun En σ9 h => ⟨h.1, Or.inl ⟨h.2.1, by have h3 := h.2.2; unfold op_settings; dsimp only; (repeat' split) <;> omega⟩⟩) (kpV (fun hp16 => ?_))
  refine s_aload_n C dX7_settings_19 rfl ?_
  refine s_aload C dX7_settings_20 rfl ?_
  refine s_aload C dX7_settings_22 rfl ?_
  refine s_iload_n C dX7_settings_24 rfl ?_
  have hEs : EXs σ (sE S) := ⟨hN.2.2.2.1, hN.2.2.2.2.1⟩
  have hfs := kX7_findSettings (E := E) (σ := σ) hsh hD hC hEs hS.2.2.2.1.1 hS.2.2.2.1.2 (p := y) (z := z) (by omega) (by omega)
  rw [← hp10.2.1] at hfs
  refine s_cV3i C dX7_settings_25 lkX7_242 moX7_findSettings mvX7_findSettings hfs sh_0 ⟨_, _, rfl⟩ (by decide) (Nat.le_of_ble_eq_true rfl) rfl (by decide) (fun r25 σ_25 hp25 => ?_)
  refine s_iret C hR dX7_settings_28 rfl ⟨_, rfl, ?_⟩ (by decide)
  exact oP.T hS hN hp25.2.1 (by (repeat' split) <;> omega) hp25.1
set_option maxRecDepth 100000 in
set_option maxHeartbeats 8000000 in
theorem kX7_learn {E : sv_E} {σ : sv_G} {S : st_T} (hS : StOK S) (hN : RN σ S) {x : Int} (hx : -2147483648 ≤ x ∧ x ≤ 2147483647) {y : Int} (hy : -2147483648 ≤ y ∧ y ≤ 2147483647) {z : Int} (hz : -2147483648 ≤ z ∧ z ≤ 2147483647) : CX E MX7_learn 90 [(vR 0), (vI x), (vI y), (vI z)] σ (PI fun r σ9 => oP σ σ9 r (op_learn S x y z)) (px4 σ S (op_learn S x y z).1 xI xS) := by
  refine CX.of (RX7, cX7_learn, 7, (some .int), [], 90, 4, 24) rfl moX7_learn (by decide +kernel) (Nat.le_of_ble_eq_true rfl) (ls0 := [some (vR 0), some (vI x), some (vI y), some (vI z), none, none, none]) rfl ?_
  intro X Q C hR hT
  refine s_aload_n C dX7_learn_0 rfl ?_
  refine s_iload_n C dX7_learn_1 rfl ?_
  refine sx_cV1r (u2 := 1) (w2 := 6) C dX7_learn_2 lkX7_70 moX7_grammarAt mvX7_grammarAt (kX7_grammarAt (by omega)) sh_0 ⟨_, _, rfl⟩ (by decide) (Nat.le_of_ble_eq_true rfl) (by decide) (by decide) hT rfl (by decide) (fun En σ9 h => ⟨by rw [h.1]; exact ⟨hN, fun _ _ _ => rfl⟩, Or.inl ⟨h.2.1, by have h3 := h.2.2; unfold op_learn; dsimp only; (repeat' split) <;> omega⟩⟩) (kpI (fun r2 hp2 => ?_))
  have hr := hp2.2.1
  have hsh := hp2.2.2
  have hD := hS.1 x (by omega) (by omega)
  have hC : RC σ r2 (sD S x) := by rw [hr]; exact hN.1 x (by omega) (by omega)
  have hnb := hD.2.2.2.1
  have hn1 : σ r2 2 = gC (sD S x) 1 := hC.2.2.2.1
  refine s_astore (ls2 := [some (vR 0), some (vI x), some (vI y), some (vI z), some (vR r2), none, none]) C dX7_learn_5 (by decide) rfl ?_
  refine s_aload C dX7_learn_7 rfl ?_
  refine s_iload_n C dX7_learn_9 rfl ?_
  refine sx_cS2r (u2 := 2) (w2 := 12) C dX7_learn_10 lkX7_123 moX7_baseAt mvX7_baseAt (kX7_baseAt (by exact hsh) (by exact hn1) (by omega) (by omega)) (by decide) (Nat.le_of_ble_eq_true rfl) (by decide) (by decide) hT rfl (by decide) (fun En σ9 h => ⟨by rw [h.1]; exact ⟨hN, fun _ _ _ => rfl⟩, Or.inl ⟨h.2.1, by have h3 := h.2.2; unfold op_learn; dsimp only; (repeat' split) <;> omega⟩⟩) (kpI (fun r10 hp10 => ?_))
  refine s_astore (ls2 := [some (vR 0), some (vI x), some (vI y), some (vI z), some (vR r2), some (vR r10), none]) C dX7_learn_13 (by decide) rfl ?_
  refine s_iload_n C dX7_learn_15 rfl ?_
  refine sx_cS1v (u2 := 3) (w2 := 18) C dX7_learn_16 lkX7_78 moX7_needWord mvX7_needWord (kX7_needWord (by omega)) (by decide) (Nat.le_of_ble_eq_true rfl) (by decide) (by decide) hT rfl (by decide) (fun En σ9 h => ⟨by rw [h.1]; exact ⟨hN, fun _ _ _ => rfl⟩, Or.inl ⟨h.2.1, by have h3 := h.2.2; unfold op_learn; dsimp only; (repeat' split) <;> omega⟩⟩) (kpV (fun hp16 => ?_))
  refine s_aload_n C dX7_learn_19 rfl ?_
  refine s_aload C dX7_learn_20 rfl ?_
  refine s_aload C dX7_learn_22 rfl ?_
  refine s_iload_n C dX7_learn_24 rfl ?_
  have hEs : EXs σ (sE S) := ⟨hN.2.2.2.1, hN.2.2.2.2.1⟩
  have hfs := kX7_findSettings (E := E) (σ := σ) hsh hD hC hEs hS.2.2.2.1.1 hS.2.2.2.1.2 (p := y) (z := z) (by omega) (by omega)
  rw [← hp10.2.1] at hfs
  refine s_cV3i C dX7_learn_25 lkX7_242 moX7_findSettings mvX7_findSettings hfs sh_0 ⟨_, _, rfl⟩ (by decide) (Nat.le_of_ble_eq_true rfl) rfl (by decide) (fun r25 σ_25 hp25 => ?_)
  have hN25 : RN σ_25 S := hN.fr hS fun b k q => hp25.2.1 b k (by omega) (by omega) (by omega)
  have hC25 : RC σ_25 r2 (sD S x) := by rw [hr]; exact hN25.1 x (by omega) (by omega)
  have hfi := fsR_in (D := sD S x) (p := y) (j := z) (E := sE S) 32
  have hfl : (fsL (sD S x) y z (sE S)).length ≤ 32 := hfi.1
  refine s_if_ne (tgt := 41) C dX7_learn_28 (by decide) (by omega) (fun c28 => ?_) (fun c28 => ?_)
  · refine s_aload_n C dX7_learn_41 rfl ?_
    refine s_getR (c := 7) C fl_7_56 dX7_learn_42 sh_0 rfl rf_0_11 ?_
    refine s_iconst C dX7_learn_45 ?_
    refine s_iald C dX7_learn_46 sh_18 (by omega) (fun g46 => ?_)
    refine s_topI (fun x6_47 ex6_47 => ?_)
    refine s_istore (ls2 := [some (vR 0), some (vI x), some (vI y), some (vI z), some (vR r2), some (vR r10), some (vI x6_47)]) C dX7_learn_47 (by decide) rfl ?_
    have e6 : x6_47 = (fsL (sD S x) y z (sE S)).getD 0 0 := by
      rw [ex6_47]; exact hp25.2.2 0 (by omega)
    have h6 := hfi.2 _ (getD_mem2 (l := (fsL (sD S x) y z (sE S))) (d := 0) (i := 0) (by omega))
    have h6b : 0 ≤ x6_47 ∧ x6_47 ≤ 31 := by
      have h7 : 0 ≤ (fsL (sD S x) y z (sE S)).getD 0 0 ∧ (fsL (sD S x) y z (sE S)).getD 0 0 < (32 : Nat) := h6
      omega
    refine s_aload C dX7_learn_49 rfl ?_
    refine s_iload C dX7_learn_51 rfl ?_
    refine s_iload_n C dX7_learn_53 rfl ?_
    refine s_cN2v C dX7_learn_54 lkX7_248 moX1_set mvX1_set (kX1_set (by exact hp10.2.2) (by omega) (by omega)) hp10.2.2 ⟨_, _, rfl⟩ (by decide) (Nat.le_of_ble_eq_true rfl) rfl (by decide) (fun σ_54 hp54 => ?_)
    refine s_iload C dX7_learn_57 rfl ?_
    refine s_iret C hR dX7_learn_59 rfl ⟨_, rfl, ?_⟩ (by decide)
    have hbo := hD.2.2.2.2.2.2.2.1 y (by omega) (by omega)
    have hDs : GDok (dSet (sD S x) y x6_47 z) := dBs_ok hD (setB_ok hbo h6b (by omega))
    have hrb := hp10.2.1
    have hfr : frG σ_25 σ_54 (23 + 17 * x.toNat) := by
      rw [← hr]
      exact fun b k q => by rw [hp54, up_a (by omega), up_a (by omega)]
    have hCn : RC σ_54 (23 + 17 * x.toNat) (dSet (sD S x) y x6_47 z) := by
      rw [← hr]
      refine RC.bs hD hC25 (by omega) (fun k hk => ?_) (fun b k q => by rw [hp54, up_a (by omega), up_a (by omega)])
      show _ = (if k = 4 then (if x6_47 % 2 = 1 then z else -1) else if k = 3 then x6_47 / 2 else gB (sD S x) y k)
      rw [← hrb, hp54]
      by_cases q : k = 4
      · rw [if_pos q, q]; exact up_s _ _ _ _
      · rw [if_neg q, up_k (by omega)]
        by_cases q2 : k = 3
        · rw [if_pos q2, q2]; exact up_s _ _ _ _
        · rw [if_neg q2, up_k (by omega), hrb]; exact hC25.2.2.2.2.1 y k (by omega) (by omega) hk
    have hop : (op_learn S x y z).2.2 = uD S x (dSet (sD S x) y x6_47 z) := by rw [e6]; rfl
    refine ⟨by unfold op_learn; dsimp only; (repeat' split) <;> omega, e6, ?_, ?_, fun b k q => (hfr b k (by omega)).trans (hp25.2.1 b k (by omega) (by omega) (by omega))⟩
    · rw [hop]; exact hN25.gr hS (by omega) hfr hCn
    · rw [hop]; exact uD_ok hS hDs
  · have px : px4 σ S (op_learn S x y z).1 xI xS xS σ_25 := ⟨⟨hN25, fun b k q => hp25.2.1 b k (by omega) (by omega) (by omega)⟩, Or.inr ⟨rfl, by unfold op_learn; dsimp only; (repeat' split) <;> omega⟩⟩
    exact s_throwG (sa := 0) (ik := 96) (is := 246) (ic := 100) C hT atX7_100 lcX7_96 lsX7_246 rfl (by exact px) (by decide) (by decide) (by decide) (Nat.le_of_ble_eq_true rfl) false dX7_learn_31 dX7_learn_34 ⟨dX7_learn_35, dX7_learn_37, dX7_learn_40⟩
set_option maxRecDepth 100000 in
set_option maxHeartbeats 8000000 in
theorem kX7_speakBySettings {E : sv_E} {σ : sv_G} {G : Nat} {D : gd_T} (hG : shp G = (4, 0)) (hD : GDok D) (hC : RC σ G D) {p z nn f : Int} (hp : 0 ≤ p ∧ p < gC D 1) (hz : 0 ≤ z ∧ z ≤ 199) (hn : 0 ≤ nn ∧ nn ≤ 9999) {F : List Int} (hl : F.length ≤ 32) (hFo : ∀ s ∈ F, 0 ≤ s ∧ s ≤ 31) (hF : ∀ i : Nat, i < F.length → σ 18 i = F.getD i 0) (hf : f = F.length) : CT E MX7_speakBySettings 88 [(vR 0), (vR G), (vR (G + 4 + 8 + (p).toNat)), (vI z), (vI nn), (vI f)] σ (PV fun σ9 => (∀ b k, (b < 131 ∨ 194 < b) → σ9 b k = σ b k) ∧ ∀ i : Nat, i < F.length → Rw σ9 (131 + 2 * i) (anR D p z F nn i)) := by
  refine CT.of (RX7, cX7_speakBySettings, 9, none, [], 88, 0, 0) rfl moX7_speakBySettings (Nat.le_of_ble_eq_true rfl) (ls0 := [some (vR 0), some (vR G), some (vR (G + 4 + 8 + (p).toNat)), some (vI z), some (vI nn), some (vI f), none, none, none]) rfl ?_
  intro X Q C hR
  have hnb := hD.2.2.2.1
  have hGb := shG hG
  have hbo := hD.2.2.2.2.2.2.2.1 p hp.1 hp.2
  have hbf : ∀ k : Nat, k < 7 → σ (G + 4 + 8 + (p).toNat) (k : Int) = gB D p k := fun k hk => hC.2.2.2.2.1 p k hp.1 hp.2 hk
  refine s_aload_n C dX7_speakBySettings_0 rfl ?_
  refine s_getI (c := 1) (kz := 3) C fl_7_267 dX7_speakBySettings_1 (sha_14 (shc_4_1 hG) (show (p).toNat < 5 by omega)) rfl rfl (fun g1 => ?_)
  refine s_topI (fun x6_4 ex6_4 => ?_)
  refine s_istore (ls2 := [some (vR 0), some (vR G), some (vR (G + 4 + 8 + (p).toNat)), some (vI z), some (vI nn), some (vI f), some (vI x6_4), none, none]) C dX7_speakBySettings_4 (by decide) rfl ?_
  refine s_aload_n C dX7_speakBySettings_6 rfl ?_
  refine s_getI (c := 1) (kz := 4) C fl_7_130 dX7_speakBySettings_7 (sha_14 (shc_4_1 hG) (show (p).toNat < 5 by omega)) rfl rfl (fun g7 => ?_)
  refine s_topI (fun x7_10 ex7_10 => ?_)
  refine s_istore (ls2 := [some (vR 0), some (vR G), some (vR (G + 4 + 8 + (p).toNat)), some (vI z), some (vI nn), some (vI f), some (vI x6_4), some (vI x7_10), none]) C dX7_speakBySettings_10 (by decide) rfl ?_
  refine s_iconst C dX7_speakBySettings_12 ?_
  refine s_istore (ls2 := [some (vR 0), some (vR G), some (vR (G + 4 + 8 + (p).toNat)), some (vI z), some (vI nn), some (vI f), some (vI x6_4), some (vI x7_10), some (vI 0)]) C dX7_speakBySettings_13 (by decide) rfl ?_
  have L15 : ∀ (n : Nat) (m : Int) (τ : sv_G), (32 - m).toNat < n → (0 ≤ m ∧ m ≤ F.length) → (∀ b k, (b < 131 ∨ 194 < b) → (b ≠ G + 4 + 8 + (p).toNat ∨ (k ≠ 3 ∧ k ≠ 4)) → τ b k = σ b k) → (∀ i : Nat, (i : Int) < m → Rw τ (131 + 2 * i) (anR D p z F nn i)) → SW X E Q 0 0 15 [some (vR 0), some (vR G), some (vR (G + 4 + 8 + (p).toNat)), some (vI z), some (vI nn), some (vI f), some (vI x6_4), some (vI x7_10), some (vI m)] [] τ := by
    intro n
    induction n with
    | zero => intro m τ hm; exact absurd hm (Nat.not_lt_zero _)
    | succ n ih15 =>
      intro m τ hm15 i15_0 i15_1 i15_2
      refine s_iload C dX7_speakBySettings_15 rfl ?_
      refine s_iload C dX7_speakBySettings_17 rfl ?_
      refine s_icmp_ge (tgt := 55) C dX7_speakBySettings_19 (by decide) (by omega) (by omega) (fun c19 => ?_) (fun c19 => ?_)
      · refine s_aload_n C dX7_speakBySettings_55 rfl ?_
        refine s_iload C dX7_speakBySettings_56 rfl ?_
        refine s_putI (c := 1) (kz := 3) C fl_7_267 dX7_speakBySettings_58 (sha_14 (shc_4_1 hG) (show (p).toNat < 5 by omega)) rfl (fun _ _ h9 => by cases h9; rfl) (by omega) rfl ?_
        refine s_nameG (fun σ_58 hσ_58 => ?_)
        refine s_aload_n C dX7_speakBySettings_61 rfl ?_
        refine s_iload C dX7_speakBySettings_62 rfl ?_
        refine s_putI (c := 1) (kz := 4) C fl_7_130 dX7_speakBySettings_64 (sha_14 (shc_4_1 hG) (show (p).toNat < 5 by omega)) rfl (fun _ _ h9 => by cases h9; rfl) (by omega) rfl ?_
        refine s_nameG (fun σ_64 hσ_64 => ?_)
        refine s_vret C hR dX7_speakBySettings_67 rfl ⟨rfl, ?_⟩ (by decide)
        refine ⟨fun b k h1 => ?_, fun i hi => (i15_2 i (by omega)).fr (σ9 := σ_64) fun b k h1 h2 => by rw [hσ_64, up_a (by omega), hσ_58, up_a (by omega)]⟩
        rw [hσ_64, hσ_58]
        by_cases q : b = G + 4 + 8 + (p).toNat
        · by_cases q4 : k = 4
          · rw [q, q4, up_s]; exact ex7_10
          · rw [up_k q4]
            by_cases q3 : k = 3
            · rw [q, q3, up_s]; exact ex6_4
            · rw [up_k q3]; exact i15_1 b k h1 (Or.inr ⟨q3, q4⟩)
        · rw [up_a q, up_a q]; exact i15_1 b k h1 (Or.inl q)
      · refine s_aload_n C dX7_speakBySettings_22 rfl ?_
        refine s_aload_n C dX7_speakBySettings_23 rfl ?_
        refine s_getR (c := 7) C fl_7_56 dX7_speakBySettings_24 sh_0 rfl rf_0_11 ?_
        refine s_iload C dX7_speakBySettings_27 rfl ?_
        have hs0 := hFo _ (getD_mem2 (l := F) (d := 0) (i := m.toNat) (by omega))
        have hs1 : τ 18 m = F.getD m.toNat 0 := by
          have h9 := hF m.toNat (by omega)
          rw [show (m.toNat : Int) = m by omega] at h9
          rw [i15_1 18 m (by omega) (by omega)]; exact h9
        refine s_iald C dX7_speakBySettings_29 sh_18 (by omega) (fun g29 => ?_)
        refine s_iload_n C dX7_speakBySettings_30 rfl ?_
        refine s_cN2v C dX7_speakBySettings_31 lkX7_248 moX1_set mvX1_set (kX1_set (by exact (sha_14 (shc_4_1 hG) (show (p).toNat < 5 by omega))) (by rw [hs1]; exact hs0) (by omega)) (sha_14 (shc_4_1 hG) (show (p).toNat < 5 by omega)) ⟨_, _, rfl⟩ (by decide) (Nat.le_of_ble_eq_true rfl) rfl (by decide) (fun σ_31 hp31 => ?_)
        rw [hs1] at hp31
        have hDs : GDok (dSet D p (F.getD m.toNat 0) z) := dBs_ok hD (setB_ok hbo hs0 hz)
        have f31 : ∀ b k, (b < 131 ∨ 194 < b) → (b ≠ G + 4 + 8 + (p).toNat ∨ (k ≠ 3 ∧ k ≠ 4)) → σ_31 b k = σ b k := fun b k h1 h2 => by
          rw [hp31, up_n (by omega), up_n (by omega)]; exact i15_1 b k h1 h2
        have hCs : RC σ_31 G (dSet D p (F.getD m.toNat 0) z) := by
          refine RC.bs2 hD hDs hC hp (fun k hk => ?_) (fun b k g1 g2 g3 => f31 b k (by omega) (Or.inl g3))
          show _ = (if k = 4 then (if F.getD m.toNat 0 % 2 = 1 then z else -1) else if k = 3 then F.getD m.toNat 0 / 2 else gB D p k)
          rw [hp31]
          by_cases q : k = 4
          · rw [if_pos q, q]; exact up_s _ _ _ _
          · rw [if_neg q, up_k (by omega)]
            by_cases q2 : k = 3
            · rw [if_pos q2, q2]; exact up_s _ _ _ _
            · rw [if_neg q2, up_k (by omega), i15_1 _ _ (by omega) (by omega)]; exact hbf k hk
        refine s_aload_n C dX7_speakBySettings_34 rfl ?_
        refine s_iload C dX7_speakBySettings_35 rfl ?_
        refine s_iconst C dX7_speakBySettings_37 ?_
        refine s_aload_n C dX7_speakBySettings_38 rfl ?_
        refine s_getR (c := 7) C fl_7_59 dX7_speakBySettings_39 sh_0 rfl rf_0_12 ?_
        refine s_iload C dX7_speakBySettings_42 rfl ?_
        refine s_aald (t := 3) C dX7_speakBySettings_44 sh_19 (by decide) (by omega) (rfa_19 (show (m).toNat < 32 by omega)) ?_
        refine s_cN3i C dX7_speakBySettings_45 lkX7_176 moX4_speak mvX4_speak (kX4_speak (by exact hG) (by exact hDs) (by exact hCs) (by omega) (by decide) (by exact (sha_19 (show (m).toNat < 32 by omega)))) hG ⟨_, _, rfl⟩ (by decide) (Nat.le_of_ble_eq_true rfl) rfl (by decide) (fun r45 σ_45 hp45 => ?_)
        have f45 : ∀ b k, (b < 131 ∨ 194 < b) → (b ≠ G + 4 + 8 + (p).toNat ∨ (k ≠ 3 ∧ k ≠ 4)) → σ_45 b k = σ b k := fun b k h1 h2 => (hp45.1 b k (by omega) (by omega)).trans (f31 b k h1 h2)
        refine s_pop C dX7_speakBySettings_48 rfl ?_
        obtain ⟨x8_49, ex8_49⟩ : ∃ y : Int, y = m + 1 := ⟨_, rfl⟩
        refine s_iinc (z2 := x8_49) (ls2 := [some (vR 0), some (vR G), some (vR (G + 4 + 8 + (p).toNat)), some (vI z), some (vI nn), some (vI f), some (vI x6_4), some (vI x7_10), some (vI x8_49)]) C dX7_speakBySettings_49 (by decide) rfl ex8_49 rfl ?_
        refine s_goto (tgt := 15) C dX7_speakBySettings_52 (by decide) ?_
        refine ih15 x8_49 σ_45 (by omega) (by first | assumption | omega) ?_ ?_
        · exact f45
        · intro i h
          by_cases q : i = m.toNat
          · rw [q]; exact hp45.2.1
          · exact (i15_2 i (by omega)).fr fun b k h1 h2 => by rw [hp45.1 b k (by omega) (by omega), hp31, up_a (by omega), up_a (by omega)]
  refine L15 _ 0 σ (Nat.lt_succ_self _) (by first | assumption | omega) ?_ ?_
  · exact fun _ _ _ _ => rfl
  · exact fun i h => by omega
set_option maxRecDepth 100000 in
set_option maxHeartbeats 8000000 in
theorem kX7_greatestAlike {E : sv_E} {σ : sv_G} {R : Nat → List Int} {N : Nat} (hN9 : N ≤ 32) (hR9 : ∀ i : Nat, i < N → Rw σ (131 + 2 * i) (R i)) {f : Int} (hf : f = N) : CT E MX7_greatestAlike 1 [(vR 0), (vI f)] σ (PI fun r σ9 => σ9 = σ ∧ r = mxR R N N) := by
  refine CT.of (RX7, cX7_greatestAlike, 6, (some .int), [], 1, 0, 0) rfl moX7_greatestAlike (Nat.le_of_ble_eq_true rfl) (ls0 := [some (vR 0), some (vI f), none, none, none, none]) rfl ?_
  intro X Q C hR
  have hmx := mxR_in (R := R) (n := N) N
  refine s_iconst C dX7_greatestAlike_0 ?_
  refine s_istore_n (ls2 := [some (vR 0), some (vI f), some (vI 0), none, none, none]) C dX7_greatestAlike_1 (by decide) rfl ?_
  refine s_iconst C dX7_greatestAlike_2 ?_
  refine s_istore_n (ls2 := [some (vR 0), some (vI f), some (vI 0), some (vI 0), none, none]) C dX7_greatestAlike_3 (by decide) rfl ?_
  have L4 : ∀ (n : Nat) (g : Int) (m : Int), (32 - m).toNat < n → (0 ≤ m ∧ m ≤ N) → (0 ≤ g ∧ g ≤ mxR R N N) → (∀ i : Nat, (i : Int) < m → ctR R (R i) N - ctR R (R i) i ≤ g) → SW X E Q 0 0 4 [some (vR 0), some (vI f), some (vI g), some (vI m), none, none] [] σ := by
    intro n
    induction n with
    | zero => intro g m hm; exact absurd hm (Nat.not_lt_zero _)
    | succ n ih4 =>
      intro g m hm4 i4_0 i4_1 i4_2
      refine s_iload_n C dX7_greatestAlike_4 rfl ?_
      refine s_iload_n C dX7_greatestAlike_5 rfl ?_
      refine s_iload_n C dX7_greatestAlike_6 rfl ?_
      refine s_isub C dX7_greatestAlike_7 ?_
      refine s_icmp_ge (tgt := 66) C dX7_greatestAlike_8 (by decide) (by omega) (by omega) (fun c8 => ?_) (fun c8 => ?_)
      · refine s_iload_n C dX7_greatestAlike_66 rfl ?_
        refine s_iret C hR dX7_greatestAlike_67 rfl ⟨_, rfl, ?_⟩ (by decide)
        exact ⟨rfl, mxR_fin (m := m.toNat) (by omega) (by omega) i4_1.1 i4_1.2 fun i h => i4_2 i (by omega)⟩
      · refine s_iconst C dX7_greatestAlike_11 ?_
        refine s_istore (ls2 := [some (vR 0), some (vI f), some (vI g), some (vI m), some (vI 1), none]) C dX7_greatestAlike_12 (by decide) rfl ?_
        refine s_iload_n C dX7_greatestAlike_14 rfl ?_
        refine s_iconst C dX7_greatestAlike_15 ?_
        refine s_iadd C dX7_greatestAlike_16 ?_
        refine s_topI (fun x5_17 ex5_17 => ?_)
        refine s_istore (ls2 := [some (vR 0), some (vI f), some (vI g), some (vI m), some (vI 1), some (vI x5_17)]) C dX7_greatestAlike_17 (by decide) rfl ?_
        have L19 : ∀ (n : Nat) (al : Int) (j : Int), (32 - j).toNat < n → (m + 1 ≤ j ∧ j ≤ N) → (al = ctR R (R m.toNat) j.toNat - ctR R (R m.toNat) m.toNat) → (0 ≤ al ∧ al ≤ 32) → SW X E Q 0 0 19 [some (vR 0), some (vI f), some (vI g), some (vI m), some (vI al), some (vI j)] [] σ := by
          intro n
          induction n with
          | zero => intro al j hm; exact absurd hm (Nat.not_lt_zero _)
          | succ n ih19 =>
            intro al j hm19 i19_0 i19_1 i19_2
            refine s_iload C dX7_greatestAlike_19 rfl ?_
            refine s_iload_n C dX7_greatestAlike_21 rfl ?_
            refine s_icmp_ge (tgt := 53) C dX7_greatestAlike_22 (by decide) (by omega) (by omega) (fun c22 => ?_) (fun c22 => ?_)
            · have h53 : al = ctR R (R m.toNat) N - ctR R (R m.toNat) m.toNat := by rw [i19_1, show j.toNat = N by omega]
              have hge := mxR_ge (R := R) (n := N) N m.toNat (by omega)
              have hnn := ctR_nn (R := R) (x := R m.toNat) m.toNat
              refine s_iload_n C dX7_greatestAlike_53 rfl ?_
              refine s_iload C dX7_greatestAlike_54 rfl ?_
              refine s_cS2i C dX7_greatestAlike_56 lkX7_315 moJ9_max_7cf53 mvJ9_max_7cf53 (kJ9_max_7cf53 (by omega) (by omega)) (by decide) (Nat.le_of_ble_eq_true rfl) rfl (by decide) (kpI (fun r56 hp56 => ?_))
              refine s_istore_n (ls2 := [some (vR 0), some (vI f), some (vI r56), some (vI m), some (vI al), some (vI j)]) C dX7_greatestAlike_59 (by decide) rfl ?_
              obtain ⟨x3_60, ex3_60⟩ : ∃ y : Int, y = m + 1 := ⟨_, rfl⟩
              refine s_iinc (z2 := x3_60) (ls2 := [some (vR 0), some (vI f), some (vI r56), some (vI x3_60), some (vI al), some (vI j)]) C dX7_greatestAlike_60 (by decide) rfl ex3_60 rfl ?_
              refine s_goto (tgt := 4) C dX7_greatestAlike_63 (by decide) ?_
              refine s_weak (ls2 := [some (vR 0), some (vI f), some (vI r56), some (vI x3_60), none, none]) (sv_wk_c (sv_wk_c (sv_wk_c (sv_wk_c (sv_wk_n (sv_wk_n sv_wk_0)))))) ?_
              refine ih4 r56 x3_60 (by omega) (by first | assumption | omega) ?_ ?_
              · omega
              · intro i h
                by_cases q : i = m.toNat
                · rw [q, ← h53]; omega
                · have := i4_2 i (by omega); omega
            · refine s_aload_n C dX7_greatestAlike_25 rfl ?_
              refine s_getR (c := 7) C fl_7_59 dX7_greatestAlike_26 sh_0 rfl rf_0_12 ?_
              refine s_iload C dX7_greatestAlike_29 rfl ?_
              refine s_aald (t := 3) C dX7_greatestAlike_31 sh_19 (by decide) (by omega) (rfa_19 (show (j).toNat < 32 by omega)) ?_
              refine s_aload_n C dX7_greatestAlike_32 rfl ?_
              refine s_getR (c := 7) C fl_7_59 dX7_greatestAlike_33 sh_0 rfl rf_0_12 ?_
              refine s_iload_n C dX7_greatestAlike_36 rfl ?_
              refine s_aald (t := 3) C dX7_greatestAlike_37 sh_19 (by decide) (by omega) (rfa_19 (show (m).toNat < 32 by omega)) ?_
              refine s_cN1i C dX7_greatestAlike_38 lkX7_326 moX6_same mvX6_same (kX6_same (by exact (sha_19 (show (j).toNat < 32 by omega))) (by exact (sha_19 (show (m).toNat < 32 by omega))) (by exact hR9 j.toNat (by omega)) (by exact hR9 m.toNat (by omega))) (sha_19 (show (j).toNat < 32 by omega)) ⟨_, _, rfl⟩ (by decide) (Nat.le_of_ble_eq_true rfl) rfl (by decide) (kpI (fun r38 hp38 => ?_))
              have hb38 := zo1 hp38
              have hs38 : ctR R (R m.toNat) (j + 1).toNat = ctR R (R m.toNat) j.toNat + (if R j.toNat = R m.toNat then 1 else 0) := by rw [show (j + 1).toNat = j.toNat + 1 by omega]; rfl
              have hbd := (ctR_b (R := R) (x := R m.toNat) m.toNat (j.toNat - m.toNat)).2
              rw [show m.toNat + (j.toNat - m.toNat) = j.toNat by omega] at hbd
              have J47 : ∀ (al2 : Int), (al2 = ctR R (R m.toNat) (j + 1).toNat - ctR R (R m.toNat) m.toNat) → (0 ≤ al2 ∧ al2 ≤ 32) → SW X E Q 0 0 47 [some (vR 0), some (vI f), some (vI g), some (vI m), some (vI al2), some (vI j)] [] σ := by
                intro al2 j47_0 j47_1
                obtain ⟨x5_47, ex5_47⟩ : ∃ y : Int, y = j + 1 := ⟨_, rfl⟩
                refine s_iinc (z2 := x5_47) (ls2 := [some (vR 0), some (vI f), some (vI g), some (vI m), some (vI al2), some (vI x5_47)]) C dX7_greatestAlike_47 (by decide) rfl ex5_47 rfl ?_
                refine s_goto (tgt := 19) C dX7_greatestAlike_50 (by decide) ?_
                refine ih19 al2 x5_47 (by omega) (by first | assumption | omega) ?_ (by first | assumption | omega)
                · rw [show x5_47.toNat = (j + 1).toNat by omega]; exact j47_0
              refine s_if_eq (tgt := 47) C dX7_greatestAlike_41 (by decide) (by omega) (fun c41 => ?_) (fun c41 => ?_)
              · refine J47 al ?_ (by first | assumption | omega)
                · rcases hp38 with q | q
                  · exfalso; omega
                  · rw [hs38, if_neg q.2]; omega
              · obtain ⟨x4_44, ex4_44⟩ : ∃ y : Int, y = al + 1 := ⟨_, rfl⟩
                refine s_iinc (z2 := x4_44) (ls2 := [some (vR 0), some (vI f), some (vI g), some (vI m), some (vI x4_44), some (vI j)]) C dX7_greatestAlike_44 (by decide) rfl ex4_44 rfl ?_
                refine J47 x4_44 ?_ (by first | assumption | omega)
                · rcases hp38 with q | q
                  · rw [hs38, if_pos q.2]; omega
                  · exfalso; omega
        refine L19 _ 1 x5_17 (Nat.lt_succ_self _) (by first | assumption | omega) ?_ (by first | assumption | omega)
        · rw [show x5_17.toNat = m.toNat + 1 by omega]
          show (1 : Int) = ctR R (R m.toNat) m.toNat + (if R m.toNat = R m.toNat then 1 else 0) - ctR R (R m.toNat) m.toNat
          rw [if_pos rfl]; omega
  refine L4 _ 0 0 (Nat.lt_succ_self _) (by first | assumption | omega) (by first | assumption | omega) ?_
  · intro i h; omega
