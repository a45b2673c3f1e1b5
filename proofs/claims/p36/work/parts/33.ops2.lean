noncomputable def nuF (D : gd_T) (x : Int) : Int := @Classical.epsilon Int ⟨0⟩ (LW_ D x)
theorem nuF_of {D : gd_T} {x r : Int} (h : LW_ D x r) : r = nuF D x := LW_one h (@Classical.epsilon_spec Int (LW_ D x) ⟨r, h⟩)
noncomputable def op_numberOf (S : st_T) (x y : Int) : op_T := ((if ¬ ((0 ≤ x ∧ x ≤ 3) ∧ 0 ≤ y ∧ y ≤ 199) then 1 else 0), nuF (sD S x) y, S)
theorem cdC_congr {b b' t t' : Int → Int} {c : Int} : ∀ (i : Nat), (∀ j : Nat, j < i → b j = b' j ∧ t j = t' j) → cdC b t c i = cdC b' t' c i
  | 0, _ => rfl
  | i + 1, h => by
    unfold cdC
    rw [(h i (Nat.lt_succ_self i)).1, (h i (Nat.lt_succ_self i)).2, cdC_congr i fun j hj => h j (Nat.lt_succ_of_lt hj)]
theorem cdW_congr {b b' : Int → Int} : ∀ (i : Nat), (∀ j : Nat, j < i → b j = b' j) → cdW b i = cdW b' i
  | 0, _ => rfl
  | i + 1, h => by
    unfold cdW
    rw [h i (Nat.lt_succ_self i), cdW_congr i fun j hj => h j (Nat.lt_succ_of_lt hj)]
theorem cdT_congr {b b' t t' : Int → Int} : ∀ (i : Nat), (∀ j : Nat, j < i → b j = b' j ∧ t j = t' j) → cdT b t i = cdT b' t' i
  | 0, _ => rfl
  | i + 1, h => by
    unfold cdT
    rw [(h i (Nat.lt_succ_self i)).2, cdT_congr i fun j hj => h j (Nat.lt_succ_of_lt hj), cdW_congr i fun j hj => (h j (Nat.lt_succ_of_lt hj)).1]
theorem wOK.h {l : List Int} (h : wOK l) : hOK l := fun w q => by have := h w q; omega
theorem hOK.one {l : List Int} {x : Int} (h : hOK l) (hx : -1 ≤ x ∧ x ≤ 199) : hOK (l ++ [x]) := fun w q => by
  rcases List.mem_append.mp q with q | q
  · exact h w q
  · rw [List.mem_singleton.mp q]; exact hx
theorem RN.cords {σ σ9 : sv_G} {S : st_T} {b t : Int → Int} {z : Int} (hS : StOK S) (h : RN σ S) (hf : ∀ a k, a ≠ 21 → a ≠ 22 → (a ≠ 20 ∨ k ≠ 2) → σ9 a k = σ a k) (h1 : ∀ i, 0 ≤ i → i < 6 → σ9 21 i = b i ∧ σ9 22 i = t i) (h2 : σ9 20 2 = z) : RN σ9 (uC S b t z) := by
  obtain ⟨g1, g2, g3, g4, g5, g6, g7⟩ := h
  have hl := hS.2.2.2.1.1
  exact ⟨fun g a1 a2 => (g1 g a1 a2).fr (hS.1 g a1 a2) fun b k b1 b2 => hf b k (by omega) (by omega) (by omega), g2.fr fun b k _ _ => hf b k (by omega) (by omega) (by omega), g3.fr fun b k _ _ => hf b k (by omega) (by omega) (by omega), by rw [hf _ _ (by omega) (by omega) (by omega)]; exact g4,
    fun i hi => ⟨by rw [hf _ _ (by omega) (by omega) (by omega)]; exact (g5 i hi).1, (g5 i hi).2.fr fun b k _ _ => hf b k (by omega) (by omega) (by omega)⟩, h1, h2⟩
theorem oP.same {σ : sv_G} {S : st_T} {c v r : Int} (hS : StOK S) (hN : RN σ S) (hc : c = 0) (hr : r = v) : oP σ σ r (c, v, S) := ⟨hc, hr, hN, hS, fun _ _ _ => rfl⟩
theorem okH_1 {l : List Int} (h : l.length ≠ 0) (h2 : (-1 : Int) ∉ l) : okH l = 1 := if_pos ⟨fun q => h (by rw [q]; rfl), h2⟩
theorem okH_0 {l : List Int} (h : l.length = 0 ∨ (-1 : Int) ∈ l) : okH l = 0 := by
  unfold okH
  rw [if_neg]
  rintro ⟨h1, h2⟩
  rcases h with h | h
  · exact h1 (List.eq_nil_of_length_eq_zero h)
  · exact h2 h
theorem okH_w {l : List Int} (hl : hOK l) (h : okH l = 1) : l ≠ [] ∧ wOK l := by
  unfold okH at h
  by_cases q : l ≠ [] ∧ ¬ (-1 : Int) ∈ l
  · refine ⟨q.1, fun w hw => ?_⟩
    have := hl w hw
    have : w ≠ -1 := fun z => q.2 (z ▸ hw)
    omega
  · rw [if_neg q] at h; cases h

set_option maxRecDepth 100000 in
set_option maxHeartbeats 8000000 in
theorem kX7_say {E : sv_E} {σ : sv_G} {S : st_T} (hS : StOK S) (hN : RN σ S) {x : Int} (hx : -2147483648 ≤ x ∧ x ≤ 2147483647) {y : Int} (hy : -2147483648 ≤ y ∧ y ≤ 2147483647) {z : Int} (hz : -2147483648 ≤ z ∧ z ≤ 2147483647) : CX E MX7_say 88 [(vR 0), (vI x), (vI y), (vI z)] σ (PI fun r σ9 => oP σ σ9 r (op_say S x y z)) (px3 σ (op_say S x y z).1 xI xA "") := by
  refine CX.of (RX7, cX7_say, 5, (some .int), [], 88, 3, 18) rfl moX7_say (by decide +kernel) (Nat.le_of_ble_eq_true rfl) (ls0 := [some (vR 0), some (vI x), some (vI y), some (vI z), none]) rfl ?_
  intro X Q C hR hT
  refine s_aload_n C dX7_say_0 rfl ?_
  refine s_iload_n C dX7_say_1 rfl ?_
  refine sx_cV1r (u2 := 1) (w2 := 6) C dX7_say_2 lkX7_70 moX7_grammarAt mvX7_grammarAt (kX7_grammarAt (by omega)) sh_0 ⟨_, _, rfl⟩ (by decide) (Nat.le_of_ble_eq_true rfl) (by decide) (by decide) hT rfl (by decide) (fun En σ9 h => ⟨h.1, Or.inl ⟨h.2.1, by have h3 := h.2.2; unfold op_say; dsimp only; (repeat' split) <;> omega⟩⟩) (kpI (fun r2 hp2 => ?_))
  have hr := hp2.2.1
  have hsh := hp2.2.2
  have hD := hS.1 x (by omega) (by omega)
  have hC : RC σ r2 (sD S x) := by rw [hr]; exact hN.1 x (by omega) (by omega)
  have hnb := hD.2.2.2.1
  have hn1 : σ r2 2 = gC (sD S x) 1 := hC.2.2.2.1
  refine s_astore (ls2 := [some (vR 0), some (vI x), some (vI y), some (vI z), some (vR r2)]) C dX7_say_5 (by decide) rfl ?_
  refine s_iload_n C dX7_say_7 rfl ?_
  refine sx_cS1v (u2 := 2) (w2 := 12) C dX7_say_8 lkX7_173 moX7_needClass mvX7_needClass (kX7_needClass (by omega)) (by decide) (Nat.le_of_ble_eq_true rfl) (by decide) (by decide) hT rfl (by decide) (fun En σ9 h => ⟨h.1, Or.inl ⟨h.2.1, by have h3 := h.2.2; unfold op_say; dsimp only; (repeat' split) <;> omega⟩⟩) (kpV (fun hp8 => ?_))
  refine s_iload_n C dX7_say_11 rfl ?_
  refine s_iconst C dX7_say_12 ?_
  refine s_sipush C dX7_say_13 (by decide) ?_
  refine sx_cS3v (u2 := 3) (w2 := 18) C dX7_say_16 lkX7_82 moX7_needRange mvX7_needRange (kX7_needRange (by omega) (by decide) (by decide)) (by decide) (Nat.le_of_ble_eq_true rfl) (by decide) (by decide) hT rfl (by decide) (fun En σ9 h => ⟨h.1, Or.inr (Or.inl ⟨h.2.1, by have h3 := h.2.2; unfold op_say; dsimp only; (repeat' split) <;> omega⟩)⟩) (kpV (fun hp16 => ?_))
  refine s_aload C dX7_say_19 rfl ?_
  refine s_iload_n C dX7_say_21 rfl ?_
  refine s_iload_n C dX7_say_22 rfl ?_
  refine s_aload_n C dX7_say_23 rfl ?_
  refine s_getR (c := 7) C fl_7_18 dX7_say_24 sh_0 rfl rf_0_1 ?_
  refine s_cN3i C dX7_say_27 lkX7_176 moX4_speak mvX4_speak (kX4_speak (by exact hsh) (by exact hD) (by exact hC) (by omega) (by omega) (by exact sh_2)) hp2.2.2 ⟨_, _, rfl⟩ (by decide) (Nat.le_of_ble_eq_true rfl) rfl (by decide) (fun r27 σ_27 hp27 => ?_)
  refine s_pop C dX7_say_30 rfl ?_
  refine s_aload_n C dX7_say_31 rfl ?_
  refine s_getR (c := 7) C fl_7_18 dX7_say_32 sh_0 rfl rf_0_1 ?_
  refine s_getI (c := 6) (kz := 1) C fl_7_180 dX7_say_35 sh_2 rfl rfl (fun g35 => ?_)
  refine s_iret C hR dX7_say_38 rfl ⟨_, rfl, ?_⟩ (by decide)
  exact ⟨by unfold op_say; dsimp only; (repeat' split) <;> omega, hp27.2.1.1, RN.uL hS hN hp27.1 hp27.2.1, uL_ok hS (spF_ok hD _ _), hp27.1.C (by decide)⟩

set_option maxRecDepth 100000 in
set_option maxHeartbeats 8000000 in
theorem kX7_sayOrdinal {E : sv_E} {σ : sv_G} {S : st_T} (hS : StOK S) (hN : RN σ S) {x : Int} (hx : -2147483648 ≤ x ∧ x ≤ 2147483647) {y : Int} (hy : -2147483648 ≤ y ∧ y ≤ 2147483647) : CX E MX7_sayOrdinal 88 [(vR 0), (vI x), (vI y)] σ (PI fun r σ9 => oP σ σ9 r (op_sayOrdinal S x y)) (px3 σ (op_sayOrdinal S x y).1 xI xA "") := by
  refine CX.of (RX7, cX7_sayOrdinal, 4, (some .int), [], 88, 2, 12) rfl moX7_sayOrdinal (by decide +kernel) (Nat.le_of_ble_eq_true rfl) (ls0 := [some (vR 0), some (vI x), some (vI y), none]) rfl ?_
  intro X Q C hR hT
  refine s_aload_n C dX7_sayOrdinal_0 rfl ?_
  refine s_iload_n C dX7_sayOrdinal_1 rfl ?_
  refine sx_cV1r (u2 := 1) (w2 := 6) C dX7_sayOrdinal_2 lkX7_70 moX7_grammarAt mvX7_grammarAt (kX7_grammarAt (by omega)) sh_0 ⟨_, _, rfl⟩ (by decide) (Nat.le_of_ble_eq_true rfl) (by decide) (by decide) hT rfl (by decide) (fun En σ9 h => ⟨h.1, Or.inl ⟨h.2.1, by have h3 := h.2.2; unfold op_sayOrdinal; dsimp only; (repeat' split) <;> omega⟩⟩) (kpI (fun r2 hp2 => ?_))
  have hr := hp2.2.1
  have hsh := hp2.2.2
  have hD := hS.1 x (by omega) (by omega)
  have hC : RC σ r2 (sD S x) := by rw [hr]; exact hN.1 x (by omega) (by omega)
  have hnb := hD.2.2.2.1
  have hn1 : σ r2 2 = gC (sD S x) 1 := hC.2.2.2.1
  refine s_astore_n (ls2 := [some (vR 0), some (vI x), some (vI y), some (vR r2)]) C dX7_sayOrdinal_5 (by decide) rfl ?_
  refine s_iload_n C dX7_sayOrdinal_6 rfl ?_
  refine s_iconst C dX7_sayOrdinal_7 ?_
  refine s_sipush C dX7_sayOrdinal_8 (by decide) ?_
  refine sx_cS3v (u2 := 2) (w2 := 12) C dX7_sayOrdinal_11 lkX7_82 moX7_needRange mvX7_needRange (kX7_needRange (by omega) (by decide) (by decide)) (by decide) (Nat.le_of_ble_eq_true rfl) (by decide) (by decide) hT rfl (by decide) (fun En σ9 h => ⟨h.1, Or.inr (Or.inl ⟨h.2.1, by have h3 := h.2.2; unfold op_sayOrdinal; dsimp only; (repeat' split) <;> omega⟩)⟩) (kpV (fun hp11 => ?_))
  refine s_aload_n C dX7_sayOrdinal_14 rfl ?_
  refine s_iload_n C dX7_sayOrdinal_15 rfl ?_
  refine s_iconst C dX7_sayOrdinal_16 ?_
  refine s_aload_n C dX7_sayOrdinal_17 rfl ?_
  refine s_getR (c := 7) C fl_7_18 dX7_sayOrdinal_18 sh_0 rfl rf_0_1 ?_
  refine s_cN3i C dX7_sayOrdinal_21 lkX7_176 moX4_speak mvX4_speak (kX4_speak (by exact hsh) (by exact hD) (by exact hC) (by omega) (by omega) (by exact sh_2)) hp2.2.2 ⟨_, _, rfl⟩ (by decide) (Nat.le_of_ble_eq_true rfl) rfl (by decide) (fun r21 σ_21 hp21 => ?_)
  refine s_pop C dX7_sayOrdinal_24 rfl ?_
  refine s_aload_n C dX7_sayOrdinal_25 rfl ?_
  refine s_getR (c := 7) C fl_7_18 dX7_sayOrdinal_26 sh_0 rfl rf_0_1 ?_
  refine s_getI (c := 6) (kz := 1) C fl_7_180 dX7_sayOrdinal_29 sh_2 rfl rfl (fun g29 => ?_)
  refine s_iret C hR dX7_sayOrdinal_32 rfl ⟨_, rfl, ?_⟩ (by decide)
  exact ⟨by unfold op_sayOrdinal; dsimp only; (repeat' split) <;> omega, hp21.2.1.1, RN.uL hS hN hp21.1 hp21.2.1, uL_ok hS (spF_ok hD _ _), hp21.1.C (by decide)⟩

set_option maxRecDepth 100000 in
set_option maxHeartbeats 8000000 in
theorem kX7_sayFraction {E : sv_E} {σ : sv_G} {S : st_T} (hS : StOK S) (hN : RN σ S) {x : Int} (hx : -2147483648 ≤ x ∧ x ≤ 2147483647) {y : Int} (hy : -2147483648 ≤ y ∧ y ≤ 2147483647) {z : Int} (hz : -2147483648 ≤ z ∧ z ≤ 2147483647) {v : Int} (hv : -2147483648 ≤ v ∧ v ≤ 2147483647) : CX E MX7_sayFraction 88 [(vR 0), (vI x), (vI y), (vI z), (vI v)] σ (PI fun r σ9 => oP σ σ9 r (op_sayFraction S x y z v)) (px3 σ (op_sayFraction S x y z v).1 xI xA "") := by
  refine CX.of (RX7, cX7_sayFraction, 6, (some .int), [], 88, 4, 24) rfl moX7_sayFraction (by decide +kernel) (Nat.le_of_ble_eq_true rfl) (ls0 := [some (vR 0), some (vI x), some (vI y), some (vI z), some (vI v), none]) rfl ?_
  intro X Q C hR hT
  refine s_aload_n C dX7_sayFraction_0 rfl ?_
  refine s_iload_n C dX7_sayFraction_1 rfl ?_
  refine sx_cV1r (u2 := 1) (w2 := 6) C dX7_sayFraction_2 lkX7_70 moX7_grammarAt mvX7_grammarAt (kX7_grammarAt (by omega)) sh_0 ⟨_, _, rfl⟩ (by decide) (Nat.le_of_ble_eq_true rfl) (by decide) (by decide) hT rfl (by decide) (fun En σ9 h => ⟨h.1, Or.inl ⟨h.2.1, by have h3 := h.2.2; unfold op_sayFraction; dsimp only; (repeat' split) <;> omega⟩⟩) (kpI (fun r2 hp2 => ?_))
  have hr := hp2.2.1
  have hsh := hp2.2.2
  have hD := hS.1 x (by omega) (by omega)
  have hC : RC σ r2 (sD S x) := by rw [hr]; exact hN.1 x (by omega) (by omega)
  have hnb := hD.2.2.2.1
  have hn1 : σ r2 2 = gC (sD S x) 1 := hC.2.2.2.1
  refine s_astore (ls2 := [some (vR 0), some (vI x), some (vI y), some (vI z), some (vI v), some (vR r2)]) C dX7_sayFraction_5 (by decide) rfl ?_
  refine s_iload C dX7_sayFraction_7 rfl ?_
  refine sx_cS1v (u2 := 2) (w2 := 12) C dX7_sayFraction_9 lkX7_173 moX7_needClass mvX7_needClass (kX7_needClass (by omega)) (by decide) (Nat.le_of_ble_eq_true rfl) (by decide) (by decide) hT rfl (by decide) (fun En σ9 h => ⟨h.1, Or.inl ⟨h.2.1, by have h3 := h.2.2; unfold op_sayFraction; dsimp only; (repeat' split) <;> omega⟩⟩) (kpV (fun hp9 => ?_))
  refine s_iload_n C dX7_sayFraction_12 rfl ?_
  refine s_iconst C dX7_sayFraction_13 ?_
  refine s_sipush C dX7_sayFraction_14 (by decide) ?_
  refine sx_cS3v (u2 := 3) (w2 := 18) C dX7_sayFraction_17 lkX7_82 moX7_needRange mvX7_needRange (kX7_needRange (by omega) (by decide) (by decide)) (by decide) (Nat.le_of_ble_eq_true rfl) (by decide) (by decide) hT rfl (by decide) (fun En σ9 h => ⟨h.1, Or.inr (Or.inl ⟨h.2.1, by have h3 := h.2.2; unfold op_sayFraction; dsimp only; (repeat' split) <;> omega⟩)⟩) (kpV (fun hp17 => ?_))
  refine s_iload_n C dX7_sayFraction_20 rfl ?_
  refine s_iconst C dX7_sayFraction_21 ?_
  refine s_sipush C dX7_sayFraction_22 (by decide) ?_
  refine sx_cS3v (u2 := 4) (w2 := 24) C dX7_sayFraction_25 lkX7_82 moX7_needRange mvX7_needRange (kX7_needRange (by omega) (by decide) (by decide)) (by decide) (Nat.le_of_ble_eq_true rfl) (by decide) (by decide) hT rfl (by decide) (fun En σ9 h => ⟨h.1, Or.inr (Or.inl ⟨h.2.1, by have h3 := h.2.2; unfold op_sayFraction; dsimp only; (repeat' split) <;> omega⟩)⟩) (kpV (fun hp25 => ?_))
  refine s_aload C dX7_sayFraction_28 rfl ?_
  refine s_iload_n C dX7_sayFraction_30 rfl ?_
  refine s_iload_n C dX7_sayFraction_31 rfl ?_
  refine s_iload C dX7_sayFraction_32 rfl ?_
  refine s_aload_n C dX7_sayFraction_34 rfl ?_
  refine s_getR (c := 7) C fl_7_18 dX7_sayFraction_35 sh_0 rfl rf_0_1 ?_
  refine s_cN4i C dX7_sayFraction_38 lkX7_181 moX4_speakFraction mvX4_speakFraction (kX4_speakFraction (by exact hsh) (by exact hD) (by exact hC) (by omega) (by omega) (by omega) (by exact sh_2)) hp2.2.2 ⟨_, _, rfl⟩ (by decide) (Nat.le_of_ble_eq_true rfl) rfl (by decide) (fun r38 σ_38 hp38 => ?_)
  refine s_pop C dX7_sayFraction_41 rfl ?_
  refine s_aload_n C dX7_sayFraction_42 rfl ?_
  refine s_getR (c := 7) C fl_7_18 dX7_sayFraction_43 sh_0 rfl rf_0_1 ?_
  refine s_getI (c := 6) (kz := 1) C fl_7_180 dX7_sayFraction_46 sh_2 rfl rfl (fun g46 => ?_)
  refine s_iret C hR dX7_sayFraction_49 rfl ⟨_, rfl, ?_⟩ (by decide)
  exact ⟨by unfold op_sayFraction; dsimp only; (repeat' split) <;> omega, hp38.2.1, RN.uL hS hN hp38.1 hp38.2, uL_ok hS (frF_ok hD _ _ _), hp38.1.C (by decide)⟩

set_option maxRecDepth 100000 in
set_option maxHeartbeats 8000000 in
theorem kX7_said {E : sv_E} {σ : sv_G} {S : st_T} (hS : StOK S) (hN : RN σ S) {x : Int} (hx : -2147483648 ≤ x ∧ x ≤ 2147483647) : CX E MX7_said 6 [(vR 0), (vI x)] σ (PI fun r σ9 => oP σ σ9 r (op_said S x)) (px3 σ (op_said S x).1 xI "" "") := by
  refine CX.of (RX7, cX7_said, 2, (some .int), [], 6, 1, 6) rfl moX7_said (by decide +kernel) (Nat.le_of_ble_eq_true rfl) (ls0 := [some (vR 0), some (vI x)]) rfl ?_
  intro X Q C hR hT
  have hL := hN.2.1
  refine s_iload_n C dX7_said_0 rfl ?_
  refine s_if_lt (tgt := 15) C dX7_said_1 (by decide) (by omega) (fun c1 => ?_) (fun c1 => ?_)
  · exact s_throwG (sa := 0) (ik := 185) (is := 187) (ic := 189) C hT atX7_189 lcX7_185 lsX7_187 rfl (by exact ⟨rfl, Or.inl ⟨rfl, by have hl : σ 2 1 = (sL S).length := hL.1; unfold op_said; dsimp only; (repeat' split) <;> omega⟩⟩) (by decide) (by decide) (by decide) (Nat.le_of_ble_eq_true rfl) false dX7_said_15 dX7_said_18 ⟨dX7_said_19, dX7_said_21, dX7_said_24⟩
  · refine s_iload_n C dX7_said_4 rfl ?_
    refine s_aload_n C dX7_said_5 rfl ?_
    refine s_getR (c := 7) C fl_7_18 dX7_said_6 sh_0 rfl rf_0_1 ?_
    refine s_getI (c := 6) (kz := 1) C fl_7_180 dX7_said_9 sh_2 rfl rfl (fun g9 => ?_)
    have hl : σ 2 1 = (sL S).length := hL.1
    have hl : σ 2 1 = (sL S).length := hL.1
    refine s_icmp_lt (tgt := 25) C dX7_said_12 (by decide) (by omega) (by omega) (fun c12 => ?_) (fun c12 => ?_)
    · refine s_aload_n C dX7_said_25 rfl ?_
      refine s_getR (c := 7) C fl_7_18 dX7_said_26 sh_0 rfl rf_0_1 ?_
      refine s_iload_n C dX7_said_29 rfl ?_
      refine s_cN1i C dX7_said_30 lkX7_190 moX6_wordAt mvX6_wordAt (kX6_wordAt (by exact sh_2) (by omega) (by exact hL)) sh_2 ⟨_, _, rfl⟩ (by decide) (Nat.le_of_ble_eq_true rfl) rfl (by decide) (kpI (fun r30 hp30 => ?_))
      refine s_iret C hR dX7_said_33 rfl ⟨_, rfl, ?_⟩ (by decide)
      have h9 := hp30.2
      rw [if_pos (by omega)] at h9
      exact oP.same hS hN (by (repeat' split) <;> omega) h9
    · exact s_throwG (sa := 0) (ik := 185) (is := 187) (ic := 189) C hT atX7_189 lcX7_185 lsX7_187 rfl (by exact ⟨rfl, Or.inl ⟨rfl, by have hl : σ 2 1 = (sL S).length := hL.1; unfold op_said; dsimp only; (repeat' split) <;> omega⟩⟩) (by decide) (by decide) (by decide) (Nat.le_of_ble_eq_true rfl) false dX7_said_15 dX7_said_18 ⟨dX7_said_19, dX7_said_21, dX7_said_24⟩

set_option maxRecDepth 100000 in
set_option maxHeartbeats 8000000 in
theorem kX7_hear {E : sv_E} {σ : sv_G} {S : st_T} (hS : StOK S) (hN : RN σ S) {x : Int} (hx : -2147483648 ≤ x ∧ x ≤ 2147483647) : CX E MX7_hear 8 [(vR 0), (vI x)] σ (PI fun r σ9 => oP σ σ9 r (op_hear S x)) (px3 σ (op_hear S x).1 xI xS "") := by
  refine CX.of (RX7, cX7_hear, 2, (some .int), [], 8, 2, 12) rfl moX7_hear (by decide +kernel) (Nat.le_of_ble_eq_true rfl) (ls0 := [some (vR 0), some (vI x)]) rfl ?_
  intro X Q C hR hT
  have hH := hN.2.2.1
  have hh := hS.2.2.1
  refine s_iload_n C dX7_hear_0 rfl ?_
  refine sx_cS1v (u2 := 1) (w2 := 6) C dX7_hear_1 lkX7_127 moX7_needWordOrNone mvX7_needWordOrNone (kX7_needWordOrNone (by omega)) (by decide) (Nat.le_of_ble_eq_true rfl) (by decide) (by decide) hT rfl (by decide) (fun En σ9 h => ⟨h.1, Or.inl ⟨h.2.1, by have h3 := h.2.2; unfold op_hear; dsimp only; (repeat' split) <;> omega⟩⟩) (kpV (fun hp1 => ?_))
  refine s_aload_n C dX7_hear_4 rfl ?_
  refine s_getR (c := 7) C fl_7_22 dX7_hear_5 sh_0 rfl rf_0_2 ?_
  refine s_iload_n C dX7_hear_8 rfl ?_
  refine s_cN1i C dX7_hear_9 lkX7_193 moX6_add mvX6_add (kX6_add (by exact sh_4) (by omega) (by exact hH)) sh_4 ⟨_, _, rfl⟩ (by decide) (Nat.le_of_ble_eq_true rfl) rfl (by decide) (fun r9 σ_9 hp9 => ?_)
  have b9 : r9 = 0 ∨ r9 = 1 := by rcases hp9 with q | q <;> omega
  refine s_if_ne (tgt := 25) C dX7_hear_12 (by decide) (by omega) (fun c12 => ?_) (fun c12 => ?_)
  · refine s_aload_n C dX7_hear_25 rfl ?_
    refine s_getR (c := 7) C fl_7_22 dX7_hear_26 sh_0 rfl rf_0_2 ?_
    refine s_getI (c := 6) (kz := 1) C fl_7_180 dX7_hear_29 sh_4 rfl rfl (fun g29 => ?_)
    refine s_iret C hR dX7_hear_32 rfl ⟨_, rfl, ?_⟩ (by decide)
    rcases hp9 with ⟨q1, q2, q3, q4⟩ | q
    · refine ⟨by unfold op_hear; dsimp only; (repeat' split) <;> omega, ?_, RN.uH hS hN q4 q3, uH_ok hS ⟨hh.1.one (by omega), by simp; omega⟩, frR.C q4 (by decide)⟩
      rw [q3.1]; simp; rfl
    · exfalso; omega
  · have px : px3 σ (op_hear S x).1 xI xS "" xS σ_9 := by
      rcases hp9 with q | ⟨q1, q2, q3⟩
      · exfalso; omega
      · exact ⟨q3, Or.inr (Or.inl ⟨rfl, by unfold op_hear; dsimp only; (repeat' split) <;> omega⟩)⟩
    exact s_throwG (sa := 0) (ik := 96) (is := 196) (ic := 100) C hT atX7_100 lcX7_96 lsX7_196 rfl (by exact px) (by decide) (by decide) (by decide) (Nat.le_of_ble_eq_true rfl) false dX7_hear_15 dX7_hear_18 ⟨dX7_hear_19, dX7_hear_21, dX7_hear_24⟩
set_option maxRecDepth 100000 in
set_option maxHeartbeats 8000000 in
theorem kX7_hearSaid {E : sv_E} {σ : sv_G} {S : st_T} (hS : StOK S) (hN : RN σ S)  : CT E MX7_hearSaid 1 [(vR 0)] σ (PI fun r σ9 => oP σ σ9 r (op_hearSaid S)) := by
  refine CT.of (RX7, cX7_hearSaid, 1, (some .int), [], 1, 0, 0) rfl moX7_hearSaid (Nat.le_of_ble_eq_true rfl) (ls0 := [some (vR 0)]) rfl ?_
  intro X Q C hR
  refine s_aload_n C dX7_hearSaid_0 rfl ?_
  refine s_getR (c := 7) C fl_7_22 dX7_hearSaid_1 sh_0 rfl rf_0_2 ?_
  refine s_aload_n C dX7_hearSaid_4 rfl ?_
  refine s_getR (c := 7) C fl_7_18 dX7_hearSaid_5 sh_0 rfl rf_0_1 ?_
  refine s_cN1v C dX7_hearSaid_8 lkX7_198 moX6_copy mvX6_copy (kX6_copy (by exact sh_4) (by exact sh_2) (by decide) (by exact hN.2.1)) sh_4 ⟨_, _, rfl⟩ (by decide) (Nat.le_of_ble_eq_true rfl) rfl (by decide) (fun σ_8 hp8 => ?_)
  refine s_aload_n C dX7_hearSaid_11 rfl ?_
  refine s_getR (c := 7) C fl_7_22 dX7_hearSaid_12 sh_0 rfl rf_0_2 ?_
  refine s_getI (c := 6) (kz := 1) C fl_7_180 dX7_hearSaid_15 sh_4 rfl rfl (fun g15 => ?_)
  refine s_iret C hR dX7_hearSaid_18 rfl ⟨_, rfl, ?_⟩ (by decide)
  exact ⟨rfl, hp8.1.1, RN.uH hS hN hp8.2 hp8.1, uH_ok hS ⟨hS.2.1.1.h, hS.2.1.2⟩, frR.C hp8.2 (by decide)⟩
set_option maxRecDepth 100000 in
set_option maxHeartbeats 8000000 in
theorem kX7_forget {E : sv_E} {σ : sv_G} {S : st_T} (hS : StOK S) (hN : RN σ S)  : CT E MX7_forget 1 [(vR 0)] σ (PI fun r σ9 => oP σ σ9 r (op_forget S)) := by
  refine CT.of (RX7, cX7_forget, 2, (some .int), [], 1, 0, 0) rfl moX7_forget (Nat.le_of_ble_eq_true rfl) (ls0 := [some (vR 0), none]) rfl ?_
  intro X Q C hR
  refine s_aload_n C dX7_forget_0 rfl ?_
  refine s_getR (c := 7) C fl_7_22 dX7_forget_1 sh_0 rfl rf_0_2 ?_
  refine s_getI (c := 6) (kz := 1) C fl_7_180 dX7_forget_4 sh_4 rfl rfl (fun g4 => ?_)
  refine s_topI (fun x1_7 ex1_7 => ?_)
  refine s_istore_n (ls2 := [some (vR 0), some (vI x1_7)]) C dX7_forget_7 (by decide) rfl ?_
  refine s_aload_n C dX7_forget_8 rfl ?_
  refine s_getR (c := 7) C fl_7_22 dX7_forget_9 sh_0 rfl rf_0_2 ?_
  refine s_cN0v C dX7_forget_12 lkX7_202 moX6_clear mvX6_clear (kX6_clear (by exact sh_4)) sh_4 ⟨_, _, rfl⟩ (by decide) (Nat.le_of_ble_eq_true rfl) rfl (by decide) (fun σ_12 hp12 => ?_)
  refine s_iload_n C dX7_forget_15 rfl ?_
  refine s_iret C hR dX7_forget_16 rfl ⟨_, rfl, ?_⟩ (by decide)
  have hf : frR σ σ_12 4 := fun b k h _ => hp12.2 b k h
  exact ⟨rfl, ex1_7.trans hN.2.2.1.1, RN.uH hS hN hf hp12.1, uH_ok hS ⟨(fun _ h => by cases h), Nat.zero_le _⟩, hf.C (by decide)⟩
set_option maxRecDepth 100000 in
set_option maxHeartbeats 8000000 in
theorem kX7_dropExamples {E : sv_E} {σ : sv_G} {S : st_T} (hS : StOK S) (hN : RN σ S)  : CT E MX7_dropExamples 0 [(vR 0)] σ (PI fun r σ9 => oP σ σ9 r (op_dropExamples S)) := by
  refine CT.of (RX7, cX7_dropExamples, 2, (some .int), [], 0, 0, 0) rfl moX7_dropExamples (Nat.le_of_ble_eq_true rfl) (ls0 := [some (vR 0), none]) rfl ?_
  intro X Q C hR
  refine s_aload_n C dX7_dropExamples_0 rfl ?_
  refine s_getI (c := 7) (kz := 10) C fl_7_52 dX7_dropExamples_1 sh_0 rfl rfl (fun g1 => ?_)
  refine s_topI (fun x1_4 ex1_4 => ?_)
  refine s_istore_n (ls2 := [some (vR 0), some (vI x1_4)]) C dX7_dropExamples_4 (by decide) rfl ?_
  refine s_aload_n C dX7_dropExamples_5 rfl ?_
  refine s_iconst C dX7_dropExamples_6 ?_
  refine s_putI (c := 7) (kz := 10) C fl_7_52 dX7_dropExamples_7 sh_0 rfl (fun _ _ h9 => by cases h9; rfl) (by omega) rfl ?_
  refine s_nameG (fun σ_7 hσ_7 => ?_)
  refine s_iload_n C dX7_dropExamples_10 rfl ?_
  refine s_iret C hR dX7_dropExamples_11 rfl ⟨_, rfl, ?_⟩ (by decide)
  have hf : ∀ b k, (b ≠ 0 ∨ k ≠ 10) → σ_7 b k = σ b k := fun b k h => by rw [hσ_7, up_n h]
  have hl := hS.2.2.2.1.1
  obtain ⟨g1, g2, g3, g4, g5, g6, g7⟩ := hN
  exact ⟨rfl, ex1_4.trans g4, ⟨fun g a1 a2 => (g1 g a1 a2).fr (hS.1 g a1 a2) fun b k b1 b2 => hf b k (by omega), g2.fr fun b k _ _ => hf b k (by omega), g3.fr fun b k _ _ => hf b k (by omega), by rw [hσ_7, up_s]; rfl, fun i hi => absurd hi (Nat.not_lt_zero i), fun i a1 a2 => by rw [hf _ _ (by omega), hf _ _ (by omega)]; exact g6 i a1 a2, by rw [hf _ _ (by omega)]; exact g7⟩, ⟨hS.1, hS.2.1, hS.2.2.1, ⟨Nat.zero_le _, fun e he => by cases he⟩, hS.2.2.2.2⟩, fun b k h => hf b k (by omega)⟩

set_option maxRecDepth 100000 in
set_option maxHeartbeats 8000000 in
theorem kX7_example {E : sv_E} {σ : sv_G} {S : st_T} (hS : StOK S) (hN : RN σ S) {x : Int} (hx : -2147483648 ≤ x ∧ x ≤ 2147483647) : CX E MX7_example 7 [(vR 0), (vI x)] σ (PI fun r σ9 => oP σ σ9 r (op_example S x)) (px3 σ (op_example S x).1 xA xS "") := by
  refine CX.of (RX7, cX7_example, 2, (some .int), [], 7, 2, 12) rfl moX7_example (by decide +kernel) (Nat.le_of_ble_eq_true rfl) (ls0 := [some (vR 0), some (vI x)]) rfl ?_
  intro X Q C hR hT
  have hH := hN.2.2.1
  have hh := hS.2.2.1
  have hec : σ 0 10 = (sE S).length := hN.2.2.2.1
  have hel := hS.2.2.2.1.1
  have hhl : σ 4 1 = (sH S).length := hH.1
  refine s_iload_n C dX7_example_0 rfl ?_
  refine s_iconst C dX7_example_1 ?_
  refine s_sipush C dX7_example_2 (by decide) ?_
  refine sx_cS3v (u2 := 1) (w2 := 6) C dX7_example_5 lkX7_82 moX7_needRange mvX7_needRange (kX7_needRange (by omega) (by decide) (by decide)) (by decide) (Nat.le_of_ble_eq_true rfl) (by decide) (by decide) hT rfl (by decide) (fun En σ9 h => ⟨h.1, Or.inl ⟨h.2.1, by have h3 := h.2.2; unfold op_example; dsimp only; (repeat' split) <;> omega⟩⟩) (kpV (fun hp5 => ?_))
  refine s_aload_n C dX7_example_8 rfl ?_
  refine s_getI (c := 7) (kz := 10) C fl_7_52 dX7_example_9 sh_0 rfl rfl (fun g9 => ?_)
  refine s_bipush C dX7_example_12 (by decide) ?_
  have J38 : ((sE S).length = 20 ∨ okH (sH S) = 0) → SW X E Q 1 6 38 [some (vR 0), some (vI x)] [] σ := by
    intro  j38_0
    exact s_throwG (sa := 0) (ik := 96) (is := 240) (ic := 100) C hT atX7_100 lcX7_96 lsX7_240 rfl (by exact ⟨rfl, Or.inr (Or.inl ⟨rfl, by unfold op_example; dsimp only; (repeat' split) <;> omega⟩)⟩) (by decide) (by decide) (by decide) (Nat.le_of_ble_eq_true rfl) false dX7_example_38 dX7_example_41 ⟨dX7_example_42, dX7_example_44, dX7_example_47⟩
  refine s_icmp_ge (tgt := 38) C dX7_example_14 (by decide) (by omega) (by omega) (fun c14 => ?_) (fun c14 => ?_)
  · exact J38 (by first | assumption | omega)
  · refine s_aload_n C dX7_example_17 rfl ?_
    refine s_getR (c := 7) C fl_7_22 dX7_example_18 sh_0 rfl rf_0_2 ?_
    refine s_getI (c := 6) (kz := 1) C fl_7_180 dX7_example_21 sh_4 rfl rfl (fun g21 => ?_)
    refine s_if_eq (tgt := 38) C dX7_example_24 (by decide) (by omega) (fun c24 => ?_) (fun c24 => ?_)
    · refine J38 ?_
      · exact Or.inr (okH_0 (Or.inl (by omega)))
    · refine s_aload_n C dX7_example_27 rfl ?_
      refine s_getR (c := 7) C fl_7_22 dX7_example_28 sh_0 rfl rf_0_2 ?_
      refine s_iconst C dX7_example_31 ?_
      refine s_cN1i C dX7_example_32 lkX7_237 moX6_has mvX6_has (kX6_has (by exact sh_4) (by decide) (by exact hH)) sh_4 ⟨_, _, rfl⟩ (by decide) (Nat.le_of_ble_eq_true rfl) rfl (by decide) (kpI (fun r32 hp32 => ?_))
      have b32 : r32 = 0 ∨ r32 = 1 := by rcases hp32 with q | q <;> omega
      refine s_if_eq (tgt := 48) C dX7_example_35 (by decide) (by omega) (fun c35 => ?_) (fun c35 => ?_)
      · refine s_aload_n C dX7_example_48 rfl ?_
        refine s_getR (c := 7) C fl_7_45 dX7_example_49 sh_0 rfl rf_0_8 ?_
        refine s_aload_n C dX7_example_52 rfl ?_
        refine s_getI (c := 7) (kz := 10) C fl_7_52 dX7_example_53 sh_0 rfl rfl (fun g53 => ?_)
        refine s_iload_n C dX7_example_56 rfl ?_
        refine s_iast C dX7_example_57 sh_16 (by omega) (by omega) ?_
        refine s_nameG (fun σ_57 hσ_57 => ?_)
        have e57 : σ_57 0 10 = (sE S).length := by rw [hσ_57, up_a (by decide)]; exact hec
        have hH2 : Rw σ_57 4 (sH S) := hH.fr fun b k h1 h2 => by rw [hσ_57, up_a (by omega)]
        refine s_aload_n C dX7_example_58 rfl ?_
        refine s_getR (c := 7) C fl_7_48 dX7_example_59 sh_0 rfl rf_0_9 ?_
        refine s_aload_n C dX7_example_62 rfl ?_
        refine s_getI (c := 7) (kz := 10) C fl_7_52 dX7_example_63 sh_0 rfl rfl (fun g63 => ?_)
        refine s_aald (t := 3) C dX7_example_66 sh_17 (by decide) (by omega) (rfa_17 (show (σ_57 0 10).toNat < 20 by omega)) ?_
        refine s_aload_n C dX7_example_67 rfl ?_
        refine s_getR (c := 7) C fl_7_22 dX7_example_68 sh_0 rfl rf_0_2 ?_
        refine s_cN1v C dX7_example_71 lkX7_198 moX6_copy mvX6_copy (kX6_copy (by exact (sha_17 (show (σ_57 0 10).toNat < 20 by omega))) (by exact sh_4) (by omega) (by exact hH2)) (sha_17 (show (σ_57 0 10).toNat < 20 by omega)) ⟨_, _, rfl⟩ (by decide) (Nat.le_of_ble_eq_true rfl) rfl (by decide) (fun σ_71 hp71 => ?_)
        have f71 : ∀ b k, b ≠ 91 + 2 * (σ_57 0 10).toNat → b ≠ 91 + 2 * (σ_57 0 10).toNat + 1 → σ_71 b k = σ_57 b k := hp71.2
        have e71 : σ_71 0 10 = (sE S).length := by rw [f71 _ _ (by omega) (by omega)]; exact e57
        refine s_aload_n C dX7_example_74 rfl ?_
        refine s_dup C dX7_example_75 rfl ?_
        refine s_getI (c := 7) (kz := 10) C fl_7_52 dX7_example_76 sh_0 rfl rfl (fun g76 => ?_)
        refine s_iconst C dX7_example_79 ?_
        refine s_iadd C dX7_example_80 ?_
        refine s_putI (c := 7) (kz := 10) C fl_7_52 dX7_example_81 sh_0 rfl (fun _ _ h9 => by cases h9; rfl) (by omega) rfl ?_
        refine s_nameG (fun σ_81 hσ_81 => ?_)
        refine s_aload_n C dX7_example_84 rfl ?_
        refine s_getI (c := 7) (kz := 10) C fl_7_52 dX7_example_85 sh_0 rfl rfl (fun g85 => ?_)
        refine s_iret C hR dX7_example_88 rfl ⟨_, rfl, ?_⟩ (by decide)
        have hk : okH (sH S) = 1 := by
          rcases hp32 with ⟨q1, q2⟩ | ⟨q1, q2⟩
          · exfalso; omega
          · exact okH_1 (by omega) q2
        have hw := okH_w hh.1 hk
        have hf : ∀ b k, (b ≠ 0 ∨ k ≠ 10) → b ≠ 16 → b ≠ 91 + 2 * (sE S).length → b ≠ 91 + 2 * (sE S).length + 1 → σ_81 b k = σ b k := fun b k h1 h2 h3 h4 => by rw [hσ_81, up_n h1, f71 _ _ (by omega) (by omega), hσ_57, up_a h2]
        have hf2 : ∀ b k, b ≤ 5 → (b ≠ 0 ∨ k ≠ 10) → σ_81 b k = σ b k := fun b k h1 h2 => hf b k h2 (by omega) (by omega) (by omega)
        obtain ⟨g1, g2, g3, g4, g5, g6, g7⟩ := hN
        have hrow : Rw σ_81 (91 + 2 * (sE S).length) (sH S) := by
          have h9 := hp71.1
          rw [show (σ_57 0 10).toNat = (sE S).length by omega] at h9
          exact h9.fr fun b k h1 h2 => by rw [hσ_81, up_a (by omega)]
        refine ⟨by unfold op_example; dsimp only; (repeat' split) <;> omega, ?_, ⟨fun g a1 a2 => (g1 g a1 a2).fr (hS.1 g a1 a2) fun b k b1 b2 => hf b k (by omega) (by omega) (by omega) (by omega), g2.fr fun b k _ _ => hf2 b k (by omega) (by omega), g3.fr fun b k _ _ => hf2 b k (by omega) (by omega), ?_, fun i hi => ?_, fun i a1 a2 => by rw [hf _ _ (by omega) (by omega) (by omega) (by omega), hf _ _ (by omega) (by omega) (by omega) (by omega)]; exact g6 i a1 a2, by rw [hf _ _ (by omega) (by omega) (by omega) (by omega)]; exact g7⟩, ⟨hS.1, hS.2.1, hS.2.2.1, ⟨?_, ?_⟩, hS.2.2.2.2⟩, fun b k h => hf b k (by omega) (by omega) (by omega) (by omega)⟩
        · show _ = ((sE S).length : Int) + 1
          rw [hσ_81, up_s]; omega
        · show _ = (((sE S ++ [(x, sH S)]).length : Nat) : Int)
          rw [hσ_81, up_s, List.length_append]; simp; omega
        · have hi2 : i < (sE S ++ [(x, sH S)]).length := hi
          rw [List.length_append] at hi2
          have hi3 : i < (sE S).length + 1 := hi2
          show _ = ((sE S ++ [(x, sH S)]).getD i (0, [])).1 ∧ Rw σ_81 (91 + 2 * i) ((sE S ++ [(x, sH S)]).getD i (0, [])).2
          by_cases q : i = (sE S).length
          · have e : (sE S ++ [(x, sH S)]).getD i (0, []) = (x, sH S) := by rw [q, List.getD_eq_getElem?_getD, List.getElem?_append_right (Nat.le_refl _), Nat.sub_self]; rfl
            rw [e]
            refine ⟨?_, by rw [q]; exact hrow⟩
            rw [hσ_81, up_a (by omega), f71 _ _ (by omega) (by omega), hσ_57, up_i, if_pos (by omega)]
          · have e : (sE S ++ [(x, sH S)]).getD i (0, []) = (sE S).getD i (0, []) := by rw [List.getD_eq_getElem?_getD, List.getD_eq_getElem?_getD, List.getElem?_append_left (by omega)]
            rw [e]
            refine ⟨?_, (g5 i (by omega)).2.fr fun b k h1 h2 => hf b k (by omega) (by omega) (by omega) (by omega)⟩
            rw [hσ_81, up_a (by omega), f71 _ _ (by omega) (by omega), hσ_57, up_k (by omega)]
            exact (g5 i (by omega)).1
        · show (sE S ++ [(x, sH S)]).length ≤ 20
          rw [List.length_append]; simp; omega
        · intro e he
          rcases List.mem_append.mp he with q | q
          · exact hS.2.2.2.1.2 e q
          · rw [List.mem_singleton.mp q]; exact ⟨by omega, hh.2, hw.1, hw.2⟩
      · refine J38 ?_
        · rcases hp32 with ⟨q1, q2⟩ | ⟨q1, q2⟩
          · exact Or.inr (okH_0 (Or.inr q2))
          · exfalso; omega

set_option maxRecDepth 100000 in
set_option maxHeartbeats 8000000 in
theorem kX7_baseTold {E : sv_E} {σ : sv_G} {S : st_T} (hS : StOK S) (hN : RN σ S) {x : Int} (hx : -2147483648 ≤ x ∧ x ≤ 2147483647) {y : Int} (hy : -2147483648 ≤ y ∧ y ≤ 2147483647) {z : Int} (hz : -2147483648 ≤ z ∧ z ≤ 2147483647) : CX E MX7_baseTold 7 [(vR 0), (vI x), (vI y), (vI z)] σ (PI fun r σ9 => oP σ σ9 r (op_baseTold S x y z)) (px3 σ (op_baseTold S x y z).1 xI xA "") := by
  refine CX.of (RX7, cX7_baseTold, 5, (some .int), [], 7, 3, 18) rfl moX7_baseTold (by decide +kernel) (Nat.le_of_ble_eq_true rfl) (ls0 := [some (vR 0), some (vI x), some (vI y), some (vI z), none]) rfl ?_
  intro X Q C hR hT
  refine s_aload_n C dX7_baseTold_0 rfl ?_
  refine s_iload_n C dX7_baseTold_1 rfl ?_
  refine sx_cV1r (u2 := 1) (w2 := 6) C dX7_baseTold_2 lkX7_70 moX7_grammarAt mvX7_grammarAt (kX7_grammarAt (by omega)) sh_0 ⟨_, _, rfl⟩ (by decide) (Nat.le_of_ble_eq_true rfl) (by decide) (by decide) hT rfl (by decide) (fun En σ9 h => ⟨h.1, Or.inl ⟨h.2.1, by have h3 := h.2.2; unfold op_baseTold; dsimp only; (repeat' split) <;> omega⟩⟩) (kpI (fun r2 hp2 => ?_))
  have hr := hp2.2.1
  have hsh := hp2.2.2
  have hD := hS.1 x (by omega) (by omega)
  have hC : RC σ r2 (sD S x) := by rw [hr]; exact hN.1 x (by omega) (by omega)
  have hnb := hD.2.2.2.1
  have hn1 : σ r2 2 = gC (sD S x) 1 := hC.2.2.2.1
  refine s_iload_n C dX7_baseTold_5 rfl ?_
  refine sx_cS2r (u2 := 2) (w2 := 12) C dX7_baseTold_6 lkX7_123 moX7_baseAt mvX7_baseAt (kX7_baseAt (by exact hsh) (by exact hn1) (by omega) (by omega)) (by decide) (Nat.le_of_ble_eq_true rfl) (by decide) (by decide) hT rfl (by decide) (fun En σ9 h => ⟨h.1, Or.inl ⟨h.2.1, by have h3 := h.2.2; unfold op_baseTold; dsimp only; (repeat' split) <;> omega⟩⟩) (kpI (fun r6 hp6 => ?_))
  have hb6 := hp6.2.1
  have hsh6 := hp6.2.2
  have hbf : ∀ k : Nat, k < 7 → σ r6 (k : Int) = gB (sD S x) y k := fun k hk => by rw [hb6]; exact hC.2.2.2.2.1 y k (by omega) (by omega) hk
  have hbo := hD.2.2.2.2.2.2.2.1 y (by omega) (by omega)
  obtain ⟨s0, s1, s2, s3, s4, s5, s6⟩ := hbo
  refine s_astore (ls2 := [some (vR 0), some (vI x), some (vI y), some (vI z), some (vR r6)]) C dX7_baseTold_9 (by decide) rfl ?_
  refine s_iload_n C dX7_baseTold_11 rfl ?_
  refine s_topI (fun sw12 esw12 => ?_)
  have hsw12 : sw12 = 0 ∨ sw12 = 1 ∨ sw12 = 2 ∨ sw12 = 3 ∨ sw12 = 4 ∨ sw12 = 5 ∨ sw12 = 6 ∨ (sw12 < 0 ∨ 6 < sw12) := by omega
  rcases hsw12 with hsw12_0 | hsw12_1 | hsw12_2 | hsw12_3 | hsw12_4 | hsw12_5 | hsw12_6 | hsw12_d
  · refine s_tsIn (tgt := 56) C dX7_baseTold_12 (by omega) (by rw [hsw12_0]; decide) (by rw [hsw12_0]; decide) (by rw [hsw12_0]; rfl) (by decide) ?_
    have e0 := hbf 0 (by decide)
    have hz0 : z = 0 := by omega
    refine s_aload C dX7_baseTold_56 rfl ?_
    refine s_getI (c := 1) (kz := 0) C fl_7_258 dX7_baseTold_58 hp6.2.2 rfl rfl (fun g58 => ?_)
    refine s_iret C hR dX7_baseTold_61 rfl ⟨_, rfl, ?_⟩ (by decide)
    exact oP.same hS hN (by (repeat' split) <;> omega) (by rw [hz0]; exact e0)
  · refine s_tsIn (tgt := 62) C dX7_baseTold_12 (by omega) (by rw [hsw12_1]; decide) (by rw [hsw12_1]; decide) (by rw [hsw12_1]; rfl) (by decide) ?_
    have e1 := hbf 1 (by decide)
    have hz0 : z = 1 := by omega
    refine s_aload C dX7_baseTold_62 rfl ?_
    refine s_getI (c := 1) (kz := 1) C fl_7_261 dX7_baseTold_64 hp6.2.2 rfl rfl (fun g64 => ?_)
    refine s_iret C hR dX7_baseTold_67 rfl ⟨_, rfl, ?_⟩ (by decide)
    exact oP.same hS hN (by (repeat' split) <;> omega) (by rw [hz0]; exact e1)
  · refine s_tsIn (tgt := 68) C dX7_baseTold_12 (by omega) (by rw [hsw12_2]; decide) (by rw [hsw12_2]; decide) (by rw [hsw12_2]; rfl) (by decide) ?_
    have e2 := hbf 2 (by decide)
    have hz0 : z = 2 := by omega
    refine s_aload C dX7_baseTold_68 rfl ?_
    refine s_getI (c := 1) (kz := 2) C fl_7_264 dX7_baseTold_70 hp6.2.2 rfl rfl (fun g70 => ?_)
    refine s_iret C hR dX7_baseTold_73 rfl ⟨_, rfl, ?_⟩ (by decide)
    exact oP.same hS hN (by (repeat' split) <;> omega) (by rw [hz0]; exact e2)
  · refine s_tsIn (tgt := 74) C dX7_baseTold_12 (by omega) (by rw [hsw12_3]; decide) (by rw [hsw12_3]; decide) (by rw [hsw12_3]; rfl) (by decide) ?_
    have e3 := hbf 3 (by decide)
    have hz0 : z = 3 := by omega
    refine s_aload C dX7_baseTold_74 rfl ?_
    refine s_getI (c := 1) (kz := 3) C fl_7_267 dX7_baseTold_76 hp6.2.2 rfl rfl (fun g76 => ?_)
    refine s_iret C hR dX7_baseTold_79 rfl ⟨_, rfl, ?_⟩ (by decide)
    exact oP.same hS hN (by (repeat' split) <;> omega) (by rw [hz0]; exact e3)
  · refine s_tsIn (tgt := 80) C dX7_baseTold_12 (by omega) (by rw [hsw12_4]; decide) (by rw [hsw12_4]; decide) (by rw [hsw12_4]; rfl) (by decide) ?_
    have e4 := hbf 4 (by decide)
    have hz0 : z = 4 := by omega
    refine s_aload C dX7_baseTold_80 rfl ?_
    refine s_getI (c := 1) (kz := 4) C fl_7_130 dX7_baseTold_82 hp6.2.2 rfl rfl (fun g82 => ?_)
    refine s_iret C hR dX7_baseTold_85 rfl ⟨_, rfl, ?_⟩ (by decide)
    exact oP.same hS hN (by (repeat' split) <;> omega) (by rw [hz0]; exact e4)
  · refine s_tsIn (tgt := 86) C dX7_baseTold_12 (by omega) (by rw [hsw12_5]; decide) (by rw [hsw12_5]; decide) (by rw [hsw12_5]; rfl) (by decide) ?_
    have e5 := hbf 5 (by decide)
    have hz0 : z = 5 := by omega
    refine s_aload C dX7_baseTold_86 rfl ?_
    refine s_getI (c := 1) (kz := 5) C fl_7_135 dX7_baseTold_88 hp6.2.2 rfl rfl (fun g88 => ?_)
    refine s_iret C hR dX7_baseTold_91 rfl ⟨_, rfl, ?_⟩ (by decide)
    exact oP.same hS hN (by (repeat' split) <;> omega) (by rw [hz0]; exact e5)
  · refine s_tsIn (tgt := 92) C dX7_baseTold_12 (by omega) (by rw [hsw12_6]; decide) (by rw [hsw12_6]; decide) (by rw [hsw12_6]; rfl) (by decide) ?_
    have e6 := hbf 6 (by decide)
    have hz0 : z = 6 := by omega
    refine s_aload C dX7_baseTold_92 rfl ?_
    refine s_getI (c := 1) (kz := 6) C fl_7_138 dX7_baseTold_94 hp6.2.2 rfl rfl (fun g94 => ?_)
    refine s_iret C hR dX7_baseTold_97 rfl ⟨_, rfl, ?_⟩ (by decide)
    exact oP.same hS hN (by (repeat' split) <;> omega) (by rw [hz0]; exact e6)
  · refine s_tsOut (tgt := 98) C dX7_baseTold_12 (by omega) hsw12_d (by decide) ?_
    exact s_throwG (sa := 0) (ik := 211) (is := 270) (ic := 215) C hT atX7_215 lcX7_211 lsX7_270 rfl (by exact ⟨rfl, Or.inr (Or.inl ⟨rfl, by unfold op_baseTold; dsimp only; (repeat' split) <;> omega⟩)⟩) (by decide) (by decide) (by decide) (Nat.le_of_ble_eq_true rfl) true dX7_baseTold_98 dX7_baseTold_101 ⟨dX7_baseTold_102, dX7_baseTold_105, dX7_baseTold_108⟩


set_option maxRecDepth 100000 in
set_option maxHeartbeats 8000000 in
theorem kX7_cord {E : sv_E} {σ : sv_G} {S : st_T} (hS : StOK S) (hN : RN σ S) {x : Int} (hx : -2147483648 ≤ x ∧ x ≤ 2147483647) {y : Int} (hy : -2147483648 ≤ y ∧ y ≤ 2147483647) : CX E MX7_cord 7 [(vR 0), (vI x), (vI y)] σ (PI fun r σ9 => oP σ σ9 r (op_cord S x y)) (px3 σ (op_cord S x y).1 xI xA "") := by
  refine CX.of (RX7, cX7_cord, 4, (some .int), [], 7, 2, 12) rfl moX7_cord (by decide +kernel) (Nat.le_of_ble_eq_true rfl) (ls0 := [some (vR 0), some (vI x), some (vI y), none]) rfl ?_
  intro X Q C hR hT
  have h6 := hN.2.2.2.2.2.1 x
  refine s_iload_n C dX7_cord_0 rfl ?_
  refine sx_cS1v (u2 := 1) (w2 := 6) C dX7_cord_1 lkX7_275 moX7_needCord mvX7_needCord (kX7_needCord (by omega)) (by decide) (Nat.le_of_ble_eq_true rfl) (by decide) (by decide) hT rfl (by decide) (fun En σ9 h => ⟨h.1, Or.inl ⟨h.2.1, by have h3 := h.2.2; unfold op_cord; dsimp only; (repeat' split) <;> omega⟩⟩) (kpV (fun hp1 => ?_))
  refine s_iload_n C dX7_cord_4 rfl ?_
  refine s_iconst C dX7_cord_5 ?_
  refine s_bipush C dX7_cord_6 (by decide) ?_
  refine sx_cS3v (u2 := 2) (w2 := 12) C dX7_cord_8 lkX7_82 moX7_needRange mvX7_needRange (kX7_needRange (by omega) (by decide) (by decide)) (by decide) (Nat.le_of_ble_eq_true rfl) (by decide) (by decide) hT rfl (by decide) (fun En σ9 h => ⟨h.1, Or.inr (Or.inl ⟨h.2.1, by have h3 := h.2.2; unfold op_cord; dsimp only; (repeat' split) <;> omega⟩)⟩) (kpV (fun hp8 => ?_))
  refine s_aload_n C dX7_cord_11 rfl ?_
  refine s_getR (c := 7) C fl_7_65 dX7_cord_12 sh_0 rfl rf_0_13 ?_
  refine s_getR (c := 2) C fl_7_278 dX7_cord_15 sh_20 rfl rf_20_0 ?_
  refine s_iload_n C dX7_cord_18 rfl ?_
  have h7 := h6 (by omega) (by omega)
  refine s_iald C dX7_cord_19 sh_21 (by omega) (fun g19 => ?_)
  refine s_topI (fun x3_20 ex3_20 => ?_)
  refine s_istore_n (ls2 := [some (vR 0), some (vI x), some (vI y), some (vI x3_20)]) C dX7_cord_20 (by decide) rfl ?_
  refine s_aload_n C dX7_cord_21 rfl ?_
  refine s_getR (c := 7) C fl_7_65 dX7_cord_22 sh_0 rfl rf_0_13 ?_
  refine s_getR (c := 2) C fl_7_278 dX7_cord_25 sh_20 rfl rf_20_0 ?_
  refine s_iload_n C dX7_cord_28 rfl ?_
  refine s_iload_n C dX7_cord_29 rfl ?_
  refine s_iast C dX7_cord_30 sh_21 (by omega) (by omega) ?_
  refine s_nameG (fun σ_30 hσ_30 => ?_)
  refine s_aload_n C dX7_cord_31 rfl ?_
  refine s_getR (c := 7) C fl_7_65 dX7_cord_32 sh_0 rfl rf_0_13 ?_
  refine s_cN0v C dX7_cord_35 lkX7_281 moX2_clear mvX2_clear kX2_clear sh_20 ⟨_, _, rfl⟩ (by decide) (Nat.le_of_ble_eq_true rfl) rfl (by decide) (fun σ_35 hp35 => ?_)
  refine s_iload_n C dX7_cord_38 rfl ?_
  refine s_iret C hR dX7_cord_39 rfl ⟨_, rfl, ?_⟩ (by decide)
  have hf : ∀ b k, b ≠ 21 → b ≠ 22 → (b ≠ 20 ∨ k ≠ 2) → σ_35 b k = σ b k := fun b k h1 h2 h3 => by rw [hp35.2.2 b k h2 h3, hσ_30, up_a h1]
  refine ⟨by unfold op_cord; dsimp only; (repeat' split) <;> omega, ex3_20.trans h7.1, RN.cords hS hN hf (fun i h1 h2 => ⟨?_, hp35.1 i h1 h2⟩) hp35.2.1, ⟨hS.1, hS.2.1, hS.2.2.1, hS.2.2.2.1, fun i h1 h2 => ?_, by show (-9223372036854775808 : Int) ≤ 0 ∧ (0 : Int) ≤ 9223372036854775807; decide⟩, fun b k h => hf b k (by omega) (by omega) (by omega)⟩
  · show _ = if i = x then y else sB S i
    rw [hp35.2.2 _ _ (by decide) (Or.inl (by decide)), hσ_30, up_i, (hN.2.2.2.2.2.1 i h1 h2).1]
  · have h8 := hS.2.2.2.2.1 i h1 h2
    show 2 ≤ (if i = x then y else sB S i) ∧ (if i = x then y else sB S i) ≤ 60 ∧ (0 : Int) ≤ 0 ∧ (0 : Int) < (if i = x then y else sB S i)
    split <;> omega
set_option maxRecDepth 100000 in
set_option maxHeartbeats 8000000 in
theorem kX7_count {E : sv_E} {σ : sv_G} {S : st_T} (hS : StOK S) (hN : RN σ S) {x : Int} (hx : -9223372036854775808 ≤ x ∧ x ≤ 9223372036854775807) : CT E MX7_count 2 [(vR 0), (vL x)] σ (PL fun r σ9 => (-9223372036854775808 ≤ r ∧ r ≤ 9223372036854775807) ∧ oP σ σ9 r (0, cdC (sB S) (sT S) x 6, nx_count S x)) := by
  refine CT.of (RX7, cX7_count, 3, (some .long), [], 2, 0, 0) rfl moX7_count (Nat.le_of_ble_eq_true rfl) (ls0 := [some (vR 0), some (vL x), none]) rfl ?_
  intro X Q C hR
  have h6 := hN.2.2.2.2.2.1
  have h7 := hN.2.2.2.2.2.2
  have hcd : CdOK σ 21 22 := fun i h1 h2 => by rw [(h6 i h1 h2).1, (h6 i h1 h2).2]; exact hS.2.2.2.2.1 i h1 h2
  have hcc : ∀ i : Nat, i ≤ 6 → cdC (σ 21) (σ 22) x i = cdC (sB S) (sT S) x i := fun i hi => cdC_congr i fun j hj => h6 j (by omega) (by omega)
  refine s_aload_n C dX7_count_0 rfl ?_
  refine s_getR (c := 7) C fl_7_65 dX7_count_1 sh_0 rfl rf_0_13 ?_
  refine s_lload_n C dX7_count_4 rfl ?_
  refine s_cN1l C dX7_count_5 lkX7_282 moX2_add mvX2_add (kX2_add (by exact hx) (by exact hcd)) sh_20 ⟨_, _, rfl⟩ (by decide) (Nat.le_of_ble_eq_true rfl) rfl (by decide) (fun r5 σ_5 hp5 => ?_)
  refine s_lret C hR dX7_count_8 rfl ⟨_, rfl, ?_⟩ (by decide)
  obtain ⟨e1, e2, e3, e4, e5⟩ := hp5
  rw [hcc 6 (by decide)] at e1
  refine ⟨e2, rfl, e1, RN.cords hS hN (fun b k h1 h2 h3 => e5 b k h2 h3) (fun i h1 h2 => ⟨?_, ?_⟩) ?_, ⟨hS.1, hS.2.1, hS.2.2.1, hS.2.2.2.1, fun i h1 h2 => ?_, wrL_rng _⟩, fun b k h => e5 b k (by omega) (by omega)⟩
  · rw [e5 _ _ (by decide) (Or.inl (by decide))]; exact (h6 i h1 h2).1
  · have h9 := e3 i.toNat (by omega)
    rw [show (i.toNat : Int) = i by omega, hcc i.toNat (by omega), (h6 i h1 h2).1, (h6 i h1 h2).2] at h9
    exact h9
  · rw [e4, h7, e1]
  · have h9 := hS.2.2.2.2.1 i h1 h2
    exact ⟨h9.1, h9.2.1, Int.emod_nonneg _ (show sB S i ≠ 0 by omega), Int.emod_lt_of_pos _ (show 0 < sB S i by omega)⟩

set_option maxRecDepth 100000 in
set_option maxHeartbeats 8000000 in
theorem kX7_knots {E : sv_E} {σ : sv_G} {S : st_T} (hS : StOK S) (hN : RN σ S) {x : Int} (hx : -2147483648 ≤ x ∧ x ≤ 2147483647) : CX E MX7_knots 7 [(vR 0), (vI x)] σ (PI fun r σ9 => oP σ σ9 r (op_knots S x)) (px3 σ (op_knots S x).1 xI "" "") := by
  refine CX.of (RX7, cX7_knots, 2, (some .int), [], 7, 1, 6) rfl moX7_knots (by decide +kernel) (Nat.le_of_ble_eq_true rfl) (ls0 := [some (vR 0), some (vI x)]) rfl ?_
  intro X Q C hR hT
  have h6 := hN.2.2.2.2.2.1 x
  refine s_iload_n C dX7_knots_0 rfl ?_
  refine sx_cS1v (u2 := 1) (w2 := 6) C dX7_knots_1 lkX7_275 moX7_needCord mvX7_needCord (kX7_needCord (by omega)) (by decide) (Nat.le_of_ble_eq_true rfl) (by decide) (by decide) hT rfl (by decide) (fun En σ9 h => ⟨h.1, Or.inl ⟨h.2.1, by have h3 := h.2.2; unfold op_knots; dsimp only; (repeat' split) <;> omega⟩⟩) (kpV (fun hp1 => ?_))
  refine s_aload_n C dX7_knots_4 rfl ?_
  refine s_getR (c := 7) C fl_7_65 dX7_knots_5 sh_0 rfl rf_0_13 ?_
  refine s_getR (c := 2) C fl_7_285 dX7_knots_8 sh_20 rfl rf_20_1 ?_
  refine s_iload_n C dX7_knots_11 rfl ?_
  refine s_iald C dX7_knots_12 sh_22 (by omega) (fun g12 => ?_)
  refine s_iret C hR dX7_knots_13 rfl ⟨_, rfl, ?_⟩ (by decide)
  exact oP.same hS hN (by (repeat' split) <;> omega) (h6 (by omega) (by omega)).2
set_option maxRecDepth 100000 in
set_option maxHeartbeats 8000000 in
theorem kX7_lost {E : sv_E} {σ : sv_G} {S : st_T} (hS : StOK S) (hN : RN σ S)  : CT E MX7_lost 0 [(vR 0)] σ (PL fun r σ9 => (-9223372036854775808 ≤ r ∧ r ≤ 9223372036854775807) ∧ oP σ σ9 r (0, sZ S, S)) := by
  refine CT.of (RX7, cX7_lost, 1, (some .long), [], 0, 0, 0) rfl moX7_lost (Nat.le_of_ble_eq_true rfl) (ls0 := [some (vR 0)]) rfl ?_
  intro X Q C hR
  refine s_aload_n C dX7_lost_0 rfl ?_
  refine s_getR (c := 7) C fl_7_65 dX7_lost_1 sh_0 rfl rf_0_13 ?_
  refine s_getL (c := 2) (kz := 2) C fl_7_288 dX7_lost_4 sh_20 rfl rfl (fun g4 => ?_)
  refine s_lret C hR dX7_lost_7 rfl ⟨_, rfl, ?_⟩ (by decide)
  exact ⟨g4, oP.same hS hN rfl hN.2.2.2.2.2.2⟩
set_option maxRecDepth 100000 in
set_option maxHeartbeats 8000000 in
theorem kX7_shown {E : sv_E} {σ : sv_G} {S : st_T} (hS : StOK S) (hN : RN σ S)  : CT E MX7_shown 1 [(vR 0)] σ (PL fun r σ9 => oP σ σ9 r (0, cdT (sB S) (sT S) 6, S)) := by
  refine CT.of (RX7, cX7_shown, 1, (some .long), [], 1, 0, 0) rfl moX7_shown (Nat.le_of_ble_eq_true rfl) (ls0 := [some (vR 0)]) rfl ?_
  intro X Q C hR
  refine s_aload_n C dX7_shown_0 rfl ?_
  refine s_getR (c := 7) C fl_7_65 dX7_shown_1 sh_0 rfl rf_0_13 ?_
  refine s_cN0l C dX7_shown_4 lkX7_292 moX2_total mvX2_total kX2_total sh_20 ⟨_, _, rfl⟩ (by decide) (Nat.le_of_ble_eq_true rfl) rfl (by decide) (kpI (fun r4 hp4 => ?_))
  refine s_lret C hR dX7_shown_7 rfl ⟨_, rfl, ?_⟩ (by decide)
  refine oP.same hS hN rfl ?_
  rw [hp4]
  exact cdT_congr 6 fun j hj => hN.2.2.2.2.2.1 j (by omega) (by omega)
