/-! What waits to be told. -/
def itD (D : gd_T) (g x : Int) : Option (List Int) := if x < 1000 then some [x] else if x < 20000 then nm D (x - 1000) else prF D (nm D) ((x - 20000) / 100 - 5 * g) ((x - 20000) % 100)
def itOK (D : gd_T) (g x : Int) : Prop := (0 ≤ x ∧ x ≤ 199) ∨ (1000 ≤ x ∧ x ≤ 10999) ∨ ((20000 ≤ x ∧ x ≤ 30000) ∧ (0 ≤ (x - 20000) / 100 - 5 * g ∧ (x - 20000) / 100 - 5 * g < gC D 1) ∧ 1 ≤ (x - 20000) % 100 ∧ (x - 20000) % 100 ≤ gB D ((x - 20000) / 100 - 5 * g) 2)
def itM (x : Int) : Nat := if x < 1000 then 1 else if x < 20000 then 4 ^ ((x - 1000).toNat + 1) else 4 ^ (((x - 20000) % 100).toNat + 1) + 2
def stD (D : gd_T) (g : Int) : List Int → Option (List Int)
  | [] => some []
  | x :: t => oap (stD D g t) (itD D g x)
def stM : List Int → Nat
  | [] => 0
  | x :: t => itM x + stM t
theorem oap_assoc (a b c : Option (List Int)) : oap (oap a b) c = oap a (oap b c) := by
  cases a <;> cases b <;> cases c <;> simp [oap]
theorem oap_nil_r (a : Option (List Int)) : oap a (some []) = a := by
  cases a <;> simp [oap]
theorem oap_nil_l (a : Option (List Int)) : oap (some []) a = a := by
  cases a <;> simp [oap]
theorem oap_one (a b : List Int) : oap (some a) (some b) = some (a ++ b) := rfl
theorem stD_app {D : gd_T} {g : Int} : ∀ (S T : List Int), stD D g (S ++ T) = oap (stD D g T) (stD D g S)
  | [], T => (oap_nil_r _).symm
  | x :: S, T => by
    show oap (stD D g (S ++ T)) (itD D g x) = oap (stD D g T) (oap (stD D g S) (itD D g x))
    rw [stD_app S T, oap_assoc]
theorem stD_one {D : gd_T} {g x : Int} : stD D g [x] = itD D g x := oap_nil_l _
theorem stM_app : ∀ (S T : List Int), stM (S ++ T) = stM S + stM T
  | [], T => (Nat.zero_add _).symm
  | x :: S, T => by
    show itM x + stM (S ++ T) = itM x + stM S + stM T
    rw [stM_app S T]; omega
theorem p4 : ∀ n : Nat, 1 ≤ 4 ^ n
  | 0 => Nat.le_refl _
  | n + 1 => by
    have := p4 n
    rw [Nat.pow_succ]; omega
theorem itM_pos (x : Int) : 1 ≤ itM x := by
  have h1 := p4 ((x - 1000).toNat + 1)
  unfold itM
  split
  · exact Nat.le_refl _
  · split
    · exact h1
    · exact Nat.le_trans (by decide : 1 ≤ 2) (Nat.le_add_left 2 _)
def itsOK (D : gd_T) (g : Int) (S : List Int) : Prop := ∀ x ∈ S, itOK D g x
theorem itsOK.app {D : gd_T} {g : Int} {S T : List Int} (h1 : itsOK D g S) (h2 : itsOK D g T) : itsOK D g (S ++ T) := fun w h => (List.mem_append.mp h).elim (h1 w) (h2 w)
theorem itsOK.one {D : gd_T} {g x : Int} (h : itOK D g x) : itsOK D g [x] := fun w hw => by rw [List.mem_singleton.mp hw]; exact h
theorem it_ne {D : gd_T} (hD : GDok D) {g x : Int} (h : itOK D g x) {l : List Int} (e : itD D g x = some l) : l ≠ [] := by
  unfold itD at e
  by_cases h1 : x < 1000
  · rw [if_pos h1] at e; cases e; exact List.cons_ne_nil _ _
  · rw [if_neg h1] at e
    by_cases h2 : x < 20000
    · rw [if_pos h2] at e; exact (nm_ok hD _ _ e).1
    · rw [if_neg h2] at e
      have h3 : 0 ≤ (x - 20000) / 100 - 5 * g ∧ (x - 20000) / 100 - 5 * g < gC D 1 := by
        rcases h with h | h | h
        · omega
        · omega
        · exact h.2.1
      exact (prF_ok (hD.2.2.2.2.2.2.2.1 _ h3.1 h3.2) (nm_ok hD _) l e).1
theorem st_len {D : gd_T} (hD : GDok D) {g : Int} : ∀ {S l : List Int}, itsOK D g S → stD D g S = some l → S.length ≤ l.length
  | [], l, _, _ => Nat.zero_le _
  | x :: S, l, h, e => by
    obtain ⟨a, b, e1, e2, rfl⟩ := oap_some e
    have h1 := st_len hD (fun w hw => h w (List.mem_cons_of_mem _ hw)) e1
    have h2 := it_ne hD (h x List.mem_cons_self) e2
    have h3 : 1 ≤ b.length := by
      cases b with
      | nil => exact absurd rfl h2
      | cons => simp
    rw [List.length_append, List.length_cons]
    omega
def SK (σ : sv_G) (S : List Int) : Prop := σ 195 24 = S.length ∧ Sg σ 218 0 S
def frK (σ σ9 : sv_G) : Prop := ∀ b k, (b ≠ 195 ∨ k ≠ 24) → b ≠ 218 → σ9 b k = σ b k
theorem frK.rf {σ : sv_G} : frK σ σ := fun _ _ _ _ => rfl
theorem frK.tr {σ σ1 σ2 : sv_G} (h : frK σ σ1) (h2 : frK σ1 σ2) : frK σ σ2 := fun b k q1 q2 => (h2 b k q1 q2).trans (h b k q1 q2)
theorem SK.push {σ σ9 : sv_G} {S : List Int} {x : Int} (h : SK σ S) (e : σ9 = up (up σ 218 (σ 195 24) x) 195 24 (σ 195 24 + 1)) : SK σ9 (S ++ [x]) ∧ frK σ σ9 := by
  refine ⟨⟨?_, fun i hi => ?_⟩, fun b k h1 h2 => by rw [e, up_n h1, up_a h2]⟩
  · rw [e, up_s, h.1, List.length_append]; simp
  · rw [List.length_append] at hi
    have hi2 : i < S.length + 1 := hi
    rw [e, up_a (by decide), up_i, h.1, List.getD_eq_getElem?_getD]
    by_cases q : i = S.length
    · rw [if_pos (by omega), q, List.getElem?_append_right (Nat.le_refl _), Nat.sub_self]; rfl
    · rw [if_neg (by omega), List.getElem?_append_left (by omega), ← List.getD_eq_getElem?_getD]
      exact h.2 i (by omega)
set_option maxRecDepth 100000 in
set_option maxHeartbeats 8000000 in
theorem kX8_waits {E : sv_E} {σ : sv_G} {S : List Int} (hS9 : SK σ S) {x : Int} (hx : -2147483648 ≤ x ∧ x ≤ 2147483647) (hl : S.length < 48) : CT E MX8_waits 0 [(vR 195), (vI x)] σ (PV fun σ9 => SK σ9 (S ++ [x]) ∧ frK σ σ9) := by
  refine CT.of (RX8, cX8_waits, 2, none, [], 0, 0, 0) rfl moX8_waits (Nat.le_of_ble_eq_true rfl) (ls0 := [some (vR 195), some (vI x)]) rfl ?_
  intro X Q C hR
  have h24 := hS9.1
  refine s_aload_n C dX8_waits_0 rfl ?_
  refine s_getR (c := 8) C fl_8_76 dX8_waits_1 sh_195 rfl rf_195_25 ?_
  refine s_aload_n C dX8_waits_4 rfl ?_
  refine s_getI (c := 8) (kz := 24) C fl_8_142 dX8_waits_5 sh_195 rfl rfl (fun g5 => ?_)
  refine s_iload_n C dX8_waits_8 rfl ?_
  refine s_iast C dX8_waits_9 sh_218 (by omega) (by omega) ?_
  refine s_nameG (fun σ_9 hσ_9 => ?_)
  have e9 : σ_9 195 24 = σ 195 24 := by rw [hσ_9, up_a (by decide)]
  refine s_aload_n C dX8_waits_10 rfl ?_
  refine s_dup C dX8_waits_11 rfl ?_
  refine s_getI (c := 8) (kz := 24) C fl_8_142 dX8_waits_12 sh_195 rfl rfl (fun g12 => ?_)
  refine s_iconst C dX8_waits_15 ?_
  refine s_iadd C dX8_waits_16 ?_
  refine s_putI (c := 8) (kz := 24) C fl_8_142 dX8_waits_17 sh_195 rfl (fun _ _ h9 => by cases h9; rfl) (by omega) rfl ?_
  refine s_nameG (fun σ_17 hσ_17 => ?_)
  refine s_vret C hR dX8_waits_20 rfl ⟨rfl, ?_⟩ (by decide)
  exact hS9.push (by rw [hσ_17, e9, hσ_9])
set_option maxRecDepth 100000 in
set_option maxHeartbeats 8000000 in
theorem kX8_waitsProduct {E : sv_E} {σ : sv_G} {S : List Int} (hS9 : SK σ S) {x y : Int} (hx : 0 ≤ x ∧ x ≤ 19) (hy : 0 ≤ y ∧ y ≤ 9999) (hl : S.length < 48) : CT E MX8_waitsProduct 1 [(vR 195), (vI x), (vI y)] σ (PI fun r σ9 => SK σ9 (S ++ [20000 + 100 * x + y]) ∧ frK σ σ9 ∧ yn r (y ≤ σ 202 x)) := by
  refine CT.of (RX8, cX8_waitsProduct, 3, (some .boolean), [], 1, 0, 0) rfl moX8_waitsProduct (Nat.le_of_ble_eq_true rfl) (ls0 := [some (vR 195), some (vI x), some (vI y)]) rfl ?_
  intro X Q C hR
  refine s_aload_n C dX8_waitsProduct_0 rfl ?_
  refine s_sipush C dX8_waitsProduct_1 (by decide) ?_
  refine s_bipush C dX8_waitsProduct_4 (by decide) ?_
  refine s_iload_n C dX8_waitsProduct_6 rfl ?_
  refine s_imul C dX8_waitsProduct_7 ?_
  refine s_iadd C dX8_waitsProduct_8 ?_
  refine s_iload_n C dX8_waitsProduct_9 rfl ?_
  refine s_iadd C dX8_waitsProduct_10 ?_
  refine s_cV1v C dX8_waitsProduct_11 lkX8_145 moX8_waits mvX8_waits (kX8_waits (by exact hS9) (by omega) (by exact hl)) sh_195 ⟨_, _, rfl⟩ (by decide) (Nat.le_of_ble_eq_true rfl) rfl (by decide) (fun σ_11 hp11 => ?_)
  refine s_iload_n C dX8_waitsProduct_14 rfl ?_
  refine s_aload_n C dX8_waitsProduct_15 rfl ?_
  refine s_getR (c := 8) C fl_8_28 dX8_waitsProduct_16 sh_195 rfl rf_195_6 ?_
  refine s_iload_n C dX8_waitsProduct_19 rfl ?_
  refine s_iald C dX8_waitsProduct_20 sh_202 (by omega) (fun g20 => ?_)
  
  have J29 : ∀ (w : Int), (yn w (y ≤ σ 202 x)) → SW X E Q 0 0 29 [some (vR 195), some (vI x), some (vI y)] [(vI w)] σ_11 := by
    intro w j29_0
    refine s_zret C hR dX8_waitsProduct_29 rfl (by exact j29_0.b) ⟨_, rfl, ?_⟩ (by decide)
    exact ⟨hp11.1, hp11.2, j29_0⟩
  have e20 : σ_11 202 x = σ 202 x := hp11.2 _ _ (Or.inl (by decide)) (by decide)
  refine s_icmp_gt (tgt := 28) C dX8_waitsProduct_21 (by decide) (by omega) (by omega) (fun c21 => ?_) (fun c21 => ?_)
  · refine s_iconst C dX8_waitsProduct_28 ?_
    refine J29 0 ?_
    · exact yn.zero (by omega)
  · refine s_iconst C dX8_waitsProduct_24 ?_
    refine s_goto (tgt := 29) C dX8_waitsProduct_25 (by decide) ?_
    refine J29 1 ?_
    · exact yn.one (by omega)
set_option maxRecDepth 100000 in
set_option maxHeartbeats 8000000 in
theorem kX8_waitsJoint {E : sv_E} {σ : sv_G} {S : List Int} (hS9 : SK σ S) {x : Int} (hx : 0 ≤ x ∧ x ≤ 19) (hl : S.length < 48) : CT E MX8_waitsJoint 1 [(vR 195), (vI x)] σ (PV fun σ9 => SK σ9 (S ++ if σ 204 x = -1 then [] else [σ 204 x]) ∧ frK σ σ9) := by
  refine CT.of (RX8, cX8_waitsJoint, 2, none, [], 1, 0, 0) rfl moX8_waitsJoint (Nat.le_of_ble_eq_true rfl) (ls0 := [some (vR 195), some (vI x)]) rfl ?_
  intro X Q C hR
  refine s_aload_n C dX8_waitsJoint_0 rfl ?_
  refine s_getR (c := 8) C fl_8_34 dX8_waitsJoint_1 sh_195 rfl rf_195_8 ?_
  refine s_iload_n C dX8_waitsJoint_4 rfl ?_
  refine s_iald C dX8_waitsJoint_5 sh_204 (by omega) (fun g5 => ?_)
  refine s_iconst C dX8_waitsJoint_6 ?_
  have J20 : ∀ (τ : sv_G), (SK τ (S ++ if σ 204 x = -1 then [] else [σ 204 x])) → (frK σ τ) → SW X E Q 0 0 20 [some (vR 195), some (vI x)] [] τ := by
    intro τ j20_0 j20_1
    refine s_vret C hR dX8_waitsJoint_20 rfl ⟨rfl, ?_⟩ (by decide)
    exact ⟨j20_0, j20_1⟩
  refine s_icmp_eq (tgt := 20) C dX8_waitsJoint_7 (by decide) (by omega) (by omega) (fun c7 => ?_) (fun c7 => ?_)
  · refine J20 σ ?_ ?_
    · rw [if_pos c7, List.append_nil]; exact hS9
    · exact frK.rf
  · refine s_aload_n C dX8_waitsJoint_10 rfl ?_
    refine s_aload_n C dX8_waitsJoint_11 rfl ?_
    refine s_getR (c := 8) C fl_8_34 dX8_waitsJoint_12 sh_195 rfl rf_195_8 ?_
    refine s_iload_n C dX8_waitsJoint_15 rfl ?_
    refine s_iald C dX8_waitsJoint_16 sh_204 (by omega) (fun g16 => ?_)
    refine s_cV1v C dX8_waitsJoint_17 lkX8_145 moX8_waits mvX8_waits (kX8_waits (by exact hS9) (by exact g16) (by exact hl)) sh_195 ⟨_, _, rfl⟩ (by decide) (Nat.le_of_ble_eq_true rfl) rfl (by decide) (fun σ_17 hp17 => ?_)
    refine J20 σ_17 ?_ ?_
    · rw [if_neg c7]; exact hp17.1
    · exact hp17.2
