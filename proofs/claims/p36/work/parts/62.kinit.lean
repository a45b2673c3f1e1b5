/-! The constructors. -/
def isRb (b k : Nat) : Bool := if (shp b).1 < 10 then (decide (k < nfd (shp b).1) && decide (fkd (shp b).1 k ≠ 0) && decide (fkd (shp b).1 k ≠ 1)) else (decide (12 ≤ (shp b).1) && decide (k < (shp b).2))
/-- the numbers behind the constructors -/
def g0 : sv_G := fun b k => if ((shp b).1 = 1 ∨ (shp b).1 = 4) ∧ k = 4 then -1 else if (b = 21 ∨ b = 225) ∧ 0 ≤ k ∧ k < 6 then 10 else if b = 211 ∧ 0 ≤ k ∧ k < 4 then -1 else 0
def Fr (σ : sv_G) (As : Nat → Nat → Bool) (n : Nat) : Prop := ∀ b, n ≤ b → (∀ k, σ b k = 0) ∧ ∀ k, As b k = false
def Dn (σ : sv_G) (As : Nat → Nat → Bool) (lo hi : Nat) : Prop := ∀ b, lo ≤ b → b < hi → (∀ k, σ b k = g0 b k) ∧ ∀ k, isRb b k = true → As b k = true
def CP (a sz : Nat) (σ : sv_G) (As : Nat → Nat → Bool) (σ' : sv_G) (As' : Nat → Nat → Bool) : Prop := (∀ b, b < a → σ' b = σ b ∧ As' b = As b) ∧ Dn σ' As' a (a + sz) ∧ Fr σ' As' (a + sz)
theorem isR_o {a c k : Nat} (h : shp a = (c, 0)) (hc : c < 10) (q : isRb a k = true) : k < nfd c ∧ fkd c k ≠ 0 ∧ fkd c k ≠ 1 := by
  unfold isRb at q
  rw [h, if_pos hc, Bool.and_eq_true, Bool.and_eq_true] at q
  exact ⟨of_decide_eq_true q.1.1, of_decide_eq_true q.1.2, of_decide_eq_true q.2⟩
theorem isR_i {a n k : Nat} (h : shp a = (10, n)) (q : isRb a k = true) : False := by
  unfold isRb at q
  rw [h, if_neg (show ¬ (10 : Nat) < 10 by decide), Bool.and_eq_true] at q
  exact absurd (of_decide_eq_true q.1) (by decide : ¬ 12 ≤ 10)
theorem isR_a {a t n k : Nat} (h : shp a = (10 + t, n)) (ht : 2 ≤ t) (q : isRb a k = true) : k < n := by
  unfold isRb at q
  rw [h, if_neg (by show ¬ 10 + t < 10; omega), Bool.and_eq_true] at q
  exact of_decide_eq_true q.2
theorem g0_z {b : Nat} {k : Int} (h1 : (shp b).1 ≠ 1) (h4 : (shp b).1 ≠ 4) (h2 : b ≠ 21) (h3 : b ≠ 225) (h5 : b ≠ 211) : g0 b k = 0 := by
  unfold g0
  rw [if_neg (fun q => q.1.elim h1 h4), if_neg (fun q => q.1.elim h2 h3), if_neg (fun q => h5 q.1)]
theorem up0 {σ : sv_G} {a : Nat} {k z : Int} (h : σ a k = z) : up σ a k z = σ := by
  funext b j
  unfold up
  by_cases q : b = a ∧ j = k
  · rw [if_pos q, q.1, q.2, h]
  · rw [if_neg q]
theorem k_up0 {X : sx_T} {E : sv_E} {Q : State → Prop} {u w pc : Nat} {ls : List (Option sv_V)} {st : List sv_V} {n a : Nat} {σ : sv_G} {As : Nat → Nat → Bool} {k z : Int} (h : σ a k = z) (kk : KW X E Q u w pc ls st (n, σ, As)) : KW X E Q u w pc ls st (n, up σ a k z, As) := by rw [up0 h]; exact kk
theorem Fr.up {σ : sv_G} {As : Nat → Nat → Bool} {n a : Nat} {k z : Int} (h : Fr σ As n) (ha : a < n) : Fr (up σ a k z) As n := fun b hb => ⟨fun j => by rw [up_a (by omega)]; exact (h b hb).1 j, (h b hb).2⟩
theorem Fr.as {σ : sv_G} {As : Nat → Nat → Bool} {n a k : Nat} (h : Fr σ As n) (ha : a < n) : Fr σ (asS As a k) n := fun b hb => ⟨(h b hb).1, fun j => by rw [asS_a (by omega)]; exact (h b hb).2 j⟩
theorem Fr.le {σ : sv_G} {As : Nat → Nat → Bool} {n m : Nat} (h : Fr σ As n) (hm : n ≤ m) : Fr σ As m := fun b hb => h b (by omega)
theorem CP_s {a sz c : Nat} {σ : sv_G} {As As' : Nat → Nat → Bool} (hF : Fr σ As a) (ha : shp a = (c, 0)) (hc : c < 10 ∧ c ≠ 1 ∧ c ≠ 4) (h21 : a + sz < 21 ∨ (21 < a ∧ a + sz < 211)) (hs : ∀ b, a < b → b < a + sz → ∃ n, shp b = (10, n)) (hA : ∀ b, b ≠ a → As' b = As b) (hR : ∀ k, k < nfd c → fkd c k ≠ 0 → fkd c k ≠ 1 → As' a k = true) (hz : 1 ≤ sz) : CP a sz σ As σ As' := by
  refine ⟨fun b hb => ⟨rfl, hA b (by omega)⟩, fun b h1 h2 => ?_, fun b hb => ⟨(hF b (by omega)).1, fun k => by rw [hA b (by omega)]; exact (hF b (by omega)).2 k⟩⟩
  by_cases q : b = a
  · rw [q]
    refine ⟨fun k => ?_, fun k hk => ?_⟩
    · rw [(hF a (Nat.le_refl _)).1, g0_z (by rw [ha]; exact hc.2.1) (by rw [ha]; exact hc.2.2) (by omega) (by omega) (by omega)]
    · obtain ⟨k1, k2, k3⟩ := isR_o ha hc.1 hk
      exact hR k k1 k2 k3
  · obtain ⟨n, hn⟩ := hs b (by omega) h2
    refine ⟨fun k => ?_, fun k hk => (isR_i hn hk).elim⟩
    rw [(hF b h1).1, g0_z (by rw [hn]; show (10 : Nat) ≠ 1; decide) (by rw [hn]; show (10 : Nat) ≠ 4; decide) (by omega) (by omega) (by omega)]
theorem rk_0 : ∀ k, k < nfd 0 → fkd 0 k ≠ 0 → fkd 0 k ≠ 1 → k = 0 ∨ k = 1 := by decide +kernel
theorem rk_2 : ∀ k, k < nfd 2 → fkd 2 k ≠ 0 → fkd 2 k ≠ 1 → k = 0 ∨ k = 1 := by decide +kernel
theorem rk_3 : ∀ k, k < nfd 3 → fkd 3 k ≠ 0 → fkd 3 k ≠ 1 → k = 0 ∨ k = 1 ∨ k = 2 := by decide +kernel
theorem rk_4 : ∀ k, k < nfd 4 → fkd 4 k ≠ 0 → fkd 4 k ≠ 1 → k = 0 ∨ k = 1 ∨ k = 3 ∨ k = 5 ∨ k = 6 ∨ k = 7 := by decide +kernel
theorem rk_5 : ∀ k, k < nfd 5 → fkd 5 k ≠ 0 → fkd 5 k ≠ 1 → k = 0 ∨ k = 1 ∨ k = 2 := by decide +kernel
theorem rk_6 : ∀ k, k < nfd 6 → fkd 6 k ≠ 0 → fkd 6 k ≠ 1 → k = 0 := by decide +kernel
theorem rk_7 : ∀ k, k < nfd 7 → fkd 7 k ≠ 0 → fkd 7 k ≠ 1 → k ∈ ([0, 1, 2, 3, 4, 5, 6, 7, 8, 9, 11, 12, 13] : List Nat) := by decide +kernel
set_option maxRecDepth 100000 in
set_option maxHeartbeats 8000000 in
theorem kX6_init {E : sv_E} {σ : sv_G} {As : Nat → Nat → Bool} {a : Nat} (ha : shp a = (6, 0)) (hF : Fr σ As a) (h21 : a + 2 < 21 ∨ (21 < a ∧ a + 2 < 211)) : KC E MX6_init 1 1 20 [vR a] (a + 1, σ, As) (fun K9 => K9.1 = a + 2 ∧ CP a 2 σ As K9.2.1 K9.2.2) := by
  refine KC.of (RX6, cX6_init, 1, none, [], 1, 1, 20) rfl moX6_init (Nat.le_of_ble_eq_true rfl) (ls0 := [some (vR a)]) rfl ?_
  intro X Q C hI hQ
  have hF1 := hF.le (Nat.le_succ a)
  refine k_aload_n C dX6_init_0 rfl ?_
  refine k_obj C dX6_init_1 ko_6 (by decide) (Nat.le_of_ble_eq_true rfl) ?_
  show KW X E Q _ _ _ _ _ (a + 1, σ, As)
  refine k_aload_n C dX6_init_4 rfl ?_
  refine k_bipush C dX6_init_5 (by decide) ?_
  refine k_newaI (N9 := 20) C dX6_init_7 (shc_6_0 ha) ac_I (by decide +kernel) (by decide +kernel) (Nat.le_of_ble_eq_true rfl) (hF1 (a + 1) (by omega)).1 (show 0 + 1 ≤ 1 ∧ 0 + 20 ≤ 20 by omega) ?_
  show KW X E Q _ _ _ _ _ (a + 2, σ, As)
  refine k_putR (ty9 := tyX6 0) C hI cl_6 (by decide) kf_6_9 dX6_init_9 ha (by omega) (by decide +kernel) (by decide +kernel) rfl (rfc_6_0 ha) rfl (tyX6_ok 0 (by decide)) (fun _ => rfl) (fun _ => rfl) ?_
  have hFp9 := hF1.as (a := a) (k := 0) (by omega)
  show KW X E Q _ _ _ _ _ (a + 2, σ, asS As a 0)
  refine k_aload_n C dX6_init_12 rfl ?_
  refine k_iconst C dX6_init_13 ?_
  refine k_putI (kz := 1) C cl_6 (by decide) kf_6_15 dX6_init_14 ha (by omega) (by decide +kernel) rfl rfl ?_
  refine k_up0 ((hF a (Nat.le_refl _)).1 _) ?_
  show KW X E Q _ _ _ _ _ (a + 2, σ, asS As a 0)
  refine k_vret C hQ dX6_init_17 rfl ⟨rfl, CP_s (σ := σ) (As := As) (As' := asS As a 0) hF ha (by decide) h21 (fun b h1 h2 => ?_) (fun b hb => ?_) (fun k k1 k2 k3 => ?_) (by decide)⟩ (by decide)
  · have hb : b = a + 1 := by omega
    rw [hb]; exact ⟨_, (shc_6_0 ha)⟩
  · rw [asS_a hb]
  · have hk := rk_6 k k1 k2 k3
    rw [hk]; simp [asS]
set_option maxRecDepth 100000 in
set_option maxHeartbeats 8000000 in
theorem kX0_init {E : sv_E} {σ : sv_G} {As : Nat → Nat → Bool} {a : Nat} (ha : shp a = (0, 0)) (hF : Fr σ As a) (h21 : a + 3 < 21 ∨ (21 < a ∧ a + 3 < 211)) : KC E MX0_init 1 2 80 [vR a] (a + 1, σ, As) (fun K9 => K9.1 = a + 3 ∧ CP a 3 σ As K9.2.1 K9.2.2) := by
  refine KC.of (RX0, cX0_init, 1, none, [], 1, 2, 80) rfl moX0_init (Nat.le_of_ble_eq_true rfl) (ls0 := [some (vR a)]) rfl ?_
  intro X Q C hI hQ
  have hF1 := hF.le (Nat.le_succ a)
  refine k_aload_n C dX0_init_0 rfl ?_
  refine k_obj C dX0_init_1 ko_0 (by decide) (Nat.le_of_ble_eq_true rfl) ?_
  show KW X E Q _ _ _ _ _ (a + 1, σ, As)
  refine k_aload_n C dX0_init_4 rfl ?_
  refine k_bipush C dX0_init_5 (by decide) ?_
  refine k_newaI (N9 := 40) C dX0_init_7 (shc_0_0 ha) ac_I (by decide +kernel) (by decide +kernel) (Nat.le_of_ble_eq_true rfl) (hF1 (a + 1) (by omega)).1 (show 0 + 1 ≤ 2 ∧ 0 + 40 ≤ 80 by omega) ?_
  show KW X E Q _ _ _ _ _ (a + 2, σ, As)
  refine k_putR (ty9 := tyX0 0) C hI cl_0 (by decide) kf_0_9 dX0_init_9 ha (by omega) (by decide +kernel) (by decide +kernel) rfl (rfc_0_0 ha) rfl (tyX0_ok 0 (by decide)) (fun _ => rfl) (fun _ => rfl) ?_
  have hFp9 := hF1.as (a := a) (k := 0) (by omega)
  show KW X E Q _ _ _ _ _ (a + 2, σ, asS As a 0)
  refine k_aload_n C dX0_init_12 rfl ?_
  refine k_bipush C dX0_init_13 (by decide) ?_
  refine k_newaI (N9 := 40) C dX0_init_15 (shc_0_1 ha) ac_I (by decide +kernel) (by decide +kernel) (Nat.le_of_ble_eq_true rfl) (hFp9 (a + 2) (by omega)).1 (show 1 + 1 ≤ 2 ∧ 40 + 40 ≤ 80 by omega) ?_
  show KW X E Q _ _ _ _ _ (a + 3, σ, asS As a 0)
  refine k_putR (ty9 := tyX0 1) C hI cl_0 (by decide) kf_0_15 dX0_init_17 ha (by omega) (by decide +kernel) (by decide +kernel) rfl (rfc_0_1 ha) rfl (tyX0_ok 1 (by decide)) (fun _ => rfl) (fun _ => rfl) ?_
  have hFp17 := hFp9.as (a := a) (k := 1) (by omega)
  show KW X E Q _ _ _ _ _ (a + 3, σ, asS (asS As a 0) a 1)
  refine k_aload_n C dX0_init_20 rfl ?_
  refine k_iconst C dX0_init_21 ?_
  refine k_putI (kz := 2) C cl_0 (by decide) kf_0_18 dX0_init_22 ha (by omega) (by decide +kernel) rfl rfl ?_
  refine k_up0 ((hF a (Nat.le_refl _)).1 _) ?_
  show KW X E Q _ _ _ _ _ (a + 3, σ, asS (asS As a 0) a 1)
  refine k_vret C hQ dX0_init_25 rfl ⟨rfl, CP_s (σ := σ) (As := As) (As' := asS (asS As a 0) a 1) hF ha (by decide) h21 (fun b h1 h2 => ?_) (fun b hb => ?_) (fun k k1 k2 k3 => ?_) (by decide)⟩ (by decide)
  · have hb : b = a + 1 ∨ b = a + 2 := by omega
    rcases hb with hb | hb
    · rw [hb]; exact ⟨_, (shc_0_0 ha)⟩
    · rw [hb]; exact ⟨_, (shc_0_1 ha)⟩
  · rw [asS_a hb, asS_a hb]
  · have hk := rk_0 k k1 k2 k3
    rcases hk with hk | hk <;> rw [hk] <;> simp [asS]
set_option maxRecDepth 100000 in
set_option maxHeartbeats 8000000 in
theorem kX3_init {E : sv_E} {σ : sv_G} {As : Nat → Nat → Bool} {a : Nat} (ha : shp a = (3, 0)) (hF : Fr σ As a) (h21 : a + 4 < 21 ∨ (21 < a ∧ a + 4 < 211)) : KC E MX3_init 1 3 90 [vR a] (a + 1, σ, As) (fun K9 => K9.1 = a + 4 ∧ CP a 4 σ As K9.2.1 K9.2.2) := by
  refine KC.of (RX3, cX3_init, 1, none, [], 1, 3, 90) rfl moX3_init (Nat.le_of_ble_eq_true rfl) (ls0 := [some (vR a)]) rfl ?_
  intro X Q C hI hQ
  have hF1 := hF.le (Nat.le_succ a)
  refine k_aload_n C dX3_init_0 rfl ?_
  refine k_obj C dX3_init_1 ko_3 (by decide) (Nat.le_of_ble_eq_true rfl) ?_
  show KW X E Q _ _ _ _ _ (a + 1, σ, As)
  refine k_aload_n C dX3_init_4 rfl ?_
  refine k_bipush C dX3_init_5 (by decide) ?_
  refine k_newaI (N9 := 30) C dX3_init_7 (shc_3_0 ha) ac_I (by decide +kernel) (by decide +kernel) (Nat.le_of_ble_eq_true rfl) (hF1 (a + 1) (by omega)).1 (show 0 + 1 ≤ 3 ∧ 0 + 30 ≤ 90 by omega) ?_
  show KW X E Q _ _ _ _ _ (a + 2, σ, As)
  refine k_putR (ty9 := tyX3 0) C hI cl_3 (by decide) kf_3_9 dX3_init_9 ha (by omega) (by decide +kernel) (by decide +kernel) rfl (rfc_3_0 ha) rfl (tyX3_ok 0 (by decide)) (fun _ => rfl) (fun _ => rfl) ?_
  have hFp9 := hF1.as (a := a) (k := 0) (by omega)
  show KW X E Q _ _ _ _ _ (a + 2, σ, asS As a 0)
  refine k_aload_n C dX3_init_12 rfl ?_
  refine k_bipush C dX3_init_13 (by decide) ?_
  refine k_newaI (N9 := 30) C dX3_init_15 (shc_3_1 ha) ac_I (by decide +kernel) (by decide +kernel) (Nat.le_of_ble_eq_true rfl) (hFp9 (a + 2) (by omega)).1 (show 1 + 1 ≤ 3 ∧ 30 + 30 ≤ 90 by omega) ?_
  show KW X E Q _ _ _ _ _ (a + 3, σ, asS As a 0)
  refine k_putR (ty9 := tyX3 1) C hI cl_3 (by decide) kf_3_15 dX3_init_17 ha (by omega) (by decide +kernel) (by decide +kernel) rfl (rfc_3_1 ha) rfl (tyX3_ok 1 (by decide)) (fun _ => rfl) (fun _ => rfl) ?_
  have hFp17 := hFp9.as (a := a) (k := 1) (by omega)
  show KW X E Q _ _ _ _ _ (a + 3, σ, asS (asS As a 0) a 1)
  refine k_aload_n C dX3_init_20 rfl ?_
  refine k_bipush C dX3_init_21 (by decide) ?_
  refine k_newaI (N9 := 30) C dX3_init_23 (shc_3_2 ha) ac_I (by decide +kernel) (by decide +kernel) (Nat.le_of_ble_eq_true rfl) (hFp17 (a + 3) (by omega)).1 (show 2 + 1 ≤ 3 ∧ 60 + 30 ≤ 90 by omega) ?_
  show KW X E Q _ _ _ _ _ (a + 4, σ, asS (asS As a 0) a 1)
  refine k_putR (ty9 := tyX3 2) C hI cl_3 (by decide) kf_3_18 dX3_init_25 ha (by omega) (by decide +kernel) (by decide +kernel) rfl (rfc_3_2 ha) rfl (tyX3_ok 2 (by decide)) (fun _ => rfl) (fun _ => rfl) ?_
  have hFp25 := hFp17.as (a := a) (k := 2) (by omega)
  show KW X E Q _ _ _ _ _ (a + 4, σ, asS (asS (asS As a 0) a 1) a 2)
  refine k_aload_n C dX3_init_28 rfl ?_
  refine k_iconst C dX3_init_29 ?_
  refine k_putI (kz := 3) C cl_3 (by decide) kf_3_21 dX3_init_30 ha (by omega) (by decide +kernel) rfl rfl ?_
  refine k_up0 ((hF a (Nat.le_refl _)).1 _) ?_
  show KW X E Q _ _ _ _ _ (a + 4, σ, asS (asS (asS As a 0) a 1) a 2)
  refine k_vret C hQ dX3_init_33 rfl ⟨rfl, CP_s (σ := σ) (As := As) (As' := asS (asS (asS As a 0) a 1) a 2) hF ha (by decide) h21 (fun b h1 h2 => ?_) (fun b hb => ?_) (fun k k1 k2 k3 => ?_) (by decide)⟩ (by decide)
  · have hb : b = a + 1 ∨ b = a + 2 ∨ b = a + 3 := by omega
    rcases hb with hb | hb | hb
    · rw [hb]; exact ⟨_, (shc_3_0 ha)⟩
    · rw [hb]; exact ⟨_, (shc_3_1 ha)⟩
    · rw [hb]; exact ⟨_, (shc_3_2 ha)⟩
  · rw [asS_a hb, asS_a hb, asS_a hb]
  · have hk := rk_3 k k1 k2 k3
    rcases hk with hk | hk | hk <;> rw [hk] <;> simp [asS]
set_option maxRecDepth 100000 in
set_option maxHeartbeats 8000000 in
theorem kX5_init {E : sv_E} {σ : sv_G} {As : Nat → Nat → Bool} (hF : Fr σ As 12) : KC E MX5_init 1 3 2256 [vR 12] (13, σ, As) (fun K9 => K9.1 = 16 ∧ CP 12 4 σ As K9.2.1 K9.2.2) := by
  refine KC.of (RX5, cX5_init, 1, none, [], 1, 3, 2256) rfl moX5_init (Nat.le_of_ble_eq_true rfl) (ls0 := [some (vR 12)]) rfl ?_
  intro X Q C hI hQ
  have hF1 := hF.le (Nat.le_succ 12)
  refine k_aload_n C dX5_init_0 rfl ?_
  refine k_obj C dX5_init_1 ko_5 (by decide) (Nat.le_of_ble_eq_true rfl) ?_
  show KW X E Q _ _ _ _ _ (13, σ, As)
  refine k_aload_n C dX5_init_4 rfl ?_
  refine k_sipush C dX5_init_5 (by decide) ?_
  refine k_newaI (N9 := 256) C dX5_init_8 sh_13 ac_I (by decide +kernel) (by decide +kernel) (Nat.le_of_ble_eq_true rfl) (hF1 13 (by omega)).1 (show 0 + 1 ≤ 3 ∧ 0 + 256 ≤ 2256 by omega) ?_
  show KW X E Q _ _ _ _ _ (14, σ, As)
  refine k_putR (ty9 := tyX5 0) C hI cl_5 (by decide) kf_5_9 dX5_init_10 sh_12 (by omega) (by decide +kernel) (by decide +kernel) rfl rf_12_0 rfl (tyX5_ok 0 (by decide)) (fun _ => rfl) (fun _ => rfl) ?_
  have hFp10 := hF1.as (a := 12) (k := 0) (by omega)
  show KW X E Q _ _ _ _ _ (14, σ, asS As 12 0)
  refine k_aload_n C dX5_init_13 rfl ?_
  refine k_sipush C dX5_init_14 (by decide) ?_
  refine k_newaI (N9 := 1000) C dX5_init_17 sh_14 ac_I (by decide +kernel) (by decide +kernel) (Nat.le_of_ble_eq_true rfl) (hFp10 14 (by omega)).1 (show 1 + 1 ≤ 3 ∧ 256 + 1000 ≤ 2256 by omega) ?_
  show KW X E Q _ _ _ _ _ (15, σ, asS As 12 0)
  refine k_putR (ty9 := tyX5 1) C hI cl_5 (by decide) kf_5_15 dX5_init_19 sh_12 (by omega) (by decide +kernel) (by decide +kernel) rfl rf_12_1 rfl (tyX5_ok 1 (by decide)) (fun _ => rfl) (fun _ => rfl) ?_
  have hFp19 := hFp10.as (a := 12) (k := 1) (by omega)
  show KW X E Q _ _ _ _ _ (15, σ, asS (asS As 12 0) 12 1)
  refine k_aload_n C dX5_init_22 rfl ?_
  refine k_sipush C dX5_init_23 (by decide) ?_
  refine k_newaI (N9 := 1000) C dX5_init_26 sh_15 ac_I (by decide +kernel) (by decide +kernel) (Nat.le_of_ble_eq_true rfl) (hFp19 15 (by omega)).1 (show 2 + 1 ≤ 3 ∧ 1256 + 1000 ≤ 2256 by omega) ?_
  show KW X E Q _ _ _ _ _ (16, σ, asS (asS As 12 0) 12 1)
  refine k_putR (ty9 := tyX5 2) C hI cl_5 (by decide) kf_5_18 dX5_init_28 sh_12 (by omega) (by decide +kernel) (by decide +kernel) rfl rf_12_2 rfl (tyX5_ok 2 (by decide)) (fun _ => rfl) (fun _ => rfl) ?_
  have hFp28 := hFp19.as (a := 12) (k := 2) (by omega)
  show KW X E Q _ _ _ _ _ (16, σ, asS (asS (asS As 12 0) 12 1) 12 2)
  refine k_vret C hQ dX5_init_31 rfl ⟨rfl, CP_s (σ := σ) (As := As) (As' := asS (asS (asS As 12 0) 12 1) 12 2) hF sh_12 (by decide) (by decide) (fun b h1 h2 => ?_) (fun b hb => ?_) (fun k k1 k2 k3 => ?_) (by decide)⟩ (by decide)
  · have hb : b = 13 ∨ b = 14 ∨ b = 15 := by omega
    rcases hb with hb | hb | hb
    · rw [hb]; exact ⟨_, sh_13⟩
    · rw [hb]; exact ⟨_, sh_14⟩
    · rw [hb]; exact ⟨_, sh_15⟩
  · rw [asS_a hb, asS_a hb, asS_a hb]
  · have hk := rk_5 k k1 k2 k3
    rcases hk with hk | hk | hk <;> rw [hk] <;> simp [asS]
set_option maxRecDepth 100000 in
set_option maxHeartbeats 8000000 in
theorem kX1_init {E : sv_E} {σ : sv_G} {As : Nat → Nat → Bool} {a : Nat} (ha : shp a = (1, 0)) (hF : Fr σ As a) : KC E MX1_init 1 0 0 [vR a] (a + 1, σ, As) (fun K9 => K9.1 = a + 1 ∧ CP a 1 σ As K9.2.1 K9.2.2) := by
  refine KC.of (RX1, cX1_init, 1, none, [], 1, 0, 0) rfl moX1_init (Nat.le_of_ble_eq_true rfl) (ls0 := [some (vR a)]) rfl ?_
  intro X Q C hI hQ
  have hF1 := hF.le (Nat.le_succ a)
  have hid := id_1 ha
  refine k_aload_n C dX1_init_0 rfl ?_
  refine k_obj C dX1_init_1 ko_1 (by decide) (Nat.le_of_ble_eq_true rfl) ?_
  show KW X E Q _ _ _ _ _ (a + 1, σ, As)
  refine k_aload_n C dX1_init_4 rfl ?_
  refine k_iconst C dX1_init_5 ?_
  refine k_putI (kz := 0) C cl_1 (by decide) kf_1_9 dX1_init_6 ha (by omega) (by decide +kernel) rfl rfl ?_
  refine k_up0 (by first | exact (hF a (Nat.le_refl _)).1 _ | exact (up_k (by decide)).trans ((hF a (Nat.le_refl _)).1 _)) ?_
  show KW X E Q _ _ _ _ _ (a + 1, σ, As)
  refine k_aload_n C dX1_init_9 rfl ?_
  refine k_iconst C dX1_init_10 ?_
  refine k_putI (kz := 1) C cl_1 (by decide) kf_1_15 dX1_init_11 ha (by omega) (by decide +kernel) rfl rfl ?_
  refine k_up0 (by first | exact (hF a (Nat.le_refl _)).1 _ | exact (up_k (by decide)).trans ((hF a (Nat.le_refl _)).1 _)) ?_
  show KW X E Q _ _ _ _ _ (a + 1, σ, As)
  refine k_aload_n C dX1_init_14 rfl ?_
  refine k_iconst C dX1_init_15 ?_
  refine k_putI (kz := 2) C cl_1 (by decide) kf_1_18 dX1_init_16 ha (by omega) (by decide +kernel) rfl rfl ?_
  refine k_up0 (by first | exact (hF a (Nat.le_refl _)).1 _ | exact (up_k (by decide)).trans ((hF a (Nat.le_refl _)).1 _)) ?_
  show KW X E Q _ _ _ _ _ (a + 1, σ, As)
  refine k_aload_n C dX1_init_19 rfl ?_
  refine k_iconst C dX1_init_20 ?_
  refine k_putI (kz := 3) C cl_1 (by decide) kf_1_21 dX1_init_21 ha (by omega) (by decide +kernel) rfl rfl ?_
  refine k_up0 (by first | exact (hF a (Nat.le_refl _)).1 _ | exact (up_k (by decide)).trans ((hF a (Nat.le_refl _)).1 _)) ?_
  show KW X E Q _ _ _ _ _ (a + 1, σ, As)
  refine k_aload_n C dX1_init_24 rfl ?_
  refine k_iconst C dX1_init_25 ?_
  refine k_putI (kz := 4) C cl_1 (by decide) kf_1_24 dX1_init_26 ha (by omega) (by decide +kernel) rfl rfl ?_
  have hFp26 := hF1.up (a := a) (k := 4) (z := -1) (by omega)
  show KW X E Q _ _ _ _ _ (a + 1, up σ a 4 (-1), As)
  refine k_aload_n C dX1_init_29 rfl ?_
  refine k_iconst C dX1_init_30 ?_
  refine k_putI (kz := 5) C cl_1 (by decide) kf_1_27 dX1_init_31 ha (by omega) (by decide +kernel) rfl rfl ?_
  refine k_up0 (by first | exact (hF a (Nat.le_refl _)).1 _ | exact (up_k (by decide)).trans ((hF a (Nat.le_refl _)).1 _)) ?_
  show KW X E Q _ _ _ _ _ (a + 1, up σ a 4 (-1), As)
  refine k_aload_n C dX1_init_34 rfl ?_
  refine k_iconst C dX1_init_35 ?_
  refine k_putI (kz := 6) C cl_1 (by decide) kf_1_30 dX1_init_36 ha (by omega) (by decide +kernel) rfl rfl ?_
  refine k_up0 (by first | exact (hF a (Nat.le_refl _)).1 _ | exact (up_k (by decide)).trans ((hF a (Nat.le_refl _)).1 _)) ?_
  show KW X E Q _ _ _ _ _ (a + 1, up σ a 4 (-1), As)
  refine k_vret C hQ dX1_init_39 rfl ⟨rfl, fun b hb => ⟨by funext j; exact up_a (by omega), rfl⟩, fun b h1 h2 => ?_, hF1.up (by omega)⟩ (by decide)
  have hb : b = a := by omega
  rw [hb]
  refine ⟨fun k => ?_, fun k hk => ?_⟩
  · show up σ a 4 (-1) a k = g0 a k
    rw [up_i]
    unfold g0
    rw [ha]
    by_cases q : k = 4
    · rw [if_pos q, if_pos ⟨Or.inl rfl, q⟩]
    · rw [if_neg q, if_neg (fun z => q z.2), if_neg (by omega), if_neg (by omega)]
      exact (hF a (Nat.le_refl _)).1 k
  · obtain ⟨k1, k2, k3⟩ := isR_o ha (by decide) hk
    exact absurd ((by decide +kernel : ∀ k, k < nfd 1 → fkd 1 k = 0) k k1) k2
