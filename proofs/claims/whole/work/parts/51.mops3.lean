/-! The model's calls that say and hear, and its cords. -/
theorem Sg.push {σ σ9 : sv_G} {a : Nat} {l : List Int} {x : Int} (h : Sg σ a 0 l) (e : σ9 a l.length = x) (hf : ∀ i : Nat, i < l.length → σ9 a i = σ a i) : Sg σ9 a 0 (l ++ [x]) := fun i hi => by
  rw [List.length_append] at hi
  have hi2 : i < l.length + 1 := hi
  rw [Int.zero_add, List.getD_eq_getElem?_getD]
  by_cases q : i = l.length
  · rw [q, e, List.getElem?_append_right (Nat.le_refl _), Nat.sub_self]; rfl
  · have h2 := h i (by omega)
    rw [Int.zero_add, List.getD_eq_getElem?_getD] at h2
    rw [hf i (by omega), h2, List.getElem?_append_left (by omega)]
theorem RO.uL {σ σ9 : sv_G} {S : st_T} {l : List Int} (h : RO σ S) (e1 : σ9 195 22 = l.length) (e2 : Sg σ9 217 0 l) (hf : ∀ b k, (196 ≤ b ∧ b ≤ 215) ∨ (219 ≤ b ∧ b ≤ 222) ∨ b = 225 ∨ b = 226 ∨ (b = 195 ∧ (k = 26 ∨ k = 28 ∨ k = 36)) → σ9 b k = σ b k) : RO σ9 (uL S l) := by
  obtain ⟨h1, h2, h3, h4, h5, h6⟩ := h
  exact ⟨fun g a b => (h1 g a b).fr fun b k q1 q2 => hf b k (Or.inl ⟨q1, q2⟩), ⟨e1, e2⟩, ⟨by rw [hf _ _ (by omega)]; exact h3.1, h3.2.fr fun k => hf _ k (by omega)⟩,
    ⟨by rw [hf _ _ (by omega)]; exact h4.1, fun i hi => ⟨by rw [hf _ _ (by omega)]; exact (h4.2 i hi).1, by rw [hf _ _ (by omega)]; exact (h4.2 i hi).2.1, (h4.2 i hi).2.2.fr fun k => hf _ k (by omega)⟩⟩,
    fun i a b => by rw [hf _ _ (by omega), hf _ _ (by omega)]; exact h5 i a b, by rw [hf _ _ (by omega)]; exact h6⟩
theorem RO.uH {σ σ9 : sv_G} {S : st_T} {l : List Int} (h : RO σ S) (e1 : σ9 195 26 = l.length) (e2 : Sg σ9 219 0 l) (hf : ∀ b k, (196 ≤ b ∧ b ≤ 215) ∨ b = 217 ∨ (220 ≤ b ∧ b ≤ 222) ∨ b = 225 ∨ b = 226 ∨ (b = 195 ∧ (k = 22 ∨ k = 28 ∨ k = 36)) → σ9 b k = σ b k) : RO σ9 (uH S l) := by
  obtain ⟨h1, h2, h3, h4, h5, h6⟩ := h
  exact ⟨fun g a b => (h1 g a b).fr fun b k q1 q2 => hf b k (Or.inl ⟨q1, q2⟩), ⟨by rw [hf _ _ (by omega)]; exact h2.1, h2.2.fr fun k => hf _ k (by omega)⟩, ⟨e1, e2⟩,
    ⟨by rw [hf _ _ (by omega)]; exact h4.1, fun i hi => ⟨by rw [hf _ _ (by omega)]; exact (h4.2 i hi).1, by rw [hf _ _ (by omega)]; exact (h4.2 i hi).2.1, (h4.2 i hi).2.2.fr fun k => hf _ k (by omega)⟩⟩,
    fun i a b => by rw [hf _ _ (by omega), hf _ _ (by omega)]; exact h5 i a b, by rw [hf _ _ (by omega)]; exact h6⟩
theorem RO.uE {σ σ9 : sv_G} {S : st_T} {l : List (Int × List Int)} (h : RO σ S) (e1 : σ9 195 28 = l.length) (e2 : ∀ i : Nat, i < l.length → σ9 220 i = (l.getD i (0, [])).1 ∧ σ9 221 i = (l.getD i (0, [])).2.length ∧ Sg σ9 222 (20 * i) (l.getD i (0, [])).2) (hf : ∀ b k, (196 ≤ b ∧ b ≤ 215) ∨ b = 217 ∨ b = 219 ∨ b = 225 ∨ b = 226 ∨ (b = 195 ∧ (k = 22 ∨ k = 26 ∨ k = 36)) → σ9 b k = σ b k) : RO σ9 (uE S l) := by
  obtain ⟨h1, h2, h3, h4, h5, h6⟩ := h
  exact ⟨fun g a b => (h1 g a b).fr fun b k q1 q2 => hf b k (Or.inl ⟨q1, q2⟩), ⟨by rw [hf _ _ (by omega)]; exact h2.1, h2.2.fr fun k => hf _ k (by omega)⟩, ⟨by rw [hf _ _ (by omega)]; exact h3.1, h3.2.fr fun k => hf _ k (by omega)⟩,
    ⟨e1, e2⟩, fun i a b => by rw [hf _ _ (by omega), hf _ _ (by omega)]; exact h5 i a b, by rw [hf _ _ (by omega)]; exact h6⟩
theorem RO.uC {σ σ9 : sv_G} {S : st_T} {b t : Int → Int} {z : Int} (h : RO σ S) (e1 : ∀ i, 0 ≤ i → i < 6 → σ9 225 i = b i ∧ σ9 226 i = t i) (e2 : σ9 195 36 = z) (hf : ∀ b k, (196 ≤ b ∧ b ≤ 215) ∨ b = 217 ∨ (219 ≤ b ∧ b ≤ 222) ∨ (b = 195 ∧ (k = 22 ∨ k = 26 ∨ k = 28)) → σ9 b k = σ b k) : RO σ9 (uC S b t z) := by
  obtain ⟨h1, h2, h3, h4, h5, h6⟩ := h
  exact ⟨fun g a b => (h1 g a b).fr fun b k q1 q2 => hf b k (Or.inl ⟨q1, q2⟩), ⟨by rw [hf _ _ (by omega)]; exact h2.1, h2.2.fr fun k => hf _ k (by omega)⟩, ⟨by rw [hf _ _ (by omega)]; exact h3.1, h3.2.fr fun k => hf _ k (by omega)⟩,
    ⟨by rw [hf _ _ (by omega)]; exact h4.1, fun i hi => ⟨by rw [hf _ _ (by omega)]; exact (h4.2 i hi).1, by rw [hf _ _ (by omega)]; exact (h4.2 i hi).2.1, (h4.2 i hi).2.2.fr fun k => hf _ k (by omega)⟩⟩,
    e1, e2⟩
theorem sp3 {D : gd_T} {l0 l : List Int} {x : Int} (hn : nm D x = some l) (hne : l0 ++ l ≠ []) : endO D (nfF D l0 x 3) = enL D 1 (toF D (l0 ++ l)) := by
  have hle : (l0 ++ l).length = l0.length + l.length := List.length_append
  unfold nfF
  rw [hn]
  show endO D ((if l0.length + l.length ≤ 20 then some (l0 ++ l) else none).bind fun l => fmF D l 3) = _
  by_cases q : l0.length + l.length ≤ 20
  · rw [if_pos q]
    show endO D (fmF D (l0 ++ l) 3) = _
    unfold fmF toF
    by_cases q1 : gP D (lastW (l0 ++ l)) 3 ≠ -1
    · rw [if_pos q1, if_pos q1]
      have hl9 : ((l0 ++ l).dropLast ++ [gP D (lastW (l0 ++ l)) 3]).length ≤ 20 := by
        obtain ⟨l', y, e⟩ := lst_split (l0 ++ l) hne
        rw [e] at hle ⊢
        rw [dropL_app, List.length_append]
        rw [List.length_append] at hle
        exact Nat.le_trans (Nat.le_of_eq hle) q
      unfold enL
      rw [if_pos ⟨rfl, hl9⟩]; rfl
    · rw [if_neg q1, if_neg q1]
      by_cases q2 : gC D 3 ≠ -1
      · rw [if_pos ⟨rfl, q2⟩, if_pos q2]
        show endO D (if (l0 ++ l).length + 1 ≤ 20 then some ((l0 ++ l) ++ [gC D 3]) else none) = _
        have hl2 : ((l0 ++ l) ++ [gC D 3]).length = (l0 ++ l).length + 1 := List.length_append
        unfold enL
        by_cases q3 : (l0 ++ l).length + 1 ≤ 20
        · rw [if_pos q3, if_pos ⟨rfl, by rw [hl2]; exact q3⟩]; rfl
        · rw [if_neg q3, if_neg (fun z => q3 (by rw [← hl2]; exact z.2))]; rfl
      · rw [if_neg (fun z => q2 z.2), if_neg q2]
        unfold enL
        rw [if_pos ⟨rfl, by rw [hle]; exact q⟩]; rfl
  · rw [if_neg q]
    unfold enL
    rw [if_neg]
    · rfl
    · intro z
      have z2 := z.2
      unfold toF at z2
      split at z2
      · obtain ⟨l', y, e⟩ := lst_split (l0 ++ l) hne
        rw [e] at hle z2
        rw [dropL_app, List.length_append] at z2
        rw [List.length_append] at hle
        have z3 : l'.length + 1 ≤ 20 := z2
        have hle2 : l'.length + 1 = l0.length + l.length := hle
        omega
      · split at z2
        · rw [List.length_append] at z2
          have z3 : (l0 ++ l).length + 1 ≤ 20 := z2
          omega
        · omega
theorem sp3_no {D : gd_T} {l0 : List Int} {x k : Int} (h : ∀ l, nm D x = some l → 20 < l.length) : nfF D l0 x k = none := by
  unfold nfF
  have e : ext l0 (nm D x) = none := by
    cases h9 : nm D x with
    | none => rfl
    | some l =>
      have h8 := h l h9
      show (if l0.length + l.length ≤ 20 then some (l0 ++ l) else none) = none
      rw [if_neg (by omega)]
  rw [e]; rfl
theorem toF_len {D : gd_T} {l : List Int} (h : l ≠ []) : (toF D l).length ≤ l.length + 1 := by
  unfold toF
  split
  · obtain ⟨l', x, rfl⟩ := lst_split l h
    rw [dropL_app, List.length_append, List.length_append]; exact Nat.le_succ _
  · split
    · rw [List.length_append]; exact Nat.le_refl _
    · exact Nat.le_succ _
theorem nf1 {D : gd_T} {l : List Int} {x k : Int} (hn : nm D x = some l) (hl : l.length ≤ 20) (hk : k ≠ 3) : nfF D [] x k = some (tfF D l k) := by
  unfold nfF
  have e : ext [] (nm D x) = some l := by
    rw [hn]
    show (if 0 + l.length ≤ 20 then some ([] ++ l) else none) = some l
    rw [if_pos (by omega)]; rfl
  rw [e]
  exact fm_tf hk
/-- the row is kept as the latest saying -/
def ksP (σ σ9 : sv_G) (r : Int) (l : List Int) : Prop := r = l.length ∧ σ9 195 22 = l.length ∧ Sg σ9 217 0 l ∧ ∀ b k, (b ≠ 195 ∨ k ≠ 22) → b ≠ 217 → σ9 b k = σ b k
theorem moP.say {σ σ0 σ1 σ9 : sv_G} {S : st_T} {l : List Int} {r : Int} {o : op_T} (hO : RO σ S) (f0 : frT2 σ σ0) (h37 : σ0 195 37 = 0) (f1 : frN σ0 σ1) (hk : ksP σ1 σ9 r l) (h0 : o.1 = 0) (hr : (l.length : Int) = o.2.1) (e : o.2.2 = uL S l) : moP σ σ9 S r o := by
  obtain ⟨k1, k2, k3, k4⟩ := hk
  have hf : ∀ b k, (b ≠ 195 ∨ (k ≠ 20 ∧ k ≠ 22 ∧ k ≠ 24 ∧ k ≠ 37)) → b ≠ 216 → b ≠ 217 → b ≠ 218 → b ≠ 223 → b ≠ 224 → b ≠ 227 → σ9 b k = σ b k := fun b k q1 q2 q3 q4 q5 q6 q7 => by
    rw [k4 b k (by omega) q3, f1 b k (by omega) q2 q4, f0 b k (by omega) q2 q4 q5 q6 q7]
  refine moP.yes h0 ?_ (k1.trans hr) ?_ fun b k q => hf b k (by omega) (by omega) (by omega) (by omega) (by omega) (by omega) (by omega)
  · rw [k4 _ _ (by decide) (by decide), f1 _ _ (by decide) (by decide) (by decide)]; exact h37
  · rw [e]
    exact hO.uL k2 k3 fun b k q => hf b k (by omega) (by omega) (by omega) (by omega) (by omega) (by omega) (by omega)
set_option maxRecDepth 100000 in
set_option maxHeartbeats 8000000 in
theorem kX8_keepsSaying {E : sv_E} {σ : sv_G} {l : List Int} (hl9 : SR σ l) (hlen : l.length ≤ 20) : CT E MX8_keepsSaying 0 [(vR 195)] σ (PI fun r σ9 => ksP σ σ9 r l) := by
  refine CT.of (RX8, cX8_keepsSaying, 2, (some .int), [], 0, 0, 0) rfl moX8_keepsSaying (Nat.le_of_ble_eq_true rfl) (ls0 := [some (vR 195), none]) rfl ?_
  intro X Q C hR
  have h20 := hl9.1
  refine s_aload_n C dX8_keepsSaying_0 rfl ?_
  refine s_aload_n C dX8_keepsSaying_1 rfl ?_
  refine s_getI (c := 8) (kz := 20) C fl_8_158 dX8_keepsSaying_2 sh_195 rfl rfl (fun g2 => ?_)
  refine s_putI (c := 8) (kz := 22) C fl_8_181 dX8_keepsSaying_5 sh_195 rfl (fun _ _ h9 => by cases h9; rfl) (by omega) rfl ?_
  refine s_nameG (fun σ_5 hσ_5 => ?_)
  refine s_iconst C dX8_keepsSaying_8 ?_
  refine s_istore_n (ls2 := [some (vR 195), some (vI 0)]) C dX8_keepsSaying_9 (by decide) rfl ?_
  have L10 : ∀ (n : Nat) (m : Int) (τ : sv_G), (20 - m).toNat < n → (0 ≤ m ∧ m ≤ l.length) → (τ 195 22 = l.length) → (∀ i : Nat, (i : Int) < m → τ 217 i = l.getD i 0) → (∀ b k, (b ≠ 195 ∨ k ≠ 22) → b ≠ 217 → τ b k = σ b k) → SW X E Q 0 0 10 [some (vR 195), some (vI m)] [] τ := by
    intro n
    induction n with
    | zero => intro m τ hm; exact absurd hm (Nat.not_lt_zero _)
    | succ n ih10 =>
      intro m τ hm10 i10_0 i10_1 i10_2 i10_3
      have e20 : τ 195 20 = l.length := (i10_3 _ _ (by decide) (by decide)).trans h20
      have e216 : ∀ i : Nat, i < l.length → τ 216 (i : Int) = l.getD i 0 := fun i hi => by
        rw [i10_3 _ _ (Or.inl (by decide)) (by decide)]
        have h9 := hl9.2 i hi
        rwa [Int.zero_add] at h9
      refine s_iload_n C dX8_keepsSaying_10 rfl ?_
      refine s_aload_n C dX8_keepsSaying_11 rfl ?_
      refine s_getI (c := 8) (kz := 20) C fl_8_158 dX8_keepsSaying_12 sh_195 rfl rfl (fun g12 => ?_)
      refine s_icmp_ge (tgt := 36) C dX8_keepsSaying_15 (by decide) (by omega) (by omega) (fun c15 => ?_) (fun c15 => ?_)
      · refine s_aload_n C dX8_keepsSaying_36 rfl ?_
        refine s_getI (c := 8) (kz := 20) C fl_8_158 dX8_keepsSaying_37 sh_195 rfl rfl (fun g37 => ?_)
        refine s_iret C hR dX8_keepsSaying_40 rfl ⟨_, rfl, ?_⟩ (by decide)
        exact ⟨e20, i10_1, fun i hi => by rw [Int.zero_add]; exact i10_2 i (by omega), i10_3⟩
      · refine s_aload_n C dX8_keepsSaying_18 rfl ?_
        refine s_getR (c := 8) C fl_8_73 dX8_keepsSaying_19 sh_195 rfl rf_195_23 ?_
        refine s_iload_n C dX8_keepsSaying_22 rfl ?_
        refine s_aload_n C dX8_keepsSaying_23 rfl ?_
        refine s_getR (c := 8) C fl_8_70 dX8_keepsSaying_24 sh_195 rfl rf_195_21 ?_
        refine s_iload_n C dX8_keepsSaying_27 rfl ?_
        refine s_iald C dX8_keepsSaying_28 sh_216 (by omega) (fun g28 => ?_)
        refine s_iast C dX8_keepsSaying_29 sh_217 (by omega) (by omega) ?_
        refine s_nameG (fun σ_29 hσ_29 => ?_)
        obtain ⟨x1_30, ex1_30⟩ : ∃ y : Int, y = m + 1 := ⟨_, rfl⟩
        refine s_iinc (z2 := x1_30) (ls2 := [some (vR 195), some (vI x1_30)]) C dX8_keepsSaying_30 (by decide) rfl ex1_30 rfl ?_
        refine s_goto (tgt := 10) C dX8_keepsSaying_33 (by decide) ?_
        refine ih10 x1_30 σ_29 (by omega) (by first | assumption | omega) ?_ ?_ ?_
        · rw [hσ_29, up_a (by decide)]; exact i10_1
        · intro i hi
          rw [hσ_29, up_i]
          by_cases q : (i : Int) = m
          · rw [if_pos q, ← q]; exact e216 i (by omega)
          · rw [if_neg q]; exact i10_2 i (by omega)
        · intro b k q1 q2; rw [hσ_29, up_a q2]; exact i10_3 b k q1 q2
  refine L10 _ 0 σ_5 (Nat.lt_succ_self _) (by first | assumption | omega) ?_ ?_ ?_
  · rw [hσ_5, up_s]; exact h20
  · intro i hi; omega
  · intro b k q1 q2; rw [hσ_5, up_n q1]

set_option maxRecDepth 100000 in
set_option maxHeartbeats 8000000 in
theorem kX8_say {E : sv_E} {σ : sv_G} {S : st_T} (hS : StOK S) (hO : RO σ S) {x : Int} (hx : -2147483648 ≤ x ∧ x ≤ 2147483647) {y : Int} (hy : -2147483648 ≤ y ∧ y ≤ 2147483647) {z : Int} (hz : -2147483648 ≤ z ∧ z ≤ 2147483647) : CT E MX8_say 5 [(vR 195), (vI x), (vI y), (vI z)] σ (PI fun r σ9 => moP σ σ9 S r (op_say S x y z)) := by
  refine CT.of (RX8, cX8_say, 6, (some .int), [], 5, 0, 0) rfl moX8_say (Nat.le_of_ble_eq_true rfl) (ls0 := [some (vR 195), some (vI x), some (vI y), some (vI z), none, none]) rfl ?_
  intro X Q C hR
  refine s_iload_n C dX8_say_0 rfl ?_
  refine s_cS1i C dX8_say_1 lkX8_114 moX8_isGrammar mvX8_isGrammar (kX8_isGrammar (by omega)) (by decide) (Nat.le_of_ble_eq_true rfl) rfl (by decide) (kpI (fun r1 hp1 => ?_))
  have hb1 := (hp1).b
  have J19 : ∀ (a : Int), (yn a (0 ≤ x ∧ x ≤ 3 ∧ 0 ≤ z ∧ z ≤ 2)) → SW X E Q 0 0 19 [some (vR 195), some (vI x), some (vI y), some (vI z), none, none] [(vI a)] σ := by
    intro a j19_0
    have hbj19_0 := j19_0.b
    refine s_istore (ls2 := [some (vR 195), some (vI x), some (vI y), some (vI z), some (vI a), none]) C dX8_say_19 (by decide) rfl ?_
    refine s_aload_n C dX8_say_21 rfl ?_
    refine s_iload C dX8_say_22 rfl ?_
    have J43 : ∀ (c : Int), (c = (op_say S x y z).1) → (0 ≤ c ∧ c ≤ 3) → SW X E Q 0 0 43 [some (vR 195), some (vI x), some (vI y), some (vI z), some (vI a), none] [(vI c), (vR 195)] σ := by
      intro c j43_0 j43_1
      refine s_cV1i C dX8_say_43 lkX8_128 moX8_can mvX8_can (kX8_can (by omega)) sh_195 ⟨_, _, rfl⟩ (by decide) (Nat.le_of_ble_eq_true rfl) rfl (by decide) (fun r43 σ_43 hp43 => ?_)
      have hb43 := (hp43.2).b
      have hO2 := hO.t (can_T2 hp43.1)
      refine s_if_ne (tgt := 51) C dX8_say_46 (by decide) (by omega) (fun c46 => ?_) (fun c46 => ?_)
      · have y46 := (hp43.2).y (by omega)
        have h0 : (op_say S x y z).1 = 0 := by rw [← j43_0]; exact y46
        have hk := ifc2 (show (if ¬ (0 ≤ x ∧ x ≤ 3 ∧ 0 ≤ z ∧ z ≤ 2) then 1 else if ¬ (0 ≤ y ∧ y ≤ 9999) then 2 else 0 : Int) = 0 from h0)
        have h37 : σ_43 195 37 = 0 := by rw [hp43.1, up_s]; exact y46
        have hD := hS.1 x (by omega) (by omega)
        have hM := hO2.1 x (by omega) (by omega)
        have hn0 := hD.2.2.1
        have hn1 := hD.2.2.2.1
        have hn2 := hD.2.2.2.2.1
        have hn3 := hD.2.2.2.2.2.1
        have hn4 := hD.2.2.2.2.2.2.1
        refine s_aload_n C dX8_say_51 rfl ?_
        refine s_iload_n C dX8_say_52 rfl ?_
        refine s_iload_n C dX8_say_53 rfl ?_
        refine s_iload_n C dX8_say_54 rfl ?_
        refine s_cV3i C dX8_say_55 lkX8_187 moX8_finds mvX8_finds (kX8_finds (by exact hD) (by omega) (by exact hM) (by omega) (by omega)) sh_195 ⟨_, _, rfl⟩ (by decide) (Nat.le_of_ble_eq_true rfl) rfl (by decide) (fun r55 σ_55 hp55 => ?_)
        refine s_istore (ls2 := [some (vR 195), some (vI x), some (vI y), some (vI z), some (vI a), some (vI r55)]) C dX8_say_58 (by decide) rfl ?_
        refine s_aload_n C dX8_say_60 rfl ?_
        refine s_cV0i C dX8_say_61 lkX8_190 moX8_keepsSaying mvX8_keepsSaying (kX8_keepsSaying (by exact hp55.2.1) (by exact (spF_ok hD _ _).2)) sh_195 ⟨_, _, rfl⟩ (by decide) (Nat.le_of_ble_eq_true rfl) rfl (by decide) (fun r61 σ_61 hp61 => ?_)
        refine s_iret C hR dX8_say_64 rfl ⟨_, rfl, ?_⟩ (by decide)
        exact moP.say hO (can_T2 hp43.1) h37 hp55.1 hp61 h0 rfl rfl
      · have y46 := (hp43.2).n (by omega)
        refine s_iconst C dX8_say_49 ?_
        refine s_iret C hR dX8_say_50 rfl ⟨_, rfl, ?_⟩ (by decide)
        exact moP.no hO hp43.1 j43_0 y46
    refine s_if_ne (tgt := 31) C dX8_say_24 (by decide) (by omega) (fun c24 => ?_) (fun c24 => ?_)
    · have y24 := (j19_0).y (by omega)
      refine s_iload_n C dX8_say_31 rfl ?_
      refine s_cS1i C dX8_say_32 lkX8_121 moX8_isNumber mvX8_isNumber (kX8_isNumber (by omega)) (by decide) (Nat.le_of_ble_eq_true rfl) rfl (by decide) (kpI (fun r32 hp32 => ?_))
      have hb32 := (hp32).b
      refine s_if_eq (tgt := 42) C dX8_say_35 (by decide) (by omega) (fun c35 => ?_) (fun c35 => ?_)
      · have y35 := (hp32).n (by omega)
        refine s_iconst C dX8_say_42 ?_
        refine J43 2 ?_ (by first | assumption | omega)
        · unfold op_say; dsimp only; (repeat' split) <;> omega
      · have y35 := (hp32).y (by omega)
        refine s_iconst C dX8_say_38 ?_
        refine s_goto (tgt := 43) C dX8_say_39 (by decide) ?_
        refine J43 0 ?_ (by first | assumption | omega)
        · unfold op_say; dsimp only; (repeat' split) <;> omega
    · have y24 := (j19_0).n (by omega)
      refine s_iconst C dX8_say_27 ?_
      refine s_goto (tgt := 43) C dX8_say_28 (by decide) ?_
      refine J43 1 ?_ (by first | assumption | omega)
      · unfold op_say; dsimp only; (repeat' split) <;> omega
  refine s_if_eq (tgt := 18) C dX8_say_4 (by decide) (by omega) (fun c4 => ?_) (fun c4 => ?_)
  · have y4 := (hp1).n (by omega)
    refine s_iconst C dX8_say_18 ?_
    refine J19 0 ?_
    · exact yn.zero (by omega)
  · have y4 := (hp1).y (by omega)
    refine s_iload_n C dX8_say_7 rfl ?_
    refine s_cS1i C dX8_say_8 lkX8_184 moX8_isClass mvX8_isClass (kX8_isClass (by omega)) (by decide) (Nat.le_of_ble_eq_true rfl) rfl (by decide) (kpI (fun r8 hp8 => ?_))
    have hb8 := (hp8).b
    refine s_if_eq (tgt := 18) C dX8_say_11 (by decide) (by omega) (fun c11 => ?_) (fun c11 => ?_)
    · have y11 := (hp8).n (by omega)
      refine s_iconst C dX8_say_18 ?_
      refine J19 0 ?_
      · exact yn.zero (by omega)
    · have y11 := (hp8).y (by omega)
      refine s_iconst C dX8_say_14 ?_
      refine s_goto (tgt := 19) C dX8_say_15 (by decide) ?_
      refine J19 1 ?_
      · exact yn.one (by omega)

set_option maxRecDepth 100000 in
set_option maxHeartbeats 8000000 in
theorem kX8_sayOrdinal {E : sv_E} {σ : sv_G} {S : st_T} (hS : StOK S) (hO : RO σ S) {x : Int} (hx : -2147483648 ≤ x ∧ x ≤ 2147483647) {y : Int} (hy : -2147483648 ≤ y ∧ y ≤ 2147483647) : CT E MX8_sayOrdinal 5 [(vR 195), (vI x), (vI y)] σ (PI fun r σ9 => moP σ σ9 S r (op_sayOrdinal S x y)) := by
  refine CT.of (RX8, cX8_sayOrdinal, 5, (some .int), [], 5, 0, 0) rfl moX8_sayOrdinal (Nat.le_of_ble_eq_true rfl) (ls0 := [some (vR 195), some (vI x), some (vI y), none, none]) rfl ?_
  intro X Q C hR
  refine s_aload_n C dX8_sayOrdinal_0 rfl ?_
  refine s_iload_n C dX8_sayOrdinal_1 rfl ?_
  refine s_cS1i C dX8_sayOrdinal_2 lkX8_114 moX8_isGrammar mvX8_isGrammar (kX8_isGrammar (by omega)) (by decide) (Nat.le_of_ble_eq_true rfl) rfl (by decide) (kpI (fun r2 hp2 => ?_))
  have hb2 := (hp2).b
  have J24 : ∀ (c : Int), (c = (op_sayOrdinal S x y).1) → (0 ≤ c ∧ c ≤ 3) → SW X E Q 0 0 24 [some (vR 195), some (vI x), some (vI y), none, none] [(vI c), (vR 195)] σ := by
    intro c j24_0 j24_1
    refine s_cV1i C dX8_sayOrdinal_24 lkX8_128 moX8_can mvX8_can (kX8_can (by omega)) sh_195 ⟨_, _, rfl⟩ (by decide) (Nat.le_of_ble_eq_true rfl) rfl (by decide) (fun r24 σ_24 hp24 => ?_)
    have hb24 := (hp24.2).b
    have hO2 := hO.t (can_T2 hp24.1)
    refine s_if_ne (tgt := 32) C dX8_sayOrdinal_27 (by decide) (by omega) (fun c27 => ?_) (fun c27 => ?_)
    · have y27 := (hp24.2).y (by omega)
      have h0 : (op_sayOrdinal S x y).1 = 0 := by rw [← j24_0]; exact y27
      have hk := ifc2 (show (if ¬ (0 ≤ x ∧ x ≤ 3) then 1 else if ¬ (0 ≤ y ∧ y ≤ 9999) then 2 else 0 : Int) = 0 from h0)
      have h37 : σ_24 195 37 = 0 := by rw [hp24.1, up_s]; exact y27
      have hD := hS.1 x (by omega) (by omega)
      have hM := hO2.1 x (by omega) (by omega)
      have hn0 := hD.2.2.1
      have hn1 := hD.2.2.2.1
      have hn2 := hD.2.2.2.2.1
      have hn3 := hD.2.2.2.2.2.1
      have hn4 := hD.2.2.2.2.2.2.1
      refine s_aload_n C dX8_sayOrdinal_32 rfl ?_
      refine s_iconst C dX8_sayOrdinal_33 ?_
      refine s_putI (c := 8) (kz := 20) C fl_8_158 dX8_sayOrdinal_34 sh_195 rfl (fun _ _ h9 => by cases h9; rfl) (by omega) rfl ?_
      refine s_nameG (fun σ_34 hσ_34 => ?_)
      have f34 : frN σ_24 σ_34 := fun b i q1 q2 q3 => by rw [hσ_34, up_n (by omega)]
      have hM34 := hM.fr fun b i q1 q2 => f34 b i (by omega) (by omega) (by omega)
      refine s_aload_n C dX8_sayOrdinal_37 rfl ?_
      refine s_iload_n C dX8_sayOrdinal_38 rfl ?_
      refine s_iload_n C dX8_sayOrdinal_39 rfl ?_
      refine s_cV2i C dX8_sayOrdinal_40 lkX8_171 moX8_names mvX8_names (kX8_names (by exact hD) (by omega) (by exact hM34.1) (by exact hM34.2.1) (by omega) (by exact SR.nil hσ_34) (by exact Nat.zero_le _)) sh_195 ⟨_, _, rfl⟩ (by decide) (Nat.le_of_ble_eq_true rfl) rfl (by decide) (fun r40 σ_40 hp40 => ?_)
      have hb40 : r40 = 0 ∨ r40 = 1 := hp40.2.elim (fun q => Or.inr q.1) (fun q => Or.inl q.1)
      have f40 := f34.tr hp40.1
      have hM40 := hM.fr fun b i q1 q2 => f40 b i (by omega) (by omega) (by omega)
      refine s_istore_n (ls2 := [some (vR 195), some (vI x), some (vI y), some (vI r40), none]) C dX8_sayOrdinal_43 (by decide) rfl ?_
      refine s_iload_n C dX8_sayOrdinal_44 rfl ?_
      have J53 : ∀ (τ : sv_G) (l2 : List Int), (frN σ_24 τ) → (r40 = 1 → SR τ l2) → (l2.length ≤ 41) → (spF (sD S x) y 3 = enL (sD S x) r40 l2) → SW X E Q 0 0 53 [some (vR 195), some (vI x), some (vI y), some (vI r40), none] [] τ := by
        intro τ l2 j53_0 j53_1 j53_2 j53_3
        have hMt := hM.fr fun b i q1 q2 => j53_0 b i (by omega) (by omega) (by omega)
        refine s_aload_n C dX8_sayOrdinal_53 rfl ?_
        refine s_iload_n C dX8_sayOrdinal_54 rfl ?_
        refine s_iload_n C dX8_sayOrdinal_55 rfl ?_
        refine s_cV2i C dX8_sayOrdinal_56 lkX8_177 moX8_ends mvX8_ends (kX8_ends (by exact hD) (by omega) (by exact hMt.2.2.2) (by exact hb40) (by exact j53_1) (by omega)) sh_195 ⟨_, _, rfl⟩ (by decide) (Nat.le_of_ble_eq_true rfl) rfl (by decide) (fun r56 σ_56 hp56 => ?_)
        refine s_istore (ls2 := [some (vR 195), some (vI x), some (vI y), some (vI r40), some (vI r56)]) C dX8_sayOrdinal_59 (by decide) rfl ?_
        refine s_aload_n C dX8_sayOrdinal_61 rfl ?_
        refine s_cV0i C dX8_sayOrdinal_62 lkX8_190 moX8_keepsSaying mvX8_keepsSaying (kX8_keepsSaying (by exact hp56.2.1) (by rw [← j53_3]; exact (spF_ok hD _ _).2)) sh_195 ⟨_, _, rfl⟩ (by decide) (Nat.le_of_ble_eq_true rfl) rfl (by decide) (fun r62 σ_62 hp62 => ?_)
        refine s_iret C hR dX8_sayOrdinal_65 rfl ⟨_, rfl, ?_⟩ (by decide)
        have hk9 := hp62
        rw [← j53_3] at hk9
        exact moP.say hO (can_T2 hp24.1) h37 (j53_0.tr hp56.1.N) hk9 h0 rfl rfl
      refine s_if_eq (tgt := 53) C dX8_sayOrdinal_45 (by decide) (by omega) (fun c45 => ?_) (fun c45 => ?_)
      · refine J53 σ_40 [] ?_ ?_ ?_ ?_
        · exact f40
        · intro q; omega
        · decide
        · have h8 := hp40.2.elim (fun q => absurd q.1 (by omega)) (fun q => q.2)
          unfold spF enL
          rw [sp3_no h8, if_neg (by omega)]; rfl
      · have hps := hp40.2.elim (fun q => q.2) (fun q => absurd q.1 c45)
        obtain ⟨l, hl1, hl2, hl3⟩ := hps
        have hlo := nm_ok hD y l hl1
        refine s_aload_n C dX8_sayOrdinal_48 rfl ?_
        refine s_iload_n C dX8_sayOrdinal_49 rfl ?_
        refine s_cV1v C dX8_sayOrdinal_50 lkX8_194 moX8_takesOrdinal mvX8_takesOrdinal (kX8_takesOrdinal (by exact hD) (by omega) (by exact hM40.2.2.1) (by exact hM40.2.2.2) (by exact hl3) (by exact hlo.1) (by show l.length ≤ 40; omega)) sh_195 ⟨_, _, rfl⟩ (by decide) (Nat.le_of_ble_eq_true rfl) rfl (by decide) (fun σ_50 hp50 => ?_)
        refine J53 σ_50 (toF (sD S x) l) ?_ ?_ ?_ ?_
        · exact f40.tr hp50.2.N
        · exact fun _ => hp50.1
        · exact Nat.le_trans (toF_len hlo.1) (by omega)
        · have e1 : r40 = 1 := by omega
          rw [e1]
          exact sp3 (l0 := []) hl1 hlo.1
    · have y27 := (hp24.2).n (by omega)
      refine s_iconst C dX8_sayOrdinal_30 ?_
      refine s_iret C hR dX8_sayOrdinal_31 rfl ⟨_, rfl, ?_⟩ (by decide)
      exact moP.no hO hp24.1 j24_0 y27
  refine s_if_ne (tgt := 12) C dX8_sayOrdinal_5 (by decide) (by omega) (fun c5 => ?_) (fun c5 => ?_)
  · have y5 := (hp2).y (by omega)
    refine s_iload_n C dX8_sayOrdinal_12 rfl ?_
    refine s_cS1i C dX8_sayOrdinal_13 lkX8_121 moX8_isNumber mvX8_isNumber (kX8_isNumber (by omega)) (by decide) (Nat.le_of_ble_eq_true rfl) rfl (by decide) (kpI (fun r13 hp13 => ?_))
    have hb13 := (hp13).b
    refine s_if_eq (tgt := 23) C dX8_sayOrdinal_16 (by decide) (by omega) (fun c16 => ?_) (fun c16 => ?_)
    · have y16 := (hp13).n (by omega)
      refine s_iconst C dX8_sayOrdinal_23 ?_
      refine J24 2 ?_ (by first | assumption | omega)
      · unfold op_sayOrdinal; dsimp only; (repeat' split) <;> omega
    · have y16 := (hp13).y (by omega)
      refine s_iconst C dX8_sayOrdinal_19 ?_
      refine s_goto (tgt := 24) C dX8_sayOrdinal_20 (by decide) ?_
      refine J24 0 ?_ (by first | assumption | omega)
      · unfold op_sayOrdinal; dsimp only; (repeat' split) <;> omega
  · have y5 := (hp2).n (by omega)
    refine s_iconst C dX8_sayOrdinal_8 ?_
    refine s_goto (tgt := 24) C dX8_sayOrdinal_9 (by decide) ?_
    refine J24 1 ?_ (by first | assumption | omega)
    · unfold op_sayOrdinal; dsimp only; (repeat' split) <;> omega

set_option maxRecDepth 100000 in
set_option maxHeartbeats 8000000 in
theorem kX8_sayFraction {E : sv_E} {σ : sv_G} {S : st_T} (hS : StOK S) (hO : RO σ S) {x : Int} (hx : -2147483648 ≤ x ∧ x ≤ 2147483647) {y : Int} (hy : -2147483648 ≤ y ∧ y ≤ 2147483647) {z : Int} (hz : -2147483648 ≤ z ∧ z ≤ 2147483647) {v : Int} (hv : -2147483648 ≤ v ∧ v ≤ 2147483647) : CT E MX8_sayFraction 5 [(vR 195), (vI x), (vI y), (vI z), (vI v)] σ (PI fun r σ9 => moP σ σ9 S r (op_sayFraction S x y z v)) := by
  refine CT.of (RX8, cX8_sayFraction, 9, (some .int), [], 5, 0, 0) rfl moX8_sayFraction (Nat.le_of_ble_eq_true rfl) (ls0 := [some (vR 195), some (vI x), some (vI y), some (vI z), some (vI v), none, none, none, none]) rfl ?_
  intro X Q C hR
  refine s_iload_n C dX8_sayFraction_0 rfl ?_
  refine s_cS1i C dX8_sayFraction_1 lkX8_114 moX8_isGrammar mvX8_isGrammar (kX8_isGrammar (by omega)) (by decide) (Nat.le_of_ble_eq_true rfl) rfl (by decide) (kpI (fun r1 hp1 => ?_))
  have hb1 := (hp1).b
  have J20 : ∀ (a : Int), (yn a (0 ≤ x ∧ x ≤ 3 ∧ 0 ≤ v ∧ v ≤ 2)) → SW X E Q 0 0 20 [some (vR 195), some (vI x), some (vI y), some (vI z), some (vI v), none, none, none, none] [(vI a)] σ := by
    intro a j20_0
    have hbj20_0 := j20_0.b
    refine s_istore (ls2 := [some (vR 195), some (vI x), some (vI y), some (vI z), some (vI v), some (vI a), none, none, none]) C dX8_sayFraction_20 (by decide) rfl ?_
    refine s_iload_n C dX8_sayFraction_22 rfl ?_
    refine s_cS1i C dX8_sayFraction_23 lkX8_121 moX8_isNumber mvX8_isNumber (kX8_isNumber (by omega)) (by decide) (Nat.le_of_ble_eq_true rfl) rfl (by decide) (kpI (fun r23 hp23 => ?_))
    have hb23 := (hp23).b
    have J45 : ∀ (b : Int), (yn b ((0 ≤ y ∧ y ≤ 9999) ∧ 1 ≤ z ∧ z ≤ 9999)) → SW X E Q 0 0 45 [some (vR 195), some (vI x), some (vI y), some (vI z), some (vI v), some (vI a), none, none, none] [(vI b)] σ := by
      intro b j45_0
      have hbj45_0 := j45_0.b
      refine s_istore (ls2 := [some (vR 195), some (vI x), some (vI y), some (vI z), some (vI v), some (vI a), some (vI b), none, none]) C dX8_sayFraction_45 (by decide) rfl ?_
      refine s_aload_n C dX8_sayFraction_47 rfl ?_
      refine s_iload C dX8_sayFraction_48 rfl ?_
      have J67 : ∀ (c : Int), (c = (op_sayFraction S x y z v).1) → (0 ≤ c ∧ c ≤ 3) → SW X E Q 0 0 67 [some (vR 195), some (vI x), some (vI y), some (vI z), some (vI v), some (vI a), some (vI b), none, none] [(vI c), (vR 195)] σ := by
        intro c j67_0 j67_1
        refine s_cV1i C dX8_sayFraction_67 lkX8_128 moX8_can mvX8_can (kX8_can (by omega)) sh_195 ⟨_, _, rfl⟩ (by decide) (Nat.le_of_ble_eq_true rfl) rfl (by decide) (fun r67 σ_67 hp67 => ?_)
        have hb67 := (hp67.2).b
        have hO2 := hO.t (can_T2 hp67.1)
        refine s_if_ne (tgt := 75) C dX8_sayFraction_70 (by decide) (by omega) (fun c70 => ?_) (fun c70 => ?_)
        · have y70 := (hp67.2).y (by omega)
          have h0 : (op_sayFraction S x y z v).1 = 0 := by rw [← j67_0]; exact y70
          have hk := ifc2 (show (if ¬ (0 ≤ x ∧ x ≤ 3 ∧ 0 ≤ v ∧ v ≤ 2) then 1 else if ¬ ((0 ≤ y ∧ y ≤ 9999) ∧ 1 ≤ z ∧ z ≤ 9999) then 2 else 0 : Int) = 0 from h0)
          have h37 : σ_67 195 37 = 0 := by rw [hp67.1, up_s]; exact y70
          have hD := hS.1 x (by omega) (by omega)
          have hM := hO2.1 x (by omega) (by omega)
          have hn0 := hD.2.2.1
          have hn1 := hD.2.2.2.1
          have hn2 := hD.2.2.2.2.1
          have hn3 := hD.2.2.2.2.2.1
          have hn4 := hD.2.2.2.2.2.2.1
          refine s_aload_n C dX8_sayFraction_75 rfl ?_
          refine s_iconst C dX8_sayFraction_76 ?_
          refine s_putI (c := 8) (kz := 20) C fl_8_158 dX8_sayFraction_77 sh_195 rfl (fun _ _ h9 => by cases h9; rfl) (by omega) rfl ?_
          refine s_nameG (fun σ_77 hσ_77 => ?_)
          have f77 : frN σ_67 σ_77 := fun b i q1 q2 q3 => by rw [hσ_77, up_n (by omega)]
          have hM77 := hM.fr fun b i q1 q2 => f77 b i (by omega) (by omega) (by omega)
          refine s_aload_n C dX8_sayFraction_80 rfl ?_
          refine s_iload_n C dX8_sayFraction_81 rfl ?_
          refine s_iload_n C dX8_sayFraction_82 rfl ?_
          refine s_cV2i C dX8_sayFraction_83 lkX8_171 moX8_names mvX8_names (kX8_names (by exact hD) (by omega) (by exact hM77.1) (by exact hM77.2.1) (by omega) (by exact SR.nil hσ_77) (by exact Nat.zero_le _)) sh_195 ⟨_, _, rfl⟩ (by decide) (Nat.le_of_ble_eq_true rfl) rfl (by decide) (fun r83 σ_83 hp83 => ?_)
          have hb83 : r83 = 0 ∨ r83 = 1 := hp83.2.elim (fun q => Or.inr q.1) (fun q => Or.inl q.1)
          have f83 := f77.tr hp83.1
          have hM83 := hM.fr fun b i q1 q2 => f83 b i (by omega) (by omega) (by omega)
          refine s_istore (ls2 := [some (vR 195), some (vI x), some (vI y), some (vI z), some (vI v), some (vI a), some (vI b), some (vI r83), none]) C dX8_sayFraction_86 (by decide) rfl ?_
          refine s_iload C dX8_sayFraction_88 rfl ?_
          have J108 : ∀ (s : Int) (τ : sv_G) (l2 : List Int), (frN σ_67 τ) → (s = 0 ∨ s = 1) → (s = 1 → SR τ l2 ∧ l2 ≠ [] ∧ l2.length ≤ 40 ∧ frF (sD S x) y z v = enL (sD S x) 1 (toF (sD S x) l2)) → (s = 0 → frF (sD S x) y z v = []) → SW X E Q 0 0 108 [some (vR 195), some (vI x), some (vI y), some (vI z), some (vI v), some (vI a), some (vI b), some (vI s), none] [] τ := by
            intro s τ l2 j108_0 j108_1 j108_2 j108_3
            have hMt := hM.fr fun b i q1 q2 => j108_0 b i (by omega) (by omega) (by omega)
            refine s_iload C dX8_sayFraction_108 rfl ?_
            have J118 : ∀ (υ : sv_G) (l3 : List Int), (frN σ_67 υ) → (s = 1 → SR υ l3) → (l3.length ≤ 41) → (frF (sD S x) y z v = enL (sD S x) s l3) → SW X E Q 0 0 118 [some (vR 195), some (vI x), some (vI y), some (vI z), some (vI v), some (vI a), some (vI b), some (vI s), none] [] υ := by
              intro υ l3 j118_0 j118_1 j118_2 j118_3
              have hMu := hM.fr fun b i q1 q2 => j118_0 b i (by omega) (by omega) (by omega)
              refine s_aload_n C dX8_sayFraction_118 rfl ?_
              refine s_iload_n C dX8_sayFraction_119 rfl ?_
              refine s_iload C dX8_sayFraction_120 rfl ?_
              refine s_cV2i C dX8_sayFraction_122 lkX8_177 moX8_ends mvX8_ends (kX8_ends (by exact hD) (by omega) (by exact hMu.2.2.2) (by exact j108_1) (by exact j118_1) (by omega)) sh_195 ⟨_, _, rfl⟩ (by decide) (Nat.le_of_ble_eq_true rfl) rfl (by decide) (fun r122 σ_122 hp122 => ?_)
              refine s_istore (ls2 := [some (vR 195), some (vI x), some (vI y), some (vI z), some (vI v), some (vI a), some (vI b), some (vI s), some (vI r122)]) C dX8_sayFraction_125 (by decide) rfl ?_
              refine s_aload_n C dX8_sayFraction_127 rfl ?_
              refine s_cV0i C dX8_sayFraction_128 lkX8_190 moX8_keepsSaying mvX8_keepsSaying (kX8_keepsSaying (by exact hp122.2.1) (by rw [← j118_3]; exact (frF_ok hD _ _ _).2)) sh_195 ⟨_, _, rfl⟩ (by decide) (Nat.le_of_ble_eq_true rfl) rfl (by decide) (fun r128 σ_128 hp128 => ?_)
              refine s_iret C hR dX8_sayFraction_131 rfl ⟨_, rfl, ?_⟩ (by decide)
              have hk9 := hp128
              rw [← j118_3] at hk9
              exact moP.say hO (can_T2 hp67.1) h37 (j118_0.tr hp122.1.N) hk9 h0 rfl rfl
            refine s_if_eq (tgt := 118) C dX8_sayFraction_110 (by decide) (by omega) (fun c110 => ?_) (fun c110 => ?_)
            · refine J118 τ [] ?_ ?_ ?_ ?_
              · exact j108_0
              · intro q; omega
              · decide
              · rw [j108_3 (by omega)]
                unfold enL
                rw [if_neg (by omega)]
            · have hs1 : s = 1 := by omega
              have hq2 := j108_2 hs1
              refine s_aload_n C dX8_sayFraction_113 rfl ?_
              refine s_iload_n C dX8_sayFraction_114 rfl ?_
              refine s_cV1v C dX8_sayFraction_115 lkX8_194 moX8_takesOrdinal mvX8_takesOrdinal (kX8_takesOrdinal (by exact hD) (by omega) (by exact hMt.2.2.1) (by exact hMt.2.2.2) (by exact hq2.1) (by exact hq2.2.1) (by exact hq2.2.2.1)) sh_195 ⟨_, _, rfl⟩ (by decide) (Nat.le_of_ble_eq_true rfl) rfl (by decide) (fun σ_115 hp115 => ?_)
              refine J118 σ_115 (toF (sD S x) l2) ?_ ?_ ?_ ?_
              · exact j108_0.tr hp115.2.N
              · exact fun _ => hp115.1
              · exact Nat.le_trans (toF_len hq2.2.1) (by omega)
              · rw [hs1]; exact hq2.2.2.2
          refine s_if_eq (tgt := 108) C dX8_sayFraction_90 (by decide) (by omega) (fun c90 => ?_) (fun c90 => ?_)
          · refine J108 r83 σ_83 [] ?_ ?_ ?_ ?_
            · exact f83
            · exact Or.inl (by omega)
            · intro q; omega
            · intro _
              have h8 := hp83.2.elim (fun q => absurd q.1 (by omega)) (fun q => q.2)
              unfold frF
              rw [sp3_no h8]; rfl
          · have hps := hp83.2.elim (fun q => q.2) (fun q => absurd q.1 c90)
            obtain ⟨l, hl1, hl2, hl3⟩ := hps
            replace hl3 : SR σ_83 l := hl3
            have hlo := nm_ok hD y l hl1
            refine s_aload_n C dX8_sayFraction_93 rfl ?_
            refine s_iload_n C dX8_sayFraction_94 rfl ?_
            refine s_iload C dX8_sayFraction_95 rfl ?_
            refine s_cV2v C dX8_sayFraction_97 lkX8_174 moX8_takesForm mvX8_takesForm (kX8_takesForm (by exact hD) (by omega) (by exact hM83.2.2.1) (by exact hl3) (by exact hlo.1) (by show l.length ≤ 40; omega) (by omega)) sh_195 ⟨_, _, rfl⟩ (by decide) (Nat.le_of_ble_eq_true rfl) rfl (by decide) (fun σ_97 hp97 => ?_)
            have htl := tfF_len (D := sD S x) (k := v) hlo.1
            have hM97 := hM83.fr fun b i q1 q2 => hp97.2 b i (by omega)
            have f97 : frN σ_67 σ_97 := f83.tr fun b i q1 q2 q3 => hp97.2 b i q2
            refine s_aload_n C dX8_sayFraction_100 rfl ?_
            refine s_iload_n C dX8_sayFraction_101 rfl ?_
            refine s_iload_n C dX8_sayFraction_102 rfl ?_
            refine s_cV2i C dX8_sayFraction_103 lkX8_171 moX8_names mvX8_names (kX8_names (by exact hD) (by omega) (by exact hM97.1) (by exact hM97.2.1) (by omega) (by exact hp97.1) (by rw [htl]; exact hl2)) sh_195 ⟨_, _, rfl⟩ (by decide) (Nat.le_of_ble_eq_true rfl) rfl (by decide) (fun r103 σ_103 hp103 => ?_)
            have hb103 : r103 = 0 ∨ r103 = 1 := hp103.2.elim (fun q => Or.inr q.1) (fun q => Or.inl q.1)
            have f103 := f97.tr hp103.1
            refine s_istore (ls2 := [some (vR 195), some (vI x), some (vI y), some (vI z), some (vI v), some (vI a), some (vI b), some (vI r103), none]) C dX8_sayFraction_106 (by decide) rfl ?_
            refine J108 r103 σ_103 (tfF (sD S x) l v ++ (nm (sD S x) z).getD []) ?_ ?_ ?_ ?_
            · exact f103
            · exact hb103
            · intro q
              obtain ⟨l9, g1, g2, g3⟩ := hp103.2.elim (fun z => z.2) (fun z => absurd z.1 (by omega))
              rw [g1]
              have gne := (nm_ok hD z l9 g1).1
              have hne : tfF (sD S x) l v ++ l9 ≠ [] := fun w => gne (List.append_eq_nil_iff.mp w).2
              refine ⟨g3, hne, ?_, ?_⟩
              · show (tfF (sD S x) l v ++ l9).length ≤ 40
                rw [List.length_append]; omega
              · unfold frF
                rw [nf1 hl1 hl2 (by omega)]
                exact sp3 g1 hne
            · intro q
              have h8 := hp103.2.elim (fun z => absurd z.1 (by omega)) (fun z => z.2)
              unfold frF
              rw [nf1 hl1 hl2 (by omega)]
              show endO _ (nfF _ _ _ _) = []
              rw [sp3_no h8]; rfl
        · have y70 := (hp67.2).n (by omega)
          refine s_iconst C dX8_sayFraction_73 ?_
          refine s_iret C hR dX8_sayFraction_74 rfl ⟨_, rfl, ?_⟩ (by decide)
          exact moP.no hO hp67.1 j67_0 y70
      refine s_if_ne (tgt := 57) C dX8_sayFraction_50 (by decide) (by omega) (fun c50 => ?_) (fun c50 => ?_)
      · have y50 := (j20_0).y (by omega)
        refine s_iload C dX8_sayFraction_57 rfl ?_
        refine s_if_eq (tgt := 66) C dX8_sayFraction_59 (by decide) (by omega) (fun c59 => ?_) (fun c59 => ?_)
        · have y59 := (j45_0).n (by omega)
          refine s_iconst C dX8_sayFraction_66 ?_
          refine J67 2 ?_ (by first | assumption | omega)
          · unfold op_sayFraction; dsimp only; (repeat' split) <;> omega
        · have y59 := (j45_0).y (by omega)
          refine s_iconst C dX8_sayFraction_62 ?_
          refine s_goto (tgt := 67) C dX8_sayFraction_63 (by decide) ?_
          refine J67 0 ?_ (by first | assumption | omega)
          · unfold op_sayFraction; dsimp only; (repeat' split) <;> omega
      · have y50 := (j20_0).n (by omega)
        refine s_iconst C dX8_sayFraction_53 ?_
        refine s_goto (tgt := 67) C dX8_sayFraction_54 (by decide) ?_
        refine J67 1 ?_ (by first | assumption | omega)
        · unfold op_sayFraction; dsimp only; (repeat' split) <;> omega
    refine s_if_eq (tgt := 44) C dX8_sayFraction_26 (by decide) (by omega) (fun c26 => ?_) (fun c26 => ?_)
    · have y26 := (hp23).n (by omega)
      refine s_iconst C dX8_sayFraction_44 ?_
      refine J45 0 ?_
      · exact yn.zero (by omega)
    · have y26 := (hp23).y (by omega)
      refine s_iload_n C dX8_sayFraction_29 rfl ?_
      refine s_cS1i C dX8_sayFraction_30 lkX8_121 moX8_isNumber mvX8_isNumber (kX8_isNumber (by omega)) (by decide) (Nat.le_of_ble_eq_true rfl) rfl (by decide) (kpI (fun r30 hp30 => ?_))
      have hb30 := (hp30).b
      refine s_if_eq (tgt := 44) C dX8_sayFraction_33 (by decide) (by omega) (fun c33 => ?_) (fun c33 => ?_)
      · have y33 := (hp30).n (by omega)
        refine s_iconst C dX8_sayFraction_44 ?_
        refine J45 0 ?_
        · exact yn.zero (by omega)
      · have y33 := (hp30).y (by omega)
        refine s_iload_n C dX8_sayFraction_36 rfl ?_
        refine s_if_le (tgt := 44) C dX8_sayFraction_37 (by decide) (by omega) (fun c37 => ?_) (fun c37 => ?_)
        · refine s_iconst C dX8_sayFraction_44 ?_
          refine J45 0 ?_
          · exact yn.zero (by omega)
        · refine s_iconst C dX8_sayFraction_40 ?_
          refine s_goto (tgt := 45) C dX8_sayFraction_41 (by decide) ?_
          refine J45 1 ?_
          · exact yn.one (by omega)
  refine s_if_eq (tgt := 19) C dX8_sayFraction_4 (by decide) (by omega) (fun c4 => ?_) (fun c4 => ?_)
  · have y4 := (hp1).n (by omega)
    refine s_iconst C dX8_sayFraction_19 ?_
    refine J20 0 ?_
    · exact yn.zero (by omega)
  · have y4 := (hp1).y (by omega)
    refine s_iload C dX8_sayFraction_7 rfl ?_
    refine s_cS1i C dX8_sayFraction_9 lkX8_184 moX8_isClass mvX8_isClass (kX8_isClass (by omega)) (by decide) (Nat.le_of_ble_eq_true rfl) rfl (by decide) (kpI (fun r9 hp9 => ?_))
    have hb9 := (hp9).b
    refine s_if_eq (tgt := 19) C dX8_sayFraction_12 (by decide) (by omega) (fun c12 => ?_) (fun c12 => ?_)
    · have y12 := (hp9).n (by omega)
      refine s_iconst C dX8_sayFraction_19 ?_
      refine J20 0 ?_
      · exact yn.zero (by omega)
    · have y12 := (hp9).y (by omega)
      refine s_iconst C dX8_sayFraction_15 ?_
      refine s_goto (tgt := 20) C dX8_sayFraction_16 (by decide) ?_
      refine J20 1 ?_
      · exact yn.one (by omega)

set_option maxRecDepth 100000 in
set_option maxHeartbeats 8000000 in
theorem kX8_said {E : sv_E} {σ : sv_G} {S : st_T} (hS : StOK S) (hO : RO σ S) {x : Int} (hx : -2147483648 ≤ x ∧ x ≤ 2147483647) : CT E MX8_said 1 [(vR 195), (vI x)] σ (PI fun r σ9 => moP σ σ9 S r (op_said S x)) := by
  refine CT.of (RX8, cX8_said, 2, (some .int), [], 1, 0, 0) rfl moX8_said (Nat.le_of_ble_eq_true rfl) (ls0 := [some (vR 195), some (vI x)]) rfl ?_
  intro X Q C hR
  have hL := hO.2.1.1
  have hSl := hS.2.1.2
  refine s_aload_n C dX8_said_0 rfl ?_
  refine s_iload_n C dX8_said_1 rfl ?_
  refine s_iconst C dX8_said_2 ?_
  refine s_aload_n C dX8_said_3 rfl ?_
  refine s_getI (c := 8) (kz := 22) C fl_8_181 dX8_said_4 sh_195 rfl rfl (fun g4 => ?_)
  refine s_iconst C dX8_said_7 ?_
  refine s_isub C dX8_said_8 ?_
  refine s_cS3i C dX8_said_9 lkX8_110 moX8_isIn mvX8_isIn (kX8_isIn (by omega) (by omega) (by omega)) (by decide) (Nat.le_of_ble_eq_true rfl) rfl (by decide) (kpI (fun r9 hp9 => ?_))
  have hb9 := (hp9).b
  have J20 : ∀ (c : Int), (c = (op_said S x).1) → (0 ≤ c ∧ c ≤ 3) → SW X E Q 0 0 20 [some (vR 195), some (vI x)] [(vI c), (vR 195)] σ := by
    intro c j20_0 j20_1
    refine s_cV1i C dX8_said_20 lkX8_128 moX8_can mvX8_can (kX8_can (by omega)) sh_195 ⟨_, _, rfl⟩ (by decide) (Nat.le_of_ble_eq_true rfl) rfl (by decide) (fun r20 σ_20 hp20 => ?_)
    have hb20 := (hp20.2).b
    have hO2 := hO.t (can_T2 hp20.1)
    refine s_if_eq (tgt := 35) C dX8_said_23 (by decide) (by omega) (fun c23 => ?_) (fun c23 => ?_)
    · have y23 := (hp20.2).n (by omega)
      refine s_iconst C dX8_said_35 ?_
      refine s_iret C hR dX8_said_36 rfl ⟨_, rfl, ?_⟩ (by decide)
      first
        | exact moP.no hO hp20.1 j20_0 y23
        | exact moP.yes h0 h37 (show _ = (sL S).getD x.toNat 0 from e217) hO2 (can_T2 hp20.1).M
    · have y23 := (hp20.2).y (by omega)
      have h0 : (op_said S x).1 = 0 := by rw [← j20_0]; exact y23
      have hk := ifc1 (show (if ¬ (0 ≤ x ∧ x < (sL S).length) then 1 else 0 : Int) = 0 from h0)
      have h37 : σ_20 195 37 = 0 := by rw [hp20.1, up_s]; exact y23
      have e217 := hO2.2.1.2 x.toNat (by omega)
      rw [show (0 : Int) + (x.toNat : Int) = x by omega] at e217
      refine s_aload_n C dX8_said_26 rfl ?_
      refine s_getR (c := 8) C fl_8_73 dX8_said_27 sh_195 rfl rf_195_23 ?_
      refine s_iload_n C dX8_said_30 rfl ?_
      refine s_iald C dX8_said_31 sh_217 (by omega) (fun g31 => ?_)
      refine s_goto (tgt := 36) C dX8_said_32 (by decide) ?_
      refine s_iret C hR dX8_said_36 rfl ⟨_, rfl, ?_⟩ (by decide)
      first
        | exact moP.no hO hp20.1 j20_0 y23
        | exact moP.yes h0 h37 (show _ = (sL S).getD x.toNat 0 from e217) hO2 (can_T2 hp20.1).M
  refine s_if_eq (tgt := 19) C dX8_said_12 (by decide) (by omega) (fun c12 => ?_) (fun c12 => ?_)
  · have y12 := (hp9).n (by omega)
    refine s_iconst C dX8_said_19 ?_
    refine J20 1 ?_ (by first | assumption | omega)
    · unfold op_said; dsimp only; (repeat' split) <;> omega
  · have y12 := (hp9).y (by omega)
    refine s_iconst C dX8_said_15 ?_
    refine s_goto (tgt := 20) C dX8_said_16 (by decide) ?_
    refine J20 0 ?_ (by first | assumption | omega)
    · unfold op_said; dsimp only; (repeat' split) <;> omega

set_option maxRecDepth 100000 in
set_option maxHeartbeats 8000000 in
theorem kX8_hear {E : sv_E} {σ : sv_G} {S : st_T} (hS : StOK S) (hO : RO σ S) {x : Int} (hx : -2147483648 ≤ x ∧ x ≤ 2147483647) : CT E MX8_hear 2 [(vR 195), (vI x)] σ (PI fun r σ9 => moP σ σ9 S r (op_hear S x)) := by
  refine CT.of (RX8, cX8_hear, 2, (some .int), [], 2, 0, 0) rfl moX8_hear (Nat.le_of_ble_eq_true rfl) (ls0 := [some (vR 195), some (vI x)]) rfl ?_
  intro X Q C hR
  have hH := hO.2.2.1.1
  have hHl := hS.2.2.1.2
  refine s_aload_n C dX8_hear_0 rfl ?_
  refine s_iload_n C dX8_hear_1 rfl ?_
  refine s_cS1i C dX8_hear_2 lkX8_135 moX8_isWordOrNone mvX8_isWordOrNone (kX8_isWordOrNone (by omega)) (by decide) (Nat.le_of_ble_eq_true rfl) rfl (by decide) (kpI (fun r2 hp2 => ?_))
  have hb2 := (hp2).b
  have J26 : ∀ (c : Int), (c = (op_hear S x).1) → (0 ≤ c ∧ c ≤ 3) → SW X E Q 0 0 26 [some (vR 195), some (vI x)] [(vI c), (vR 195)] σ := by
    intro c j26_0 j26_1
    refine s_cV1i C dX8_hear_26 lkX8_128 moX8_can mvX8_can (kX8_can (by omega)) sh_195 ⟨_, _, rfl⟩ (by decide) (Nat.le_of_ble_eq_true rfl) rfl (by decide) (fun r26 σ_26 hp26 => ?_)
    have hb26 := (hp26.2).b
    have hO2 := hO.t (can_T2 hp26.1)
    refine s_if_ne (tgt := 34) C dX8_hear_29 (by decide) (by omega) (fun c29 => ?_) (fun c29 => ?_)
    · have y29 := (hp26.2).y (by omega)
      have h0 : (op_hear S x).1 = 0 := by rw [← j26_0]; exact y29
      have hk := ifc2 (show (if ¬ (-1 ≤ x ∧ x ≤ 199) then 1 else if (sH S).length = 20 then 2 else 0 : Int) = 0 from h0)
      have h37 : σ_26 195 37 = 0 := by rw [hp26.1, up_s]; exact y29
      have e26 : σ_26 195 26 = (sH S).length := hO2.2.2.1.1
      have f26 := can_T2 hp26.1
      refine s_aload_n C dX8_hear_34 rfl ?_
      refine s_getR (c := 8) C fl_8_79 dX8_hear_35 sh_195 rfl rf_195_27 ?_
      refine s_aload_n C dX8_hear_38 rfl ?_
      refine s_getI (c := 8) (kz := 26) C fl_8_197 dX8_hear_39 sh_195 rfl rfl (fun g39 => ?_)
      refine s_iload_n C dX8_hear_42 rfl ?_
      refine s_iast C dX8_hear_43 sh_219 (by omega) (by omega) ?_
      refine s_nameG (fun σ_43 hσ_43 => ?_)
      have e43 : σ_43 195 26 = (sH S).length := by rw [hσ_43, up_a (by decide)]; exact e26
      refine s_aload_n C dX8_hear_44 rfl ?_
      refine s_dup C dX8_hear_45 rfl ?_
      refine s_getI (c := 8) (kz := 26) C fl_8_197 dX8_hear_46 sh_195 rfl rfl (fun g46 => ?_)
      refine s_iconst C dX8_hear_49 ?_
      refine s_iadd C dX8_hear_50 ?_
      refine s_putI (c := 8) (kz := 26) C fl_8_197 dX8_hear_51 sh_195 rfl (fun _ _ h9 => by cases h9; rfl) (by omega) rfl ?_
      refine s_nameG (fun σ_51 hσ_51 => ?_)
      refine s_aload_n C dX8_hear_54 rfl ?_
      refine s_getI (c := 8) (kz := 26) C fl_8_197 dX8_hear_55 sh_195 rfl rfl (fun g55 => ?_)
      refine s_iret C hR dX8_hear_58 rfl ⟨_, rfl, ?_⟩ (by decide)
      have hf : ∀ b k, (b ≠ 195 ∨ (k ≠ 26 ∧ k ≠ 37)) → b ≠ 219 → σ_51 b k = σ b k := fun b k q1 q2 => by rw [hσ_51, up_n (by omega), hσ_43, up_a q2, hp26.1, up_n (by omega)]
      have e9 : σ_51 195 26 = ((sH S).length : Int) + 1 := by rw [hσ_51, up_s, e43]
      refine moP.yes h0 (by rw [hσ_51, up_k (by decide), hσ_43, up_a (by decide)]; exact h37) (show _ = ((sH S).length : Int) + 1 from e9) (hO.uH (l := sH S ++ [x]) (by rw [e9, List.length_append]; rfl) (hO.2.2.1.2.push ?_ fun i hi => ?_) fun b k q => hf b k (by omega) (by omega)) fun b k q => hf b k (by omega) (by omega)
      · rw [hσ_51, up_a (by decide), hσ_43, e26, up_s]
      · rw [hσ_51, up_a (by decide), hσ_43, up_k (by omega), hp26.1, up_a (by decide)]
    · have y29 := (hp26.2).n (by omega)
      refine s_iconst C dX8_hear_32 ?_
      refine s_iret C hR dX8_hear_33 rfl ⟨_, rfl, ?_⟩ (by decide)
      exact moP.no hO hp26.1 j26_0 y29
  refine s_if_ne (tgt := 12) C dX8_hear_5 (by decide) (by omega) (fun c5 => ?_) (fun c5 => ?_)
  · have y5 := (hp2).y (by omega)
    refine s_aload_n C dX8_hear_12 rfl ?_
    refine s_getI (c := 8) (kz := 26) C fl_8_197 dX8_hear_13 sh_195 rfl rfl (fun g13 => ?_)
    refine s_bipush C dX8_hear_16 (by decide) ?_
    refine s_icmp_ne (tgt := 25) C dX8_hear_18 (by decide) (by omega) (by omega) (fun c18 => ?_) (fun c18 => ?_)
    · refine s_iconst C dX8_hear_25 ?_
      refine J26 0 ?_ (by first | assumption | omega)
      · unfold op_hear; dsimp only; (repeat' split) <;> omega
    · refine s_iconst C dX8_hear_21 ?_
      refine s_goto (tgt := 26) C dX8_hear_22 (by decide) ?_
      refine J26 2 ?_ (by first | assumption | omega)
      · unfold op_hear; dsimp only; (repeat' split) <;> omega
  · have y5 := (hp2).n (by omega)
    refine s_iconst C dX8_hear_8 ?_
    refine s_goto (tgt := 26) C dX8_hear_9 (by decide) ?_
    refine J26 1 ?_ (by first | assumption | omega)
    · unfold op_hear; dsimp only; (repeat' split) <;> omega

set_option maxRecDepth 100000 in
set_option maxHeartbeats 8000000 in
theorem kX8_hearSaid {E : sv_E} {σ : sv_G} {S : st_T} (hS : StOK S) (hO : RO σ S)  : CT E MX8_hearSaid 0 [(vR 195)] σ (PI fun r σ9 => moP σ σ9 S r (op_hearSaid S)) := by
  refine CT.of (RX8, cX8_hearSaid, 2, (some .int), [], 0, 0, 0) rfl moX8_hearSaid (Nat.le_of_ble_eq_true rfl) (ls0 := [some (vR 195), none]) rfl ?_
  intro X Q C hR
  have hL := hO.2.1.1
  have hLg := hO.2.1.2
  have hLl := hS.2.1.2
  refine s_aload_n C dX8_hearSaid_0 rfl ?_
  refine s_iconst C dX8_hearSaid_1 ?_
  refine s_putI (c := 8) (kz := 37) C fl_8_106 dX8_hearSaid_2 sh_195 rfl (fun _ _ h9 => by cases h9; rfl) (by omega) rfl ?_
  refine s_nameG (fun σ_2 hσ_2 => ?_)
  refine s_aload_n C dX8_hearSaid_5 rfl ?_
  refine s_aload_n C dX8_hearSaid_6 rfl ?_
  refine s_getI (c := 8) (kz := 22) C fl_8_181 dX8_hearSaid_7 sh_195 rfl rfl (fun g7 => ?_)
  refine s_putI (c := 8) (kz := 26) C fl_8_197 dX8_hearSaid_10 sh_195 rfl (fun _ _ h9 => by cases h9; rfl) (by omega) rfl ?_
  refine s_nameG (fun σ_10 hσ_10 => ?_)
  refine s_iconst C dX8_hearSaid_13 ?_
  refine s_istore_n (ls2 := [some (vR 195), some (vI 0)]) C dX8_hearSaid_14 (by decide) rfl ?_
  have L15 : ∀ (n : Nat) (m : Int) (τ : sv_G), (20 - m).toNat < n → (0 ≤ m ∧ m ≤ (sL S).length) → (τ 195 26 = (sL S).length) → (∀ i : Nat, (i : Int) < m → τ 219 i = (sL S).getD i 0) → (∀ b k, (b ≠ 195 ∨ (k ≠ 26 ∧ k ≠ 37)) → b ≠ 219 → τ b k = σ b k) → (τ 195 37 = 0) → SW X E Q 0 0 15 [some (vR 195), some (vI m)] [] τ := by
    intro n
    induction n with
    | zero => intro m τ hm; exact absurd hm (Nat.not_lt_zero _)
    | succ n ih15 =>
      intro m τ hm15 i15_0 i15_1 i15_2 i15_3 i15_4
      have e217 : ∀ i : Nat, i < (sL S).length → τ 217 (i : Int) = (sL S).getD i 0 := fun i hi => by
        rw [i15_3 _ _ (Or.inl (by decide)) (by decide)]
        have h9 := hLg i hi
        rwa [Int.zero_add] at h9
      refine s_iload_n C dX8_hearSaid_15 rfl ?_
      refine s_aload_n C dX8_hearSaid_16 rfl ?_
      refine s_getI (c := 8) (kz := 26) C fl_8_197 dX8_hearSaid_17 sh_195 rfl rfl (fun g17 => ?_)
      refine s_icmp_ge (tgt := 41) C dX8_hearSaid_20 (by decide) (by omega) (by omega) (fun c20 => ?_) (fun c20 => ?_)
      · refine s_aload_n C dX8_hearSaid_41 rfl ?_
        refine s_getI (c := 8) (kz := 26) C fl_8_197 dX8_hearSaid_42 sh_195 rfl rfl (fun g42 => ?_)
        refine s_iret C hR dX8_hearSaid_45 rfl ⟨_, rfl, ?_⟩ (by decide)
        exact moP.yes rfl i15_4 (show _ = ((sL S).length : Int) from i15_1) (hO.uH i15_1 (fun i hi => by rw [Int.zero_add]; exact i15_2 i (by omega)) fun b k q => i15_3 b k (by omega) (by omega)) fun b k q => i15_3 b k (by omega) (by omega)
      · refine s_aload_n C dX8_hearSaid_23 rfl ?_
        refine s_getR (c := 8) C fl_8_79 dX8_hearSaid_24 sh_195 rfl rf_195_27 ?_
        refine s_iload_n C dX8_hearSaid_27 rfl ?_
        refine s_aload_n C dX8_hearSaid_28 rfl ?_
        refine s_getR (c := 8) C fl_8_73 dX8_hearSaid_29 sh_195 rfl rf_195_23 ?_
        refine s_iload_n C dX8_hearSaid_32 rfl ?_
        refine s_iald C dX8_hearSaid_33 sh_217 (by omega) (fun g33 => ?_)
        refine s_iast C dX8_hearSaid_34 sh_219 (by omega) (by omega) ?_
        refine s_nameG (fun σ_34 hσ_34 => ?_)
        obtain ⟨x1_35, ex1_35⟩ : ∃ y : Int, y = m + 1 := ⟨_, rfl⟩
        refine s_iinc (z2 := x1_35) (ls2 := [some (vR 195), some (vI x1_35)]) C dX8_hearSaid_35 (by decide) rfl ex1_35 rfl ?_
        refine s_goto (tgt := 15) C dX8_hearSaid_38 (by decide) ?_
        refine ih15 x1_35 σ_34 (by omega) (by first | assumption | omega) ?_ ?_ ?_ ?_
        · rw [hσ_34, up_a (by decide)]; exact i15_1
        · intro i hi
          rw [hσ_34, up_i]
          by_cases q : (i : Int) = m
          · rw [if_pos q, ← q]; exact e217 i (by omega)
          · rw [if_neg q]; exact i15_2 i (by omega)
        · intro b k q1 q2; rw [hσ_34, up_a q2]; exact i15_3 b k q1 q2
        · rw [hσ_34, up_a (by decide)]; exact i15_4
  refine L15 _ 0 σ_10 (Nat.lt_succ_self _) (by first | assumption | omega) ?_ ?_ ?_ ?_
  · rw [hσ_10, up_s, hσ_2, up_k (by decide)]; exact hL
  · intro i hi; omega
  · intro b k q1 q2; rw [hσ_10, up_n (by omega), hσ_2, up_n (by omega)]
  · rw [hσ_10, up_k (by decide), hσ_2, up_s]

set_option maxRecDepth 100000 in
set_option maxHeartbeats 8000000 in
theorem kX8_forget {E : sv_E} {σ : sv_G} {S : st_T} (hS : StOK S) (hO : RO σ S)  : CT E MX8_forget 0 [(vR 195)] σ (PI fun r σ9 => moP σ σ9 S r (op_forget S)) := by
  refine CT.of (RX8, cX8_forget, 2, (some .int), [], 0, 0, 0) rfl moX8_forget (Nat.le_of_ble_eq_true rfl) (ls0 := [some (vR 195), none]) rfl ?_
  intro X Q C hR
  refine s_aload_n C dX8_forget_0 rfl ?_
  refine s_iconst C dX8_forget_1 ?_
  refine s_putI (c := 8) (kz := 37) C fl_8_106 dX8_forget_2 sh_195 rfl (fun _ _ h9 => by cases h9; rfl) (by omega) rfl ?_
  refine s_nameG (fun σ_2 hσ_2 => ?_)
  refine s_aload_n C dX8_forget_5 rfl ?_
  refine s_getI (c := 8) (kz := 26) C fl_8_197 dX8_forget_6 sh_195 rfl rfl (fun g6 => ?_)
  refine s_topI (fun x1_9 ex1_9 => ?_)
  refine s_istore_n (ls2 := [some (vR 195), some (vI x1_9)]) C dX8_forget_9 (by decide) rfl ?_
  refine s_aload_n C dX8_forget_10 rfl ?_
  refine s_iconst C dX8_forget_11 ?_
  refine s_putI (c := 8) (kz := 26) C fl_8_197 dX8_forget_12 sh_195 rfl (fun _ _ h9 => by cases h9; rfl) (by omega) rfl ?_
  refine s_nameG (fun σ_12 hσ_12 => ?_)
  refine s_iload_n C dX8_forget_15 rfl ?_
  refine s_iret C hR dX8_forget_16 rfl ⟨_, rfl, ?_⟩ (by decide)
  have hf : ∀ b k, (b ≠ 195 ∨ (k ≠ 26 ∧ k ≠ 37)) → σ_12 b k = σ b k := fun b k q => by rw [hσ_12, up_n (by omega), hσ_2, up_n (by omega)]
  exact moP.yes rfl (by rw [hσ_12, up_k (by decide), hσ_2, up_s]) (show _ = ((sH S).length : Int) by rw [ex1_9, hσ_2, up_k (by decide)]; exact hO.2.2.1.1) (hO.uH (l := []) (by rw [hσ_12, up_s]; rfl) (fun i hi => absurd hi (Nat.not_lt_zero i)) fun b k q => hf b k (by omega)) fun b k q => hf b k (by omega)

set_option maxRecDepth 100000 in
set_option maxHeartbeats 8000000 in
theorem kX8_dropExamples {E : sv_E} {σ : sv_G} {S : st_T} (hS : StOK S) (hO : RO σ S)  : CT E MX8_dropExamples 0 [(vR 195)] σ (PI fun r σ9 => moP σ σ9 S r (op_dropExamples S)) := by
  refine CT.of (RX8, cX8_dropExamples, 2, (some .int), [], 0, 0, 0) rfl moX8_dropExamples (Nat.le_of_ble_eq_true rfl) (ls0 := [some (vR 195), none]) rfl ?_
  intro X Q C hR
  refine s_aload_n C dX8_dropExamples_0 rfl ?_
  refine s_iconst C dX8_dropExamples_1 ?_
  refine s_putI (c := 8) (kz := 37) C fl_8_106 dX8_dropExamples_2 sh_195 rfl (fun _ _ h9 => by cases h9; rfl) (by omega) rfl ?_
  refine s_nameG (fun σ_2 hσ_2 => ?_)
  refine s_aload_n C dX8_dropExamples_5 rfl ?_
  refine s_getI (c := 8) (kz := 28) C fl_8_220 dX8_dropExamples_6 sh_195 rfl rfl (fun g6 => ?_)
  refine s_topI (fun x1_9 ex1_9 => ?_)
  refine s_istore_n (ls2 := [some (vR 195), some (vI x1_9)]) C dX8_dropExamples_9 (by decide) rfl ?_
  refine s_aload_n C dX8_dropExamples_10 rfl ?_
  refine s_iconst C dX8_dropExamples_11 ?_
  refine s_putI (c := 8) (kz := 28) C fl_8_220 dX8_dropExamples_12 sh_195 rfl (fun _ _ h9 => by cases h9; rfl) (by omega) rfl ?_
  refine s_nameG (fun σ_12 hσ_12 => ?_)
  refine s_iload_n C dX8_dropExamples_15 rfl ?_
  refine s_iret C hR dX8_dropExamples_16 rfl ⟨_, rfl, ?_⟩ (by decide)
  have hf : ∀ b k, (b ≠ 195 ∨ (k ≠ 28 ∧ k ≠ 37)) → σ_12 b k = σ b k := fun b k q => by rw [hσ_12, up_n (by omega), hσ_2, up_n (by omega)]
  exact moP.yes rfl (by rw [hσ_12, up_k (by decide), hσ_2, up_s]) (show _ = ((sE S).length : Int) by rw [ex1_9, hσ_2, up_k (by decide)]; exact hO.2.2.2.1.1) (hO.uE (l := []) (by rw [hσ_12, up_s]; rfl) (fun i hi => absurd hi (Nat.not_lt_zero i)) fun b k q => hf b k (by omega)) fun b k q => hf b k (by omega)
