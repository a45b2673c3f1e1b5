/-! The model: sayings that are alike, and what is asked. -/
def tcG (R : Nat → List Int) (pl : Nat) (w : Int) : Nat → Int
  | 0 => 0
  | j + 1 => tcG R pl w j + (if (R j).getD pl 0 = w then 1 else 0)
def gtG (R : Nat → List Int) (pl : Nat) : Nat → Int
  | 0 => 0
  | j + 1 => if gtG R pl j < tcG R pl ((R j).getD pl 0) (j + 1) then tcG R pl ((R j).getD pl 0) (j + 1) else gtG R pl j
theorem tcG_b {R : Nat → List Int} {pl : Nat} {w : Int} : ∀ j : Nat, 0 ≤ tcG R pl w j ∧ tcG R pl w j ≤ j
  | 0 => ⟨Int.le_refl _, Int.le_refl _⟩
  | j + 1 => by
    have h := tcG_b (R := R) (pl := pl) (w := w) j
    unfold tcG
    split <;> omega
theorem gtG_b {R : Nat → List Int} {pl : Nat} : ∀ j : Nat, 0 ≤ gtG R pl j ∧ gtG R pl j ≤ j
  | 0 => ⟨Int.le_refl _, Int.le_refl _⟩
  | j + 1 => by
    have h := gtG_b (R := R) (pl := pl) j
    have h2 := tcG_b (R := R) (pl := pl) (w := (R j).getD pl 0) (j + 1)
    unfold gtG
    split <;> omega
theorem gtG_pos {R : Nat → List Int} {pl : Nat} : ∀ j : Nat, 1 ≤ gtG R pl (j + 1)
  | 0 => by
    have e : tcG R pl ((R 0).getD pl 0) (0 + 1) = 1 := by
      show (0 : Int) + (if (R 0).getD pl 0 = (R 0).getD pl 0 then 1 else 0) = 1
      rw [if_pos rfl]; rfl
    show (1 : Int) ≤ (if (0 : Int) < tcG R pl ((R 0).getD pl 0) (0 + 1) then tcG R pl ((R 0).getD pl 0) (0 + 1) else 0)
    rw [e, if_pos (by decide)]; exact Int.le_refl _
  | j + 1 => by
    have h := gtG_pos (R := R) (pl := pl) j
    show (1 : Int) ≤ (if gtG R pl (j + 1) < tcG R pl ((R (j + 1)).getD pl 0) (j + 1 + 1) then tcG R pl ((R (j + 1)).getD pl 0) (j + 1 + 1) else gtG R pl (j + 1))
    split <;> omega
theorem ftN_b {D : gd_T} {c : Int} {H : List Int} : ∀ n : Nat, 0 ≤ ftN D c H n ∧ ftN D c H n ≤ n
  | 0 => ⟨Int.le_refl _, Int.le_refl _⟩
  | n + 1 => by
    have h := ftN_b (D := D) (c := c) (H := H) n
    have h2 := hrI_b (D := D) (c := c) (H := H) (n := (n : Int))
    show 0 ≤ ftN D c H n + hrI D c H (n : Int) ∧ ftN D c H n + hrI D c H (n : Int) ≤ ((n + 1 : Nat) : Int)
    omega
theorem tcG_R {D : gd_T} {c : Int} {H : List Int} {R : Nat → List Int} {pl : Nat} {N : Nat} (h : ∀ n : Nat, n < N → hrI D c H (n : Int) = 1 → R (ftN D c H n).toNat = spF D (n : Int) c) : ∀ n : Nat, n ≤ N → (∀ w, tcR D c H pl w n = tcG R pl w (ftN D c H n).toNat) ∧ gtR D c H pl n = gtG R pl (ftN D c H n).toNat
  | 0, _ => ⟨fun _ => rfl, rfl⟩
  | n + 1, hn => by
    obtain ⟨h1, h2⟩ := tcG_R h n (by omega)
    have hb := ftN_b (D := D) (c := c) (H := H) n
    have e1 : ftN D c H (n + 1) = ftN D c H n + hrI D c H (n : Int) := rfl
    have en : ((n : Int) + 1).toNat = n + 1 := by omega
    have en2 : (n : Int).toNat = n := by omega
    rcases hrI_b (D := D) (c := c) (H := H) (n := (n : Int)) with q | q
    · have e2 : (ftN D c H (n + 1)).toNat = (ftN D c H n).toNat := by omega
      have t1 := fun w => tcR_n (D := D) (c := c) (H := H) (pl := pl) (w := w) (m := (n : Int)) (by omega) q
      have t2 := gtR_n (D := D) (c := c) (H := H) (pl := pl) (m := (n : Int)) (by omega) q
      rw [en, en2] at t2
      refine ⟨fun w => ?_, by rw [e2, t2, h2]⟩
      have t3 := t1 w
      rw [en, en2] at t3
      rw [e2, t3, h1]
    · have e2 : (ftN D c H (n + 1)).toNat = (ftN D c H n).toNat + 1 := by omega
      have hR9 := h n (by omega) q
      have t1 : ∀ w, tcR D c H pl w (n + 1) = tcG R pl w ((ftN D c H n).toNat + 1) := fun w => by
        have t3 := tcR_s (D := D) (c := c) (H := H) (pl := pl) (w := w) (m := (n : Int)) (by omega) q
        rw [en, en2] at t3
        rw [t3, h1]
        show _ = tcG R pl w (ftN D c H n).toNat + (if (R (ftN D c H n).toNat).getD pl 0 = w then 1 else 0)
        rw [hR9]
      have t2 := gtR_s (D := D) (c := c) (H := H) (pl := pl) (m := (n : Int)) (by omega) q
      rw [en, en2] at t2
      refine ⟨fun w => by rw [e2, t1], ?_⟩
      rw [e2, t2, t1, h2]
      show _ = (if gtG R pl (ftN D c H n).toNat < tcG R pl ((R (ftN D c H n).toNat).getD pl 0) ((ftN D c H n).toNat + 1) then tcG R pl ((R (ftN D c H n).toNat).getD pl 0) ((ftN D c H n).toNat + 1) else gtG R pl (ftN D c H n).toNat)
      rw [hR9]
def frT3 (σ σ9 : sv_G) : Prop := ∀ b k, (b ≠ 195 ∨ (k ≠ 20 ∧ k ≠ 24)) → b ≠ 216 → b ≠ 218 → b ≠ 223 → b ≠ 224 → b ≠ 227 → σ9 b k = σ b k
theorem frT3.T2 {σ σ9 : sv_G} (h : frT3 σ σ9) : frT2 σ σ9 := fun b k q1 q2 q3 q4 q5 q6 => h b k (by omega) q2 q3 q4 q5 q6
theorem frT3.tr {σ σ1 σ2 : sv_G} (h : frT3 σ σ1) (h2 : frT3 σ1 σ2) : frT3 σ σ2 := fun b k q1 q2 q3 q4 q5 q6 => (h2 b k q1 q2 q3 q4 q5 q6).trans (h b k q1 q2 q3 q4 q5 q6)
theorem frN.T3 {σ σ9 : sv_G} (h : frN σ σ9) : frT3 σ σ9 := fun b k q1 q2 q3 _ _ _ => h b k q1 q2 q3
theorem frR1.T3 {σ σ9 : sv_G} {k : Int} (h : frR1 σ σ9 k) : frT3 σ σ9 := fun b i _ _ _ q4 q5 _ => h b i (Or.inl q4) (Or.inl q5)
theorem frT3.h {σ σ9 : sv_G} (h : frT3 σ σ9) : σ9 195 37 = σ 195 37 := h _ _ (Or.inr (by decide)) (by decide) (by decide) (by decide) (by decide) (by decide)
theorem toN1 {m : Int} (h : 0 ≤ m) : (m + 1).toNat = m.toNat + 1 := by omega
set_option maxRecDepth 100000 in
set_option maxHeartbeats 8000000 in
theorem kX8_keepsRow {E : sv_E} {σ : sv_G} {l : List Int} (hl9 : SR σ l) (hlen : l.length ≤ 20) {k : Int} (hk : 0 ≤ k ∧ k ≤ 999) : CT E MX8_keepsRow 0 [(vR 195), (vI k)] σ (PV fun σ9 => KR σ9 k l ∧ frR1 σ σ9 k) := by
  refine CT.of (RX8, cX8_keepsRow, 3, none, [], 0, 0, 0) rfl moX8_keepsRow (Nat.le_of_ble_eq_true rfl) (ls0 := [some (vR 195), some (vI k), none]) rfl ?_
  intro X Q C hR
  have h20 := hl9.1
  refine s_aload_n C dX8_keepsRow_0 rfl ?_
  refine s_getR (c := 8) C fl_8_91 dX8_keepsRow_1 sh_195 rfl rf_195_32 ?_
  refine s_iload_n C dX8_keepsRow_4 rfl ?_
  refine s_aload_n C dX8_keepsRow_5 rfl ?_
  refine s_getI (c := 8) (kz := 20) C fl_8_158 dX8_keepsRow_6 sh_195 rfl rfl (fun g6 => ?_)
  refine s_iast C dX8_keepsRow_9 sh_223 (by omega) (by omega) ?_
  refine s_nameG (fun σ_9 hσ_9 => ?_)
  refine s_iconst C dX8_keepsRow_10 ?_
  refine s_istore_n (ls2 := [some (vR 195), some (vI k), some (vI 0)]) C dX8_keepsRow_11 (by decide) rfl ?_
  have L12 : ∀ (n : Nat) (m : Int) (τ : sv_G), (20 - m).toNat < n → (0 ≤ m ∧ m ≤ l.length) → (τ 223 k = l.length) → (∀ i : Nat, (i : Int) < m → τ 224 (20 * k + i) = l.getD i 0) → (frR1 σ τ k) → SW X E Q 0 0 12 [some (vR 195), some (vI k), some (vI m)] [] τ := by
    intro n
    induction n with
    | zero => intro m τ hm; exact absurd hm (Nat.not_lt_zero _)
    | succ n ih12 =>
      intro m τ hm12 i12_0 i12_1 i12_2 i12_3
      have e20 : τ 195 20 = l.length := (i12_3 _ _ (Or.inl (by decide)) (Or.inl (by decide))).trans h20
      have e216 : ∀ i : Nat, i < l.length → τ 216 (i : Int) = l.getD i 0 := fun i hi => by
        rw [i12_3 _ _ (Or.inl (by decide)) (Or.inl (by decide))]
        have h9 := hl9.2 i hi
        rwa [Int.zero_add] at h9
      refine s_iload_n C dX8_keepsRow_12 rfl ?_
      refine s_aload_n C dX8_keepsRow_13 rfl ?_
      refine s_getI (c := 8) (kz := 20) C fl_8_158 dX8_keepsRow_14 sh_195 rfl rfl (fun g14 => ?_)
      refine s_icmp_ge (tgt := 43) C dX8_keepsRow_17 (by decide) (by omega) (by omega) (fun c17 => ?_) (fun c17 => ?_)
      · refine s_vret C hR dX8_keepsRow_43 rfl ⟨rfl, ?_⟩ (by decide)
        exact ⟨⟨i12_1, fun i hi => i12_2 i (by omega)⟩, i12_3⟩
      · refine s_aload_n C dX8_keepsRow_20 rfl ?_
        refine s_getR (c := 8) C fl_8_94 dX8_keepsRow_21 sh_195 rfl rf_195_33 ?_
        refine s_bipush C dX8_keepsRow_24 (by decide) ?_
        refine s_iload_n C dX8_keepsRow_26 rfl ?_
        refine s_imul C dX8_keepsRow_27 ?_
        refine s_iload_n C dX8_keepsRow_28 rfl ?_
        refine s_iadd C dX8_keepsRow_29 ?_
        refine s_aload_n C dX8_keepsRow_30 rfl ?_
        refine s_getR (c := 8) C fl_8_70 dX8_keepsRow_31 sh_195 rfl rf_195_21 ?_
        refine s_iload_n C dX8_keepsRow_34 rfl ?_
        refine s_iald C dX8_keepsRow_35 sh_216 (by omega) (fun g35 => ?_)
        refine s_iast C dX8_keepsRow_36 sh_224 (by omega) (by omega) ?_
        refine s_nameG (fun σ_36 hσ_36 => ?_)
        obtain ⟨x2_37, ex2_37⟩ : ∃ y : Int, y = m + 1 := ⟨_, rfl⟩
        refine s_iinc (z2 := x2_37) (ls2 := [some (vR 195), some (vI k), some (vI x2_37)]) C dX8_keepsRow_37 (by decide) rfl ex2_37 rfl ?_
        refine s_goto (tgt := 12) C dX8_keepsRow_40 (by decide) ?_
        refine ih12 x2_37 σ_36 (by omega) (by first | assumption | omega) ?_ ?_ ?_
        · rw [hσ_36, up_a (by decide)]; exact i12_1
        · intro i hi
          rw [hσ_36, up_i]
          by_cases q : (i : Int) = m
          · rw [if_pos (by omega), ← q]; exact e216 i (by omega)
          · rw [if_neg (by omega)]; exact i12_2 i (by omega)
        · intro b i q1 q2; rw [hσ_36, up_n (by omega)]; exact i12_3 b i q1 q2
  refine L12 _ 0 σ_9 (Nat.lt_succ_self _) (by first | assumption | omega) ?_ ?_ ?_
  · rw [hσ_9, up_s]; exact h20
  · intro i hi; omega
  · intro b i q1 q2; rw [hσ_9, up_n q1]
set_option maxRecDepth 100000 in
set_option maxHeartbeats 8000000 in
theorem kX8_areAlike {E : sv_E} {σ : sv_G} {l H : List Int} {a b : Int} (hl9 : KR σ a l) (hh9 : KR σ b H) (hll : l.length ≤ 20) (hhl : H.length ≤ 20) (ha : 0 ≤ a ∧ a ≤ 999) (hb : 0 ≤ b ∧ b ≤ 999) : CT E MX8_areAlike 0 [(vR 195), (vI a), (vI b)] σ (PI fun r σ9 => σ9 = σ ∧ yn r (l = H)) := by
  refine CT.of (RX8, cX8_areAlike, 5, (some .boolean), [], 0, 0, 0) rfl moX8_areAlike (Nat.le_of_ble_eq_true rfl) (ls0 := [some (vR 195), some (vI a), some (vI b), none, none]) rfl ?_
  intro X Q C hR
  have e1 := hl9.1
  have e2 := hh9.1
  refine s_aload_n C dX8_areAlike_0 rfl ?_
  refine s_getR (c := 8) C fl_8_91 dX8_areAlike_1 sh_195 rfl rf_195_32 ?_
  refine s_iload_n C dX8_areAlike_4 rfl ?_
  refine s_iald C dX8_areAlike_5 sh_223 (by omega) (fun g5 => ?_)
  refine s_aload_n C dX8_areAlike_6 rfl ?_
  refine s_getR (c := 8) C fl_8_91 dX8_areAlike_7 sh_195 rfl rf_195_32 ?_
  refine s_iload_n C dX8_areAlike_10 rfl ?_
  refine s_iald C dX8_areAlike_11 sh_223 (by omega) (fun g11 => ?_)
  have J20 : ∀ (e : Int), (yn e (l.length = H.length)) → SW X E Q 0 0 20 [some (vR 195), some (vI a), some (vI b), none, none] [(vI e)] σ := by
    intro e j20_0
    have hbj20_0 := j20_0.b
    refine s_istore_n (ls2 := [some (vR 195), some (vI a), some (vI b), some (vI e), none]) C dX8_areAlike_20 (by decide) rfl ?_
    refine s_iconst C dX8_areAlike_21 ?_
    refine s_istore (ls2 := [some (vR 195), some (vI a), some (vI b), some (vI e), some (vI 0)]) C dX8_areAlike_22 (by decide) rfl ?_
    have L24 : ∀ (n : Nat) (f : Int) (m : Int), (20 - m).toNat < n → (0 ≤ m ∧ m ≤ l.length) → (aaI l H f m) → (0 ≤ f ∧ f ≤ 1) → SW X E Q 0 0 24 [some (vR 195), some (vI a), some (vI b), some (vI f), some (vI m)] [] σ := by
      intro n
      induction n with
      | zero => intro f m hm; exact absurd hm (Nat.not_lt_zero _)
      | succ n ih24 =>
        intro f m hm24 i24_0 i24_1 i24_2
        refine s_iload C dX8_areAlike_24 rfl ?_
        refine s_aload_n C dX8_areAlike_26 rfl ?_
        refine s_getR (c := 8) C fl_8_91 dX8_areAlike_27 sh_195 rfl rf_195_32 ?_
        refine s_iload_n C dX8_areAlike_30 rfl ?_
        refine s_iald C dX8_areAlike_31 sh_223 (by omega) (fun g31 => ?_)
        have J78 : (yn (f) (l = H)) → SW X E Q 0 0 78 [some (vR 195), some (vI a), some (vI b), some (vI f), some (vI m)] [] σ := by
          intro  j78_0
          refine s_iload_n C dX8_areAlike_78 rfl ?_
          refine s_zret C hR dX8_areAlike_79 rfl (by exact j78_0.b) ⟨_, rfl, ?_⟩ (by decide)
          exact ⟨rfl, j78_0⟩
        refine s_icmp_ge (tgt := 78) C dX8_areAlike_32 (by decide) (by omega) (by omega) (fun c32 => ?_) (fun c32 => ?_)
        · refine J78 ?_
          · exact i24_1.fin (by omega)
        · refine s_iload_n C dX8_areAlike_35 rfl ?_
          refine s_if_eq (tgt := 78) C dX8_areAlike_36 (by decide) (by omega) (fun c36 => ?_) (fun c36 => ?_)
          · refine J78 ?_
            · exact Or.inr ⟨by omega, i24_1.zero (by omega)⟩
          · have y36b : f ≠ 0 := by omega
            have hle := i24_1.len y36b
            have ew : σ 224 (20 * a + m) = l.getD m.toNat 0 := by
              have z := hl9.2 m.toNat (by omega)
              rwa [show (m.toNat : Int) = m by omega] at z
            have eh : σ 224 (20 * b + m) = H.getD m.toNat 0 := by
              have z := hh9.2 m.toNat (by omega)
              rwa [show (m.toNat : Int) = m by omega] at z
            refine s_aload_n C dX8_areAlike_39 rfl ?_
            refine s_getR (c := 8) C fl_8_94 dX8_areAlike_40 sh_195 rfl rf_195_33 ?_
            refine s_bipush C dX8_areAlike_43 (by decide) ?_
            refine s_iload_n C dX8_areAlike_45 rfl ?_
            refine s_imul C dX8_areAlike_46 ?_
            refine s_iload C dX8_areAlike_47 rfl ?_
            refine s_iadd C dX8_areAlike_49 ?_
            refine s_iald C dX8_areAlike_50 sh_224 (by omega) (fun g50 => ?_)
            refine s_aload_n C dX8_areAlike_51 rfl ?_
            refine s_getR (c := 8) C fl_8_94 dX8_areAlike_52 sh_195 rfl rf_195_33 ?_
            refine s_bipush C dX8_areAlike_55 (by decide) ?_
            refine s_iload_n C dX8_areAlike_57 rfl ?_
            refine s_imul C dX8_areAlike_58 ?_
            refine s_iload C dX8_areAlike_59 rfl ?_
            refine s_iadd C dX8_areAlike_61 ?_
            refine s_iald C dX8_areAlike_62 sh_224 (by omega) (fun g62 => ?_)
            have J71 : ∀ (c2 : Int), (aaI l H c2 (m + 1)) → (0 ≤ c2 ∧ c2 ≤ 1) → SW X E Q 0 0 71 [some (vR 195), some (vI a), some (vI b), some (vI f), some (vI m)] [(vI c2)] σ := by
              intro c2 j71_0 j71_1
              refine s_istore_n (ls2 := [some (vR 195), some (vI a), some (vI b), some (vI c2), some (vI m)]) C dX8_areAlike_71 (by decide) rfl ?_
              obtain ⟨x4_72, ex4_72⟩ : ∃ y : Int, y = m + 1 := ⟨_, rfl⟩
              refine s_iinc (z2 := x4_72) (ls2 := [some (vR 195), some (vI a), some (vI b), some (vI c2), some (vI x4_72)]) C dX8_areAlike_72 (by decide) rfl ex4_72 rfl ?_
              refine s_goto (tgt := 24) C dX8_areAlike_75 (by decide) ?_
              refine ih24 c2 x4_72 (by omega) (by first | assumption | omega) ?_ (by first | assumption | omega)
              · rw [show x4_72 = m + 1 from ex4_72]; exact j71_0
            refine s_icmp_ne (tgt := 70) C dX8_areAlike_63 (by decide) (by omega) (by omega) (fun c63 => ?_) (fun c63 => ?_)
            · refine s_iconst C dX8_areAlike_70 ?_
              refine J71 0 ?_ (by first | assumption | omega)
              · exact aaI.no (by omega) (by omega)
            · refine s_iconst C dX8_areAlike_66 ?_
              refine s_goto (tgt := 71) C dX8_areAlike_67 (by decide) ?_
              refine J71 1 ?_ (by first | assumption | omega)
              · exact i24_1.one y36b (by omega) (by omega)
    refine L24 _ e 0 (Nat.lt_succ_self _) (by first | assumption | omega) ?_ (by first | assumption | omega)
    · rcases j20_0 with ⟨q1, q2⟩ | ⟨q1, q2⟩
      · exact Or.inl ⟨q1, q2, fun i hi => by omega⟩
      · exact Or.inr ⟨q1, fun z => q2 z.1⟩
  refine s_icmp_ne (tgt := 19) C dX8_areAlike_12 (by decide) (by omega) (by omega) (fun c12 => ?_) (fun c12 => ?_)
  · refine s_iconst C dX8_areAlike_19 ?_
    refine J20 0 ?_
    · exact yn.zero (by omega)
  · refine s_iconst C dX8_areAlike_15 ?_
    refine s_goto (tgt := 20) C dX8_areAlike_16 (by decide) ?_
    refine J20 1 ?_
    · exact yn.one (by omega)

set_option maxRecDepth 100000 in
set_option maxHeartbeats 8000000 in
theorem kX8_clash {E : sv_E} {σ : sv_G} {S : st_T} (hS : StOK S) (hO : RO σ S) {x : Int} (hx : -2147483648 ≤ x ∧ x ≤ 2147483647) {y : Int} (hy : -2147483648 ≤ y ∧ y ≤ 2147483647) {z : Int} (hz : -2147483648 ≤ z ∧ z ≤ 2147483647) : CT E MX8_clash 6 [(vR 195), (vI x), (vI y), (vI z)] σ (PI fun r σ9 => moP σ σ9 S r (op_clash S x y z)) := by
  refine CT.of (RX8, cX8_clash, 7, (some .int), [], 6, 0, 0) rfl moX8_clash (Nat.le_of_ble_eq_true rfl) (ls0 := [some (vR 195), some (vI x), some (vI y), some (vI z), none, none, none]) rfl ?_
  intro X Q C hR
  refine s_aload_n C dX8_clash_0 rfl ?_
  refine s_iload_n C dX8_clash_1 rfl ?_
  refine s_iload_n C dX8_clash_2 rfl ?_
  refine s_iload_n C dX8_clash_3 rfl ?_
  refine s_sipush C dX8_clash_4 (by decide) ?_
  refine s_iconst C dX8_clash_7 ?_
  refine s_cV5i C dX8_clash_8 lkX8_204 moX8_canBound mvX8_canBound (kX8_canBound (by omega) (by omega) (by omega) (by decide) (by omega)) sh_195 ⟨_, _, rfl⟩ (by decide) (Nat.le_of_ble_eq_true rfl) rfl (by decide) (fun r8 σ_8 hp8 => ?_)
  have hb8 := (hp8.2).b
  have hO2 := hO.t (can_T2 hp8.1)
  have hcb : cbF x y z 999 1 = (op_clash S x y z).1 := by unfold cbF op_clash; dsimp only; (repeat' split) <;> omega
  refine s_if_ne (tgt := 16) C dX8_clash_11 (by decide) (by omega) (fun c11 => ?_) (fun c11 => ?_)
  · have y11 := (hp8.2).y (by omega)
    have h0 : (op_clash S x y z).1 = 0 := by rw [← hcb]; exact y11
    have hk := ifc2 (show (if ¬ (0 ≤ x ∧ x ≤ 3 ∧ 0 ≤ y ∧ y ≤ 2) then 1 else if ¬ (0 ≤ z ∧ z ≤ 999) then 2 else 0 : Int) = 0 from h0)
    have h37 : σ_8 195 37 = 0 := by rw [hp8.1, up_s]; exact y11
    have hD := hS.1 x (by omega) (by omega)
    have hM := hO2.1 x (by omega) (by omega)
    refine s_iconst C dX8_clash_16 ?_
    refine s_istore (ls2 := [some (vR 195), some (vI x), some (vI y), some (vI z), some (vI 0), none, none]) C dX8_clash_17 (by decide) rfl ?_
    have L19 : ∀ (n : Nat) (m : Int) (τ : sv_G), (z + 1 - m).toNat < n → (0 ≤ m ∧ m ≤ z + 1) → (frT3 σ_8 τ) → (clR (sD S x) y (z + 1).toNat 0 = clR (sD S x) y (z + 1 - m).toNat m.toNat) → (∀ j, 0 ≤ j → j < m → KR τ j (spF (sD S x) j y)) → SW X E Q 0 0 19 [some (vR 195), some (vI x), some (vI y), some (vI z), some (vI m), none, none] [] τ := by
      intro n
      induction n with
      | zero => intro m τ hm; exact absurd hm (Nat.not_lt_zero _)
      | succ n ih19 =>
        intro m τ hm19 i19_0 i19_1 i19_2 i19_3
        have hOt := hO2.t i19_1.T2
        have hMt := hOt.1 x (by omega) (by omega)
        refine s_iload C dX8_clash_19 rfl ?_
        refine s_iload_n C dX8_clash_21 rfl ?_
        refine s_icmp_gt (tgt := 82) C dX8_clash_22 (by decide) (by omega) (by omega) (fun c22 => ?_) (fun c22 => ?_)
        · refine s_iconst C dX8_clash_82 ?_
          refine s_iret C hR dX8_clash_83 rfl ⟨_, rfl, ?_⟩ (by decide)
          exact moP.yes h0 (by rw [i19_1.h]; exact h37) (show _ = clR (sD S x) y (z + 1).toNat 0 by rw [i19_2, show (z + 1 - m).toNat = 0 by omega]; rfl) hOt ((can_T2 hp8.1).M.tr i19_1.T2.M)
        · refine s_aload_n C dX8_clash_25 rfl ?_
          refine s_iload_n C dX8_clash_26 rfl ?_
          refine s_iload C dX8_clash_27 rfl ?_
          refine s_iload_n C dX8_clash_29 rfl ?_
          refine s_cV3i C dX8_clash_30 lkX8_187 moX8_finds mvX8_finds (kX8_finds (by exact hD) (by omega) (by exact hMt) (by omega) (by omega)) sh_195 ⟨_, _, rfl⟩ (by decide) (Nat.le_of_ble_eq_true rfl) rfl (by decide) (fun r30 σ_30 hp30 => ?_)
          have hl30 := (spF_ok hD m y).2
          have hr30 := hp30.2.2
          refine s_istore (ls2 := [some (vR 195), some (vI x), some (vI y), some (vI z), some (vI m), some (vI r30), none]) C dX8_clash_33 (by decide) rfl ?_
          refine s_aload_n C dX8_clash_35 rfl ?_
          refine s_iload C dX8_clash_36 rfl ?_
          refine s_cV1v C dX8_clash_38 lkX8_211 moX8_keepsRow mvX8_keepsRow (kX8_keepsRow (by exact hp30.2.1) (by exact hl30) (by omega)) sh_195 ⟨_, _, rfl⟩ (by decide) (Nat.le_of_ble_eq_true rfl) rfl (by decide) (fun σ_38 hp38 => ?_)
          have f38 : frT3 σ_8 σ_38 := (i19_1.tr hp30.1.T3).tr hp38.2.T3
          have hK : ∀ j, 0 ≤ j → j < m → KR σ_38 j (spF (sD S x) j y) := fun j h1 h2 => ((i19_3 j h1 h2).fr fun b i q => hp30.1 b i (by omega) (by omega) (by omega)).k (spF_ok hD _ _).2 hp38.2 (by omega)
          refine s_iconst C dX8_clash_41 ?_
          refine s_istore (ls2 := [some (vR 195), some (vI x), some (vI y), some (vI z), some (vI m), some (vI r30), some (vI 0)]) C dX8_clash_42 (by decide) rfl ?_
          have L44 : ∀ (n : Nat) (j : Int), (m - j).toNat < n → (0 ≤ j ∧ j ≤ m) → (∀ i, 0 ≤ i → i < j → spF (sD S x) i y ≠ spF (sD S x) m y) → SW X E Q 0 0 44 [some (vR 195), some (vI x), some (vI y), some (vI z), some (vI m), some (vI r30), some (vI j)] [] σ_38 := by
            intro n
            induction n with
            | zero => intro j hm; exact absurd hm (Nat.not_lt_zero _)
            | succ n ih44 =>
              intro j hm44 i44_0 i44_1
              refine s_iload C dX8_clash_44 rfl ?_
              refine s_iload C dX8_clash_46 rfl ?_
              have J76 : (¬ clP (sD S x) y m) → SW X E Q 0 0 76 [some (vR 195), some (vI x), some (vI y), some (vI z), some (vI m), some (vI r30), some (vI j)] [] σ_38 := by
                intro  j76_0
                obtain ⟨x4_76, ex4_76⟩ : ∃ y : Int, y = m + 1 := ⟨_, rfl⟩
                refine s_iinc (z2 := x4_76) (ls2 := [some (vR 195), some (vI x), some (vI y), some (vI z), some (vI x4_76), some (vI r30), some (vI j)]) C dX8_clash_76 (by decide) rfl ex4_76 rfl ?_
                refine s_goto (tgt := 19) C dX8_clash_79 (by decide) ?_
                refine s_weak (ls2 := [some (vR 195), some (vI x), some (vI y), some (vI z), some (vI x4_76), none, none]) (sv_wk_c (sv_wk_c (sv_wk_c (sv_wk_c (sv_wk_c (sv_wk_n (sv_wk_n sv_wk_0))))))) ?_
                refine ih19 x4_76 σ_38 (by omega) (by first | assumption | omega) ?_ ?_ ?_
                · exact f38
                · rw [i19_2, clR_n (by omega) j76_0, show x4_76 = m + 1 from ex4_76]
                · intro j h1 h2
                  by_cases q : j = m
                  · rw [q]; exact hp38.1
                  · exact hK j h1 (by omega)
              refine s_icmp_ge (tgt := 76) C dX8_clash_48 (by decide) (by omega) (by omega) (fun c48 => ?_) (fun c48 => ?_)
              · refine J76 ?_
                · rintro ⟨-, i, h1, h2, h3⟩
                  exact i44_1 i h1 (by omega) h3
              · refine s_iload C dX8_clash_51 rfl ?_
                refine s_if_le (tgt := 76) C dX8_clash_53 (by decide) (by omega) (fun c53 => ?_) (fun c53 => ?_)
                · refine J76 ?_
                  · rintro ⟨h1, -⟩
                    have h2 : 0 < (spF (sD S x) m y).length := List.length_pos_iff.mpr h1
                    omega
                · refine s_aload_n C dX8_clash_56 rfl ?_
                  refine s_iload C dX8_clash_57 rfl ?_
                  refine s_iload C dX8_clash_59 rfl ?_
                  refine s_cV2i C dX8_clash_61 lkX8_217 moX8_areAlike mvX8_areAlike (kX8_areAlike (by exact hK j i44_0.1 (by omega)) (by exact hp38.1) (by exact (spF_ok hD _ _).2) (by exact hl30) (by omega) (by omega)) sh_195 ⟨_, _, rfl⟩ (by decide) (Nat.le_of_ble_eq_true rfl) rfl (by decide) (kpI (fun r61 hp61 => ?_))
                  have hb61 := (hp61).b
                  refine s_if_eq (tgt := 70) C dX8_clash_64 (by decide) (by omega) (fun c64 => ?_) (fun c64 => ?_)
                  · have y64 := (hp61).n (by omega)
                    obtain ⟨x6_70, ex6_70⟩ : ∃ y : Int, y = j + 1 := ⟨_, rfl⟩
                    refine s_iinc (z2 := x6_70) (ls2 := [some (vR 195), some (vI x), some (vI y), some (vI z), some (vI m), some (vI r30), some (vI x6_70)]) C dX8_clash_70 (by decide) rfl ex6_70 rfl ?_
                    refine s_goto (tgt := 44) C dX8_clash_73 (by decide) ?_
                    refine ih44 x6_70 (by omega) (by first | assumption | omega) ?_
                    · intro i h1 h2
                      by_cases q : i = j
                      · rw [q]; exact y64
                      · exact i44_1 i h1 (by omega)
                  · have y64 := (hp61).y (by omega)
                    refine s_iload C dX8_clash_67 rfl ?_
                    refine s_iret C hR dX8_clash_69 rfl ⟨_, rfl, ?_⟩ (by decide)
                    have hcl : clP (sD S x) y m := by
                      refine ⟨?_, j, i44_0.1, by omega, y64⟩
                      intro w
                      rw [w] at hr30
                      have h2 : r30 = 0 := hr30
                      omega
                    exact moP.yes h0 (by rw [f38.h]; exact h37) (show _ = clR (sD S x) y (z + 1).toNat 0 by rw [i19_2, clR_y (by omega) hcl]) (hO2.t f38.T2) ((can_T2 hp8.1).M.tr f38.T2.M)
          refine L44 _ 0 (Nat.lt_succ_self _) (by first | assumption | omega) ?_
          · intro i h1 h2; omega
    refine L19 _ 0 σ_8 (Nat.lt_succ_self _) (by first | assumption | omega) ?_ ?_ ?_
    · exact fun _ _ _ _ _ _ _ _ => rfl
    · rw [Int.sub_zero]; rfl
    · intro j h1 h2; omega
  · have y11 := (hp8.2).n (by omega)
    refine s_iconst C dX8_clash_14 ?_
    refine s_iret C hR dX8_clash_15 rfl ⟨_, rfl, ?_⟩ (by decide)
    exact moP.no hO hp8.1 hcb y11
set_option maxRecDepth 100000 in
set_option maxHeartbeats 8000000 in
theorem kX8_greatestAt {E : sv_E} {σ : sv_G} {R : Nat → List Int} {n9 p : Int} (hn9 : 0 ≤ n9 ∧ n9 ≤ 1000) (hp9 : 0 ≤ p ∧ p ≤ 19) (hR9 : ∀ k : Nat, (k : Int) < n9 → KR σ k (R k) ∧ p < (R k).length ∧ wOK (R k)) : CT E MX8_greatestAt 0 [(vR 195), (vI n9), (vI p)] σ (PI fun r σ9 => r = gtG R p.toNat n9.toNat ∧ ∀ b i, b ≠ 227 → σ9 b i = σ b i) := by
  refine CT.of (RX8, cX8_greatestAt, 6, (some .int), [], 0, 0, 0) rfl moX8_greatestAt (Nat.le_of_ble_eq_true rfl) (ls0 := [some (vR 195), some (vI n9), some (vI p), none, none, none]) rfl ?_
  intro X Q C hR
  refine s_iconst C dX8_greatestAt_0 ?_
  refine s_istore_n (ls2 := [some (vR 195), some (vI n9), some (vI p), some (vI 0), none, none]) C dX8_greatestAt_1 (by decide) rfl ?_
  have L2 : ∀ (n : Nat) (m : Int) (τ : sv_G), (200 - m).toNat < n → (0 ≤ m ∧ m ≤ 200) → (∀ i, 0 ≤ i → i < m → τ 227 i = 0) → (∀ b i, b ≠ 227 → τ b i = σ b i) → SW X E Q 0 0 2 [some (vR 195), some (vI n9), some (vI p), some (vI m), none, none] [] τ := by
    intro n
    induction n with
    | zero => intro m τ hm; exact absurd hm (Nat.not_lt_zero _)
    | succ n ih2 =>
      intro m τ hm2 i2_0 i2_1 i2_2
      refine s_iload_n C dX8_greatestAt_2 rfl ?_
      refine s_sipush C dX8_greatestAt_3 (by decide) ?_
      refine s_icmp_ge (tgt := 22) C dX8_greatestAt_6 (by decide) (by omega) (by omega) (fun c6 => ?_) (fun c6 => ?_)
      · refine s_iconst C dX8_greatestAt_22 ?_
        refine s_istore_n (ls2 := [some (vR 195), some (vI n9), some (vI p), some (vI 0), none, none]) C dX8_greatestAt_23 (by decide) rfl ?_
        refine s_iconst C dX8_greatestAt_24 ?_
        refine s_istore (ls2 := [some (vR 195), some (vI n9), some (vI p), some (vI 0), some (vI 0), none]) C dX8_greatestAt_25 (by decide) rfl ?_
        have L27 : ∀ (n : Nat) (bs : Int) (k : Int) (υ : sv_G), (n9 - k).toNat < n → (0 ≤ k ∧ k ≤ n9) → (bs = gtG R p.toNat k.toNat) → (∀ w, 0 ≤ w → w < 200 → υ 227 w = tcG R p.toNat w k.toNat) → (∀ b i, b ≠ 227 → υ b i = σ b i) → (0 ≤ bs ∧ bs ≤ 1000) → SW X E Q 0 0 27 [some (vR 195), some (vI n9), some (vI p), some (vI bs), some (vI k), none] [] υ := by
          intro n
          induction n with
          | zero => intro bs k υ hm; exact absurd hm (Nat.not_lt_zero _)
          | succ n ih27 =>
            intro bs k υ hm27 i27_0 i27_1 i27_2 i27_3 i27_4
            refine s_iload C dX8_greatestAt_27 rfl ?_
            refine s_iload_n C dX8_greatestAt_29 rfl ?_
            refine s_icmp_ge (tgt := 87) C dX8_greatestAt_30 (by decide) (by omega) (by omega) (fun c30 => ?_) (fun c30 => ?_)
            · refine s_iload_n C dX8_greatestAt_87 rfl ?_
              refine s_iret C hR dX8_greatestAt_88 rfl ⟨_, rfl, ?_⟩ (by decide)
              exact ⟨by rw [i27_1, show k = n9 by omega], i27_3⟩
            · have hRk := hR9 k.toNat (by omega)
              have ekn : (k.toNat : Int) = k := by omega
              rw [ekn] at hRk
              have ewd : υ 224 (20 * k + p) = (R k.toNat).getD p.toNat 0 := by
                have z := hRk.1.2 p.toNat (by omega)
                rw [show (p.toNat : Int) = p by omega] at z
                rw [i27_3 _ _ (by decide)]; exact z
              have hwd : 0 ≤ (R k.toNat).getD p.toNat 0 ∧ (R k.toNat).getD p.toNat 0 ≤ 199 := by
                refine hRk.2.2 _ ?_
                rw [List.getD_eq_getElem?_getD, List.getElem?_eq_getElem (show p.toNat < (R k.toNat).length by omega)]
                exact List.getElem_mem _
              have htb := tcG_b (R := R) (pl := p.toNat) (w := (R k.toNat).getD p.toNat 0) k.toNat
              have hgb := gtG_b (R := R) (pl := p.toNat) (k.toNat + 1)
              refine s_aload_n C dX8_greatestAt_33 rfl ?_
              refine s_getR (c := 8) C fl_8_94 dX8_greatestAt_34 sh_195 rfl rf_195_33 ?_
              refine s_bipush C dX8_greatestAt_37 (by decide) ?_
              refine s_iload C dX8_greatestAt_39 rfl ?_
              refine s_imul C dX8_greatestAt_41 ?_
              refine s_iload_n C dX8_greatestAt_42 rfl ?_
              refine s_iadd C dX8_greatestAt_43 ?_
              refine s_iald C dX8_greatestAt_44 sh_224 (by omega) (fun g44 => ?_)
              refine s_topI (fun x5_45 ex5_45 => ?_)
              refine s_istore (ls2 := [some (vR 195), some (vI n9), some (vI p), some (vI bs), some (vI k), some (vI x5_45)]) C dX8_greatestAt_45 (by decide) rfl ?_
              have hx5 : x5_45 = (R k.toNat).getD p.toNat 0 := by omega
              have etw := i27_2 x5_45 (by omega) (by omega)
              rw [hx5] at etw
              refine s_aload_n C dX8_greatestAt_47 rfl ?_
              refine s_getR (c := 8) C fl_8_103 dX8_greatestAt_48 sh_195 rfl rf_195_38 ?_
              refine s_iload C dX8_greatestAt_51 rfl ?_
              refine s_dup2 C dX8_greatestAt_53 rfl rfl ?_
              rw [← hx5] at etw htb
              refine s_iald C dX8_greatestAt_54 sh_227 (by omega) (fun g54 => ?_)
              refine s_iconst C dX8_greatestAt_55 ?_
              refine s_iadd C dX8_greatestAt_56 ?_
              refine s_iast C dX8_greatestAt_57 sh_227 (by omega) (by omega) ?_
              refine s_nameG (fun σ_57 hσ_57 => ?_)
              have h57 : ∀ w, 0 ≤ w → w < 200 → σ_57 227 w = tcG R p.toNat w (k + 1).toNat := fun w h1 h2 => by
                rw [toN1 (by omega), hσ_57, up_i]
                show _ = tcG R p.toNat w k.toNat + (if (R k.toNat).getD p.toNat 0 = w then 1 else 0)
                rw [← hx5]
                by_cases q : w = x5_45
                · rw [if_pos q, if_pos q.symm, q, i27_2 x5_45 (by omega) (by omega)]
                · rw [if_neg q, if_neg (fun z => q z.symm), i27_2 w h1 h2, Int.add_zero]
              have h57w := h57 x5_45 (by omega) (by omega)
              rw [hx5, toN1 (by omega)] at h57w
              rw [← hx5] at h57w
              have hgs : gtG R p.toNat (k + 1).toNat = if gtG R p.toNat k.toNat < tcG R p.toNat ((R k.toNat).getD p.toNat 0) (k.toNat + 1) then tcG R p.toNat ((R k.toNat).getD p.toNat 0) (k.toNat + 1) else gtG R p.toNat k.toNat := by rw [toN1 (by omega)]; rfl
              rw [← i27_1, ← hx5, ← h57w] at hgs
              refine s_aload_n C dX8_greatestAt_58 rfl ?_
              refine s_getR (c := 8) C fl_8_103 dX8_greatestAt_59 sh_195 rfl rf_195_38 ?_
              refine s_iload C dX8_greatestAt_62 rfl ?_
              refine s_iald C dX8_greatestAt_64 sh_227 (by omega) (fun g64 => ?_)
              refine s_iload_n C dX8_greatestAt_65 rfl ?_
              have J80 : ∀ (b2 : Int), (b2 = gtG R p.toNat (k + 1).toNat) → (0 ≤ b2 ∧ b2 ≤ 1000) → SW X E Q 0 0 80 [some (vR 195), some (vI n9), some (vI p), some (vI bs), some (vI k), some (vI x5_45)] [(vI b2)] σ_57 := by
                intro b2 j80_0 j80_1
                refine s_istore_n (ls2 := [some (vR 195), some (vI n9), some (vI p), some (vI b2), some (vI k), some (vI x5_45)]) C dX8_greatestAt_80 (by decide) rfl ?_
                obtain ⟨x4_81, ex4_81⟩ : ∃ y : Int, y = k + 1 := ⟨_, rfl⟩
                refine s_iinc (z2 := x4_81) (ls2 := [some (vR 195), some (vI n9), some (vI p), some (vI b2), some (vI x4_81), some (vI x5_45)]) C dX8_greatestAt_81 (by decide) rfl ex4_81 rfl ?_
                refine s_goto (tgt := 27) C dX8_greatestAt_84 (by decide) ?_
                refine s_weak (ls2 := [some (vR 195), some (vI n9), some (vI p), some (vI b2), some (vI x4_81), none]) (sv_wk_c (sv_wk_c (sv_wk_c (sv_wk_c (sv_wk_c (sv_wk_n sv_wk_0)))))) ?_
                refine ih27 b2 x4_81 σ_57 (by omega) (by first | assumption | omega) ?_ ?_ ?_ (by first | assumption | omega)
                · rw [show x4_81 = k + 1 from ex4_81]; exact j80_0
                · rw [show x4_81 = k + 1 from ex4_81]; exact h57
                · intro b i q; rw [hσ_57, up_a q]; exact i27_3 b i q
              refine s_icmp_le (tgt := 79) C dX8_greatestAt_66 (by decide) (by omega) (by omega) (fun c66 => ?_) (fun c66 => ?_)
              · refine s_iload_n C dX8_greatestAt_79 rfl ?_
                refine J80 bs ?_ (by first | assumption | omega)
                · rw [hgs, if_neg (by omega)]
              · refine s_aload_n C dX8_greatestAt_69 rfl ?_
                refine s_getR (c := 8) C fl_8_103 dX8_greatestAt_70 sh_195 rfl rf_195_38 ?_
                refine s_iload C dX8_greatestAt_73 rfl ?_
                refine s_iald C dX8_greatestAt_75 sh_227 (by omega) (fun g75 => ?_)
                refine s_goto (tgt := 80) C dX8_greatestAt_76 (by decide) ?_
                refine J80 (σ_57 227 x5_45) ?_ ?_
                · rw [hgs, if_pos (by omega)]
                · rw [toN1 (by omega)] at hgs; rw [if_pos (by omega)] at hgs; omega
        refine L27 _ 0 0 τ (Nat.lt_succ_self _) (by first | assumption | omega) ?_ ?_ ?_ (by first | assumption | omega)
        · rfl
        · intro w h1 h2; rw [i2_1 w h1 (by omega)]; rfl
        · exact i2_2
      · refine s_aload_n C dX8_greatestAt_9 rfl ?_
        refine s_getR (c := 8) C fl_8_103 dX8_greatestAt_10 sh_195 rfl rf_195_38 ?_
        refine s_iload_n C dX8_greatestAt_13 rfl ?_
        refine s_iconst C dX8_greatestAt_14 ?_
        refine s_iast C dX8_greatestAt_15 sh_227 (by omega) (by omega) ?_
        refine s_nameG (fun σ_15 hσ_15 => ?_)
        obtain ⟨x3_16, ex3_16⟩ : ∃ y : Int, y = m + 1 := ⟨_, rfl⟩
        refine s_iinc (z2 := x3_16) (ls2 := [some (vR 195), some (vI n9), some (vI p), some (vI x3_16), none, none]) C dX8_greatestAt_16 (by decide) rfl ex3_16 rfl ?_
        refine s_goto (tgt := 2) C dX8_greatestAt_19 (by decide) ?_
        refine ih2 x3_16 σ_15 (by omega) (by first | assumption | omega) ?_ ?_
        · intro i h1 h2
          rw [hσ_15, up_i]
          by_cases q : i = m
          · rw [if_pos q]
          · rw [if_neg q]; exact i2_1 i h1 (by omega)
        · intro b i q; rw [hσ_15, up_a q]; exact i2_2 b i q
  refine L2 _ 0 σ (Nat.lt_succ_self _) (by first | assumption | omega) ?_ ?_
  · intro i h1 h2; omega
  · exact fun _ _ _ => rfl

set_option maxRecDepth 100000 in
set_option maxHeartbeats 8000000 in
theorem kX8_askWord {E : sv_E} {σ : sv_G} {S : st_T} (hS : StOK S) (hO : RO σ S) {x : Int} (hx : -2147483648 ≤ x ∧ x ≤ 2147483647) {y : Int} (hy : -2147483648 ≤ y ∧ y ≤ 2147483647) {z : Int} (hz : -2147483648 ≤ z ∧ z ≤ 2147483647) : CT E MX8_askWord 6 [(vR 195), (vI x), (vI y), (vI z)] σ (PI fun r σ9 => moP σ σ9 S r (op_askWord S x y z)) := by
  refine CT.of (RX8, cX8_askWord, 9, (some .int), [], 6, 0, 0) rfl moX8_askWord (Nat.le_of_ble_eq_true rfl) (ls0 := [some (vR 195), some (vI x), some (vI y), some (vI z), none, none, none, none, none]) rfl ?_
  intro X Q C hR
  refine s_aload_n C dX8_askWord_0 rfl ?_
  refine s_iload_n C dX8_askWord_1 rfl ?_
  refine s_iload_n C dX8_askWord_2 rfl ?_
  refine s_iload_n C dX8_askWord_3 rfl ?_
  refine s_sipush C dX8_askWord_4 (by decide) ?_
  refine s_iconst C dX8_askWord_7 ?_
  refine s_cV5i C dX8_askWord_8 lkX8_204 moX8_canBound mvX8_canBound (kX8_canBound (by omega) (by omega) (by omega) (by decide) (by omega)) sh_195 ⟨_, _, rfl⟩ (by decide) (Nat.le_of_ble_eq_true rfl) rfl (by decide) (fun r8 σ_8 hp8 => ?_)
  have hb8 := (hp8.2).b
  have hO2 := hO.t (can_T2 hp8.1)
  have hcb : cbF x y z 999 1 = (op_askWord S x y z).1 := by unfold cbF op_askWord; dsimp only; (repeat' split) <;> omega
  refine s_if_ne (tgt := 16) C dX8_askWord_11 (by decide) (by omega) (fun c11 => ?_) (fun c11 => ?_)
  · have y11 := (hp8.2).y (by omega)
    have h0 : (op_askWord S x y z).1 = 0 := by rw [← hcb]; exact y11
    have hk := ifc2 (show (if ¬ (0 ≤ x ∧ x ≤ 3 ∧ 0 ≤ y ∧ y ≤ 2) then 1 else if ¬ (0 ≤ z ∧ z ≤ 999) then 2 else 0 : Int) = 0 from h0)
    have h37 : σ_8 195 37 = 0 := by rw [hp8.1, up_s]; exact y11
    have hD := hS.1 x (by omega) (by omega)
    have hM := hO2.1 x (by omega) (by omega)
    refine s_iconst C dX8_askWord_16 ?_
    refine s_istore (ls2 := [some (vR 195), some (vI x), some (vI y), some (vI z), some (vI 0), none, none, none, none]) C dX8_askWord_17 (by decide) rfl ?_
    refine s_iconst C dX8_askWord_19 ?_
    refine s_istore (ls2 := [some (vR 195), some (vI x), some (vI y), some (vI z), some (vI 0), some (vI 0), none, none, none]) C dX8_askWord_20 (by decide) rfl ?_
    have L22 : ∀ (n : Nat) (s : Int) (m : Int) (τ : sv_G) (R : Nat → List Int), (z + 1 - m).toNat < n → (0 ≤ m ∧ m ≤ z + 1) → (s = ftN (sD S x) y (sH S) m.toNat) → (0 ≤ s ∧ s ≤ m) → (frT3 σ_8 τ) → (∀ i : Nat, (i : Int) < m → hrI (sD S x) y (sH S) (i : Int) = 1 → R (ftN (sD S x) y (sH S) i).toNat = spF (sD S x) (i : Int) y) → (∀ k : Nat, (k : Int) < s → KR τ k (R k) ∧ (R k).length = (sH S).length ∧ wOK (R k)) → SW X E Q 0 0 22 [some (vR 195), some (vI x), some (vI y), some (vI z), some (vI s), some (vI m), none, none, none] [] τ := by
      intro n
      induction n with
      | zero => intro s m τ R hm; exact absurd hm (Nat.not_lt_zero _)
      | succ n ih22 =>
        intro s m τ R hm22 i22_0 i22_1 i22_2 i22_3 i22_4 i22_5
        have hOt := hO2.t i22_3.T2
        refine s_iload C dX8_askWord_22 rfl ?_
        refine s_iload_n C dX8_askWord_24 rfl ?_
        refine s_icmp_gt (tgt := 54) C dX8_askWord_25 (by decide) (by omega) (by omega) (fun c25 => ?_) (fun c25 => ?_)
        · have hmz : m = z + 1 := by omega
          have hHl := hS.2.2.1.2
          have hcv := fun pl => (tcG_R (D := sD S x) (c := y) (H := sH S) (R := R) (pl := pl) (N := (z + 1).toNat) (fun i hi => i22_4 i (by omega)) (z + 1).toNat (Nat.le_refl _)).2
          have hsz : s = ftN (sD S x) y (sH S) (z + 1).toNat := by rw [i22_1, hmz]
          refine s_iconst C dX8_askWord_54 ?_
          refine s_istore (ls2 := [some (vR 195), some (vI x), some (vI y), some (vI z), some (vI s), some (vI (-1)), none, none, none]) C dX8_askWord_55 (by decide) rfl ?_
          refine s_iconst C dX8_askWord_57 ?_
          refine s_istore (ls2 := [some (vR 195), some (vI x), some (vI y), some (vI z), some (vI s), some (vI (-1)), some (vI 0), none, none]) C dX8_askWord_58 (by decide) rfl ?_
          refine s_iconst C dX8_askWord_60 ?_
          refine s_istore (ls2 := [some (vR 195), some (vI x), some (vI y), some (vI z), some (vI s), some (vI (-1)), some (vI 0), some (vI 0), none]) C dX8_askWord_61 (by decide) rfl ?_
          have L63 : ∀ (n : Nat) (bb : Int) (ls : Int) (p : Int) (υ : sv_G), (20 - p).toNat < n → (0 ≤ p ∧ p ≤ (sH S).length) → (bb = (bpR (sH S) (fun pl => gtR (sD S x) y (sH S) pl (z + 1).toNat) p.toNat).1) → (ls = (bpR (sH S) (fun pl => gtR (sD S x) y (sH S) pl (z + 1).toNat) p.toNat).2) → (-1 ≤ bb ∧ bb ≤ 20 ∧ 0 ≤ ls ∧ ls ≤ 1000) → (p = 0 ∨ 1 < s) → (∀ b i, b ≠ 227 → υ b i = τ b i) → SW X E Q 0 0 63 [some (vR 195), some (vI x), some (vI y), some (vI z), some (vI s), some (vI bb), some (vI ls), some (vI p), none] [] υ := by
            intro n
            induction n with
            | zero => intro bb ls p υ hm; exact absurd hm (Nat.not_lt_zero _)
            | succ n ih63 =>
              intro bb ls p υ hm63 i63_0 i63_1 i63_2 i63_3 i63_4 i63_5
              have hOu := hOt.t (fun b i q1 q2 q3 q4 q5 q6 => i63_5 b i q6)
              have eh := hOu.2.2.1.1
              refine s_iload C dX8_askWord_63 rfl ?_
              refine s_aload_n C dX8_askWord_65 rfl ?_
              refine s_getI (c := 8) (kz := 26) C fl_8_197 dX8_askWord_66 sh_195 rfl rfl (fun g66 => ?_)
              refine s_icmp_ge (tgt := 135) C dX8_askWord_69 (by decide) (by omega) (by omega) (fun c69 => ?_) (fun c69 => ?_)
              · refine s_iload C dX8_askWord_135 rfl ?_
                refine s_iret C hR dX8_askWord_137 rfl ⟨_, rfl, ?_⟩ (by decide)
                have hfin : bb = (op_askWord S x y z).2.1 := by
                  show bb = if ftN (sD S x) y (sH S) (z + 1).toNat < 2 then -1 else (bpR (sH S) (fun pl => gtR (sD S x) y (sH S) pl (z + 1).toNat) (sH S).length).1
                  by_cases q : ftN (sD S x) y (sH S) (z + 1).toNat < 2
                  · rw [if_pos q, i63_1, show p.toNat = 0 by omega]; rfl
                  · rw [if_neg q, i63_1, show p.toNat = (sH S).length by omega]
                have f9 : frT3 σ_8 υ := i22_3.tr fun b i q1 q2 q3 q4 q5 q6 => i63_5 b i q6
                exact moP.yes h0 (by rw [f9.h]; exact h37) hfin hOu ((can_T2 hp8.1).M.tr f9.T2.M)
              · refine s_iload C dX8_askWord_72 rfl ?_
                refine s_iconst C dX8_askWord_74 ?_
                refine s_icmp_le (tgt := 135) C dX8_askWord_75 (by decide) (by omega) (by omega) (fun c75 => ?_) (fun c75 => ?_)
                · refine s_iload C dX8_askWord_135 rfl ?_
                  refine s_iret C hR dX8_askWord_137 rfl ⟨_, rfl, ?_⟩ (by decide)
                  have hfin : bb = (op_askWord S x y z).2.1 := by
                    show bb = if ftN (sD S x) y (sH S) (z + 1).toNat < 2 then -1 else (bpR (sH S) (fun pl => gtR (sD S x) y (sH S) pl (z + 1).toNat) (sH S).length).1
                    by_cases q : ftN (sD S x) y (sH S) (z + 1).toNat < 2
                    · rw [if_pos q, i63_1, show p.toNat = 0 by omega]; rfl
                    · rw [if_neg q, i63_1, show p.toNat = (sH S).length by omega]
                  have f9 : frT3 σ_8 υ := i22_3.tr fun b i q1 q2 q3 q4 q5 q6 => i63_5 b i q6
                  exact moP.yes h0 (by rw [f9.h]; exact h37) hfin hOu ((can_T2 hp8.1).M.tr f9.T2.M)
                · have ehr := hOu.2.2.1.2 p.toNat (by omega)
                  rw [show (0 : Int) + (p.toNat : Int) = p by omega] at ehr
                  refine s_aload_n C dX8_askWord_78 rfl ?_
                  refine s_getR (c := 8) C fl_8_79 dX8_askWord_79 sh_195 rfl rf_195_27 ?_
                  refine s_iload C dX8_askWord_82 rfl ?_
                  refine s_iald C dX8_askWord_84 sh_219 (by omega) (fun g84 => ?_)
                  refine s_iconst C dX8_askWord_85 ?_
                  have J101 : ∀ (it : Int) (υ2 : sv_G), (((sH S).getD p.toNat 0 = -1 ∧ it = gtR (sD S x) y (sH S) p.toNat (z + 1).toNat ∧ 1 ≤ it) ∨ ((sH S).getD p.toNat 0 ≠ -1 ∧ it = 0)) → (∀ b i, b ≠ 227 → υ2 b i = τ b i) → (0 ≤ it ∧ it ≤ 1000) → SW X E Q 0 0 101 [some (vR 195), some (vI x), some (vI y), some (vI z), some (vI s), some (vI bb), some (vI ls), some (vI p), none] [(vI it)] υ2 := by
                    intro it υ2 j101_0 j101_1 j101_2
                    have hbs := bpR_s (H := sH S) (g := (fun pl => gtR (sD S x) y (sH S) pl (z + 1).toNat)) (m := p) i63_0.1
                    have hbb9 := bpR_b (H := sH S) (g := (fun pl => gtR (sD S x) y (sH S) pl (z + 1).toNat)) (p + 1).toNat
                    refine s_istore (ls2 := [some (vR 195), some (vI x), some (vI y), some (vI z), some (vI s), some (vI bb), some (vI ls), some (vI p), some (vI it)]) C dX8_askWord_101 (by decide) rfl ?_
                    refine s_iload C dX8_askWord_103 rfl ?_
                    have J129 : ∀ (b3 : Int) (l3 : Int), (b3 = (bpR (sH S) (fun pl => gtR (sD S x) y (sH S) pl (z + 1).toNat) (p + 1).toNat).1) → (l3 = (bpR (sH S) (fun pl => gtR (sD S x) y (sH S) pl (z + 1).toNat) (p + 1).toNat).2) → (-1 ≤ b3 ∧ b3 ≤ 20 ∧ 0 ≤ l3 ∧ l3 ≤ 1000) → SW X E Q 0 0 129 [some (vR 195), some (vI x), some (vI y), some (vI z), some (vI s), some (vI b3), some (vI l3), some (vI p), some (vI it)] [] υ2 := by
                      intro b3 l3 j129_0 j129_1 j129_2
                      obtain ⟨x7_129, ex7_129⟩ : ∃ y : Int, y = p + 1 := ⟨_, rfl⟩
                      refine s_iinc (z2 := x7_129) (ls2 := [some (vR 195), some (vI x), some (vI y), some (vI z), some (vI s), some (vI b3), some (vI l3), some (vI x7_129), some (vI it)]) C dX8_askWord_129 (by decide) rfl ex7_129 rfl ?_
                      refine s_goto (tgt := 63) C dX8_askWord_132 (by decide) ?_
                      refine s_weak (ls2 := [some (vR 195), some (vI x), some (vI y), some (vI z), some (vI s), some (vI b3), some (vI l3), some (vI x7_129), none]) (sv_wk_c (sv_wk_c (sv_wk_c (sv_wk_c (sv_wk_c (sv_wk_c (sv_wk_c (sv_wk_c (sv_wk_n sv_wk_0))))))))) ?_
                      refine ih63 b3 l3 x7_129 υ2 (by omega) (by first | assumption | omega) ?_ ?_ (by first | assumption | omega) (by first | assumption | omega) ?_
                      · rw [show x7_129 = p + 1 from ex7_129]; exact j129_0
                      · rw [show x7_129 = p + 1 from ex7_129]; exact j129_1
                      · exact j101_1
                    refine s_if_le (tgt := 129) C dX8_askWord_105 (by decide) (by omega) (fun c105 => ?_) (fun c105 => ?_)
                    · refine J129 bb ls ?_ ?_ (by first | assumption | omega)
                      · rw [hbs, if_neg (by omega)]; exact i63_1
                      · rw [hbs, if_neg (by omega)]; exact i63_2
                    · refine s_iload C dX8_askWord_108 rfl ?_
                      refine s_iconst C dX8_askWord_110 ?_
                      refine s_icmp_eq (tgt := 121) C dX8_askWord_111 (by decide) (by omega) (by omega) (fun c111 => ?_) (fun c111 => ?_)
                      · refine s_iload C dX8_askWord_121 rfl ?_
                        refine s_istore (ls2 := [some (vR 195), some (vI x), some (vI y), some (vI z), some (vI s), some (vI p), some (vI ls), some (vI p), some (vI it)]) C dX8_askWord_123 (by decide) rfl ?_
                        refine s_iload C dX8_askWord_125 rfl ?_
                        refine s_istore (ls2 := [some (vR 195), some (vI x), some (vI y), some (vI z), some (vI s), some (vI p), some (vI it), some (vI p), some (vI it)]) C dX8_askWord_127 (by decide) rfl ?_
                        refine J129 p it ?_ ?_ (by first | assumption | omega)
                        · rw [hbs, if_pos (by omega)]
                        · rw [hbs, if_pos (by omega)]; show it = gtR _ _ _ _ _; omega
                      · refine s_iload C dX8_askWord_114 rfl ?_
                        refine s_iload C dX8_askWord_116 rfl ?_
                        refine s_icmp_ge (tgt := 129) C dX8_askWord_118 (by decide) (by omega) (by omega) (fun c118 => ?_) (fun c118 => ?_)
                        · refine J129 bb ls ?_ ?_ (by first | assumption | omega)
                          · rw [hbs, if_neg (by omega)]; exact i63_1
                          · rw [hbs, if_neg (by omega)]; exact i63_2
                        · refine s_iload C dX8_askWord_121 rfl ?_
                          refine s_istore (ls2 := [some (vR 195), some (vI x), some (vI y), some (vI z), some (vI s), some (vI p), some (vI ls), some (vI p), some (vI it)]) C dX8_askWord_123 (by decide) rfl ?_
                          refine s_iload C dX8_askWord_125 rfl ?_
                          refine s_istore (ls2 := [some (vR 195), some (vI x), some (vI y), some (vI z), some (vI s), some (vI p), some (vI it), some (vI p), some (vI it)]) C dX8_askWord_127 (by decide) rfl ?_
                          refine J129 p it ?_ ?_ (by first | assumption | omega)
                          · rw [hbs, if_pos (by omega)]
                          · rw [hbs, if_pos (by omega)]; show it = gtR _ _ _ _ _; omega
                  refine s_icmp_ne (tgt := 100) C dX8_askWord_86 (by decide) (by omega) (by omega) (fun c86 => ?_) (fun c86 => ?_)
                  · refine s_iconst C dX8_askWord_100 ?_
                    refine J101 0 υ ?_ ?_ (by first | assumption | omega)
                    · exact Or.inr ⟨by omega, rfl⟩
                    · exact i63_5
                  · have hR9 : ∀ k : Nat, (k : Int) < s → KR υ k (R k) ∧ p < (R k).length ∧ wOK (R k) := fun k hk => ⟨(i22_5 k hk).1.fr fun b i q => i63_5 b i (by omega), by rw [(i22_5 k hk).2.1]; omega, (i22_5 k hk).2.2⟩
                    refine s_aload_n C dX8_askWord_89 rfl ?_
                    refine s_iload C dX8_askWord_90 rfl ?_
                    refine s_iload C dX8_askWord_92 rfl ?_
                    refine s_cV2i C dX8_askWord_94 lkX8_214 moX8_greatestAt mvX8_greatestAt (kX8_greatestAt (by omega) (by omega) (by exact hR9)) sh_195 ⟨_, _, rfl⟩ (by decide) (Nat.le_of_ble_eq_true rfl) rfl (by decide) (fun r94 σ_94 hp94 => ?_)
                    have hg94 : r94 = gtR (sD S x) y (sH S) p.toNat (z + 1).toNat := by rw [hp94.1, hcv, ← hsz]
                    have hg95 : 1 ≤ r94 := by
                      rw [hp94.1, show s.toNat = (s.toNat - 1) + 1 by omega]
                      exact gtG_pos _
                    have hg96 : r94 ≤ 1000 := by
                      have z9 := (gtG_b (R := R) (pl := p.toNat) s.toNat).2
                      rw [hp94.1]; omega
                    refine s_goto (tgt := 101) C dX8_askWord_97 (by decide) ?_
                    refine J101 r94 σ_94 ?_ ?_ (by first | assumption | omega)
                    · exact Or.inl ⟨by omega, hg94, hg95⟩
                    · intro b i q; rw [hp94.2 b i q]; exact i63_5 b i q
          refine L63 _ (-1) 0 0 τ (Nat.lt_succ_self _) (by first | assumption | omega) ?_ ?_ (by first | assumption | omega) (by first | assumption | omega) ?_
          · rfl
          · rfl
          · exact fun _ _ _ => rfl
        · refine s_aload_n C dX8_askWord_28 rfl ?_
          refine s_iload_n C dX8_askWord_29 rfl ?_
          refine s_iload_n C dX8_askWord_30 rfl ?_
          refine s_iload C dX8_askWord_31 rfl ?_
          refine s_cV3i C dX8_askWord_33 lkX8_208 moX8_fitsIt mvX8_fitsIt (kX8_fitsIt (by exact hS) (by exact hOt) (by omega) (by omega) (by omega)) sh_195 ⟨_, _, rfl⟩ (by decide) (Nat.le_of_ble_eq_true rfl) rfl (by decide) (fun r33 σ_33 hp33 => ?_)
          have hbr := hrI_b (D := sD S x) (c := y) (H := sH S) (n := m)
          have hr33 := hp33.2.2
          have J48 : ∀ (s2 : Int) (τ2 : sv_G) (R2 : Nat → List Int), (s2 = ftN (sD S x) y (sH S) (m + 1).toNat) → (0 ≤ s2 ∧ s2 ≤ m + 1) → (frT3 σ_8 τ2) → (∀ i : Nat, (i : Int) < m + 1 → hrI (sD S x) y (sH S) (i : Int) = 1 → R2 (ftN (sD S x) y (sH S) i).toNat = spF (sD S x) (i : Int) y) → (∀ k : Nat, (k : Int) < s2 → KR τ2 k (R2 k) ∧ (R2 k).length = (sH S).length ∧ wOK (R2 k)) → SW X E Q 0 0 48 [some (vR 195), some (vI x), some (vI y), some (vI z), some (vI s2), some (vI m), none, none, none] [] τ2 := by
            intro s2 τ2 R2 j48_0 j48_1 j48_2 j48_3 j48_4
            obtain ⟨x5_48, ex5_48⟩ : ∃ y : Int, y = m + 1 := ⟨_, rfl⟩
            refine s_iinc (z2 := x5_48) (ls2 := [some (vR 195), some (vI x), some (vI y), some (vI z), some (vI s2), some (vI x5_48), none, none, none]) C dX8_askWord_48 (by decide) rfl ex5_48 rfl ?_
            refine s_goto (tgt := 22) C dX8_askWord_51 (by decide) ?_
            refine ih22 s2 x5_48 τ2 R2 (by omega) (by first | assumption | omega) ?_ (by first | assumption | omega) ?_ ?_ ?_
            · rw [show x5_48 = m + 1 from ex5_48]; exact j48_0
            · exact j48_2
            · intro i hi; exact j48_3 i (by omega)
            · exact j48_4
          refine s_if_eq (tgt := 48) C dX8_askWord_36 (by decide) (by omega) (fun c36 => ?_) (fun c36 => ?_)
          · refine J48 s σ_33 R ?_ (by first | assumption | omega) ?_ ?_ ?_
            · rw [ftN_s (by omega), ← i22_1]; omega
            · exact i22_3.tr hp33.1.T3
            · intro i hi hq
              by_cases q : (i : Int) = m
              · rw [q] at hq; omega
              · exact i22_4 i (by omega) hq
            · intro k hk; exact ⟨(i22_5 k hk).1.fr fun b i q => hp33.1 b i (by omega) (by omega) (by omega), (i22_5 k hk).2⟩
          · have hhi := hrI_in (show hrI (sD S x) y (sH S) m = 1 by omega)
            refine s_aload_n C dX8_askWord_39 rfl ?_
            refine s_iload C dX8_askWord_40 rfl ?_
            refine s_cV1v C dX8_askWord_42 lkX8_211 moX8_keepsRow mvX8_keepsRow (kX8_keepsRow (by exact hp33.2.1) (by exact (spF_ok hD _ _).2) (by omega)) sh_195 ⟨_, _, rfl⟩ (by decide) (Nat.le_of_ble_eq_true rfl) rfl (by decide) (fun σ_42 hp42 => ?_)
            have f42 : frT3 σ_8 σ_42 := (i22_3.tr hp33.1.T3).tr hp42.2.T3
            obtain ⟨x4_45, ex4_45⟩ : ∃ y : Int, y = s + 1 := ⟨_, rfl⟩
            refine s_iinc (z2 := x4_45) (ls2 := [some (vR 195), some (vI x), some (vI y), some (vI z), some (vI x4_45), some (vI m), none, none, none]) C dX8_askWord_45 (by decide) rfl ex4_45 rfl ?_
            refine J48 x4_45 σ_42 (fun k => if k = s.toNat then spF (sD S x) m y else R k) ?_ (by first | assumption | omega) ?_ ?_ ?_
            · rw [ftN_s (by omega), ← i22_1]; omega
            · exact f42
            · intro i hi hq
              show (if (ftN (sD S x) y (sH S) i).toNat = s.toNat then spF (sD S x) m y else R (ftN (sD S x) y (sH S) i).toNat) = _
              by_cases q : (i : Int) = m
              · rw [if_pos (by rw [i22_1, ← q]; rfl), q]
              · have hl9 : ftN (sD S x) y (sH S) i + 1 ≤ s := by
                  have mono : ∀ d : Nat, ftN (sD S x) y (sH S) (i + 1) ≤ ftN (sD S x) y (sH S) (i + 1 + d) := fun d => by
                    induction d with
                    | zero => exact Int.le_refl _
                    | succ d ihd =>
                      have hb9 := hrI_b (D := sD S x) (c := y) (H := sH S) (n := ((i + 1 + d : Nat) : Int))
                      have e9 : ftN (sD S x) y (sH S) (i + 1 + (d + 1)) = ftN (sD S x) y (sH S) (i + 1 + d) + hrI (sD S x) y (sH S) ((i + 1 + d : Nat) : Int) := rfl
                      omega
                  have m9 := mono (m.toNat - (i + 1))
                  rw [show i + 1 + (m.toNat - (i + 1)) = m.toNat by omega, ← i22_1] at m9
                  have e9 : ftN (sD S x) y (sH S) (i + 1) = ftN (sD S x) y (sH S) i + hrI (sD S x) y (sH S) (i : Int) := rfl
                  omega
                have hb8 := ftN_b (D := sD S x) (c := y) (H := sH S) i
                rw [if_neg (by omega)]
                exact i22_4 i (by omega) hq
            · intro k hk
              show KR σ_42 k (if k = s.toNat then spF (sD S x) m y else R k) ∧ (if k = s.toNat then spF (sD S x) m y else R k).length = _ ∧ wOK (if k = s.toNat then spF (sD S x) m y else R k)
              by_cases q : k = s.toNat
              · rw [if_pos q, show (k : Int) = s by omega]
                exact ⟨hp42.1, hhi.2, (spF_ok hD _ _).1⟩
              · rw [if_neg q]
                have h9 := i22_5 k (by omega)
                exact ⟨(h9.1.fr fun b i q => hp33.1 b i (by omega) (by omega) (by omega)).k (by rw [h9.2.1]; exact hS.2.2.1.2) hp42.2 (by omega), h9.2⟩
    refine L22 _ 0 0 σ_8 (fun _ => []) (Nat.lt_succ_self _) (by first | assumption | omega) ?_ (by first | assumption | omega) ?_ ?_ ?_
    · rfl
    · exact fun _ _ _ _ _ _ _ _ => rfl
    · intro i hi; omega
    · intro k hk; omega
  · have y11 := (hp8.2).n (by omega)
    refine s_iconst C dX8_askWord_14 ?_
    refine s_iret C hR dX8_askWord_15 rfl ⟨_, rfl, ?_⟩ (by decide)
    exact moP.no hO hp8.1 hcb y11
