/-! The model: what fits. -/
def ihI (l H : List Int) (b m : Int) : Prop := yn b ((l.length = H.length ∧ 0 < H.length) ∧ ∀ i : Nat, (i : Int) < m → H.getD i 0 = -1 ∨ H.getD i 0 = l.getD i 0)
theorem ihI.zero {l H : List Int} {b m : Int} (h : ihI l H b m) (q : b = 0) (hm : m ≤ H.length) : ¬ (l ≠ [] ∧ agreeL l H) := fun z => by
  refine h.n q ⟨⟨z.2.1, ?_⟩, fun i hi => ?_⟩
  · rw [← z.2.1]
    cases l with
    | nil => exact absurd rfl z.1
    | cons => simp
  · exact z.2.2 i (by rw [z.2.1]; omega)
theorem ihI.fin {l H : List Int} {b m : Int} (h : ihI l H b m) (hm : H.length ≤ m) : yn b (l ≠ [] ∧ agreeL l H) := by
  rcases h with ⟨h1, h2, h3⟩ | ⟨h1, h2⟩
  · refine Or.inl ⟨h1, ?_, h2.1, fun i hi => h3 i (by rw [h2.1] at hi; omega)⟩
    rintro rfl
    have z := h2.1
    have z2 := h2.2
    have z3 : (0 : Nat) = H.length := z
    omega
  · refine Or.inr ⟨h1, fun z => h2 ⟨⟨z.2.1, ?_⟩, fun i hi => ?_⟩⟩
    · rw [← z.2.1]
      cases l with
      | nil => exact absurd rfl z.1
      | cons => simp
    · by_cases c : i < l.length
      · exact z.2.2 i c
      · have e1 : H.getD i 0 = 0 := by rw [List.getD_eq_getElem?_getD, List.getElem?_eq_none (by rw [← z.2.1]; omega)]; rfl
        have e2 : l.getD i 0 = 0 := by rw [List.getD_eq_getElem?_getD, List.getElem?_eq_none (by omega)]; rfl
        exact Or.inr (e1.trans e2.symm)
theorem ihI.one {l H : List Int} {b m : Int} (h : ihI l H b m) (q : b ≠ 0) (h0 : 0 ≤ m) (e : H.getD m.toNat 0 = -1 ∨ H.getD m.toNat 0 = l.getD m.toNat 0) : ihI l H 1 (m + 1) := by
  have z := h.y q
  refine Or.inl ⟨rfl, z.1, fun i hi => ?_⟩
  by_cases c : (i : Int) = m
  · rw [show i = m.toNat by omega]; exact e
  · exact z.2 i (by omega)
theorem ihI.no {l H : List Int} {m : Int} (h0 : 0 ≤ m) (e : ¬ (H.getD m.toNat 0 = -1 ∨ H.getD m.toNat 0 = l.getD m.toNat 0)) : ihI l H 0 (m + 1) :=
  Or.inr ⟨rfl, fun z => e (z.2 m.toNat (by omega))⟩
theorem ihI.len {l H : List Int} {b m : Int} (h : ihI l H b m) (q : b ≠ 0) : l.length = H.length := (h.y q).1.1
def aaI (l H : List Int) (b m : Int) : Prop := yn b (l.length = H.length ∧ ∀ i : Nat, (i : Int) < m → l.getD i 0 = H.getD i 0)
theorem aaI.zero {l H : List Int} {b m : Int} (h : aaI l H b m) (q : b = 0) : ¬ l = H := fun z => h.n q ⟨by rw [z], fun i _ => by rw [z]⟩
theorem aaI.fin {l H : List Int} {b m : Int} (h : aaI l H b m) (hm : l.length ≤ m) : yn b (l = H) := by
  rcases h with ⟨h1, h2, h3⟩ | ⟨h1, h2⟩
  · refine Or.inl ⟨h1, List.ext_getElem h2 fun i i1 i2 => ?_⟩
    have z := h3 i (by omega)
    rw [List.getD_eq_getElem?_getD, List.getD_eq_getElem?_getD, List.getElem?_eq_getElem i1, List.getElem?_eq_getElem i2] at z
    exact z
  · exact Or.inr ⟨h1, fun z => h2 ⟨by rw [z], fun i _ => by rw [z]⟩⟩
theorem aaI.one {l H : List Int} {b m : Int} (h : aaI l H b m) (q : b ≠ 0) (h0 : 0 ≤ m) (e : l.getD m.toNat 0 = H.getD m.toNat 0) : aaI l H 1 (m + 1) := by
  have z := h.y q
  refine Or.inl ⟨rfl, z.1, fun i hi => ?_⟩
  by_cases c : (i : Int) = m
  · rw [show i = m.toNat by omega]; exact e
  · exact z.2 i (by omega)
theorem aaI.no {l H : List Int} {m : Int} (h0 : 0 ≤ m) (e : ¬ l.getD m.toNat 0 = H.getD m.toNat 0) : aaI l H 0 (m + 1) :=
  Or.inr ⟨rfl, fun z => e (z.2 m.toNat (by omega))⟩
theorem aaI.len {l H : List Int} {b m : Int} (h : aaI l H b m) (q : b ≠ 0) : l.length = H.length := (h.y q).1
def cbF (x y z w v : Int) : Int := if ¬ (0 ≤ x ∧ x ≤ 3 ∧ 0 ≤ y ∧ y ≤ 2) then 1 else if ¬ ((0 ≤ z ∧ z ≤ w) ∧ v = 1) then 2 else 0
/-- a row that was kept -/
def KR (σ : sv_G) (k : Int) (l : List Int) : Prop := σ 223 k = l.length ∧ Sg σ 224 (20 * k) l
theorem KR.fr {σ σ9 : sv_G} {k : Int} {l : List Int} (h : KR σ k l) (hf : ∀ b i, b = 223 ∨ b = 224 → σ9 b i = σ b i) : KR σ9 k l := ⟨by rw [hf _ _ (Or.inl rfl)]; exact h.1, h.2.fr fun i => hf _ i (Or.inr rfl)⟩
def frR1 (σ σ9 : sv_G) (k : Int) : Prop := ∀ b i, (b ≠ 223 ∨ i ≠ k) → (b ≠ 224 ∨ i < 20 * k ∨ 20 * k + 20 ≤ i) → σ9 b i = σ b i
theorem KR.k {σ σ9 : sv_G} {k j : Int} {l : List Int} (h : KR σ j l) (hl : l.length ≤ 20) (hf : frR1 σ σ9 k) (q : j ≠ k) : KR σ9 j l := ⟨by rw [hf _ _ (Or.inr q) (Or.inl (by decide))]; exact h.1, fun i hi => by rw [hf _ _ (Or.inl (by decide)) (by omega)]; exact h.2 i hi⟩
theorem frR1.T2 {σ σ9 : sv_G} {k : Int} (h : frR1 σ σ9 k) : frT2 σ σ9 := fun b i _ _ _ q4 q5 _ => h b i (Or.inl q4) (Or.inl q5)
set_option maxRecDepth 100000 in
set_option maxHeartbeats 8000000 in
theorem kX8_isHeard {E : sv_E} {σ : sv_G} {l H : List Int} (hl9 : SR σ l) (hlen : l.length ≤ 20) (hHn : σ 195 26 = H.length) (hHg : Sg σ 219 0 H) (hHl : H.length ≤ 20) : CT E MX8_isHeard 0 [(vR 195)] σ (PI fun r σ9 => σ9 = σ ∧ yn r (l ≠ [] ∧ agreeL l H)) := by
  refine CT.of (RX8, cX8_isHeard, 3, (some .boolean), [], 0, 0, 0) rfl moX8_isHeard (Nat.le_of_ble_eq_true rfl) (ls0 := [some (vR 195), none, none]) rfl ?_
  intro X Q C hR
  have h20 := hl9.1
  refine s_aload_n C dX8_isHeard_0 rfl ?_
  refine s_getI (c := 8) (kz := 20) C fl_8_158 dX8_isHeard_1 sh_195 rfl rfl (fun g1 => ?_)
  refine s_aload_n C dX8_isHeard_4 rfl ?_
  refine s_getI (c := 8) (kz := 26) C fl_8_197 dX8_isHeard_5 sh_195 rfl rfl (fun g5 => ?_)
  have J23 : ∀ (a : Int), (yn a (l.length = H.length ∧ 0 < H.length)) → SW X E Q 0 0 23 [some (vR 195), none, none] [(vI a)] σ := by
    intro a j23_0
    have hbj23_0 := j23_0.b
    refine s_istore_n (ls2 := [some (vR 195), some (vI a), none]) C dX8_isHeard_23 (by decide) rfl ?_
    refine s_iconst C dX8_isHeard_24 ?_
    refine s_istore_n (ls2 := [some (vR 195), some (vI a), some (vI 0)]) C dX8_isHeard_25 (by decide) rfl ?_
    have L26 : ∀ (n : Nat) (b : Int) (m : Int), (20 - m).toNat < n → (0 ≤ m ∧ m ≤ H.length) → (ihI l H b m) → (0 ≤ b ∧ b ≤ 1) → SW X E Q 0 0 26 [some (vR 195), some (vI b), some (vI m)] [] σ := by
      intro n
      induction n with
      | zero => intro b m hm; exact absurd hm (Nat.not_lt_zero _)
      | succ n ih26 =>
        intro b m hm26 i26_0 i26_1 i26_2
        refine s_iload_n C dX8_isHeard_26 rfl ?_
        refine s_aload_n C dX8_isHeard_27 rfl ?_
        refine s_getI (c := 8) (kz := 26) C fl_8_197 dX8_isHeard_28 sh_195 rfl rfl (fun g28 => ?_)
        have J75 : (yn (b) (l ≠ [] ∧ agreeL l H)) → SW X E Q 0 0 75 [some (vR 195), some (vI b), some (vI m)] [] σ := by
          intro  j75_0
          refine s_iload_n C dX8_isHeard_75 rfl ?_
          refine s_zret C hR dX8_isHeard_76 rfl (by exact j75_0.b) ⟨_, rfl, ?_⟩ (by decide)
          exact ⟨rfl, j75_0⟩
        refine s_icmp_ge (tgt := 75) C dX8_isHeard_31 (by decide) (by omega) (by omega) (fun c31 => ?_) (fun c31 => ?_)
        · refine J75 ?_
          · exact i26_1.fin (by omega)
        · refine s_iload_n C dX8_isHeard_34 rfl ?_
          refine s_if_eq (tgt := 75) C dX8_isHeard_35 (by decide) (by omega) (fun c35 => ?_) (fun c35 => ?_)
          · refine J75 ?_
            · exact Or.inr ⟨by omega, i26_1.zero (by omega) (by omega)⟩
          · have y35 : b ≠ 0 := by omega
            have hle := i26_1.len y35
            have ew : σ 216 m = l.getD m.toNat 0 := by
              have z := hl9.2 m.toNat (by omega)
              rwa [show (0 : Int) + (m.toNat : Int) = m by omega] at z
            have eh : σ 219 m = H.getD m.toNat 0 := by
              have z := hHg m.toNat (by omega)
              rwa [show (0 : Int) + (m.toNat : Int) = m by omega] at z
            refine s_aload_n C dX8_isHeard_38 rfl ?_
            refine s_getR (c := 8) C fl_8_79 dX8_isHeard_39 sh_195 rfl rf_195_27 ?_
            refine s_iload_n C dX8_isHeard_42 rfl ?_
            refine s_iald C dX8_isHeard_43 sh_219 (by omega) (fun g43 => ?_)
            refine s_iconst C dX8_isHeard_44 ?_
            have J68 : ∀ (c2 : Int), (ihI l H c2 (m + 1)) → (0 ≤ c2 ∧ c2 ≤ 1) → SW X E Q 0 0 68 [some (vR 195), some (vI b), some (vI m)] [(vI c2)] σ := by
              intro c2 j68_0 j68_1
              refine s_istore_n (ls2 := [some (vR 195), some (vI c2), some (vI m)]) C dX8_isHeard_68 (by decide) rfl ?_
              obtain ⟨x2_69, ex2_69⟩ : ∃ y : Int, y = m + 1 := ⟨_, rfl⟩
              refine s_iinc (z2 := x2_69) (ls2 := [some (vR 195), some (vI c2), some (vI x2_69)]) C dX8_isHeard_69 (by decide) rfl ex2_69 rfl ?_
              refine s_goto (tgt := 26) C dX8_isHeard_72 (by decide) ?_
              refine ih26 c2 x2_69 (by omega) (by first | assumption | omega) ?_ (by first | assumption | omega)
              · rw [show x2_69 = m + 1 from ex2_69]; exact j68_0
            refine s_icmp_eq (tgt := 63) C dX8_isHeard_45 (by decide) (by omega) (by omega) (fun c45 => ?_) (fun c45 => ?_)
            · refine s_iconst C dX8_isHeard_63 ?_
              refine s_goto (tgt := 68) C dX8_isHeard_64 (by decide) ?_
              refine J68 1 ?_ (by first | assumption | omega)
              · first
                  | exact i26_1.one y35 (by omega) (Or.inl (by omega))
                  | exact i26_1.one y35 (by omega) (Or.inr (by omega))
            · refine s_aload_n C dX8_isHeard_48 rfl ?_
              refine s_getR (c := 8) C fl_8_79 dX8_isHeard_49 sh_195 rfl rf_195_27 ?_
              refine s_iload_n C dX8_isHeard_52 rfl ?_
              refine s_iald C dX8_isHeard_53 sh_219 (by omega) (fun g53 => ?_)
              refine s_aload_n C dX8_isHeard_54 rfl ?_
              refine s_getR (c := 8) C fl_8_70 dX8_isHeard_55 sh_195 rfl rf_195_21 ?_
              refine s_iload_n C dX8_isHeard_58 rfl ?_
              refine s_iald C dX8_isHeard_59 sh_216 (by omega) (fun g59 => ?_)
              refine s_icmp_ne (tgt := 67) C dX8_isHeard_60 (by decide) (by omega) (by omega) (fun c60 => ?_) (fun c60 => ?_)
              · refine s_iconst C dX8_isHeard_67 ?_
                refine J68 0 ?_ (by first | assumption | omega)
                · exact ihI.no (by omega) (by omega)
              · refine s_iconst C dX8_isHeard_63 ?_
                refine s_goto (tgt := 68) C dX8_isHeard_64 (by decide) ?_
                refine J68 1 ?_ (by first | assumption | omega)
                · first
                    | exact i26_1.one y35 (by omega) (Or.inl (by omega))
                    | exact i26_1.one y35 (by omega) (Or.inr (by omega))
    refine L26 _ a 0 (Nat.lt_succ_self _) (by first | assumption | omega) ?_ (by first | assumption | omega)
    · rcases j23_0 with ⟨q1, q2⟩ | ⟨q1, q2⟩
      · exact Or.inl ⟨q1, q2, fun i hi => by omega⟩
      · exact Or.inr ⟨q1, fun z => q2 z.1⟩
  refine s_icmp_ne (tgt := 22) C dX8_isHeard_8 (by decide) (by omega) (by omega) (fun c8 => ?_) (fun c8 => ?_)
  · refine s_iconst C dX8_isHeard_22 ?_
    refine J23 0 ?_
    · exact yn.zero (by omega)
  · refine s_aload_n C dX8_isHeard_11 rfl ?_
    refine s_getI (c := 8) (kz := 26) C fl_8_197 dX8_isHeard_12 sh_195 rfl rfl (fun g12 => ?_)
    refine s_if_le (tgt := 22) C dX8_isHeard_15 (by decide) (by omega) (fun c15 => ?_) (fun c15 => ?_)
    · refine s_iconst C dX8_isHeard_22 ?_
      refine J23 0 ?_
      · exact yn.zero (by omega)
    · refine s_iconst C dX8_isHeard_18 ?_
      refine s_goto (tgt := 23) C dX8_isHeard_19 (by decide) ?_
      refine J23 1 ?_
      · exact yn.one (by omega)
set_option maxRecDepth 100000 in
set_option maxHeartbeats 8000000 in
theorem kX8_canBound {E : sv_E} {σ : sv_G} {x : Int} (hx : -2147483648 ≤ x ∧ x ≤ 2147483647) {y : Int} (hy : -2147483648 ≤ y ∧ y ≤ 2147483647) {z : Int} (hz : -2147483648 ≤ z ∧ z ≤ 2147483647) {w : Int} (hw : -2147483648 ≤ w ∧ w ≤ 2147483647) {v : Int} (hv : v = 0 ∨ v = 1) : CT E MX8_canBound 2 [(vR 195), (vI x), (vI y), (vI z), (vI w), (vI v)] σ (PI fun r σ9 => σ9 = up σ 195 37 (cbF x y z w v) ∧ yn r (cbF x y z w v = 0)) := by
  refine CT.of (RX8, cX8_canBound, 6, (some .boolean), [], 2, 0, 0) rfl moX8_canBound (Nat.le_of_ble_eq_true rfl) (ls0 := [some (vR 195), some (vI x), some (vI y), some (vI z), some (vI w), some (vI v)]) rfl ?_
  intro X Q C hR
  refine s_aload_n C dX8_canBound_0 rfl ?_
  refine s_iload_n C dX8_canBound_1 rfl ?_
  refine s_cS1i C dX8_canBound_2 lkX8_114 moX8_isGrammar mvX8_isGrammar (kX8_isGrammar (by omega)) (by decide) (Nat.le_of_ble_eq_true rfl) rfl (by decide) (kpI (fun r2 hp2 => ?_))
  have hb2 := (hp2).b
  have J39 : ∀ (c : Int), (c = cbF x y z w v) → (0 ≤ c ∧ c ≤ 3) → SW X E Q 0 0 39 [some (vR 195), some (vI x), some (vI y), some (vI z), some (vI w), some (vI v)] [(vI c), (vR 195)] σ := by
    intro c j39_0 j39_1
    refine s_cV1i C dX8_canBound_39 lkX8_128 moX8_can mvX8_can (kX8_can (by omega)) sh_195 ⟨_, _, rfl⟩ (by decide) (Nat.le_of_ble_eq_true rfl) rfl (by decide) (fun r39 σ_39 hp39 => ?_)
    have hb39 := (hp39.2).b
    refine s_zret C hR dX8_canBound_42 rfl (by exact hb39) ⟨_, rfl, ?_⟩ (by decide)
    rw [j39_0] at hp39; exact hp39
  refine s_if_eq (tgt := 15) C dX8_canBound_5 (by decide) (by omega) (fun c5 => ?_) (fun c5 => ?_)
  · have y5 := (hp2).n (by omega)
    refine s_iconst C dX8_canBound_15 ?_
    refine s_goto (tgt := 39) C dX8_canBound_16 (by decide) ?_
    refine J39 1 ?_ (by first | assumption | omega)
    · unfold cbF; (repeat' split) <;> omega
  · have y5 := (hp2).y (by omega)
    refine s_iload_n C dX8_canBound_8 rfl ?_
    refine s_cS1i C dX8_canBound_9 lkX8_184 moX8_isClass mvX8_isClass (kX8_isClass (by omega)) (by decide) (Nat.le_of_ble_eq_true rfl) rfl (by decide) (kpI (fun r9 hp9 => ?_))
    have hb9 := (hp9).b
    refine s_if_ne (tgt := 19) C dX8_canBound_12 (by decide) (by omega) (fun c12 => ?_) (fun c12 => ?_)
    · have y12 := (hp9).y (by omega)
      refine s_iload_n C dX8_canBound_19 rfl ?_
      refine s_iconst C dX8_canBound_20 ?_
      refine s_iload C dX8_canBound_21 rfl ?_
      refine s_cS3i C dX8_canBound_23 lkX8_110 moX8_isIn mvX8_isIn (kX8_isIn (by omega) (by omega) (by omega)) (by decide) (Nat.le_of_ble_eq_true rfl) rfl (by decide) (kpI (fun r23 hp23 => ?_))
      have hb23 := (hp23).b
      refine s_if_eq (tgt := 38) C dX8_canBound_26 (by decide) (by omega) (fun c26 => ?_) (fun c26 => ?_)
      · have y26 := (hp23).n (by omega)
        refine s_iconst C dX8_canBound_38 ?_
        refine J39 2 ?_ (by first | assumption | omega)
        · unfold cbF; (repeat' split) <;> omega
      · have y26 := (hp23).y (by omega)
        refine s_iload C dX8_canBound_29 rfl ?_
        refine s_if_eq (tgt := 38) C dX8_canBound_31 (by decide) (by omega) (fun c31 => ?_) (fun c31 => ?_)
        · refine s_iconst C dX8_canBound_38 ?_
          refine J39 2 ?_ (by first | assumption | omega)
          · unfold cbF; (repeat' split) <;> omega
        · refine s_iconst C dX8_canBound_34 ?_
          refine s_goto (tgt := 39) C dX8_canBound_35 (by decide) ?_
          refine J39 0 ?_ (by first | assumption | omega)
          · unfold cbF; (repeat' split) <;> omega
    · have y12 := (hp9).n (by omega)
      refine s_iconst C dX8_canBound_15 ?_
      refine s_goto (tgt := 39) C dX8_canBound_16 (by decide) ?_
      refine J39 1 ?_ (by first | assumption | omega)
      · unfold cbF; (repeat' split) <;> omega
set_option maxRecDepth 100000 in
set_option maxHeartbeats 8000000 in
theorem kX8_fitsIt {E : sv_E} {σ : sv_G} {S : st_T} (hS : StOK S) (hO : RO σ S) {x y k : Int} (hx : 0 ≤ x ∧ x ≤ 3) (hy : 0 ≤ y ∧ y ≤ 2) (hk : 0 ≤ k ∧ k ≤ 9999) : CT E MX8_fitsIt 5 [(vR 195), (vI x), (vI y), (vI k)] σ (PI fun r σ9 => frN σ σ9 ∧ SR σ9 (spF (sD S x) k y) ∧ r = hrI (sD S x) y (sH S) k) := by
  refine CT.of (RX8, cX8_fitsIt, 5, (some .boolean), [], 5, 0, 0) rfl moX8_fitsIt (Nat.le_of_ble_eq_true rfl) (ls0 := [some (vR 195), some (vI x), some (vI y), some (vI k), none]) rfl ?_
  intro X Q C hR
  have hD := hS.1 x (by omega) (by omega)
  have hM := hO.1 x (by omega) (by omega)
  refine s_aload_n C dX8_fitsIt_0 rfl ?_
  refine s_iload_n C dX8_fitsIt_1 rfl ?_
  refine s_iload_n C dX8_fitsIt_2 rfl ?_
  refine s_iload_n C dX8_fitsIt_3 rfl ?_
  refine s_cV3i C dX8_fitsIt_4 lkX8_187 moX8_finds mvX8_finds (kX8_finds (by exact hD) (by omega) (by exact hM) (by omega) (by omega)) sh_195 ⟨_, _, rfl⟩ (by decide) (Nat.le_of_ble_eq_true rfl) rfl (by decide) (fun r4 σ_4 hp4 => ?_)
  have hO4 := hO.t hp4.1.T2
  refine s_istore (ls2 := [some (vR 195), some (vI x), some (vI y), some (vI k), some (vI r4)]) C dX8_fitsIt_7 (by decide) rfl ?_
  refine s_aload_n C dX8_fitsIt_9 rfl ?_
  refine s_cV0i C dX8_fitsIt_10 lkX8_200 moX8_isHeard mvX8_isHeard (kX8_isHeard (by exact hp4.2.1) (by exact (spF_ok hD _ _).2) (by exact hO4.2.2.1.1) (by exact hO4.2.2.1.2) (by exact hS.2.2.1.2)) sh_195 ⟨_, _, rfl⟩ (by decide) (Nat.le_of_ble_eq_true rfl) rfl (by decide) (kpI (fun r10 hp10 => ?_))
  have hr10 : r10 = hrI (sD S x) y (sH S) k := by
    rcases hp10 with ⟨q1, q2⟩ | ⟨q1, q2⟩
    · rw [q1, hrI_1 q2.1 q2.2]
    · rw [q1, hrI_0]
      by_cases c : spF (sD S x) k y = []
      · exact Or.inl c
      · exact Or.inr fun z => q2 ⟨c, z⟩
  refine s_zret C hR dX8_fitsIt_13 rfl (by exact hp10.b) ⟨_, rfl, ?_⟩ (by decide)
  exact ⟨hp4.1, hp4.2.1, hr10⟩

set_option maxRecDepth 100000 in
set_option maxHeartbeats 8000000 in
theorem kX8_fits {E : sv_E} {σ : sv_G} {S : st_T} (hS : StOK S) (hO : RO σ S) {x : Int} (hx : -2147483648 ≤ x ∧ x ≤ 2147483647) {y : Int} (hy : -2147483648 ≤ y ∧ y ≤ 2147483647) {z : Int} (hz : -2147483648 ≤ z ∧ z ≤ 2147483647) : CT E MX8_fits 6 [(vR 195), (vI x), (vI y), (vI z)] σ (PI fun r σ9 => moP σ σ9 S r (op_fits S x y z)) := by
  refine CT.of (RX8, cX8_fits, 6, (some .int), [], 6, 0, 0) rfl moX8_fits (Nat.le_of_ble_eq_true rfl) (ls0 := [some (vR 195), some (vI x), some (vI y), some (vI z), none, none]) rfl ?_
  intro X Q C hR
  refine s_aload_n C dX8_fits_0 rfl ?_
  refine s_iload_n C dX8_fits_1 rfl ?_
  refine s_iload_n C dX8_fits_2 rfl ?_
  refine s_iload_n C dX8_fits_3 rfl ?_
  refine s_sipush C dX8_fits_4 (by decide) ?_
  refine s_iconst C dX8_fits_7 ?_
  refine s_cV5i C dX8_fits_8 lkX8_204 moX8_canBound mvX8_canBound (kX8_canBound (by omega) (by omega) (by omega) (by decide) (by omega)) sh_195 ⟨_, _, rfl⟩ (by decide) (Nat.le_of_ble_eq_true rfl) rfl (by decide) (fun r8 σ_8 hp8 => ?_)
  have hb8 := (hp8.2).b
  have hO2 := hO.t (can_T2 hp8.1)
  have hcb : cbF x y z 999 1 = (op_fits S x y z).1 := by unfold cbF op_fits; dsimp only; (repeat' split) <;> omega
  refine s_if_ne (tgt := 16) C dX8_fits_11 (by decide) (by omega) (fun c11 => ?_) (fun c11 => ?_)
  · have y11 := (hp8.2).y (by omega)
    have h0 : (op_fits S x y z).1 = 0 := by rw [← hcb]; exact y11
    have hk := ifc2 (show (if ¬ (0 ≤ x ∧ x ≤ 3 ∧ 0 ≤ y ∧ y ≤ 2) then 1 else if ¬ (0 ≤ z ∧ z ≤ 999) then 2 else 0 : Int) = 0 from h0)
    have h37 : σ_8 195 37 = 0 := by rw [hp8.1, up_s]; exact y11
    have hD := hS.1 x (by omega) (by omega)
    have hM := hO2.1 x (by omega) (by omega)
    refine s_iconst C dX8_fits_16 ?_
    refine s_istore (ls2 := [some (vR 195), some (vI x), some (vI y), some (vI z), some (vI 0), none]) C dX8_fits_17 (by decide) rfl ?_
    refine s_iconst C dX8_fits_19 ?_
    refine s_istore (ls2 := [some (vR 195), some (vI x), some (vI y), some (vI z), some (vI 0), some (vI 0)]) C dX8_fits_20 (by decide) rfl ?_
    have L22 : ∀ (n : Nat) (s : Int) (m : Int) (τ : sv_G), (z + 1 - m).toNat < n → (0 ≤ m ∧ m ≤ z + 1) → (s = ftN (sD S x) y (sH S) m.toNat) → (0 ≤ s ∧ s ≤ m) → (frN σ_8 τ) → SW X E Q 0 0 22 [some (vR 195), some (vI x), some (vI y), some (vI z), some (vI s), some (vI m)] [] τ := by
      intro n
      induction n with
      | zero => intro s m τ hm; exact absurd hm (Nat.not_lt_zero _)
      | succ n ih22 =>
        intro s m τ hm22 i22_0 i22_1 i22_2 i22_3
        have hOt := hO2.t i22_3.T2
        refine s_iload C dX8_fits_22 rfl ?_
        refine s_iload_n C dX8_fits_24 rfl ?_
        refine s_icmp_gt (tgt := 55) C dX8_fits_25 (by decide) (by omega) (by omega) (fun c25 => ?_) (fun c25 => ?_)
        · refine s_iload C dX8_fits_55 rfl ?_
          refine s_iret C hR dX8_fits_57 rfl ⟨_, rfl, ?_⟩ (by decide)
          exact moP.yes h0 (by rw [i22_3 _ _ (by decide) (by decide) (by decide)]; exact h37) (show _ = ftN (sD S x) y (sH S) (z + 1).toNat by rw [i22_1, show m = z + 1 by omega]) hOt ((can_T2 hp8.1).M.tr i22_3.T2.M)
        · refine s_iload C dX8_fits_28 rfl ?_
          refine s_aload_n C dX8_fits_30 rfl ?_
          refine s_iload_n C dX8_fits_31 rfl ?_
          refine s_iload_n C dX8_fits_32 rfl ?_
          refine s_iload C dX8_fits_33 rfl ?_
          refine s_cV3i C dX8_fits_35 lkX8_208 moX8_fitsIt mvX8_fitsIt (kX8_fitsIt (by exact hS) (by exact hOt) (by omega) (by omega) (by omega)) sh_195 ⟨_, _, rfl⟩ (by decide) (Nat.le_of_ble_eq_true rfl) rfl (by decide) (fun r35 σ_35 hp35 => ?_)
          have hbr := hrI_b (D := sD S x) (c := y) (H := sH S) (n := m)
          have hr35 := hp35.2.2
          have J46 : ∀ (c2 : Int), (c2 = hrI (sD S x) y (sH S) m) → (0 ≤ c2 ∧ c2 ≤ 1) → SW X E Q 0 0 46 [some (vR 195), some (vI x), some (vI y), some (vI z), some (vI s), some (vI m)] [(vI c2), (vI s)] σ_35 := by
            intro c2 j46_0 j46_1
            refine s_iadd C dX8_fits_46 ?_
            refine s_topI (fun x4_47 ex4_47 => ?_)
            refine s_istore (ls2 := [some (vR 195), some (vI x), some (vI y), some (vI z), some (vI x4_47), some (vI m)]) C dX8_fits_47 (by decide) rfl ?_
            obtain ⟨x5_49, ex5_49⟩ : ∃ y : Int, y = m + 1 := ⟨_, rfl⟩
            refine s_iinc (z2 := x5_49) (ls2 := [some (vR 195), some (vI x), some (vI y), some (vI z), some (vI x4_47), some (vI x5_49)]) C dX8_fits_49 (by decide) rfl ex5_49 rfl ?_
            refine s_goto (tgt := 22) C dX8_fits_52 (by decide) ?_
            refine ih22 x4_47 x5_49 σ_35 (by omega) (by first | assumption | omega) ?_ (by first | assumption | omega) ?_
            · rw [show x5_49 = m + 1 from ex5_49, ftN_s (by omega), ← i22_1, ← j46_0]; exact ex4_47
            · exact i22_3.tr hp35.1
          refine s_if_eq (tgt := 45) C dX8_fits_38 (by decide) (by omega) (fun c38 => ?_) (fun c38 => ?_)
          · refine s_iconst C dX8_fits_45 ?_
            refine J46 0 ?_ (by first | assumption | omega)
            · show (0 : Int) = _; omega
          · refine s_iconst C dX8_fits_41 ?_
            refine s_goto (tgt := 46) C dX8_fits_42 (by decide) ?_
            refine J46 1 ?_ (by first | assumption | omega)
            · show (1 : Int) = _; omega
    refine L22 _ 0 0 σ_8 (Nat.lt_succ_self _) (by first | assumption | omega) ?_ (by first | assumption | omega) ?_
    · rfl
    · exact fun _ _ _ _ _ => rfl
  · have y11 := (hp8.2).n (by omega)
    refine s_iconst C dX8_fits_14 ?_
    refine s_iret C hR dX8_fits_15 rfl ⟨_, rfl, ?_⟩ (by decide)
    exact moP.no hO hp8.1 hcb y11

set_option maxRecDepth 100000 in
set_option maxHeartbeats 8000000 in
theorem kX8_fit {E : sv_E} {σ : sv_G} {S : st_T} (hS : StOK S) (hO : RO σ S) {x : Int} (hx : -2147483648 ≤ x ∧ x ≤ 2147483647) {y : Int} (hy : -2147483648 ≤ y ∧ y ≤ 2147483647) {z : Int} (hz : -2147483648 ≤ z ∧ z ≤ 2147483647) {v : Int} (hv : -2147483648 ≤ v ∧ v ≤ 2147483647) : CT E MX8_fit 6 [(vR 195), (vI x), (vI y), (vI z), (vI v)] σ (PI fun r σ9 => moP σ σ9 S r (op_fit S x y z v)) := by
  refine CT.of (RX8, cX8_fit, 7, (some .int), [], 6, 0, 0) rfl moX8_fit (Nat.le_of_ble_eq_true rfl) (ls0 := [some (vR 195), some (vI x), some (vI y), some (vI z), some (vI v), none, none]) rfl ?_
  intro X Q C hR
  refine s_aload_n C dX8_fit_0 rfl ?_
  refine s_iload_n C dX8_fit_1 rfl ?_
  refine s_iload_n C dX8_fit_2 rfl ?_
  refine s_iload_n C dX8_fit_3 rfl ?_
  refine s_sipush C dX8_fit_4 (by decide) ?_
  refine s_iload C dX8_fit_7 rfl ?_
  have J17 : ∀ (g : Int), ((g = 1 ∧ 0 ≤ v) ∨ (g = 0 ∧ v < 0)) → SW X E Q 0 0 17 [some (vR 195), some (vI x), some (vI y), some (vI z), some (vI v), none, none] [(vI g), (vI 999), (vI z), (vI y), (vI x), (vR 195)] σ := by
    intro g j17_0
    refine s_cV5i C dX8_fit_17 lkX8_204 moX8_canBound mvX8_canBound (kX8_canBound (by omega) (by omega) (by omega) (by decide) (by omega)) sh_195 ⟨_, _, rfl⟩ (by decide) (Nat.le_of_ble_eq_true rfl) rfl (by decide) (fun r17 σ_17 hp17 => ?_)
    have hb17 := (hp17.2).b
    have hO2 := hO.t (can_T2 hp17.1)
    have hcb : cbF x y z 999 g = (op_fit S x y z v).1 := by unfold cbF op_fit; dsimp only; (repeat' split) <;> omega
    refine s_if_ne (tgt := 25) C dX8_fit_20 (by decide) (by omega) (fun c20 => ?_) (fun c20 => ?_)
    · have y20 := (hp17.2).y (by omega)
      have h0 : (op_fit S x y z v).1 = 0 := by rw [← hcb]; exact y20
      have hk := ifc2 (show (if ¬ (0 ≤ x ∧ x ≤ 3 ∧ 0 ≤ y ∧ y ≤ 2) then 1 else if ¬ ((0 ≤ z ∧ z ≤ 999) ∧ 0 ≤ v) then 2 else 0 : Int) = 0 from h0)
      have h37 : σ_17 195 37 = 0 := by rw [hp17.1, up_s]; exact y20
      have hD := hS.1 x (by omega) (by omega)
      have hM := hO2.1 x (by omega) (by omega)
      refine s_iconst C dX8_fit_25 ?_
      refine s_istore (ls2 := [some (vR 195), some (vI x), some (vI y), some (vI z), some (vI v), some (vI 0), none]) C dX8_fit_26 (by decide) rfl ?_
      refine s_iconst C dX8_fit_28 ?_
      refine s_istore (ls2 := [some (vR 195), some (vI x), some (vI y), some (vI z), some (vI v), some (vI 0), some (vI 0)]) C dX8_fit_29 (by decide) rfl ?_
      have L31 : ∀ (n : Nat) (s : Int) (m : Int) (τ : sv_G), (z + 1 - m).toNat < n → (0 ≤ m ∧ m ≤ z + 1) → (s = ftN (sD S x) y (sH S) m.toNat) → (0 ≤ s ∧ s ≤ m) → (frN σ_17 τ) → (fiR (sD S x) y (sH S) v (z + 1).toNat 0 = fiR (sD S x) y (sH S) v (z + 1 - m).toNat m.toNat) → SW X E Q 0 0 31 [some (vR 195), some (vI x), some (vI y), some (vI z), some (vI v), some (vI s), some (vI m)] [] τ := by
        intro n
        induction n with
        | zero => intro s m τ hm; exact absurd hm (Nat.not_lt_zero _)
        | succ n ih31 =>
          intro s m τ hm31 i31_0 i31_1 i31_2 i31_3 i31_4
          have hOt := hO2.t i31_3.T2
          refine s_iload C dX8_fit_31 rfl ?_
          refine s_iload_n C dX8_fit_33 rfl ?_
          refine s_icmp_gt (tgt := 67) C dX8_fit_34 (by decide) (by omega) (by omega) (fun c34 => ?_) (fun c34 => ?_)
          · refine s_iconst C dX8_fit_67 ?_
            refine s_iret C hR dX8_fit_68 rfl ⟨_, rfl, ?_⟩ (by decide)
            exact moP.yes h0 (by rw [i31_3 _ _ (by decide) (by decide) (by decide)]; exact h37) (show _ = fiR (sD S x) y (sH S) v (z + 1).toNat 0 by rw [i31_4, show (z + 1 - m).toNat = 0 by omega]; rfl) hOt ((can_T2 hp17.1).M.tr i31_3.T2.M)
          · refine s_aload_n C dX8_fit_37 rfl ?_
            refine s_iload_n C dX8_fit_38 rfl ?_
            refine s_iload_n C dX8_fit_39 rfl ?_
            refine s_iload C dX8_fit_40 rfl ?_
            refine s_cV3i C dX8_fit_42 lkX8_208 moX8_fitsIt mvX8_fitsIt (kX8_fitsIt (by exact hS) (by exact hOt) (by omega) (by omega) (by omega)) sh_195 ⟨_, _, rfl⟩ (by decide) (Nat.le_of_ble_eq_true rfl) rfl (by decide) (fun r42 σ_42 hp42 => ?_)
            have hbr := hrI_b (D := sD S x) (c := y) (H := sH S) (n := m)
            have hr42 := hp42.2.2
            have J61 : ∀ (s2 : Int), (s2 = ftN (sD S x) y (sH S) (m + 1).toNat) → (¬ (hrI (sD S x) y (sH S) m = 1 ∧ ftN (sD S x) y (sH S) m.toNat = v)) → (0 ≤ s2 ∧ s2 ≤ m + 1) → SW X E Q 0 0 61 [some (vR 195), some (vI x), some (vI y), some (vI z), some (vI v), some (vI s2), some (vI m)] [] σ_42 := by
              intro s2 j61_0 j61_1 j61_2
              obtain ⟨x6_61, ex6_61⟩ : ∃ y : Int, y = m + 1 := ⟨_, rfl⟩
              refine s_iinc (z2 := x6_61) (ls2 := [some (vR 195), some (vI x), some (vI y), some (vI z), some (vI v), some (vI s2), some (vI x6_61)]) C dX8_fit_61 (by decide) rfl ex6_61 rfl ?_
              refine s_goto (tgt := 31) C dX8_fit_64 (by decide) ?_
              refine ih31 s2 x6_61 σ_42 (by omega) (by first | assumption | omega) ?_ (by first | assumption | omega) ?_ ?_
              · rw [show x6_61 = m + 1 from ex6_61]; exact j61_0
              · exact i31_3.tr hp42.1
              · rw [i31_4, fiR_s (by omega), if_neg j61_1, show x6_61 = m + 1 from ex6_61]
            refine s_if_eq (tgt := 61) C dX8_fit_45 (by decide) (by omega) (fun c45 => ?_) (fun c45 => ?_)
            · refine J61 s ?_ ?_ (by first | assumption | omega)
              · rw [ftN_s (by omega), ← i31_1]; omega
              · omega
            · refine s_iload C dX8_fit_48 rfl ?_
              refine s_iload C dX8_fit_50 rfl ?_
              refine s_icmp_ne (tgt := 58) C dX8_fit_52 (by decide) (by omega) (by omega) (fun c52 => ?_) (fun c52 => ?_)
              · obtain ⟨x5_58, ex5_58⟩ : ∃ y : Int, y = s + 1 := ⟨_, rfl⟩
                refine s_iinc (z2 := x5_58) (ls2 := [some (vR 195), some (vI x), some (vI y), some (vI z), some (vI v), some (vI x5_58), some (vI m)]) C dX8_fit_58 (by decide) rfl ex5_58 rfl ?_
                refine J61 x5_58 ?_ ?_ (by first | assumption | omega)
                · rw [ftN_s (by omega), ← i31_1]; omega
                · rw [← i31_1]; omega
              · refine s_iload C dX8_fit_55 rfl ?_
                refine s_iret C hR dX8_fit_57 rfl ⟨_, rfl, ?_⟩ (by decide)
                have f9 := i31_3.tr hp42.1
                exact moP.yes h0 (by rw [f9 _ _ (by decide) (by decide) (by decide)]; exact h37) (show _ = fiR (sD S x) y (sH S) v (z + 1).toNat 0 by rw [i31_4, fiR_s (by omega), if_pos ⟨by omega, by rw [← i31_1]; omega⟩]) (hO2.t f9.T2) ((can_T2 hp17.1).M.tr f9.T2.M)
      refine L31 _ 0 0 σ_17 (Nat.lt_succ_self _) (by first | assumption | omega) ?_ (by first | assumption | omega) ?_ ?_
      · rfl
      · exact fun _ _ _ _ _ => rfl
      · rw [Int.sub_zero]; rfl
    · have y20 := (hp17.2).n (by omega)
      refine s_iconst C dX8_fit_23 ?_
      refine s_iret C hR dX8_fit_24 rfl ⟨_, rfl, ?_⟩ (by decide)
      exact moP.no hO hp17.1 hcb y20
  refine s_if_lt (tgt := 16) C dX8_fit_9 (by decide) (by omega) (fun c9 => ?_) (fun c9 => ?_)
  · refine s_iconst C dX8_fit_16 ?_
    exact J17 0 (by first | assumption | omega)
  · refine s_iconst C dX8_fit_12 ?_
    refine s_goto (tgt := 17) C dX8_fit_13 (by decide) ?_
    exact J17 1 (by first | assumption | omega)

set_option maxRecDepth 100000 in
set_option maxHeartbeats 8000000 in
theorem kX8_gap {E : sv_E} {σ : sv_G} {S : st_T} (hS : StOK S) (hO : RO σ S) {x : Int} (hx : -2147483648 ≤ x ∧ x ≤ 2147483647) {y : Int} (hy : -2147483648 ≤ y ∧ y ≤ 2147483647) : CT E MX8_gap 6 [(vR 195), (vI x), (vI y)] σ (PI fun r σ9 => moP σ σ9 S r (op_gap S x y)) := by
  refine CT.of (RX8, cX8_gap, 4, (some .int), [], 6, 0, 0) rfl moX8_gap (Nat.le_of_ble_eq_true rfl) (ls0 := [some (vR 195), some (vI x), some (vI y), none]) rfl ?_
  intro X Q C hR
  refine s_aload_n C dX8_gap_0 rfl ?_
  refine s_iload_n C dX8_gap_1 rfl ?_
  refine s_iconst C dX8_gap_2 ?_
  refine s_iload_n C dX8_gap_3 rfl ?_
  refine s_sipush C dX8_gap_4 (by decide) ?_
  refine s_iconst C dX8_gap_7 ?_
  refine s_cV5i C dX8_gap_8 lkX8_204 moX8_canBound mvX8_canBound (kX8_canBound (by omega) (by decide) (by omega) (by decide) (by omega)) sh_195 ⟨_, _, rfl⟩ (by decide) (Nat.le_of_ble_eq_true rfl) rfl (by decide) (fun r8 σ_8 hp8 => ?_)
  have hb8 := (hp8.2).b
  have hO2 := hO.t (can_T2 hp8.1)
  have hcb : cbF x 0 y 999 1 = (op_gap S x y).1 := by unfold cbF op_gap; dsimp only; (repeat' split) <;> omega
  refine s_if_ne (tgt := 16) C dX8_gap_11 (by decide) (by omega) (fun c11 => ?_) (fun c11 => ?_)
  · have y11 := (hp8.2).y (by omega)
    have h0 : (op_gap S x y).1 = 0 := by rw [← hcb]; exact y11
    have hk := ifc2 (show (if ¬ (0 ≤ x ∧ x ≤ 3) then 1 else if ¬ (0 ≤ y ∧ y ≤ 999) then 2 else 0 : Int) = 0 from h0)
    have h37 : σ_8 195 37 = 0 := by rw [hp8.1, up_s]; exact y11
    have hD := hS.1 x (by omega) (by omega)
    have hM := hO2.1 x (by omega) (by omega)
    refine s_iconst C dX8_gap_16 ?_
    refine s_istore_n (ls2 := [some (vR 195), some (vI x), some (vI y), some (vI 0)]) C dX8_gap_17 (by decide) rfl ?_
    have L18 : ∀ (n : Nat) (m : Int) (τ : sv_G), (y + 1 - m).toNat < n → (0 ≤ m ∧ m ≤ y + 1) → (frN σ_8 τ) → (gaR (sD S x) (y + 1).toNat 0 = gaR (sD S x) (y + 1 - m).toNat m.toNat) → SW X E Q 0 0 18 [some (vR 195), some (vI x), some (vI y), some (vI m)] [] τ := by
      intro n
      induction n with
      | zero => intro m τ hm; exact absurd hm (Nat.not_lt_zero _)
      | succ n ih18 =>
        intro m τ hm18 i18_0 i18_1 i18_2
        have hOt := hO2.t i18_1.T2
        have hMt := hOt.1 x (by omega) (by omega)
        refine s_iload_n C dX8_gap_18 rfl ?_
        refine s_iload_n C dX8_gap_19 rfl ?_
        refine s_icmp_gt (tgt := 41) C dX8_gap_20 (by decide) (by omega) (by omega) (fun c20 => ?_) (fun c20 => ?_)
        · refine s_iconst C dX8_gap_41 ?_
          refine s_iret C hR dX8_gap_42 rfl ⟨_, rfl, ?_⟩ (by decide)
          exact moP.yes h0 (by rw [i18_1 _ _ (by decide) (by decide) (by decide)]; exact h37) (show _ = gaR (sD S x) (y + 1).toNat 0 by rw [i18_2, show (y + 1 - m).toNat = 0 by omega]; rfl) hOt ((can_T2 hp8.1).M.tr i18_1.T2.M)
        · refine s_aload_n C dX8_gap_23 rfl ?_
          refine s_iload_n C dX8_gap_24 rfl ?_
          refine s_iload_n C dX8_gap_25 rfl ?_
          refine s_iconst C dX8_gap_26 ?_
          refine s_cV3i C dX8_gap_27 lkX8_187 moX8_finds mvX8_finds (kX8_finds (by exact hD) (by omega) (by exact hMt) (by omega) (by decide)) sh_195 ⟨_, _, rfl⟩ (by decide) (Nat.le_of_ble_eq_true rfl) rfl (by decide) (fun r27 σ_27 hp27 => ?_)
          have hr27 := hp27.2.2
          have hl27 := (spF_ok hD m 0).2
          refine s_if_ne (tgt := 35) C dX8_gap_30 (by decide) (by omega) (fun c30 => ?_) (fun c30 => ?_)
          · obtain ⟨x3_35, ex3_35⟩ : ∃ y : Int, y = m + 1 := ⟨_, rfl⟩
            refine s_iinc (z2 := x3_35) (ls2 := [some (vR 195), some (vI x), some (vI y), some (vI x3_35)]) C dX8_gap_35 (by decide) rfl ex3_35 rfl ?_
            refine s_goto (tgt := 18) C dX8_gap_38 (by decide) ?_
            refine ih18 x3_35 σ_27 (by omega) (by first | assumption | omega) ?_ ?_
            · exact i18_1.tr hp27.1
            · rw [i18_2, gaR_s (by omega), if_neg (fun q => c30 (by rw [hp27.2.2, q]; rfl)), show x3_35 = m + 1 from ex3_35]
          · refine s_iload_n C dX8_gap_33 rfl ?_
            refine s_iret C hR dX8_gap_34 rfl ⟨_, rfl, ?_⟩ (by decide)
            have f9 := i18_1.tr hp27.1
            exact moP.yes h0 (by rw [f9 _ _ (by decide) (by decide) (by decide)]; exact h37) (show _ = gaR (sD S x) (y + 1).toNat 0 by rw [i18_2, gaR_s (by omega), if_pos (List.eq_nil_of_length_eq_zero (by omega))]) (hO2.t f9.T2) ((can_T2 hp8.1).M.tr f9.T2.M)
    refine L18 _ 0 σ_8 (Nat.lt_succ_self _) (by first | assumption | omega) ?_ ?_
    · exact fun _ _ _ _ _ => rfl
    · rw [Int.sub_zero]; rfl
  · have y11 := (hp8.2).n (by omega)
    refine s_iconst C dX8_gap_14 ?_
    refine s_iret C hR dX8_gap_15 rfl ⟨_, rfl, ?_⟩ (by decide)
    exact moP.no hO hp8.1 hcb y11
