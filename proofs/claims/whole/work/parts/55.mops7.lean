/-! The model: settings that fit, as a set of bits. -/
def tb (z : Int) (k : Nat) : Bool := (Int64.ofInt z).toBitVec.getLsbD k
theorem tb_or (x y : Int) (k : Nat) : tb (lorL x y) k = (tb x k || tb y k) := by
  unfold tb lorL
  rw [Int64.ofInt_toInt, Int64.toBitVec_or, BitVec.getLsbD_or]
theorem tb_shl : ∀ j : Fin 32, ∀ k : Fin 64, tb (shlL 1 (j.val : Int)) k.val = decide (k.val = j.val) := by decide +kernel
theorem tb_zero (k : Nat) : tb 0 k = false := by
  unfold tb
  have e : (Int64.ofInt 0).toBitVec = 0#64 := rfl
  rw [e, BitVec.getLsbD_zero]
theorem sh_n : ∀ j : Fin 32, (((Int32.ofInt (j.val : Int)).toInt64 &&& 63).toBitVec.smod 64).toNat = j.val := by decide +kernel
theorem bit_one {x : BitVec 64} (h : ∀ i : Nat, 0 < i → x.getLsbD i = false) : x = if x.getLsbD 0 then 1#64 else 0#64 := by
  apply BitVec.eq_of_getLsbD_eq
  intro i hi
  by_cases q : i = 0
  · subst q
    cases x.getLsbD 0 <;> rfl
  · rw [h i (by omega)]
    cases x.getLsbD 0
    · rw [if_neg (by decide), BitVec.getLsbD_zero]
    · rw [if_pos rfl, BitVec.getLsbD_one]
      simp [q]
theorem tb_and {z : Int} {j : Nat} (hj : j < 32) : landL (shrL z (j : Int)) 1 = if tb z j then 1 else 0 := by
  have hs := sh_n ⟨j, hj⟩
  have key : ∀ v : BitVec 64, (∀ i : Nat, v.getLsbD i = (decide (i = 0) && tb z j)) → v = if tb z j then 1#64 else 0#64 := fun v hv => by
    have h1 := bit_one (x := v) (fun i hi => by rw [hv, decide_eq_false (by omega), Bool.false_and])
    rw [hv 0] at h1
    simpa using h1
  unfold landL shrL
  rw [Int64.ofInt_toInt]
  have e : ((Int64.ofInt z >>> ((Int32.ofInt (j : Int)).toInt64 &&& 63)) &&& Int64.ofInt 1).toBitVec = if tb z j then 1#64 else 0#64 := by
    have hb : ∀ i : Nat, ((Int64.ofInt z >>> ((Int32.ofInt (j : Int)).toInt64 &&& 63)) &&& Int64.ofInt 1).toBitVec.getLsbD i = (decide (i = 0) && tb z j) := by
      intro i
      rw [Int64.toBitVec_and, BitVec.getLsbD_and, Int64.toBitVec_shiftRight, BitVec.getLsbD_sshiftRight', hs]
      have e1 : (Int64.ofInt 1).toBitVec = 1#64 := rfl
      rw [e1, BitVec.getLsbD_one]
      by_cases q : i = 0
      · subst q
        rw [if_pos (by omega)]
        unfold tb
        simp
      · simp [q]
    exact key _ hb
  rw [← Int64.toInt_toBitVec, e]
  cases tb z j <;> rfl
theorem tb_ne {z : Int} (hz : -9223372036854775808 ≤ z ∧ z ≤ 9223372036854775807) (h : ∀ k : Nat, k < 64 → tb z k = false) : z = 0 := by
  have e : (Int64.ofInt z).toBitVec = 0#64 := by
    apply BitVec.eq_of_getLsbD_eq
    intro i hi
    rw [BitVec.getLsbD_zero]; exact h i hi
  have e2 : Int64.ofInt z = 0 := Int64.toBitVec.inj e
  have e3 := Int64.toInt_ofInt_of_le (n := z) (by omega) (by omega)
  rw [e2] at e3
  exact e3.symm
theorem lorL_rng (x y : Int) : -9223372036854775808 ≤ lorL x y ∧ lorL x y ≤ 9223372036854775807 := by
  have h1 := Int64.le_toInt (Int64.ofInt x ||| Int64.ofInt y)
  have h2 := Int64.toInt_lt (Int64.ofInt x ||| Int64.ofInt y)
  unfold lorL
  omega
theorem landL_rng (x y : Int) : -9223372036854775808 ≤ landL x y ∧ landL x y ≤ 9223372036854775807 := by
  have h1 := Int64.le_toInt (Int64.ofInt x &&& Int64.ofInt y)
  have h2 := Int64.toInt_lt (Int64.ofInt x &&& Int64.ofInt y)
  unfold landL
  omega
theorem tb_at {z m : Int} (hm : 0 ≤ m ∧ m ≤ 31) : landL (shrL z m) 1 = if tb z m.toNat then 1 else 0 := by
  have h := tb_and (z := z) (j := m.toNat) (by omega)
  rwa [show (m.toNat : Int) = m by omega] at h
theorem bit_T {z m : Int} (hm : 0 ≤ m ∧ m ≤ 31) (h : cmpL (landL (shrL z m) 1) 1 = 0) : tb z m.toNat = true := by
  have e := cmpL_eq.mp h
  rw [tb_at hm] at e
  cases q : tb z m.toNat with
  | true => rfl
  | false => rw [q] at e; cases e
theorem bit_F {z m : Int} (hm : 0 ≤ m ∧ m ≤ 31) (h : ¬ cmpL (landL (shrL z m) 1) 1 = 0) : tb z m.toNat = false := by
  cases q : tb z m.toNat with
  | false => rfl
  | true =>
    refine absurd (cmpL_eq.mpr ?_) h
    rw [tb_at hm, q]; rfl
theorem bit_T0 {z m : Int} (hm : 0 ≤ m ∧ m ≤ 31) (h : ¬ cmpL (landL (shrL z m) 1) 0 = 0) : tb z m.toNat = true := by
  cases q : tb z m.toNat with
  | true => rfl
  | false =>
    refine absurd (cmpL_eq.mpr ?_) h
    rw [tb_at hm, q]; rfl
theorem bit_F0 {z m : Int} (hm : 0 ≤ m ∧ m ≤ 31) (h : cmpL (landL (shrL z m) 1) 0 = 0) : tb z m.toNat = false := by
  have e := cmpL_eq.mp h
  rw [tb_at hm] at e
  cases q : tb z m.toNat with
  | false => rfl
  | true => rw [q] at e; cases e
def BSet (z : Int) (D : gd_T) (p w : Int) (Ex : List (Int × List Int)) (n : Int) : Prop := (-9223372036854775808 ≤ z ∧ z ≤ 9223372036854775807) ∧ ∀ k : Nat, k < 64 → (tb z k = true ↔ ((k : Int) < n ∧ meE (dSet D p (k : Int) w) Ex))
theorem BSet.o {D : gd_T} {p w : Int} {Ex : List (Int × List Int)} : BSet 0 D p w Ex 0 := ⟨by decide, fun k _ => ⟨fun q => absurd ((tb_zero k).symm.trans q) (by decide), fun q => by omega⟩⟩
theorem BSet.y {z m : Int} {D : gd_T} {p w : Int} {Ex : List (Int × List Int)} (h : BSet z D p w Ex m) (hm : 0 ≤ m ∧ m ≤ 31) (q : meE (dSet D p m w) Ex) : BSet (lorL z (shlL 1 m)) D p w Ex (m + 1) := by
  refine ⟨lorL_rng _ _, fun k hk => ?_⟩
  have e := tb_shl ⟨m.toNat, by omega⟩ ⟨k, hk⟩
  have e2 : tb (shlL 1 m) k = decide (k = m.toNat) := by
    rw [← e]
    show _ = tb (shlL 1 (m.toNat : Int)) k
    rw [show (m.toNat : Int) = m by omega]
  rw [tb_or, e2, Bool.or_eq_true, decide_eq_true_iff, h.2 k hk]
  constructor
  · rintro (z1 | z1)
    · exact ⟨by omega, z1.2⟩
    · exact ⟨by omega, by rw [show (k : Int) = m by omega]; exact q⟩
  · rintro ⟨z1, z2⟩
    by_cases c : k = m.toNat
    · exact Or.inr c
    · exact Or.inl ⟨by omega, z2⟩
theorem BSet.n {z m : Int} {D : gd_T} {p w : Int} {Ex : List (Int × List Int)} (h : BSet z D p w Ex m) (hm : 0 ≤ m ∧ m ≤ 31) (q : ¬ meE (dSet D p m w) Ex) : BSet (lorL z 0) D p w Ex (m + 1) := by
  refine ⟨lorL_rng _ _, fun k hk => ?_⟩
  rw [tb_or, tb_zero, Bool.or_false, h.2 k hk]
  constructor
  · rintro ⟨z1, z2⟩
    exact ⟨by omega, z2⟩
  · rintro ⟨z1, z2⟩
    by_cases c : (k : Int) = m
    · rw [c] at z2; exact absurd z2 q
    · exact ⟨by omega, z2⟩
theorem BSet.bit {z m : Int} {D : gd_T} {p w : Int} {Ex : List (Int × List Int)} (h : BSet z D p w Ex 32) (hm : 0 ≤ m ∧ m ≤ 31) : tb z m.toNat = true ↔ meE (dSet D p m w) Ex := by
  rw [h.2 m.toNat (by omega), show (m.toNat : Int) = m by omega]
  exact ⟨fun q => q.2, fun q => ⟨by omega, q⟩⟩
theorem fsR_pre {D : gd_T} {p w : Int} {Ex : List (Int × List Int)} (n : Nat) : ∀ (d i : Nat), i < (fsR D p w Ex n).length → (fsR D p w Ex (n + d)).getD i 0 = (fsR D p w Ex n).getD i 0 ∧ (fsR D p w Ex n).length ≤ (fsR D p w Ex (n + d)).length
  | 0, _, _ => ⟨rfl, Nat.le_refl _⟩
  | d + 1, i, h => by
    have ih := fsR_pre (D := D) (p := p) (w := w) (Ex := Ex) n d i h
    by_cases q : meE (dSet D p ((n + d : Nat) : Int) w) Ex
    · have e := fsR_y (D := D) (p := p) (j := w) (m := ((n + d : Nat) : Int)) (E := Ex) (by omega) q
      rw [show (((n + d : Nat) : Int) + 1).toNat = n + (d + 1) by omega, show ((n + d : Nat) : Int).toNat = n + d by omega] at e
      rw [e, getD_snoc, if_neg (by omega), List.length_append]
      exact ⟨ih.1, Nat.le_trans ih.2 (Nat.le_add_right _ _)⟩
    · have e := fsR_n (D := D) (p := p) (j := w) (m := ((n + d : Nat) : Int)) (E := Ex) (by omega) q
      rw [show (((n + d : Nat) : Int) + 1).toNat = n + (d + 1) by omega, show ((n + d : Nat) : Int).toNat = n + d by omega] at e
      rw [e]; exact ih
theorem fsR_0 {D : gd_T} {p w : Int} {Ex : List (Int × List Int)} : ∀ n : Nat, (∀ k : Nat, k < n → ¬ meE (dSet D p (k : Int) w) Ex) → fsR D p w Ex n = []
  | 0, _ => rfl
  | n + 1, h => by
    have e := fsR_n (D := D) (p := p) (j := w) (m := (n : Int)) (E := Ex) (by omega) (h n (Nat.lt_succ_self n))
    rw [show ((n : Int) + 1).toNat = n + 1 by omega, show (n : Int).toNat = n by omega] at e
    rw [e]; exact fsR_0 n fun k hk => h k (Nat.lt_succ_of_lt hk)
theorem BSet.none {z : Int} {D : gd_T} {p w : Int} {Ex : List (Int × List Int)} (h : BSet z D p w Ex 32) : z = 0 ↔ (fsL D p w Ex).length = 0 := by
  constructor
  · intro q
    unfold fsL
    rw [fsR_0 32]
    · rfl
    · intro k hk z2
      have z3 := (h.2 k (by omega)).mpr ⟨by omega, z2⟩
      rw [q, tb_zero] at z3; cases z3
  · intro q
    refine tb_ne h.1 fun k hk => ?_
    cases c : tb z k with
    | false => rfl
    | true =>
      obtain ⟨k1, k2⟩ := (h.2 k hk).mp c
      have e := fsR_y (D := D) (p := p) (j := w) (m := (k : Int)) (E := Ex) (by omega) k2
      rw [show ((k : Int) + 1).toNat = k + 1 by omega, show (k : Int).toNat = k by omega] at e
      have e2 := (fsR_pre (D := D) (p := p) (w := w) (Ex := Ex) (k + 1) (32 - (k + 1)) 0 (by rw [e, List.length_append]; exact Nat.lt_of_lt_of_le Nat.zero_lt_one (Nat.le_add_left _ _))).2
      rw [show k + 1 + (32 - (k + 1)) = 32 by omega, e, List.length_append] at e2
      have e3 : (fsR D p w Ex k).length + 1 ≤ (fsR D p w Ex 32).length := e2
      have q2 : (fsR D p w Ex 32).length = 0 := q
      omega
theorem fsL_first {D : gd_T} {p w m : Int} {Ex : List (Int × List Int)} (hm : 0 ≤ m ∧ m ≤ 31) (h0 : fsR D p w Ex m.toNat = []) (q : meE (dSet D p m w) Ex) : (fsL D p w Ex).getD 0 0 = m := by
  have e := fsR_y (D := D) (p := p) (j := w) (m := m) (E := Ex) hm.1 q
  rw [h0] at e
  have e2 := (fsR_pre (D := D) (p := p) (w := w) (Ex := Ex) (m + 1).toNat (32 - (m + 1).toNat) 0 (by rw [e]; exact Nat.zero_lt_one)).1
  rw [show (m + 1).toNat + (32 - (m + 1).toNat) = 32 by omega, e] at e2
  exact e2
theorem anS_small {D : gd_T} {p w : Int} {F : List Int} (h : F.length ≤ 1) : ∀ k : Nat, anS D p w F k = (-1, (F.length : Int))
  | 0 => rfl
  | k + 1 => by
    have ih := anS_small (D := D) (p := p) (w := w) h k
    have s := anS_s (D := D) (p := p) (j := w) (m := (k : Int)) (F := F) (by omega)
    rw [show ((k : Int) + 1).toNat = k + 1 by omega, show (k : Int).toNat = k by omega, ih] at s
    rw [s, if_neg]
    intro c
    have c2 : mxR (anR D p w F (k : Int)) F.length F.length < (F.length : Int) := c
    by_cases q : F.length = 0
    · rw [q] at c2
      have c3 : (0 : Int) < ((0 : Nat) : Int) := c2
      omega
    · have q1 : F.length = 1 := by omega
      rw [q1] at c2
      have c4 := mxR_ge (R := anR D p w F (k : Int)) (n := 1) 1 0 Nat.zero_lt_one
      have c5 : ctR (anR D p w F (k : Int)) (anR D p w F (k : Int) 0) 1 = 1 := by
        show (0 : Int) + (if anR D p w F (k : Int) 0 = anR D p w F (k : Int) 0 then 1 else 0) = 1
        rw [if_pos rfl]; rfl
      omega
def EXm (σ : sv_G) (Ex : List (Int × List Int)) : Prop := σ 195 28 = Ex.length ∧ ∀ i : Nat, i < Ex.length → σ 220 i = (Ex.getD i (0, [])).1 ∧ σ 221 i = (Ex.getD i (0, [])).2.length ∧ Sg σ 222 (20 * i) (Ex.getD i (0, [])).2
theorem EXm.fr {σ σ9 : sv_G} {Ex : List (Int × List Int)} (h : EXm σ Ex) (hf : ∀ b k, (220 ≤ b ∧ b ≤ 222) ∨ (b = 195 ∧ k = 28) → σ9 b k = σ b k) : EXm σ9 Ex := ⟨by rw [hf _ _ (by omega)]; exact h.1, fun i hi => ⟨by rw [hf _ _ (by omega)]; exact (h.2 i hi).1, by rw [hf _ _ (by omega)]; exact (h.2 i hi).2.1, (h.2 i hi).2.2.fr fun k => hf _ k (by omega)⟩⟩
def faI (D : gd_T) (Ex : List (Int × List Int)) (b m : Int) : Prop := yn b (∀ i : Nat, (i : Int) < m → spF D (Ex.getD i (0, [])).1 0 = (Ex.getD i (0, [])).2)
theorem faI.next {D : gd_T} {Ex : List (Int × List Int)} {b r m : Int} (h : faI D Ex b m) (hb : b ≠ 0) (hm : 0 ≤ m) (hr : yn r (spF D (Ex.getD m.toNat (0, [])).1 0 = (Ex.getD m.toNat (0, [])).2)) : faI D Ex r (m + 1) := by
  rcases hr with ⟨r1, r2⟩ | ⟨r1, r2⟩
  · refine Or.inl ⟨r1, fun i hi => ?_⟩
    by_cases c : (i : Int) = m
    · rw [show i = m.toNat by omega]; exact r2
    · exact h.y hb i (by omega)
  · exact Or.inr ⟨r1, fun z => r2 (z m.toNat (by omega))⟩
theorem faI.fin {D : gd_T} {Ex : List (Int × List Int)} {b m : Int} (h : faI D Ex b m) (hm : Ex.length ≤ m ∧ m ≤ Ex.length) : yn b (meE D Ex) := by
  rcases h with ⟨h1, h2⟩ | ⟨h1, h2⟩
  · refine Or.inl ⟨h1, fun e he => ?_⟩
    obtain ⟨i, i1, i2⟩ := mem_getD2 (d := (0, [])) he
    have z := h2 i (by omega)
    rw [i2] at z; exact z
  · refine Or.inr ⟨h1, fun z => h2 fun i hi => ?_⟩
    exact z _ (getD_mem2 (by omega))
theorem faI.zero {D : gd_T} {Ex : List (Int × List Int)} {b m : Int} (h : faI D Ex b m) (q : b = 0) (hm : m ≤ Ex.length) : ¬ meE D Ex := fun z => h.n q fun i hi => z _ (getD_mem2 (by omega))
def frQ (σ σ9 : sv_G) (a : Int) : Prop := ∀ b i, (b ≠ 195 ∨ (i ≠ 20 ∧ i ≠ 24)) → b ≠ 216 → b ≠ 218 → (b ≠ 203 ∨ i ≠ a) → (b ≠ 204 ∨ i ≠ a) → σ9 b i = σ b i
theorem RM.sets {σ τ : sv_G} {g p s w : Int} {D : gd_T} (hM : RM σ g D) (hp : 0 ≤ p ∧ p < gC D 1) (e3 : τ 203 (5 * g + p) = s / 2) (e4 : τ 204 (5 * g + p) = if s % 2 = 1 then w else -1) (hf : ∀ b i, 196 ≤ b → b ≤ 215 → (b ≠ 203 ∨ i ≠ 5 * g + p) → (b ≠ 204 ∨ i ≠ 5 * g + p) → τ b i = σ b i) : RM τ g (dSet D p s w) := by
  refine ⟨hM.1.fr2 ⟨rfl, rfl⟩ fun b k a _ => hf b k a (by omega) (by omega) (by omega), hM.2.1.set (by rw [hf _ _ (by decide) (by decide) (Or.inl (by decide)) (Or.inl (by decide))]; exact hM.2.1.1) (fun k hk => ?_) (fun k i q hk => hf _ _ (by omega) (by omega) (by omega) (by omega)), hM.2.2.1.fr2 ⟨rfl, rfl⟩ fun b k a _ => hf b k (by omega) (by omega) (by omega) (by omega), hM.2.2.2.fr2 ⟨rfl, rfl, rfl⟩ fun b k a a2 => hf b k (by omega) a2 (by omega) (by omega)⟩
  show _ = (if k = 4 then (if s % 2 = 1 then w else -1) else if k = 3 then s / 2 else gB D p k)
  by_cases q4 : k = 4
  · rw [if_pos q4, q4]; exact e4
  · rw [if_neg q4]
    by_cases q3 : k = 3
    · rw [if_pos q3, q3]; exact e3
    · rw [if_neg q3, hf _ _ (by omega) (by omega) (by omega) (by omega)]; exact hM.2.1.2 p k hp.1 hp.2 hk
theorem dSet_ok {D : gd_T} (hD : GDok D) {p s w : Int} (hp : 0 ≤ p ∧ p < gC D 1) (hs : 0 ≤ s ∧ s ≤ 31) (hw : 0 ≤ w ∧ w ≤ 199) : GDok (dSet D p s w) := dBs_ok hD (setB_ok (hD.2.2.2.2.2.2.2.1 p hp.1 hp.2) hs hw)
theorem moP.pre {σ τ σ9 : sv_G} {S : st_T} {r : Int} {o : op_T} (f : frM σ τ) (h : moP τ σ9 S r o) : moP σ σ9 S r o := ⟨h.1, h.2.1, h.2.2.1, f.tr h.2.2.2⟩
def frG1 (σ σ9 : sv_G) (a : Int) : Prop := ∀ b i, (b ≠ 195 ∨ (i ≠ 20 ∧ i ≠ 24)) → b ≠ 216 → b ≠ 218 → b ≠ 223 → b ≠ 224 → (b ≠ 203 ∨ i ≠ a) → (b ≠ 204 ∨ i ≠ a) → σ9 b i = σ b i
set_option maxRecDepth 100000 in
set_option maxHeartbeats 8000000 in
theorem kX8_isExample {E : sv_E} {σ : sv_G} {l e : List Int} {a : Int} (hl9 : SR σ l) (hlen : l.length ≤ 20) (he1 : σ 221 a = e.length) (he2 : Sg σ 222 (20 * a) e) (hel : e.length ≤ 20) (ha : 0 ≤ a ∧ a ≤ 19) : CT E MX8_isExample 0 [(vR 195), (vI a)] σ (PI fun r σ9 => σ9 = σ ∧ yn r (l = e)) := by
  refine CT.of (RX8, cX8_isExample, 4, (some .boolean), [], 0, 0, 0) rfl moX8_isExample (Nat.le_of_ble_eq_true rfl) (ls0 := [some (vR 195), some (vI a), none, none]) rfl ?_
  intro X Q C hR
  have h20 := hl9.1
  refine s_aload_n C dX8_isExample_0 rfl ?_
  refine s_getI (c := 8) (kz := 20) C fl_8_158 dX8_isExample_1 sh_195 rfl rfl (fun g1 => ?_)
  refine s_aload_n C dX8_isExample_4 rfl ?_
  refine s_getR (c := 8) C fl_8_85 dX8_isExample_5 sh_195 rfl rf_195_30 ?_
  refine s_iload_n C dX8_isExample_8 rfl ?_
  refine s_iald C dX8_isExample_9 sh_221 (by omega) (fun g9 => ?_)
  have J18 : ∀ (q0 : Int), (yn q0 (l.length = e.length)) → SW X E Q 0 0 18 [some (vR 195), some (vI a), none, none] [(vI q0)] σ := by
    intro q0 j18_0
    have hbj18_0 := j18_0.b
    refine s_istore_n (ls2 := [some (vR 195), some (vI a), some (vI q0), none]) C dX8_isExample_18 (by decide) rfl ?_
    refine s_iconst C dX8_isExample_19 ?_
    refine s_istore_n (ls2 := [some (vR 195), some (vI a), some (vI q0), some (vI 0)]) C dX8_isExample_20 (by decide) rfl ?_
    have L21 : ∀ (n : Nat) (f : Int) (m : Int), (20 - m).toNat < n → (0 ≤ m ∧ m ≤ l.length) → (aaI l e f m) → (0 ≤ f ∧ f ≤ 1) → SW X E Q 0 0 21 [some (vR 195), some (vI a), some (vI f), some (vI m)] [] σ := by
      intro n
      induction n with
      | zero => intro f m hm; exact absurd hm (Nat.not_lt_zero _)
      | succ n ih21 =>
        intro f m hm21 i21_0 i21_1 i21_2
        refine s_iload_n C dX8_isExample_21 rfl ?_
        refine s_aload_n C dX8_isExample_22 rfl ?_
        refine s_getI (c := 8) (kz := 20) C fl_8_158 dX8_isExample_23 sh_195 rfl rfl (fun g23 => ?_)
        have J65 : (yn (f) (l = e)) → SW X E Q 0 0 65 [some (vR 195), some (vI a), some (vI f), some (vI m)] [] σ := by
          intro  j65_0
          refine s_iload_n C dX8_isExample_65 rfl ?_
          refine s_zret C hR dX8_isExample_66 rfl (by exact j65_0.b) ⟨_, rfl, ?_⟩ (by decide)
          exact ⟨rfl, j65_0⟩
        refine s_icmp_ge (tgt := 65) C dX8_isExample_26 (by decide) (by omega) (by omega) (fun c26 => ?_) (fun c26 => ?_)
        · refine J65 ?_
          · exact i21_1.fin (by omega)
        · refine s_iload_n C dX8_isExample_29 rfl ?_
          refine s_if_eq (tgt := 65) C dX8_isExample_30 (by decide) (by omega) (fun c30 => ?_) (fun c30 => ?_)
          · refine J65 ?_
            · exact Or.inr ⟨by omega, i21_1.zero (by omega)⟩
          · have y30b : f ≠ 0 := by omega
            have hle := i21_1.len y30b
            have ew : σ 216 m = l.getD m.toNat 0 := by
              have z := hl9.2 m.toNat (by omega)
              rwa [show (0 : Int) + (m.toNat : Int) = m by omega] at z
            have eh : σ 222 (20 * a + m) = e.getD m.toNat 0 := by
              have z := he2 m.toNat (by omega)
              rwa [show (m.toNat : Int) = m by omega] at z
            refine s_aload_n C dX8_isExample_33 rfl ?_
            refine s_getR (c := 8) C fl_8_70 dX8_isExample_34 sh_195 rfl rf_195_21 ?_
            refine s_iload_n C dX8_isExample_37 rfl ?_
            refine s_iald C dX8_isExample_38 sh_216 (by omega) (fun g38 => ?_)
            refine s_aload_n C dX8_isExample_39 rfl ?_
            refine s_getR (c := 8) C fl_8_88 dX8_isExample_40 sh_195 rfl rf_195_31 ?_
            refine s_bipush C dX8_isExample_43 (by decide) ?_
            refine s_iload_n C dX8_isExample_45 rfl ?_
            refine s_imul C dX8_isExample_46 ?_
            refine s_iload_n C dX8_isExample_47 rfl ?_
            refine s_iadd C dX8_isExample_48 ?_
            refine s_iald C dX8_isExample_49 sh_222 (by omega) (fun g49 => ?_)
            have J58 : ∀ (c2 : Int), (aaI l e c2 (m + 1)) → (0 ≤ c2 ∧ c2 ≤ 1) → SW X E Q 0 0 58 [some (vR 195), some (vI a), some (vI f), some (vI m)] [(vI c2)] σ := by
              intro c2 j58_0 j58_1
              refine s_istore_n (ls2 := [some (vR 195), some (vI a), some (vI c2), some (vI m)]) C dX8_isExample_58 (by decide) rfl ?_
              obtain ⟨x3_59, ex3_59⟩ : ∃ y : Int, y = m + 1 := ⟨_, rfl⟩
              refine s_iinc (z2 := x3_59) (ls2 := [some (vR 195), some (vI a), some (vI c2), some (vI x3_59)]) C dX8_isExample_59 (by decide) rfl ex3_59 rfl ?_
              refine s_goto (tgt := 21) C dX8_isExample_62 (by decide) ?_
              refine ih21 c2 x3_59 (by omega) (by first | assumption | omega) ?_ (by first | assumption | omega)
              · rw [show x3_59 = m + 1 from ex3_59]; exact j58_0
            refine s_icmp_ne (tgt := 57) C dX8_isExample_50 (by decide) (by omega) (by omega) (fun c50 => ?_) (fun c50 => ?_)
            · refine s_iconst C dX8_isExample_57 ?_
              refine J58 0 ?_ (by first | assumption | omega)
              · exact aaI.no (by omega) (by omega)
            · refine s_iconst C dX8_isExample_53 ?_
              refine s_goto (tgt := 58) C dX8_isExample_54 (by decide) ?_
              refine J58 1 ?_ (by first | assumption | omega)
              · exact i21_1.one y30b (by omega) (by omega)
    refine L21 _ q0 0 (Nat.lt_succ_self _) (by first | assumption | omega) ?_ (by first | assumption | omega)
    · rcases j18_0 with ⟨q1, q2⟩ | ⟨q1, q2⟩
      · exact Or.inl ⟨q1, q2, fun i hi => by omega⟩
      · exact Or.inr ⟨q1, fun z => q2 z.1⟩
  refine s_icmp_ne (tgt := 17) C dX8_isExample_10 (by decide) (by omega) (by omega) (fun c10 => ?_) (fun c10 => ?_)
  · refine s_iconst C dX8_isExample_17 ?_
    refine J18 0 ?_
    · exact yn.zero (by omega)
  · refine s_iconst C dX8_isExample_13 ?_
    refine s_goto (tgt := 18) C dX8_isExample_14 (by decide) ?_
    refine J18 1 ?_
    · exact yn.one (by omega)
set_option maxRecDepth 100000 in
set_option maxHeartbeats 8000000 in
theorem kX8_fitsAll {E : sv_E} {σ : sv_G} {D : gd_T} {g : Int} (hD : GDok D) (hg : 0 ≤ g ∧ g ≤ 3) (hM9 : RM σ g D) {Ex : List (Int × List Int)} (hE9 : EXm σ Ex) (hE2 : Ex.length ≤ 20 ∧ ∀ e ∈ Ex, eOK e) : CT E MX8_fitsAll 5 [(vR 195), (vI g)] σ (PI fun r σ9 => frN σ σ9 ∧ yn r (meE D Ex)) := by
  refine CT.of (RX8, cX8_fitsAll, 5, (some .boolean), [], 5, 0, 0) rfl moX8_fitsAll (Nat.le_of_ble_eq_true rfl) (ls0 := [some (vR 195), some (vI g), none, none, none]) rfl ?_
  intro X Q C hR
  refine s_iconst C dX8_fitsAll_0 ?_
  refine s_istore_n (ls2 := [some (vR 195), some (vI g), some (vI 1), none, none]) C dX8_fitsAll_1 (by decide) rfl ?_
  refine s_iconst C dX8_fitsAll_2 ?_
  refine s_istore_n (ls2 := [some (vR 195), some (vI g), some (vI 1), some (vI 0), none]) C dX8_fitsAll_3 (by decide) rfl ?_
  have L4 : ∀ (n : Nat) (b : Int) (m : Int) (τ : sv_G), (20 - m).toNat < n → (0 ≤ m ∧ m ≤ Ex.length) → (faI D Ex b m) → (0 ≤ b ∧ b ≤ 1) → (frN σ τ) → SW X E Q 0 0 4 [some (vR 195), some (vI g), some (vI b), some (vI m), none] [] τ := by
    intro n
    induction n with
    | zero => intro b m τ hm; exact absurd hm (Nat.not_lt_zero _)
    | succ n ih4 =>
      intro b m τ hm4 i4_0 i4_1 i4_2 i4_3
      have hMt := hM9.fr fun b i q1 q2 => i4_3 b i (by omega) (by omega) (by omega)
      have hEt := hE9.fr fun b i q => i4_3 b i (by omega) (by omega) (by omega)
      have hEn := hEt.1
      have hEl := hE2.1
      refine s_iload_n C dX8_fitsAll_4 rfl ?_
      refine s_aload_n C dX8_fitsAll_5 rfl ?_
      refine s_getI (c := 8) (kz := 28) C fl_8_220 dX8_fitsAll_6 sh_195 rfl rfl (fun g6 => ?_)
      have J42 : (yn (b) (meE D Ex)) → SW X E Q 0 0 42 [some (vR 195), some (vI g), some (vI b), some (vI m), none] [] τ := by
        intro  j42_0
        refine s_iload_n C dX8_fitsAll_42 rfl ?_
        refine s_zret C hR dX8_fitsAll_43 rfl (by exact j42_0.b) ⟨_, rfl, ?_⟩ (by decide)
        exact ⟨i4_3, j42_0⟩
      refine s_icmp_ge (tgt := 42) C dX8_fitsAll_9 (by decide) (by omega) (by omega) (fun c9 => ?_) (fun c9 => ?_)
      · refine J42 ?_
        · exact i4_1.fin (by omega)
      · refine s_iload_n C dX8_fitsAll_12 rfl ?_
        refine s_if_eq (tgt := 42) C dX8_fitsAll_13 (by decide) (by omega) (fun c13 => ?_) (fun c13 => ?_)
        · refine J42 ?_
          · exact Or.inr ⟨by omega, i4_1.zero (by omega) (by omega)⟩
        · have eE := hEt.2 m.toNat (by omega)
          have eok := hE2.2 _ (getD_mem2 (l := Ex) (d := (0, [])) (i := m.toNat) (by omega))
          rw [show (m.toNat : Int) = m by omega] at eE
          have eo1 := eok.1
          have eo2 := eok.2.1
          refine s_aload_n C dX8_fitsAll_16 rfl ?_
          refine s_iload_n C dX8_fitsAll_17 rfl ?_
          refine s_aload_n C dX8_fitsAll_18 rfl ?_
          refine s_getR (c := 8) C fl_8_82 dX8_fitsAll_19 sh_195 rfl rf_195_29 ?_
          refine s_iload_n C dX8_fitsAll_22 rfl ?_
          refine s_iald C dX8_fitsAll_23 sh_220 (by omega) (fun g23 => ?_)
          refine s_iconst C dX8_fitsAll_24 ?_
          refine s_cV3i C dX8_fitsAll_25 lkX8_187 moX8_finds mvX8_finds (kX8_finds (by exact hD) (by exact hg) (by exact hMt) (by omega) (by decide)) sh_195 ⟨_, _, rfl⟩ (by decide) (Nat.le_of_ble_eq_true rfl) rfl (by decide) (fun r25 σ_25 hp25 => ?_)
          have hE25 := hEt.fr fun b i q => hp25.1 b i (by omega) (by omega) (by omega)
          have eE5 := hE25.2 m.toNat (by omega)
          rw [show (m.toNat : Int) = m by omega] at eE5
          refine s_istore (ls2 := [some (vR 195), some (vI g), some (vI b), some (vI m), some (vI r25)]) C dX8_fitsAll_28 (by decide) rfl ?_
          refine s_aload_n C dX8_fitsAll_30 rfl ?_
          refine s_iload_n C dX8_fitsAll_31 rfl ?_
          refine s_cV1i C dX8_fitsAll_32 lkX8_223 moX8_isExample mvX8_isExample (kX8_isExample (by exact hp25.2.1) (by exact (spF_ok hD _ _).2) (by exact eE5.2.1) (by exact eE5.2.2) (by exact eo2) (by omega)) sh_195 ⟨_, _, rfl⟩ (by decide) (Nat.le_of_ble_eq_true rfl) rfl (by decide) (kpI (fun r32 hp32 => ?_))
          have hb32 := (hp32).b
          refine s_istore_n (ls2 := [some (vR 195), some (vI g), some (vI r32), some (vI m), some (vI r25)]) C dX8_fitsAll_35 (by decide) rfl ?_
          obtain ⟨x3_36, ex3_36⟩ : ∃ y : Int, y = m + 1 := ⟨_, rfl⟩
          refine s_iinc (z2 := x3_36) (ls2 := [some (vR 195), some (vI g), some (vI r32), some (vI x3_36), some (vI r25)]) C dX8_fitsAll_36 (by decide) rfl ex3_36 rfl ?_
          refine s_goto (tgt := 4) C dX8_fitsAll_39 (by decide) ?_
          refine s_weak (ls2 := [some (vR 195), some (vI g), some (vI r32), some (vI x3_36), none]) (sv_wk_c (sv_wk_c (sv_wk_c (sv_wk_c (sv_wk_n sv_wk_0))))) ?_
          refine ih4 r32 x3_36 σ_25 (by omega) (by first | assumption | omega) ?_ (by first | assumption | omega) ?_
          · rw [show x3_36 = m + 1 from ex3_36]
            exact i4_1.next (by omega) (by omega) (by rw [← eE.1]; exact hp32)
          · exact i4_3.tr hp25.1
  refine L4 _ 1 0 σ (Nat.lt_succ_self _) (by first | assumption | omega) ?_ (by first | assumption | omega) ?_
  · exact Or.inl ⟨rfl, fun i hi => by omega⟩
  · exact fun _ _ _ _ _ => rfl
set_option maxRecDepth 100000 in
set_option maxHeartbeats 8000000 in
theorem kX8_sets {E : sv_E} {σ : sv_G} {a k w : Int} (ha : 0 ≤ a ∧ a ≤ 19) (hk : 0 ≤ k ∧ k ≤ 31) (hw : 0 ≤ w ∧ w ≤ 199) : CT E MX8_sets 0 [(vR 195), (vI a), (vI k), (vI w)] σ (PV fun σ9 => σ9 = up (up σ 203 a (k / 2)) 204 a (if k % 2 = 1 then w else -1)) := by
  refine CT.of (RX8, cX8_sets, 4, none, [], 0, 0, 0) rfl moX8_sets (Nat.le_of_ble_eq_true rfl) (ls0 := [some (vR 195), some (vI a), some (vI k), some (vI w)]) rfl ?_
  intro X Q C hR
  refine s_aload_n C dX8_sets_0 rfl ?_
  refine s_getR (c := 8) C fl_8_31 dX8_sets_1 sh_195 rfl rf_195_7 ?_
  refine s_iload_n C dX8_sets_4 rfl ?_
  refine s_iload_n C dX8_sets_5 rfl ?_
  refine s_iconst C dX8_sets_6 ?_
  refine s_idiv C dX8_sets_7 (by omega) (by omega) ?_
  refine s_iast C dX8_sets_8 sh_203 (by omega) (by omega) ?_
  refine s_nameG (fun σ_8 hσ_8 => ?_)
  refine s_aload_n C dX8_sets_9 rfl ?_
  refine s_getR (c := 8) C fl_8_34 dX8_sets_10 sh_195 rfl rf_195_8 ?_
  refine s_iload_n C dX8_sets_13 rfl ?_
  refine s_iload_n C dX8_sets_14 rfl ?_
  refine s_iconst C dX8_sets_15 ?_
  refine s_irem C dX8_sets_16 (by omega) (by omega) ?_
  refine s_iconst C dX8_sets_17 ?_
  have J26 : ∀ (v : Int), (v = if k % 2 = 1 then w else -1) → (-1 ≤ v ∧ v ≤ 199) → SW X E Q 0 0 26 [some (vR 195), some (vI a), some (vI k), some (vI w)] [(vI v), (vI a), (vR 204)] σ_8 := by
    intro v j26_0 j26_1
    refine s_iast C dX8_sets_26 sh_204 (by omega) (by omega) ?_
    refine s_nameG (fun σ_26 hσ_26 => ?_)
    refine s_vret C hR dX8_sets_27 rfl ⟨rfl, ?_⟩ (by decide)
    rw [hσ_26, hσ_8, j26_0]
  refine s_icmp_ne (tgt := 25) C dX8_sets_18 (by decide) (by omega) (by omega) (fun c18 => ?_) (fun c18 => ?_)
  · refine s_iconst C dX8_sets_25 ?_
    refine J26 (-1) ?_ (by first | assumption | omega)
    · rw [if_neg (by omega)]
  · refine s_iload_n C dX8_sets_21 rfl ?_
    refine s_goto (tgt := 26) C dX8_sets_22 (by decide) ?_
    refine J26 w ?_ (by first | assumption | omega)
    · rw [if_pos (by omega)]
set_option maxRecDepth 100000 in
set_option maxHeartbeats 8000000 in
theorem kX8_fitting {E : sv_E} {σ : sv_G} {D : gd_T} {g : Int} (hD : GDok D) (hg : 0 ≤ g ∧ g ≤ 3) (hM9 : RM σ g D) {Ex : List (Int × List Int)} (hE9 : EXm σ Ex) (hE2 : Ex.length ≤ 20 ∧ ∀ e ∈ Ex, eOK e) {p w a : Int} (hp9 : 0 ≤ p ∧ p < gC D 1) (hw : 0 ≤ w ∧ w ≤ 199) (ha9 : a = 5 * g + p) : CT E MX8_fitting 6 [(vR 195), (vI g), (vI a), (vI w)] σ (PL fun r σ9 => frN σ σ9 ∧ BSet r D p w Ex 32) := by
  refine CT.of (RX8, cX8_fitting, 9, (some .long), [], 6, 0, 0) rfl moX8_fitting (Nat.le_of_ble_eq_true rfl) (ls0 := [some (vR 195), some (vI g), some (vI a), some (vI w), none, none, none, none, none]) rfl ?_
  intro X Q C hR
  have hn1 := hD.2.2.2.1
  refine s_aload_n C dX8_fitting_0 rfl ?_
  refine s_getR (c := 8) C fl_8_31 dX8_fitting_1 sh_195 rfl rf_195_7 ?_
  refine s_iload_n C dX8_fitting_4 rfl ?_
  refine s_iald C dX8_fitting_5 sh_203 (by omega) (fun g5 => ?_)
  refine s_topI (fun x4_6 ex4_6 => ?_)
  refine s_istore (ls2 := [some (vR 195), some (vI g), some (vI a), some (vI w), some (vI x4_6), none, none, none, none]) C dX8_fitting_6 (by decide) rfl ?_
  refine s_aload_n C dX8_fitting_8 rfl ?_
  refine s_getR (c := 8) C fl_8_34 dX8_fitting_9 sh_195 rfl rf_195_8 ?_
  refine s_iload_n C dX8_fitting_12 rfl ?_
  refine s_iald C dX8_fitting_13 sh_204 (by omega) (fun g13 => ?_)
  refine s_topI (fun x5_14 ex5_14 => ?_)
  refine s_istore (ls2 := [some (vR 195), some (vI g), some (vI a), some (vI w), some (vI x4_6), some (vI x5_14), none, none, none]) C dX8_fitting_14 (by decide) rfl ?_
  refine s_lconst C dX8_fitting_16 ?_
  refine s_lstore (ls2 := [some (vR 195), some (vI g), some (vI a), some (vI w), some (vI x4_6), some (vI x5_14), some (vL 0), none, none]) C dX8_fitting_17 (by decide) rfl ?_
  refine s_iconst C dX8_fitting_19 ?_
  refine s_istore (ls2 := [some (vR 195), some (vI g), some (vI a), some (vI w), some (vI x4_6), some (vI x5_14), some (vL 0), none, some (vI 0)]) C dX8_fitting_20 (by decide) rfl ?_
  have L22 : ∀ (n : Nat) (z : Int) (m : Int) (τ : sv_G), (32 - m).toNat < n → (0 ≤ m ∧ m ≤ 32) → (BSet z D p w Ex m) → (frQ σ τ a) → SW X E Q 0 0 22 [some (vR 195), some (vI g), some (vI a), some (vI w), some (vI x4_6), some (vI x5_14), some (vL z), none, some (vI m)] [] τ := by
    intro n
    induction n with
    | zero => intro z m τ hm; exact absurd hm (Nat.not_lt_zero _)
    | succ n ih22 =>
      intro z m τ hm22 i22_0 i22_1 i22_2
      refine s_iload C dX8_fitting_22 rfl ?_
      refine s_bipush C dX8_fitting_24 (by decide) ?_
      refine s_icmp_ge (tgt := 64) C dX8_fitting_26 (by decide) (by omega) (by omega) (fun c26 => ?_) (fun c26 => ?_)
      · refine s_aload_n C dX8_fitting_64 rfl ?_
        refine s_getR (c := 8) C fl_8_31 dX8_fitting_65 sh_195 rfl rf_195_7 ?_
        refine s_iload_n C dX8_fitting_68 rfl ?_
        refine s_iload C dX8_fitting_69 rfl ?_
        refine s_iast C dX8_fitting_71 sh_203 (by omega) (by omega) ?_
        refine s_nameG (fun σ_71 hσ_71 => ?_)
        refine s_aload_n C dX8_fitting_72 rfl ?_
        refine s_getR (c := 8) C fl_8_34 dX8_fitting_73 sh_195 rfl rf_195_8 ?_
        refine s_iload_n C dX8_fitting_76 rfl ?_
        refine s_iload C dX8_fitting_77 rfl ?_
        refine s_iast C dX8_fitting_79 sh_204 (by omega) (by omega) ?_
        refine s_nameG (fun σ_79 hσ_79 => ?_)
        refine s_lload C dX8_fitting_80 rfl ?_
        refine s_lret C hR dX8_fitting_82 rfl ⟨_, rfl, ?_⟩ (by decide)
        refine ⟨fun b i q1 q2 q3 => ?_, by rw [show (32 : Int) = m by omega]; exact i22_1⟩
        rw [hσ_79]
        by_cases c4 : b = 204 ∧ i = a
        · rw [c4.1, c4.2, up_s]; exact ex5_14
        · rw [up_n (by omega), hσ_71]
          by_cases c3 : b = 203 ∧ i = a
          · rw [c3.1, c3.2, up_s]; exact ex4_6
          · rw [up_n (by omega)]; exact i22_2 b i q1 q2 q3 (by omega) (by omega)
      · refine s_aload_n C dX8_fitting_29 rfl ?_
        refine s_iload_n C dX8_fitting_30 rfl ?_
        refine s_iload C dX8_fitting_31 rfl ?_
        refine s_iload_n C dX8_fitting_33 rfl ?_
        refine s_cV3v C dX8_fitting_34 lkX8_226 moX8_sets mvX8_sets (kX8_sets (by omega) (by omega) (by omega)) sh_195 ⟨_, _, rfl⟩ (by decide) (Nat.le_of_ble_eq_true rfl) rfl (by decide) (fun σ_34 hp34 => ?_)
        have f34 : frQ σ σ_34 a := fun b i q1 q2 q3 q4 q5 => by rw [hp34, up_n q5, up_n q4]; exact i22_2 b i q1 q2 q3 q4 q5
        have hM34 : RM σ_34 g (dSet D p m w) := hM9.sets hp9 (by rw [hp34, ← ha9, up_a (by decide), up_s]) (by rw [hp34, ← ha9, up_s]) fun b i q1 q2 q3 q4 => f34 b i (by omega) (by omega) (by omega) (by omega) (by omega)
        have hE34 := hE9.fr fun b i q => f34 b i (by omega) (by omega) (by omega) (by omega) (by omega)
        have hDs := dSet_ok hD hp9 (s := m) (w := w) (by omega) hw
        refine s_lload C dX8_fitting_37 rfl ?_
        refine s_aload_n C dX8_fitting_39 rfl ?_
        refine s_iload_n C dX8_fitting_40 rfl ?_
        refine s_cV1i C dX8_fitting_41 lkX8_230 moX8_fitsAll mvX8_fitsAll (kX8_fitsAll (by exact hDs) (by exact hg) (by exact hM34) (by exact hE34) (by exact hE2)) sh_195 ⟨_, _, rfl⟩ (by decide) (Nat.le_of_ble_eq_true rfl) rfl (by decide) (fun r41 σ_41 hp41 => ?_)
        have hb41 := (hp41.2).b
        have f41 : frQ σ σ_41 a := fun b i q1 q2 q3 q4 q5 => (hp41.1 b i q1 q2 q3).trans (f34 b i q1 q2 q3 q4 q5)
        have J55 : ∀ (e : Int), ((meE (dSet D p m w) Ex ∧ e = shlL 1 m) ∨ (¬ meE (dSet D p m w) Ex ∧ e = 0)) → SW X E Q 0 0 55 [some (vR 195), some (vI g), some (vI a), some (vI w), some (vI x4_6), some (vI x5_14), some (vL z), none, some (vI m)] [(vL e), (vL z)] σ_41 := by
          intro e j55_0
          refine s_lor C dX8_fitting_55 ?_
          refine s_topL (fun x6_56 ex6_56 => ?_)
          refine s_lstore (ls2 := [some (vR 195), some (vI g), some (vI a), some (vI w), some (vI x4_6), some (vI x5_14), some (vL x6_56), none, some (vI m)]) C dX8_fitting_56 (by decide) rfl ?_
          obtain ⟨x8_58, ex8_58⟩ : ∃ y : Int, y = m + 1 := ⟨_, rfl⟩
          refine s_iinc (z2 := x8_58) (ls2 := [some (vR 195), some (vI g), some (vI a), some (vI w), some (vI x4_6), some (vI x5_14), some (vL x6_56), none, some (vI x8_58)]) C dX8_fitting_58 (by decide) rfl ex8_58 rfl ?_
          refine s_goto (tgt := 22) C dX8_fitting_61 (by decide) ?_
          refine ih22 x6_56 x8_58 σ_41 (by omega) (by first | assumption | omega) ?_ ?_
          · rw [show x8_58 = m + 1 from ex8_58, ex6_56]
            rcases j55_0 with ⟨q1, q2⟩ | ⟨q1, q2⟩
            · rw [q2]; exact i22_1.y (by omega) q1
            · rw [q2]; exact i22_1.n (by omega) q1
          · exact f41
        refine s_if_eq (tgt := 54) C dX8_fitting_44 (by decide) (by omega) (fun c44 => ?_) (fun c44 => ?_)
        · have y44 := (hp41.2).n (by omega)
          refine s_lconst C dX8_fitting_54 ?_
          refine J55 0 ?_
          · exact Or.inr ⟨y44, rfl⟩
        · have y44 := (hp41.2).y (by omega)
          refine s_lconst C dX8_fitting_47 ?_
          refine s_iload C dX8_fitting_48 rfl ?_
          refine s_lshl C dX8_fitting_50 ?_
          refine s_goto (tgt := 55) C dX8_fitting_51 (by decide) ?_
          refine J55 (shlL 1 m) ?_
          · exact Or.inl ⟨y44, rfl⟩
  refine L22 _ 0 0 σ (Nat.lt_succ_self _) (by first | assumption | omega) ?_ ?_
  · exact BSet.o
  · exact fun _ _ _ _ _ _ _ => rfl
set_option maxRecDepth 100000 in
set_option maxHeartbeats 8000000 in
theorem kX8_many {E : sv_E} {σ : sv_G} {D : gd_T} {z p w : Int} {Ex : List (Int × List Int)} (hz9 : BSet z D p w Ex 32) : CT E MX8_many 0 [(vL z)] σ (PI fun r σ9 => σ9 = σ ∧ r = (fsL D p w Ex).length) := by
  refine CT.of (RX8, cX8_many, 4, (some .int), [], 0, 0, 0) rfl moX8_many (Nat.le_of_ble_eq_true rfl) (ls0 := [some (vL z), none, none, none]) rfl ?_
  intro X Q C hR
  refine s_iconst C dX8_many_0 ?_
  refine s_istore_n (ls2 := [some (vL z), none, some (vI 0), none]) C dX8_many_1 (by decide) rfl ?_
  refine s_iconst C dX8_many_2 ?_
  refine s_istore_n (ls2 := [some (vL z), none, some (vI 0), some (vI 0)]) C dX8_many_3 (by decide) rfl ?_
  have L4 : ∀ (n : Nat) (s : Int) (m : Int), (32 - m).toNat < n → (0 ≤ m ∧ m ≤ 32) → (s = (fsR D p w Ex m.toNat).length) → (0 ≤ s ∧ s ≤ m) → SW X E Q 0 0 4 [some (vL z), none, some (vI s), some (vI m)] [] σ := by
    intro n
    induction n with
    | zero => intro s m hm; exact absurd hm (Nat.not_lt_zero _)
    | succ n ih4 =>
      intro s m hm4 i4_0 i4_1 i4_2
      refine s_iload_n C dX8_many_4 rfl ?_
      refine s_bipush C dX8_many_5 (by decide) ?_
      refine s_icmp_ge (tgt := 25) C dX8_many_7 (by decide) (by omega) (by omega) (fun c7 => ?_) (fun c7 => ?_)
      · refine s_iload_n C dX8_many_25 rfl ?_
        refine s_iret C hR dX8_many_26 rfl ⟨_, rfl, ?_⟩ (by decide)
        refine ⟨rfl, ?_⟩
        rw [i4_1, show m.toNat = 32 by omega]; rfl
      · refine s_iload_n C dX8_many_10 rfl ?_
        refine s_lload_n C dX8_many_11 rfl ?_
        refine s_iload_n C dX8_many_12 rfl ?_
        refine s_lshr C dX8_many_13 ?_
        refine s_lconst C dX8_many_14 ?_
        refine s_land C dX8_many_15 ?_
        refine s_l2i C dX8_many_16 ?_
        refine s_iadd C dX8_many_17 ?_
        refine s_topI (fun x2_18 ex2_18 => ?_)
        refine s_istore_n (ls2 := [some (vL z), none, some (vI x2_18), some (vI m)]) C dX8_many_18 (by decide) rfl ?_
        have hs9 : x2_18 = s + (if tb z m.toNat then 1 else 0) := by rw [ex2_18]; exact congrArg (fun q => s + q) (tb_at (z := z) (m := m) (by omega))
        have hbt := hz9.bit (m := m) (by omega)
        have hnx : x2_18 = ((fsR D p w Ex (m + 1).toNat).length : Int) := by
          by_cases q : meE (dSet D p m w) Ex
          · rw [fsR_y i4_0.1 q, List.length_append, hs9, hbt.mpr q, i4_1]; rfl
          · rw [fsR_n i4_0.1 q, hs9, if_neg (fun c => q (hbt.mp c)), i4_1, Int.add_zero]
        have hs8 : x2_18 = s ∨ x2_18 = s + 1 := by
          rw [hs9]
          by_cases q : tb z m.toNat = true
          · rw [if_pos q]; exact Or.inr rfl
          · rw [if_neg q]; exact Or.inl (Int.add_zero _)
        obtain ⟨x3_19, ex3_19⟩ : ∃ y : Int, y = m + 1 := ⟨_, rfl⟩
        refine s_iinc (z2 := x3_19) (ls2 := [some (vL z), none, some (vI x2_18), some (vI x3_19)]) C dX8_many_19 (by decide) rfl ex3_19 rfl ?_
        refine s_goto (tgt := 4) C dX8_many_22 (by decide) ?_
        refine ih4 x2_18 x3_19 (by omega) (by first | assumption | omega) ?_ (by first | assumption | omega)
        · rw [show x3_19 = m + 1 from ex3_19]; exact hnx
  refine L4 _ 0 0 (Nat.lt_succ_self _) (by first | assumption | omega) ?_ (by first | assumption | omega)
  · rfl

set_option maxRecDepth 100000 in
set_option maxHeartbeats 8000000 in
theorem kX8_settings {E : sv_E} {σ : sv_G} {S : st_T} (hS : StOK S) (hO : RO σ S) {x : Int} (hx : -2147483648 ≤ x ∧ x ≤ 2147483647) {y : Int} (hy : -2147483648 ≤ y ∧ y ≤ 2147483647) {z : Int} (hz : -2147483648 ≤ z ∧ z ≤ 2147483647) : CT E MX8_settings 7 [(vR 195), (vI x), (vI y), (vI z)] σ (PI fun r σ9 => moP σ σ9 S r (op_settings S x y z)) := by
  refine CT.of (RX8, cX8_settings, 4, (some .int), [], 7, 0, 0) rfl moX8_settings (Nat.le_of_ble_eq_true rfl) (ls0 := [some (vR 195), some (vI x), some (vI y), some (vI z)]) rfl ?_
  intro X Q C hR
  have hb9 : ∀ g, 0 ≤ g → g ≤ 3 → σ 199 g = gC (sD S g) 1 ∧ 0 ≤ gC (sD S g) 1 ∧ gC (sD S g) 1 ≤ 5 := fun g a b => ⟨(hO.1 g a b).2.1.1, (hS.1 g a b).2.2.2.1⟩
  refine s_aload_n C dX8_settings_0 rfl ?_
  refine s_aload_n C dX8_settings_1 rfl ?_
  refine s_iload_n C dX8_settings_2 rfl ?_
  refine s_iload_n C dX8_settings_3 rfl ?_
  refine s_cV2i C dX8_settings_4 lkX8_131 moX8_isBase mvX8_isBase (kX8_isBase (N9 := sD S) hb9 (by omega) (by omega)) sh_195 ⟨_, _, rfl⟩ (by decide) (Nat.le_of_ble_eq_true rfl) rfl (by decide) (kpI (fun r4 hp4 => ?_))
  have hb4 := (hp4).b
  have J22 : ∀ (c : Int), (c = (op_settings S x y z).1) → (0 ≤ c ∧ c ≤ 3) → SW X E Q 0 0 22 [some (vR 195), some (vI x), some (vI y), some (vI z)] [(vI c), (vR 195)] σ := by
    intro c j22_0 j22_1
    refine s_cV1i C dX8_settings_22 lkX8_128 moX8_can mvX8_can (kX8_can (by omega)) sh_195 ⟨_, _, rfl⟩ (by decide) (Nat.le_of_ble_eq_true rfl) rfl (by decide) (fun r22 σ_22 hp22 => ?_)
    have hb22 := (hp22.2).b
    have hO2 := hO.t (can_T2 hp22.1)
    refine s_if_ne (tgt := 30) C dX8_settings_25 (by decide) (by omega) (fun c25 => ?_) (fun c25 => ?_)
    · have y25 := (hp22.2).y (by omega)
      have h0 : (op_settings S x y z).1 = 0 := by rw [← j22_0]; exact y25
      have hk := ifc1 (show (if ¬ ((0 ≤ x ∧ x ≤ 3 ∧ 0 ≤ y ∧ y < gC (sD S x) 1) ∧ 0 ≤ z ∧ z ≤ 199) then 1 else 0 : Int) = 0 from h0)
      have h37 : σ_22 195 37 = 0 := by rw [hp22.1, up_s]; exact y25
      have hD := hS.1 x (by omega) (by omega)
      have hM := hO2.1 x (by omega) (by omega)
      have hn0 := hD.2.2.1
      have hn1 := hD.2.2.2.1
      have hn2 := hD.2.2.2.2.1
      have hn3 := hD.2.2.2.2.2.1
      have hn4 := hD.2.2.2.2.2.2.1
      refine s_aload_n C dX8_settings_30 rfl ?_
      refine s_iload_n C dX8_settings_31 rfl ?_
      refine s_iconst C dX8_settings_32 ?_
      refine s_iload_n C dX8_settings_33 rfl ?_
      refine s_imul C dX8_settings_34 ?_
      refine s_iload_n C dX8_settings_35 rfl ?_
      refine s_iadd C dX8_settings_36 ?_
      refine s_iload_n C dX8_settings_37 rfl ?_
      refine s_cV3l C dX8_settings_38 lkX8_233 moX8_fitting mvX8_fitting (kX8_fitting (p := y) (by exact hD) (by omega) (by exact hM) (by exact hO2.2.2.2.1) (by exact hS.2.2.2.1) (by omega) (by omega) (by rfl)) sh_195 ⟨_, _, rfl⟩ (by decide) (Nat.le_of_ble_eq_true rfl) rfl (by decide) (fun r38 σ_38 hp38 => ?_)
      refine s_cS1i C dX8_settings_41 lkX8_237 moX8_many mvX8_many (kX8_many (by exact hp38.2)) (by decide) (Nat.le_of_ble_eq_true rfl) rfl (by decide) (kpI (fun r41 hp41 => ?_))
      refine s_iret C hR dX8_settings_44 rfl ⟨_, rfl, ?_⟩ (by decide)
      exact moP.yes h0 (by rw [hp38.1 _ _ (by decide) (by decide) (by decide)]; exact h37) (show _ = ((fsL (sD S x) y z (sE S)).length : Int) from hp41) (hO2.t hp38.1.T2) ((can_T2 hp22.1).M.tr hp38.1.T2.M)
    · have y25 := (hp22.2).n (by omega)
      refine s_iconst C dX8_settings_28 ?_
      refine s_iret C hR dX8_settings_29 rfl ⟨_, rfl, ?_⟩ (by decide)
      exact moP.no hO hp22.1 j22_0 y25
  refine s_if_eq (tgt := 21) C dX8_settings_7 (by decide) (by omega) (fun c7 => ?_) (fun c7 => ?_)
  · have y7 := (hp4).n (by omega)
    refine s_iconst C dX8_settings_21 ?_
    refine J22 1 ?_ (by first | assumption | omega)
    · unfold op_settings; dsimp only; (repeat' split) <;> omega
  · have y7 := (hp4).y (by omega)
    refine s_iload_n C dX8_settings_10 rfl ?_
    refine s_cS1i C dX8_settings_11 lkX8_118 moX8_isWord mvX8_isWord (kX8_isWord (by omega)) (by decide) (Nat.le_of_ble_eq_true rfl) rfl (by decide) (kpI (fun r11 hp11 => ?_))
    have hb11 := (hp11).b
    refine s_if_eq (tgt := 21) C dX8_settings_14 (by decide) (by omega) (fun c14 => ?_) (fun c14 => ?_)
    · have y14 := (hp11).n (by omega)
      refine s_iconst C dX8_settings_21 ?_
      refine J22 1 ?_ (by first | assumption | omega)
      · unfold op_settings; dsimp only; (repeat' split) <;> omega
    · have y14 := (hp11).y (by omega)
      refine s_iconst C dX8_settings_17 ?_
      refine s_goto (tgt := 22) C dX8_settings_18 (by decide) ?_
      refine J22 0 ?_ (by first | assumption | omega)
      · unfold op_settings; dsimp only; (repeat' split) <;> omega
