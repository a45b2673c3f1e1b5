/-! The law's loop, and the state behind the constructors. -/
set_option maxRecDepth 100000 in
set_option maxHeartbeats 8000000 in
theorem law_loop {X : sx_T} {E : sv_E} {Q : State → Prop} {L : Nat} {xs : Nat → Int32} {tb9 : List ExceptionTableEntry} (C : sx_ok X E (DL tb9)) (hX : sv_X X E L xs) (hL : L ≤ 3072) (hend : ∀ (σ : sv_G) (i : Int), SW X E Q 601024 7293034 2384 (lsL i) [vI 1] σ) : ∀ (d j : Nat) (σ : sv_G) (S : st_T), L < 6 * j + 6 * d → (j = 0 ∨ 6 * j ≤ L) → StOK S → RN σ S → RO σ S → SW X E Q (229 + 6 * j) (31392 + 36 * j) 23 (lsL ((6 * j : Nat) : Int)) [] σ := by
  intro d
  induction d with
  | zero => intro j σ S h1 h2; exfalso; omega
  | succ d ih =>
    intro j σ S h1 h2 hS hN hO
    have J : ∀ (σ9 : sv_G) (S9 : st_T), StOK S9 → RN σ9 S9 → RO σ9 S9 → 6 * j + 6 ≤ L → SW X E Q (229 + 6 * j + 6) (31392 + 36 * j + 36) 2377 (lsL ((6 * j : Nat) : Int)) [] σ9 := fun σ9 S9 g1 g2 g3 g4 => by
      refine s_iinc (z2 := ((6 * (j + 1) : Nat) : Int)) (ls2 := lsL ((6 * (j + 1) : Nat) : Int)) C dL_law_2377 (show 4 < 7 by decide) rfl (by omega) rfl ?_
      refine s_goto (tgt := 23) C dL_law_2380 (by decide) ?_
      have h := ih (j + 1) σ9 S9 (by omega) (by omega) g1 g2 g3
      rw [show 229 + 6 * (j + 1) = 229 + 6 * j + 6 by omega, show 31392 + 36 * (j + 1) = 31392 + 36 * j + 36 by omega] at h
      exact h
    refine s_iload C dL_law_23 rfl ?_
    refine s_aloadS_n C dL_law_25 rfl ?_
    refine s_slen C hX dL_law_26 ?_
    refine s_bipush C dL_law_27 (by decide) ?_
    refine s_isub C dL_law_29 ?_
    refine s_icmp_gt (tgt := 2383) C dL_law_30 (by decide) (by omega) (by omega) (fun c30 => ?_) (fun c30 => ?_)
    · refine s_iconst C dL_law_2383 ?_
      exact s_widen (by omega) (by omega) (hend _ _)
    · have hi6 : 6 * j + 6 ≤ L := by omega
      have J2 := fun σ9 S9 g1 g2 g3 => J σ9 S9 g1 g2 g3 hi6
      refine s_aloadS_n C dL_law_33 rfl ?_
      refine s_iload C dL_law_34 rfl ?_
      refine s_sld C hX (by omega) dL_law_36 (by omega) ?_
      refine s_bipush C dL_law_37 (by decide) ?_
      refine s_iand C dL_law_39 ?_
      refine s_topI (fun sw esw => ?_)
      have hsr : -2147483648 ≤ sw ∧ sw ≤ 2147483647 := by rw [esw]; exact i32_rng _
      have hsw : sw = 0 ∨ sw = 1 ∨ sw = 2 ∨ sw = 3 ∨ sw = 4 ∨ sw = 5 ∨ sw = 6 ∨ sw = 7 ∨ sw = 8 ∨ sw = 9 ∨ sw = 10 ∨ sw = 11 ∨ sw = 12 ∨ sw = 13 ∨ sw = 14 ∨ sw = 15 ∨ sw = 16 ∨ sw = 17 ∨ sw = 18 ∨ sw = 19 ∨ sw = 20 ∨ sw = 21 ∨ sw = 22 ∨ sw = 23 ∨ sw = 24 ∨ sw = 25 ∨ sw = 26 ∨ sw = 27 ∨ sw = 28 ∨ sw = 29 ∨ sw = 30 ∨ sw = 31 ∨ sw = 32 ∨ (sw < 0 ∨ 32 < sw) := by omega
      rcases hsw with hd | hd | hd | hd | hd | hd | hd | hd | hd | hd | hd | hd | hd | hd | hd | hd | hd | hd | hd | hd | hd | hd | hd | hd | hd | hd | hd | hd | hd | hd | hd | hd | hd | hd
      · refine s_tsIn (tgt := 188) C dL_law_40 hsr (by rw [hd]; decide) (by rw [hd]; decide) (by rw [hd]; rfl) (by decide) ?_
        exact law_0 C hX (by omega) ⟨by omega, by omega⟩ ⟨by omega, by omega⟩ hS hN hO J2
      · refine s_tsIn (tgt := 268) C dL_law_40 hsr (by rw [hd]; decide) (by rw [hd]; decide) (by rw [hd]; rfl) (by decide) ?_
        exact law_1 C hX (by omega) ⟨by omega, by omega⟩ ⟨by omega, by omega⟩ hS hN hO J2
      · refine s_tsIn (tgt := 336) C dL_law_40 hsr (by rw [hd]; decide) (by rw [hd]; decide) (by rw [hd]; rfl) (by decide) ?_
        exact law_2 C hX (by omega) ⟨by omega, by omega⟩ ⟨by omega, by omega⟩ hS hN hO J2
      · refine s_tsIn (tgt := 440) C dL_law_40 hsr (by rw [hd]; decide) (by rw [hd]; decide) (by rw [hd]; rfl) (by decide) ?_
        exact law_3 C hX (by omega) ⟨by omega, by omega⟩ ⟨by omega, by omega⟩ hS hN hO J2
      · refine s_tsIn (tgt := 520) C dL_law_40 hsr (by rw [hd]; decide) (by rw [hd]; decide) (by rw [hd]; rfl) (by decide) ?_
        exact law_4 C hX (by omega) ⟨by omega, by omega⟩ ⟨by omega, by omega⟩ hS hN hO J2
      · refine s_tsIn (tgt := 612) C dL_law_40 hsr (by rw [hd]; decide) (by rw [hd]; decide) (by rw [hd]; rfl) (by decide) ?_
        exact law_5 C hX (by omega) ⟨by omega, by omega⟩ ⟨by omega, by omega⟩ hS hN hO J2
      · refine s_tsIn (tgt := 704) C dL_law_40 hsr (by rw [hd]; decide) (by rw [hd]; decide) (by rw [hd]; rfl) (by decide) ?_
        exact law_6 C hX (by omega) ⟨by omega, by omega⟩ ⟨by omega, by omega⟩ hS hN hO J2
      · refine s_tsIn (tgt := 772) C dL_law_40 hsr (by rw [hd]; decide) (by rw [hd]; decide) (by rw [hd]; rfl) (by decide) ?_
        exact law_7 C hX (by omega) ⟨by omega, by omega⟩ ⟨by omega, by omega⟩ hS hN hO J2
      · refine s_tsIn (tgt := 864) C dL_law_40 hsr (by rw [hd]; decide) (by rw [hd]; decide) (by rw [hd]; rfl) (by decide) ?_
        exact law_8 C hX (by omega) ⟨by omega, by omega⟩ ⟨by omega, by omega⟩ hS hN hO J2
      · refine s_tsIn (tgt := 920) C dL_law_40 hsr (by rw [hd]; decide) (by rw [hd]; decide) (by rw [hd]; rfl) (by decide) ?_
        exact law_9 C hX (by omega) ⟨by omega, by omega⟩ ⟨by omega, by omega⟩ hS hN hO J2
      · refine s_tsIn (tgt := 1000) C dL_law_40 hsr (by rw [hd]; decide) (by rw [hd]; decide) (by rw [hd]; rfl) (by decide) ?_
        exact law_10 C hX (by omega) ⟨by omega, by omega⟩ ⟨by omega, by omega⟩ hS hN hO J2
      · refine s_tsIn (tgt := 1068) C dL_law_40 hsr (by rw [hd]; decide) (by rw [hd]; decide) (by rw [hd]; rfl) (by decide) ?_
        exact law_11 C hX (by omega) ⟨by omega, by omega⟩ ⟨by omega, by omega⟩ hS hN hO J2
      · refine s_tsIn (tgt := 1160) C dL_law_40 hsr (by rw [hd]; decide) (by rw [hd]; decide) (by rw [hd]; rfl) (by decide) ?_
        exact law_12 C hX (by omega) ⟨by omega, by omega⟩ ⟨by omega, by omega⟩ hS hN hO J2
      · refine s_tsIn (tgt := 1216) C dL_law_40 hsr (by rw [hd]; decide) (by rw [hd]; decide) (by rw [hd]; rfl) (by decide) ?_
        exact law_13 C hX (by omega) ⟨by omega, by omega⟩ ⟨by omega, by omega⟩ hS hN hO J2
      · refine s_tsIn (tgt := 1272) C dL_law_40 hsr (by rw [hd]; decide) (by rw [hd]; decide) (by rw [hd]; rfl) (by decide) ?_
        exact law_14 C hX (by omega) ⟨by omega, by omega⟩ ⟨by omega, by omega⟩ hS hN hO J2
      · refine s_tsIn (tgt := 1285) C dL_law_40 hsr (by rw [hd]; decide) (by rw [hd]; decide) (by rw [hd]; rfl) (by decide) ?_
        exact law_15 C hX (by omega) ⟨by omega, by omega⟩ ⟨by omega, by omega⟩ hS hN hO J2
      · refine s_tsIn (tgt := 1298) C dL_law_40 hsr (by rw [hd]; decide) (by rw [hd]; decide) (by rw [hd]; rfl) (by decide) ?_
        exact law_16 C hX (by omega) ⟨by omega, by omega⟩ ⟨by omega, by omega⟩ hS hN hO J2
      · refine s_tsIn (tgt := 1378) C dL_law_40 hsr (by rw [hd]; decide) (by rw [hd]; decide) (by rw [hd]; rfl) (by decide) ?_
        exact law_17 C hX (by omega) ⟨by omega, by omega⟩ ⟨by omega, by omega⟩ hS hN hO J2
      · refine s_tsIn (tgt := 1470) C dL_law_40 hsr (by rw [hd]; decide) (by rw [hd]; decide) (by rw [hd]; rfl) (by decide) ?_
        exact law_18 C hX (by omega) ⟨by omega, by omega⟩ ⟨by omega, by omega⟩ hS hN hO J2
      · refine s_tsIn (tgt := 1550) C dL_law_40 hsr (by rw [hd]; decide) (by rw [hd]; decide) (by rw [hd]; rfl) (by decide) ?_
        exact law_19 C hX (by omega) ⟨by omega, by omega⟩ ⟨by omega, by omega⟩ hS hN hO J2
      · refine s_tsIn (tgt := 1618) C dL_law_40 hsr (by rw [hd]; decide) (by rw [hd]; decide) (by rw [hd]; rfl) (by decide) ?_
        exact law_20 C hX (by omega) ⟨by omega, by omega⟩ ⟨by omega, by omega⟩ hS hN hO J2
      · refine s_tsIn (tgt := 1698) C dL_law_40 hsr (by rw [hd]; decide) (by rw [hd]; decide) (by rw [hd]; rfl) (by decide) ?_
        exact law_21 C hX (by omega) ⟨by omega, by omega⟩ ⟨by omega, by omega⟩ hS hN hO J2
      · refine s_tsIn (tgt := 1754) C dL_law_40 hsr (by rw [hd]; decide) (by rw [hd]; decide) (by rw [hd]; rfl) (by decide) ?_
        exact law_22 C hX (by omega) ⟨by omega, by omega⟩ ⟨by omega, by omega⟩ hS hN hO J2
      · refine s_tsIn (tgt := 1767) C dL_law_40 hsr (by rw [hd]; decide) (by rw [hd]; decide) (by rw [hd]; rfl) (by decide) ?_
        exact law_23 C hX (by omega) ⟨by omega, by omega⟩ ⟨by omega, by omega⟩ hS hN hO J2
      · refine s_tsIn (tgt := 1847) C dL_law_40 hsr (by rw [hd]; decide) (by rw [hd]; decide) (by rw [hd]; rfl) (by decide) ?_
        exact law_24 C hX (by omega) ⟨by omega, by omega⟩ ⟨by omega, by omega⟩ hS hN hO J2
      · refine s_tsIn (tgt := 1927) C dL_law_40 hsr (by rw [hd]; decide) (by rw [hd]; decide) (by rw [hd]; rfl) (by decide) ?_
        exact law_25 C hX (by omega) ⟨by omega, by omega⟩ ⟨by omega, by omega⟩ hS hN hO J2
      · refine s_tsIn (tgt := 2019) C dL_law_40 hsr (by rw [hd]; decide) (by rw [hd]; decide) (by rw [hd]; rfl) (by decide) ?_
        exact law_26 C hX (by omega) ⟨by omega, by omega⟩ ⟨by omega, by omega⟩ hS hN hO J2
      · refine s_tsIn (tgt := 2099) C dL_law_40 hsr (by rw [hd]; decide) (by rw [hd]; decide) (by rw [hd]; rfl) (by decide) ?_
        exact law_27 C hX (by omega) ⟨by omega, by omega⟩ ⟨by omega, by omega⟩ hS hN hO J2
      · refine s_tsIn (tgt := 2167) C dL_law_40 hsr (by rw [hd]; decide) (by rw [hd]; decide) (by rw [hd]; rfl) (by decide) ?_
        exact law_28 C hX (by omega) ⟨by omega, by omega⟩ ⟨by omega, by omega⟩ hS hN hO J2
      · refine s_tsIn (tgt := 2235) C dL_law_40 hsr (by rw [hd]; decide) (by rw [hd]; decide) (by rw [hd]; rfl) (by decide) ?_
        exact law_29 C hX (by omega) ⟨by omega, by omega⟩ ⟨by omega, by omega⟩ hS hN hO J2
      · refine s_tsIn (tgt := 2293) C dL_law_40 hsr (by rw [hd]; decide) (by rw [hd]; decide) (by rw [hd]; rfl) (by decide) ?_
        exact law_30 C hX (by omega) ⟨by omega, by omega⟩ ⟨by omega, by omega⟩ hS hN hO J2
      · refine s_tsIn (tgt := 2349) C dL_law_40 hsr (by rw [hd]; decide) (by rw [hd]; decide) (by rw [hd]; rfl) (by decide) ?_
        exact law_31 C hX (by omega) ⟨by omega, by omega⟩ ⟨by omega, by omega⟩ hS hN hO J2
      · refine s_tsIn (tgt := 2363) C dL_law_40 hsr (by rw [hd]; decide) (by rw [hd]; decide) (by rw [hd]; rfl) (by decide) ?_
        exact law_32 C hX (by omega) ⟨by omega, by omega⟩ ⟨by omega, by omega⟩ hS hN hO J2
      · refine s_tsOut (tgt := 2377) C dL_law_40 hsr hd (by decide) ?_
        exact s_widen (by omega) (by omega) (J2 σ S hS hN hO)
def D0 : gd_T := (fun _ => -1, fun _ _ => 0, fun _ _ => -1, fun _ _ => 0, fun j => if j = 3 then -1 else 0)
def S0 : st_T := (fun _ => D0, [], [], [], fun _ => 10, fun _ => 0, 0)
theorem z0 {b : Nat} (h : ((shp b).1 ≠ 1 ∧ (shp b).1 ≠ 4) ∧ b ≠ 21 ∧ b ≠ 225 ∧ b ≠ 211) (k : Int) : g0 b k = 0 := g0_z h.1.1 h.1.2 h.2.1 h.2.2.1 h.2.2.2
theorem g0_rg : RG g0 := fun a k => by
  have h : g0 a k = -1 ∨ g0 a k = 10 ∨ g0 a k = 0 := by
    unfold g0
    split
    · exact Or.inl rfl
    · split
      · exact Or.inr (Or.inl rfl)
      · split
        · exact Or.inl rfl
        · exact Or.inr (Or.inr rfl)
  rcases h with h | h | h <;> rw [h] <;> exact ⟨fun _ => by decide, by decide⟩
theorem g0_G {G : Nat} (h : shp G = (4, 0)) (k : Int) : g0 G k = if k = 4 then -1 else 0 := by
  have hid := id_4 h
  unfold g0
  rw [h]
  by_cases q : k = 4
  · rw [if_pos q, if_pos ⟨Or.inr rfl, q⟩]
  · rw [if_neg q, if_neg (fun z => q z.2), if_neg (by omega), if_neg (by omega)]
theorem g0_c {b c n : Nat} (h : shp b = (c, n)) (h1 : c ≠ 1) (h4 : c ≠ 4) (h2 : b ≠ 21 ∧ b ≠ 225 ∧ b ≠ 211) (k : Int) : g0 b k = 0 := z0 ⟨⟨by rw [h]; exact h1, by rw [h]; exact h4⟩, h2⟩ k
theorem RC_0 {G : Nat} (h : shp G = (4, 0)) : RC g0 G D0 := by
  have hid := id_4 h
  have z1 := g0_c (shc_4_0 h) (by decide) (by decide) (by omega)
  have z5 := g0_c (shc_4_3 h) (by decide) (by decide) (by omega)
  have zG := g0_G h
  refine ⟨⟨by rw [z1]; decide, by rw [z1]; decide, fun i j a b c => by rw [z1] at c; omega⟩, ⟨fun i a b => by rw [z1] at b; omega, fun x q => absurd rfl q⟩, by rw [z1]; rfl, by rw [zG]; rfl, fun i k a b c => ?_, ⟨by rw [z5]; decide, by rw [z5]; decide, fun i j a b c => by rw [z5] at c; omega⟩, ⟨fun i a b => by rw [z5] at b; omega, fun w k q => absurd rfl q⟩, by rw [z5]; rfl, by rw [zG]; rfl, by rw [zG]; rfl, fun i a b => ?_⟩
  · have b2 : i < 0 := b
    omega
  · have b2 : i < 0 := b
    omega
theorem RM_0 {g : Int} (hg : 0 ≤ g ∧ g ≤ 3) : RM g0 g D0 := by
  refine ⟨⟨?_, fun i a b => ?_, fun x q => absurd rfl q, fun i j a b c => ?_⟩, ⟨?_, fun i k a b c => ?_⟩, ⟨?_, fun i a b => ?_, fun w k q => absurd rfl q, fun i j a b c => ?_⟩, ⟨?_, ?_, fun i k a b c => ?_⟩⟩
  · rw [z0 (by decide +kernel)]; rfl
  · have b2 : i < 0 := b
    omega
  · have c2 : j < 0 := c
    omega
  · rw [z0 (by decide +kernel)]; rfl
  · have b2 : i < 0 := b
    omega
  · rw [z0 (by decide +kernel)]; rfl
  · have b2 : i < 0 := b
    omega
  · have c2 : j < 0 := c
    omega
  · rw [g0_211, if_pos (by omega)]; rfl
  · rw [z0 (by decide +kernel)]; rfl
  · have b2 : i < 0 := b
    omega
theorem D0_ok : GDok D0 := by
  unfold GDok
  refine ⟨fun _ => (by decide : (-1 : Int) ≤ -1 ∧ (-1 : Int) ≤ 199), fun x q => absurd rfl q, (by decide : (0 : Int) ≤ 0 ∧ (0 : Int) ≤ 40), (by decide : (0 : Int) ≤ 0 ∧ (0 : Int) ≤ 5), (by decide : (0 : Int) ≤ 0 ∧ (0 : Int) ≤ 30), (by decide : (-1 : Int) ≤ -1 ∧ (-1 : Int) ≤ 199), (by decide : (0 : Int) ≤ 0 ∧ (0 : Int) ≤ 6), fun p a b => ?_, ?_⟩
  · have b2 : p < 0 := b
    omega
  · exact ⟨fun w k => (by decide : (-1 : Int) ≤ -1 ∧ (-1 : Int) ≤ 199), fun k i _ _ b => by have b2 : i < 0 := b; omega⟩
theorem S0_ok : StOK S0 := ⟨fun _ _ _ => D0_ok, ⟨fun w h => absurd h List.not_mem_nil, Nat.zero_le _⟩, ⟨fun w h => absurd h List.not_mem_nil, Nat.zero_le _⟩, ⟨Nat.zero_le _, fun e h => absurd h List.not_mem_nil⟩, fun i _ _ => (by decide : (2 : Int) ≤ 10 ∧ (10 : Int) ≤ 60 ∧ (0 : Int) ≤ 0 ∧ (0 : Int) < 10), (by decide : (-9223372036854775808 : Int) ≤ 0 ∧ (0 : Int) ≤ 9223372036854775807)⟩
theorem RN_0 : RN g0 S0 := by
  refine ⟨fun g a b => RC_0 (sha_1 (by omega)), ⟨?_, Nat.zero_le _, fun i hi => absurd hi (Nat.not_lt_zero i)⟩, ⟨?_, Nat.zero_le _, fun i hi => absurd hi (Nat.not_lt_zero i)⟩, ?_, fun i hi => absurd hi (Nat.not_lt_zero i), fun i a b => ⟨?_, ?_⟩, ?_⟩
  · rw [z0 (by decide +kernel)]; rfl
  · rw [z0 (by decide +kernel)]; rfl
  · rw [z0 (by decide +kernel)]; rfl
  · rw [g0_21, if_pos ⟨a, b⟩]; rfl
  · rw [z0 (by decide +kernel)]; rfl
  · rw [z0 (by decide +kernel)]; rfl
theorem RO_0 : RO g0 S0 := by
  refine ⟨fun g a b => RM_0 ⟨a, b⟩, ⟨?_, fun i hi => absurd hi (Nat.not_lt_zero i)⟩, ⟨?_, fun i hi => absurd hi (Nat.not_lt_zero i)⟩, ⟨?_, fun i hi => absurd hi (Nat.not_lt_zero i)⟩, fun i a b => ⟨?_, ?_⟩, ?_⟩
  · rw [z0 (by decide +kernel)]; rfl
  · rw [z0 (by decide +kernel)]; rfl
  · rw [z0 (by decide +kernel)]; rfl
  · rw [g0_225, if_pos ⟨a, b⟩]; rfl
  · rw [z0 (by decide +kernel)]; rfl
  · rw [z0 (by decide +kernel)]; rfl
theorem celK_g0 {E : sv_E} {K : kw_T} {a : Nat} (ha : a < 229) (h : (∀ k, K.2.1 a k = g0 a k) ∧ ∀ k, isRb a k = true → K.2.2 a k = true) : celK E K a = cel E g0 a := by
  have hs : K.2.1 a = g0 a := funext h.1
  have hc : ((shp a).1 < 9 ∧ (shp a).2 = 0) ∨ (shp a).1 = 10 ∨ (shp a).1 = 11 ∨ (shp a).1 = 12 ∨ (shp a).1 = 13 ∨ (shp a).1 = 14 := (by decide +kernel : ∀ a, a < 229 → ((shp a).1 < 9 ∧ (shp a).2 = 0) ∨ (shp a).1 = 10 ∨ (shp a).1 = 11 ∨ (shp a).1 = 12 ∨ (shp a).1 = 13 ∨ (shp a).1 = 14) a ha
  obtain ⟨c, n, e⟩ : ∃ c n, shp a = (c, n) := ⟨_, _, rfl⟩
  rw [e] at hc
  have arr : ∀ t, 2 ≤ t → t ≤ 4 → c = 10 + t → celK E K a = cel E g0 a := fun t t1 t2 q => by
    rw [q] at e
    rw [celK_R e t1 t2, cel_R e t1 t2]
    have hf : (fun k => if k < n ∧ K.2.2 a k = true then some (E.1 + rfs a k) else none) = fun k => if k < n then some (E.1 + rfs a k) else none := by
      funext k
      by_cases w : k < n
      · have hr : isRb a k = true := by
          unfold isRb
          rw [e, if_neg (show ¬ 10 + t < 10 by omega), Bool.and_eq_true]
          exact ⟨decide_eq_true (show 12 ≤ 10 + t by omega), decide_eq_true w⟩
        rw [if_pos ⟨w, h.2 k hr⟩, if_pos w]
      · rw [if_neg (fun z => w z.1), if_neg w]
    unfold celKR celR
    rw [hf]
  rcases hc with hc | hc | hc | hc | hc | hc
  · have e2 : shp a = (c, 0) := by rw [e]; exact congrArg (fun q => (c, q)) hc.2
    have hc9 : c < 9 := hc.1
    rw [celK_O e2 (by omega), cel_O e2 (by omega)]
    unfold celKO celO
    congr 2
    refine List.map_congr_left fun k hk => ?_
    have hk2 := List.mem_range.mp hk
    unfold fldK fld
    rw [hs]
    obtain ⟨q, hq⟩ : ∃ q, fkd c k = q := ⟨_, rfl⟩
    rw [hq]
    match q, hq with
    | 0, _ => rfl
    | 1, _ => rfl
    | q + 2, hq =>
      have hr : isRb a k = true := by
        unfold isRb
        rw [e2, if_pos (show c < 10 by omega), Bool.and_eq_true, Bool.and_eq_true]
        exact ⟨⟨decide_eq_true hk2, decide_eq_true (show fkd c k ≠ 0 by omega)⟩, decide_eq_true (show fkd c k ≠ 1 by omega)⟩
      show (if K.2.2 a k = true then Value.ref (E.1 + rfs a k) else Value.null) = _
      rw [if_pos (h.2 k hr)]; rfl
  · have q : c = 10 := hc
    rw [q] at e
    rw [celK_I e, cel_I e]
    unfold celI
    rw [hs]
  · have q : c = 11 := hc
    rw [q] at e
    rw [celK_L e, cel_L e]
    unfold celL
    rw [hs]
  · exact arr 2 (by decide) (by decide) hc
  · exact arr 3 (by decide) (by decide) hc
  · exact arr 4 (by decide) (by decide) hc
theorem k_to_s {X : sx_T} {E : sv_E} {Q : State → Prop} {u w pc : Nat} {ls : List (Option sv_V)} {st : List sv_V} {K : kw_T} (hn : K.1 = 229) (h : ∀ b, b < 229 → (∀ k, K.2.1 b k = g0 b k) ∧ ∀ k, isRb b k = true → K.2.2 b k = true) (kk : SW X E Q u w pc ls st g0) : KW X E Q u w pc ls st K := by
  obtain ⟨p, l, e, R, s, m, args, below, meth, c⟩ := X
  intro H locs lsA hR hL
  obtain ⟨hP, hD, hS, hsz, h0⟩ := hR
  have ew : kw_ws E K = sv_ws E g0 := by
    unfold kw_ws sv_ws
    rw [hn]
    refine List.map_congr_left fun a ha => ?_
    have ha2 := List.mem_range.mp ha
    rw [celK_g0 ha2 (h a ha2)]
  rw [ew] at hP hD
  exact kk H locs lsA ⟨hP, hD, hS, g0_rg⟩ hL
