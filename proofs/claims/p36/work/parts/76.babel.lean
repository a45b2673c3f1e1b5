/-! The law's babel. -/
def D0 : gd_T := (fun _ => -1, fun _ _ => 0, fun _ _ => -1, fun _ _ => 0, fun j => if j = 3 then -1 else 0)
def S0 : st_T := (fun _ => D0, [], [], [], fun _ => 10, fun _ => 0, 0)
theorem z0 {b : Nat} (h : ((shp b).1 ≠ 1 ∧ (shp b).1 ≠ 4) ∧ b ≠ 21 ∧ b ≠ 225 ∧ b ≠ 211) (k : Int) : g0 b k = 0 := g0_z h.1.1 h.1.2 h.2.1 h.2.2.1 h.2.2.2
theorem g0_rg : RG g0 := fun a k => by
  have h : g0 a k = -1 ∨ g0 a k = 10 ∨ g0 a k = 0 := by
    unfold g0
    split
    · exact Or.inl rfl
    · split
      · exact Or.inr (Or.inl rfl)
      · split
        · exact Or.inl rfl
        · exact Or.inr (Or.inr rfl)
  rcases h with h | h | h <;> rw [h] <;> exact ⟨fun _ => by decide, by decide⟩
theorem g0_G {G : Nat} (h : shp G = (4, 0)) (k : Int) : g0 G k = if k = 4 then -1 else 0 := by
  have hid := id_4 h
  unfold g0
  rw [h]
  by_cases q : k = 4
  · rw [if_pos q, if_pos ⟨Or.inr rfl, q⟩]
  · rw [if_neg q, if_neg (fun z => q z.2), if_neg (by omega), if_neg (by omega)]
theorem g0_c {b c n : Nat} (h : shp b = (c, n)) (h1 : c ≠ 1) (h4 : c ≠ 4) (h2 : b ≠ 21 ∧ b ≠ 225 ∧ b ≠ 211) (k : Int) : g0 b k = 0 := z0 ⟨⟨by rw [h]; exact h1, by rw [h]; exact h4⟩, h2⟩ k
theorem RC_0 {G : Nat} (h : shp G = (4, 0)) : RC g0 G D0 := by
  have hid := id_4 h
  have z1 := g0_c (shc_4_0 h) (by decide) (by decide) (by omega)
  have z5 := g0_c (shc_4_3 h) (by decide) (by decide) (by omega)
  have zG := g0_G h
  refine ⟨⟨by rw [z1]; decide, by rw [z1]; decide, fun i j a b c => by rw [z1] at c; omega⟩, ⟨fun i a b => by rw [z1] at b; omega, fun x q => absurd rfl q⟩, by rw [z1]; rfl, by rw [zG]; rfl, fun i k a b c => ?_, ⟨by rw [z5]; decide, by rw [z5]; decide, fun i j a b c => by rw [z5] at c; omega⟩, ⟨fun i a b => by rw [z5] at b; omega, fun w k q => absurd rfl q⟩, by rw [z5]; rfl, by rw [zG]; rfl, by rw [zG]; rfl, fun i a b => ?_⟩
  · have b2 : i < 0 := b
    omega
  · have b2 : i < 0 := b
    omega
theorem D0_ok : GDok D0 := by
  unfold GDok
  refine ⟨fun _ => (by decide : (-1 : Int) ≤ -1 ∧ (-1 : Int) ≤ 199), fun x q => absurd rfl q, (by decide : (0 : Int) ≤ 0 ∧ (0 : Int) ≤ 40), (by decide : (0 : Int) ≤ 0 ∧ (0 : Int) ≤ 5), (by decide : (0 : Int) ≤ 0 ∧ (0 : Int) ≤ 30), (by decide : (-1 : Int) ≤ -1 ∧ (-1 : Int) ≤ 199), (by decide : (0 : Int) ≤ 0 ∧ (0 : Int) ≤ 6), fun p a b => ?_, ?_⟩
  · have b2 : p < 0 := b
    omega
  · exact ⟨fun w k => (by decide : (-1 : Int) ≤ -1 ∧ (-1 : Int) ≤ 199), fun k i _ _ b => by have b2 : i < 0 := b; omega⟩
theorem S0_ok : StOK S0 := ⟨fun _ _ _ => D0_ok, ⟨fun w h => absurd h List.not_mem_nil, Nat.zero_le _⟩, ⟨fun w h => absurd h List.not_mem_nil, Nat.zero_le _⟩, ⟨Nat.zero_le _, fun e h => absurd h List.not_mem_nil⟩, fun i _ _ => (by decide : (2 : Int) ≤ 10 ∧ (10 : Int) ≤ 60 ∧ (0 : Int) ≤ 0 ∧ (0 : Int) < 10), (by decide : (-9223372036854775808 : Int) ≤ 0 ∧ (0 : Int) ≤ 9223372036854775807)⟩
theorem RN_0 : RN g0 S0 := by
  refine ⟨fun g a b => RC_0 (sha_1 (by omega)), ⟨?_, Nat.zero_le _, fun i hi => absurd hi (Nat.not_lt_zero i)⟩, ⟨?_, Nat.zero_le _, fun i hi => absurd hi (Nat.not_lt_zero i)⟩, ?_, fun i hi => absurd hi (Nat.not_lt_zero i), fun i a b => ⟨?_, ?_⟩, ?_⟩
  · rw [z0 (by decide +kernel)]; rfl
  · rw [z0 (by decide +kernel)]; rfl
  · rw [z0 (by decide +kernel)]; rfl
  · rw [g0_21, if_pos ⟨a, b⟩]; rfl
  · rw [z0 (by decide +kernel)]; rfl
  · rw [z0 (by decide +kernel)]; rfl
theorem celK_g0 {E : sv_E} {K : kw_T} {a : Nat} (ha : a < 195) (h : (∀ k, K.2.1 a k = g0 a k) ∧ ∀ k, isRb a k = true → K.2.2 a k = true) : celK E K a = cel E g0 a := by
  have hs : K.2.1 a = g0 a := funext h.1
  have hc : ((shp a).1 < 9 ∧ (shp a).2 = 0) ∨ (shp a).1 = 10 ∨ (shp a).1 = 11 ∨ (shp a).1 = 12 ∨ (shp a).1 = 13 ∨ (shp a).1 = 14 := (by decide +kernel : ∀ a, a < 195 → ((shp a).1 < 9 ∧ (shp a).2 = 0) ∨ (shp a).1 = 10 ∨ (shp a).1 = 11 ∨ (shp a).1 = 12 ∨ (shp a).1 = 13 ∨ (shp a).1 = 14) a ha
  obtain ⟨c, n, e⟩ : ∃ c n, shp a = (c, n) := ⟨_, _, rfl⟩
  rw [e] at hc
  have arr : ∀ t, 2 ≤ t → t ≤ 4 → c = 10 + t → celK E K a = cel E g0 a := fun t t1 t2 q => by
    rw [q] at e
    rw [celK_R e t1 t2, cel_R e t1 t2]
    have hf : (fun k => if k < n ∧ K.2.2 a k = true then some (E.1 + rfs a k) else none) = fun k => if k < n then some (E.1 + rfs a k) else none := by
      funext k
      by_cases w : k < n
      · have hr : isRb a k = true := by
          unfold isRb
          rw [e, if_neg (show ¬ 10 + t < 10 by omega), Bool.and_eq_true]
          exact ⟨decide_eq_true (show 12 ≤ 10 + t by omega), decide_eq_true w⟩
        rw [if_pos ⟨w, h.2 k hr⟩, if_pos w]
      · rw [if_neg (fun z => w z.1), if_neg w]
    unfold celKR celR
    rw [hf]
  rcases hc with hc | hc | hc | hc | hc | hc
  · have e2 : shp a = (c, 0) := by rw [e]; exact congrArg (fun q => (c, q)) hc.2
    have hc9 : c < 9 := hc.1
    rw [celK_O e2 (by omega), cel_O e2 (by omega)]
    unfold celKO celO
    congr 2
    refine List.map_congr_left fun k hk => ?_
    have hk2 := List.mem_range.mp hk
    unfold fldK fld
    rw [hs]
    obtain ⟨q, hq⟩ : ∃ q, fkd c k = q := ⟨_, rfl⟩
    rw [hq]
    match q, hq with
    | 0, _ => rfl
    | 1, _ => rfl
    | q + 2, hq =>
      have hr : isRb a k = true := by
        unfold isRb
        rw [e2, if_pos (show c < 10 by omega), Bool.and_eq_true, Bool.and_eq_true]
        exact ⟨⟨decide_eq_true hk2, decide_eq_true (show fkd c k ≠ 0 by omega)⟩, decide_eq_true (show fkd c k ≠ 1 by omega)⟩
      show (if K.2.2 a k = true then Value.ref (E.1 + rfs a k) else Value.null) = _
      rw [if_pos (h.2 k hr)]; rfl
  · have q : c = 10 := hc
    rw [q] at e
    rw [celK_I e, cel_I e]
    unfold celI
    rw [hs]
  · have q : c = 11 := hc
    rw [q] at e
    rw [celK_L e, cel_L e]
    unfold celL
    rw [hs]
  · exact arr 2 (by decide) (by decide) hc
  · exact arr 3 (by decide) (by decide) hc
  · exact arr 4 (by decide) (by decide) hc
theorem k_to_s {X : sx_T} {E : sv_E} {Q : State → Prop} {u w pc : Nat} {ls : List (Option sv_V)} {st : List sv_V} {K : kw_T} (he : E.2.1.2 = []) (hn : K.1 = 195) (h : ∀ b, b < 195 → (∀ k, K.2.1 b k = g0 b k) ∧ ∀ k, isRb b k = true → K.2.2 b k = true) (kk : SW X E Q u w pc ls st g0) : KW X E Q u w pc ls st K := by
  obtain ⟨p, l, e, R, s, m, args, below, meth, c⟩ := X
  intro H locs lsA hR hL
  obtain ⟨hP, hD, hS, hsz, h0⟩ := hR
  have ew : kw_ws E K = sv_ws E g0 := by
    rw [sv_ws_0 he]
    unfold kw_ws
    rw [hn]
    refine List.map_congr_left fun a ha => ?_
    have ha2 := List.mem_range.mp ha
    rw [celK_g0 ha2 (h a ha2)]
  rw [ew] at hP hD
  exact kk H locs lsA ⟨hP, hD, hS, g0_rg⟩ hL
def BT (E : sv_E) (M : md_T) (k : Nat) (av : List sv_V) (Post : Option sv_V → sv_G → Prop) : Prop := ∀ l : Launch, l.stackTraces = false →
  Met l M.1 (mcd M :: LW) (rm_of M k) (va_Pc (av.map (cv E)) (kWd E (0, (fun _ _ => (0 : Int)), (fun _ _ => false)))) (QcP E Post) (mdM M) (6 * mdM M) (fun q => E.1 ≤ q)
theorem BT.of {E : sv_E} {M : md_T} {n k : Nat} {av : List sv_V} {Post : Option sv_V → sv_G → Prop} (D : sd_T) (hD : (M.1.cls, M.2.1, M.2.2.1, M.2.2.2.1, ([] : List ExceptionTableEntry), k, mdM M, 6 * mdM M) = D) (ho : mo M n) (hl : (sv_in av).length ≤ M.2.2.1) {ls0 : List (Option sv_V)} (hls : sv_ini av M.2.2.1 = ls0)
    (body : ∀ (X : sx_T) (Q : State → Prop), sx_ok X E D → QR X E Q (mdM M) Post → KW X E Q 0 0 0 ls0 [] (0, (fun _ _ => (0 : Int)), (fun _ _ => false))) : BT E M k av Post := by
  intro l hlt
  subst hD
  subst hls
  refine va_MetF (cc := M.2.1) (maxL := M.2.2.1) (ret := M.2.2.2.1) ho.2.2.2.2.1 rfl ?_
  intro p e s m args below meth c s₁ B hml hv
  obtain ⟨rfl, ⟨hP, hD, hsz⟩, hK, hMW⟩ := hv
  have hts := atoms_spec (ws := mcd M :: LW) B.pre
  have hown : s.vm.findClass M.1.cls = some m.cls := findClass_of_methodNamed B.named
  have htab : c.exceptionTable.toList = [] := by
    obtain ⟨meth9, c9, h1, h2, -, -, -, -, h7, -⟩ := Cond.code_spec B.named (hts _ List.mem_cons_self)
    cases Option.some.inj (h1.symm.trans B.method)
    cases Option.some.inj (h2.symm.trans (Stand.of_body B).code)
    rw [Array.isEmpty_iff.mp h7]
  have hb := body (p, l, e, (headSpec (mcd M :: LW) (rm_of M k)).room, s, m, (av.map (cv E)).toArray, below, meth, c) _ ⟨B.exec, B.bytes, hml, hown, fun w h => hts w (List.mem_cons_of_mem _ h), hMW, hK, B.returns, B.notSynchronized, htab, hlt, Nat.le_refl _, Nat.le_refl _, Nat.le_refl _, Nat.le_refl _⟩ (fun H locs g h => h)
  rw [lg_entry_eq]
  exact hb s.heap [] _ ⟨hP, hD, va_S.rf, hsz, by rw [hsz]; exact Nat.le_add_right _ _⟩ (by rw [hml]; exact sv_entry hl)
theorem S0_B {S : st_T} (h : S.2.2.2.2 = S0.2.2.2.2) : ∀ i, 0 ≤ i → i < 6 → sB S i = 10 := fun i _ _ => by
  show (S.2.2.2.2).1 i = 10
  rw [h]
  rfl
set_option maxRecDepth 100000 in
set_option maxHeartbeats 8000000 in
theorem babel_body {X : sx_T} {E : sv_E} {Q : State → Prop} {at9 : Int} (he : E.2.1.2 = []) (hat : 0 ≤ at9 ∧ at9 ≤ 1000) (C : sx_ok X E (RL, cL_babel, 8, some .boolean, [], 100, 70000, 420000)) (hR : QR X E Q 70000 (PI fun r σ9 => r = 1)) : SW X E Q 195 8624 8 [some vS, some (vI at9), some (vR 0), none, none, none, none, none] [] g0 := by
  refine s_iconst C dL_babel_8 ?_
  refine s_istore_n (ls2 := [some vS, some (vI at9), some (vR 0), some (vI 1), none, none, none, none]) C dL_babel_9 (by decide) rfl ?_
  refine s_iconst C dL_babel_10 ?_
  refine s_istore (ls2 := [some vS, some (vI at9), some (vR 0), some (vI 1), some (vI 0), none, none, none]) C dL_babel_11 (by decide) rfl ?_
  have L13 : ∀ (n : Nat) (b3 : Int) (g4 : Int) (τ : sv_G) (S1 : st_T) (uu13 ww13 : Nat), (6 - g4).toNat < n → ((uu13 : Int) + 11000 * (6 - g4) ≤ 69000 ∧ (ww13 : Int) + 66000 * (6 - g4) ≤ 414000) → (b3 = 1) → (g4 = 0 ∨ g4 = 3 ∨ g4 = 6) → (RN τ S1) → (StOK S1) → (S1.2.2.2.2 = S0.2.2.2.2) → SW X E Q uu13 ww13 13 [some vS, some (vI at9), some (vR 0), some (vI b3), some (vI g4), none, none, none] [] τ := by
    intro n
    induction n with
    | zero => intro b3 g4 τ S1 uu13 ww13 hm; exact absurd hm (Nat.not_lt_zero _)
    | succ n ih13 =>
      intro b3 g4 τ S1 uu13 ww13 hm13 i13_0 i13_1 i13_2 i13_3 i13_4 i13_5
      refine s_iload C dL_babel_13 rfl ?_
      refine s_iconst C dL_babel_15 ?_
      refine s_icmp_ge (tgt := 217) C dL_babel_16 (by decide) (by omega) (by omega) (fun c16 => ?_) (fun c16 => ?_)
      · refine s_iload_n C dL_babel_217 rfl ?_
        refine s_if_eq (tgt := 238) C dL_babel_218 (by decide) (by omega) (fun c218 => ?_) (fun c218 => ?_)
        · exfalso; omega -- done
        · refine s_aload_n C dL_babel_221 rfl ?_
          refine s_aloadS_n C dL_babel_222 rfl ?_
          refine s_iload_n C dL_babel_223 rfl ?_
          refine s_sipush C dL_babel_224 (by decide) ?_
          refine s_iadd C dL_babel_227 ?_
          refine s_mS3i (u2 := uu13 + 400) (w2 := ww13 + 2400) C dL_babel_228 lkL_162 moL_cords mvL_cords (kL_cords i13_4 i13_3 (by omega) (S0_B i13_5)) (Nat.le_of_ble_eq_true rfl) (Nat.le_of_ble_eq_true rfl) ⟨rfl, rfl⟩ ⟨(show uu13 + 400 ≤ 70000 by omega), (show ww13 + 2400 ≤ 420000 by omega)⟩ (fun r228 σ_228 hp228 => ?_)
          have v228 : r228 = 1 := hp228
          refine s_if_eq (tgt := 238) C dL_babel_231 (by decide) (by omega) (fun c231 => ?_) (fun c231 => ?_)
          · exfalso; omega -- done
          · refine s_iconst C dL_babel_234 ?_
            refine s_goto (tgt := 239) C dL_babel_235 (by decide) ?_
            refine s_zret C hR dL_babel_239 rfl (by omega) ⟨_, rfl, ?_⟩ ⟨(show uu13 + 400 ≤ 70000 by omega), (show ww13 + 2400 ≤ 420000 by omega)⟩
            exact rfl
      · refine s_iload_n C dL_babel_19 rfl ?_
        refine s_if_eq (tgt := 217) C dL_babel_20 (by decide) (by omega) (fun c20 => ?_) (fun c20 => ?_)
        · exfalso; omega -- done
        · refine s_iload_n C dL_babel_23 rfl ?_
          refine s_bipush C dL_babel_24 (by decide) ?_
          refine s_iload C dL_babel_26 rfl ?_
          refine s_imul C dL_babel_28 ?_
          refine s_iadd C dL_babel_29 ?_
          refine s_topI (fun x5_30 ex5_30 => ?_)
          refine s_istore (ls2 := [some vS, some (vI at9), some (vR 0), some (vI b3), some (vI g4), some (vI x5_30), none, none]) C dL_babel_30 (by decide) rfl ?_
          refine s_aload_n C dL_babel_32 rfl ?_
          refine s_iload C dL_babel_33 rfl ?_
          refine s_aloadS_n C dL_babel_35 rfl ?_
          refine s_iload C dL_babel_36 rfl ?_
          refine s_mS4i (u2 := uu13 + 600) (w2 := ww13 + 3600) C dL_babel_38 lkL_143 moL_grammar mvL_grammar (kL_grammar i13_4 i13_3 (by omega) (by omega)) (Nat.le_of_ble_eq_true rfl) (Nat.le_of_ble_eq_true rfl) ⟨rfl, rfl⟩ ⟨(show uu13 + 600 ≤ 70000 by omega), (show ww13 + 3600 ≤ 420000 by omega)⟩ (fun r38 σ_38 hp38 => ?_)
          obtain ⟨v38, S38, N38, T38, R38, G38⟩ := hp38
          have Q38 : S38.2.2.2.2 = S0.2.2.2.2 := by rw [R38]; exact i13_5
          refine s_istore_n (ls2 := [some vS, some (vI at9), some (vR 0), some (vI r38), some (vI g4), some (vI x5_30), none, none]) C dL_babel_41 (by decide) rfl ?_
          refine s_iconst C dL_babel_42 ?_
          refine s_istore (ls2 := [some vS, some (vI at9), some (vR 0), some (vI r38), some (vI g4), some (vI x5_30), some (vI 0), none]) C dL_babel_43 (by decide) rfl ?_
          have L45 : ∀ (n : Nat) (b6 : Int) (k6 : Int) (τ2 : sv_G) (S2 : st_T) (uu45 ww45 : Nat), (6 - k6).toNat < n → ((uu45 : Int) + 4300 * (6 - k6) ≤ (uu13 : Int) + 26400 ∧ (ww45 : Int) + 25800 * (6 - k6) ≤ (ww13 : Int) + 158400) → (b6 = 1) → (0 ≤ k6 ∧ k6 ≤ 6) → (RN τ2 S2) → (StOK S2) → (S2.2.2.2.2 = S0.2.2.2.2) → (gC (sD S2 g4) 1 = 2) → SW X E Q uu45 ww45 45 [some vS, some (vI at9), some (vR 0), some (vI b6), some (vI g4), some (vI x5_30), some (vI k6), none] [] τ2 := by
            intro n
            induction n with
            | zero => intro b6 k6 τ2 S2 uu45 ww45 hm; exact absurd hm (Nat.not_lt_zero _)
            | succ n ih45 =>
              intro b6 k6 τ2 S2 uu45 ww45 hm45 i45_0 i45_1 i45_2 i45_3 i45_4 i45_5 i45_6
              refine s_iload C dL_babel_45 rfl ?_
              refine s_bipush C dL_babel_47 (by decide) ?_
              refine s_icmp_ge (tgt := 148) C dL_babel_49 (by decide) (by omega) (by omega) (fun c49 => ?_) (fun c49 => ?_)
              · refine s_iload_n C dL_babel_148 rfl ?_
                refine s_if_eq (tgt := 209) C dL_babel_149 (by decide) (by omega) (fun c149 => ?_) (fun c149 => ?_)
                · exfalso; omega -- done
                · refine s_aload_n C dL_babel_152 rfl ?_
                  refine s_iload C dL_babel_153 rfl ?_
                  refine s_aloadS_n C dL_babel_155 rfl ?_
                  refine s_iload C dL_babel_156 rfl ?_
                  refine s_bipush C dL_babel_158 (by decide) ?_
                  refine s_iadd C dL_babel_160 ?_
                  refine s_iconst C dL_babel_161 ?_
                  refine s_cS3i C dL_babel_162 lkL_109 moL_draw mvL_draw (kL_draw (by omega) (by omega)) (Nat.le_of_ble_eq_true rfl) (Nat.le_of_ble_eq_true rfl) rfl ⟨(show uu45 ≤ 70000 by omega), (show ww45 ≤ 420000 by omega)⟩ (kpI (fun r162 hp162 => ?_))
                  refine s_bipush C dL_babel_165 (by decide) ?_
                  refine s_mS4i (u2 := uu45 + 4000) (w2 := ww45 + 24000) C dL_babel_167 lkL_155 moL_gaps mvL_gaps (kL_gaps he i45_4 i45_3 (by omega) (by omega) (by omega)) (Nat.le_of_ble_eq_true rfl) (Nat.le_of_ble_eq_true rfl) ⟨rfl, rfl⟩ ⟨(show uu45 + 4000 ≤ 70000 by omega), (show ww45 + 24000 ≤ 420000 by omega)⟩ (fun r167 σ_167 hp167 => ?_)
                  obtain ⟨v167, l167, N167, T167⟩ := hp167
                  have G167 : gC (sD (uL S2 l167) g4) 1 = 2 := i45_6
                  refine s_if_eq (tgt := 209) C dL_babel_170 (by decide) (by omega) (fun c170 => ?_) (fun c170 => ?_)
                  · exfalso; omega -- done
                  · refine s_aload_n C dL_babel_173 rfl ?_
                    refine s_iload C dL_babel_174 rfl ?_
                    refine s_aloadS_n C dL_babel_176 rfl ?_
                    refine s_iload C dL_babel_177 rfl ?_
                    refine s_bipush C dL_babel_179 (by decide) ?_
                    refine s_iadd C dL_babel_181 ?_
                    refine s_iconst C dL_babel_182 ?_
                    refine s_cS3i C dL_babel_183 lkL_109 moL_draw mvL_draw (kL_draw (by omega) (by omega)) (Nat.le_of_ble_eq_true rfl) (Nat.le_of_ble_eq_true rfl) rfl ⟨(show uu45 + 4000 ≤ 70000 by omega), (show ww45 + 24000 ≤ 420000 by omega)⟩ (kpI (fun r183 hp183 => ?_))
                    refine s_bipush C dL_babel_186 (by decide) ?_
                    refine s_aloadS_n C dL_babel_188 rfl ?_
                    refine s_iload C dL_babel_189 rfl ?_
                    refine s_bipush C dL_babel_191 (by decide) ?_
                    refine s_iadd C dL_babel_193 ?_
                    refine s_ldc (n := 1073741824) C dL_babel_194 lcc_116 rfl ?_
                    refine s_cS3i C dL_babel_196 lkL_109 moL_draw mvL_draw (kL_draw (by omega) (by omega)) (Nat.le_of_ble_eq_true rfl) (Nat.le_of_ble_eq_true rfl) rfl ⟨(show uu45 + 4000 ≤ 70000 by omega), (show ww45 + 24000 ≤ 420000 by omega)⟩ (kpI (fun r196 hp196 => ?_))
                    refine s_mS5i (u2 := uu45 + 4600) (w2 := ww45 + 27600) C dL_babel_199 lkL_158 moL_learns mvL_learns (kL_learns he T167 N167 (by omega) (by omega) (by omega) (by omega)) (Nat.le_of_ble_eq_true rfl) (Nat.le_of_ble_eq_true rfl) ⟨rfl, rfl⟩ ⟨(show uu45 + 4600 ≤ 70000 by omega), (show ww45 + 27600 ≤ 420000 by omega)⟩ (fun r199 σ_199 hp199 => ?_)
                    obtain ⟨v199, S199, N199, T199, R199⟩ := hp199
                    have Q199 : S199.2.2.2.2 = S0.2.2.2.2 := by rw [R199]; exact i45_5
                    refine s_if_eq (tgt := 209) C dL_babel_202 (by decide) (by omega) (fun c202 => ?_) (fun c202 => ?_)
                    · exfalso; omega -- done
                    · refine s_iconst C dL_babel_205 ?_
                      refine s_goto (tgt := 210) C dL_babel_206 (by decide) ?_
                      refine s_istore_n (ls2 := [some vS, some (vI at9), some (vR 0), some (vI 1), some (vI g4), some (vI x5_30), some (vI k6), none]) C dL_babel_210 (by decide) rfl ?_
                      obtain ⟨x4_211, ex4_211⟩ : ∃ y : Int, y = g4 + 3 := ⟨_, rfl⟩
                      refine s_iinc (z2 := x4_211) (ls2 := [some vS, some (vI at9), some (vR 0), some (vI 1), some (vI x4_211), some (vI x5_30), some (vI k6), none]) C dL_babel_211 (by decide) rfl ex4_211 rfl ?_
                      refine s_goto (tgt := 13) C dL_babel_214 (by decide) ?_
                      refine s_weak (ls2 := [some vS, some (vI at9), some (vR 0), some (vI 1), some (vI x4_211), none, none, none]) (sv_wk_c (sv_wk_c (sv_wk_c (sv_wk_c (sv_wk_c (sv_wk_n (sv_wk_n (sv_wk_n sv_wk_0)))))))) ?_
                      refine ih13 1 x4_211 σ_199 S199 (uu45 + 4600) (ww45 + 27600) (by omega) (by omega) (by first | assumption | omega) (by first | assumption | omega) ?_ ?_ ?_
                      · exact N199
                      · exact T199
                      · exact Q199
              · refine s_iload_n C dL_babel_52 rfl ?_
                refine s_if_eq (tgt := 148) C dL_babel_53 (by decide) (by omega) (fun c53 => ?_) (fun c53 => ?_)
                · exfalso; omega -- done
                · refine s_aloadS_n C dL_babel_56 rfl ?_
                  refine s_iload C dL_babel_57 rfl ?_
                  refine s_bipush C dL_babel_59 (by decide) ?_
                  refine s_iadd C dL_babel_61 ?_
                  refine s_iconst C dL_babel_62 ?_
                  refine s_iload C dL_babel_63 rfl ?_
                  refine s_imul C dL_babel_65 ?_
                  refine s_iadd C dL_babel_66 ?_
                  refine s_ldc (n := 1073741824) C dL_babel_67 lcc_116 rfl ?_
                  refine s_cS3i C dL_babel_69 lkL_109 moL_draw mvL_draw (kL_draw (by omega) (by omega)) (Nat.le_of_ble_eq_true rfl) (Nat.le_of_ble_eq_true rfl) rfl ⟨(show uu45 ≤ 70000 by omega), (show ww45 ≤ 420000 by omega)⟩ (kpI (fun r69 hp69 => ?_))
                  refine s_istore (ls2 := [some vS, some (vI at9), some (vR 0), some (vI b6), some (vI g4), some (vI x5_30), some (vI k6), some (vI r69)]) C dL_babel_72 (by decide) rfl ?_
                  refine s_aload_n C dL_babel_74 rfl ?_
                  refine s_iload C dL_babel_75 rfl ?_
                  refine s_iload C dL_babel_77 rfl ?_
                  refine s_sipush C dL_babel_79 (by decide) ?_
                  refine s_irem C dL_babel_82 (by omega) (by omega) ?_
                  refine s_iload C dL_babel_83 rfl ?_
                  refine s_sipush C dL_babel_85 (by decide) ?_
                  refine s_idiv C dL_babel_88 (by omega) (by omega) ?_
                  refine s_iconst C dL_babel_89 ?_
                  refine s_irem C dL_babel_90 (by omega) (by omega) ?_
                  refine s_mS4i (u2 := uu45 + 300) (w2 := ww45 + 1800) C dL_babel_91 lkL_147 moL_isSaying mvL_isSaying (kL_isSaying he i45_4 i45_3 (by omega) (by omega) (by omega)) (Nat.le_of_ble_eq_true rfl) (Nat.le_of_ble_eq_true rfl) ⟨rfl, rfl⟩ ⟨(show uu45 + 300 ≤ 70000 by omega), (show ww45 + 1800 ≤ 420000 by omega)⟩ (fun r91 σ_91 hp91 => ?_)
                  obtain ⟨v91, l91, N91, T91⟩ := hp91
                  refine s_if_eq (tgt := 140) C dL_babel_94 (by decide) (by omega) (fun c94 => ?_) (fun c94 => ?_)
                  · exfalso; omega -- done
                  · refine s_aload_n C dL_babel_97 rfl ?_
                    refine s_iload C dL_babel_98 rfl ?_
                    refine s_iload C dL_babel_100 rfl ?_
                    refine s_bipush C dL_babel_102 (by decide) ?_
                    refine s_irem C dL_babel_104 (by omega) (by omega) ?_
                    refine s_iload C dL_babel_105 rfl ?_
                    refine s_bipush C dL_babel_107 (by decide) ?_
                    refine s_idiv C dL_babel_109 (by omega) (by omega) ?_
                    refine s_iconst C dL_babel_110 ?_
                    refine s_irem C dL_babel_111 (by omega) (by omega) ?_
                    refine s_bipush C dL_babel_112 (by decide) ?_
                    refine s_aloadS_n C dL_babel_114 rfl ?_
                    refine s_iload C dL_babel_115 rfl ?_
                    refine s_bipush C dL_babel_117 (by decide) ?_
                    refine s_iadd C dL_babel_119 ?_
                    refine s_iconst C dL_babel_120 ?_
                    refine s_iload C dL_babel_121 rfl ?_
                    refine s_imul C dL_babel_123 ?_
                    refine s_iadd C dL_babel_124 ?_
                    refine s_bipush C dL_babel_125 (by decide) ?_
                    refine s_cS3i C dL_babel_127 lkL_109 moL_draw mvL_draw (kL_draw (by omega) (by omega)) (Nat.le_of_ble_eq_true rfl) (Nat.le_of_ble_eq_true rfl) rfl ⟨(show uu45 + 300 ≤ 70000 by omega), (show ww45 + 1800 ≤ 420000 by omega)⟩ (kpI (fun r127 hp127 => ?_))
                    refine s_mS6i (u2 := uu45 + 4300) (w2 := ww45 + 25800) C dL_babel_130 lkL_151 moL_hears mvL_hears (kL_hears he T91 N91 (by omega) (by omega) (by omega) (by omega) (by omega)) (Nat.le_of_ble_eq_true rfl) (Nat.le_of_ble_eq_true rfl) ⟨rfl, rfl⟩ ⟨(show uu45 + 4300 ≤ 70000 by omega), (show ww45 + 25800 ≤ 420000 by omega)⟩ (fun r130 σ_130 hp130 => ?_)
                    obtain ⟨v130, l130, h130, N130, T130⟩ := hp130
                    refine s_if_eq (tgt := 140) C dL_babel_133 (by decide) (by omega) (fun c133 => ?_) (fun c133 => ?_)
                    · exfalso; omega -- done
                    · refine s_iconst C dL_babel_136 ?_
                      refine s_goto (tgt := 141) C dL_babel_137 (by decide) ?_
                      refine s_istore_n (ls2 := [some vS, some (vI at9), some (vR 0), some (vI 1), some (vI g4), some (vI x5_30), some (vI k6), some (vI r69)]) C dL_babel_141 (by decide) rfl ?_
                      obtain ⟨x6_142, ex6_142⟩ : ∃ y : Int, y = k6 + 1 := ⟨_, rfl⟩
                      refine s_iinc (z2 := x6_142) (ls2 := [some vS, some (vI at9), some (vR 0), some (vI 1), some (vI g4), some (vI x5_30), some (vI x6_142), some (vI r69)]) C dL_babel_142 (by decide) rfl ex6_142 rfl ?_
                      refine s_goto (tgt := 45) C dL_babel_145 (by decide) ?_
                      refine s_weak (ls2 := [some vS, some (vI at9), some (vR 0), some (vI 1), some (vI g4), some (vI x5_30), some (vI x6_142), none]) (sv_wk_c (sv_wk_c (sv_wk_c (sv_wk_c (sv_wk_c (sv_wk_c (sv_wk_c (sv_wk_n sv_wk_0)))))))) ?_
                      refine ih45 1 x6_142 σ_130 (uH (uL (uL S2 l91) l130) h130) (uu45 + 4300) (ww45 + 25800) (by omega) (by omega) (by first | assumption | omega) (by first | assumption | omega) ?_ ?_ ?_ ?_
                      · exact N130
                      · exact T130
                      · exact i45_5
                      · exact i45_6
          refine L45 _ r38 0 σ_38 S38 (uu13 + 600) (ww13 + 3600) (Nat.lt_succ_self _) (by omega) (by first | assumption | omega) (by first | assumption | omega) ?_ ?_ ?_ ?_
          · exact N38
          · exact T38
          · exact Q38
          · exact G38
  refine L13 _ 1 0 g0 S0 195 8624 (Nat.lt_succ_self _) (by omega) (by first | assumption | omega) (by first | assumption | omega) ?_ ?_ ?_
  · exact RN_0
  · exact S0_ok
  · rfl
set_option maxRecDepth 100000 in
set_option maxHeartbeats 8000000 in
theorem kL_babel {E : sv_E} {at9 : Int} (he : E.2.1.2 = []) (hat : 0 ≤ at9 ∧ at9 ≤ 1000) : BT E ML_babel 100 [vS, vI at9] (PI fun r σ9 => r = 1) := by
  refine BT.of (RL, cL_babel, 8, some .boolean, [], 100, 70000, 420000) rfl moL_babel (Nat.le_of_ble_eq_true rfl) (ls0 := [some vS, some (vI at9), none, none, none, none, none, none]) rfl ?_
  intro X Q C hR
  have hF0 : Fr (fun _ _ => (0 : Int)) (fun _ _ => false) 0 := fun _ _ => ⟨fun _ => rfl, fun _ => rfl⟩
  refine k_new C dL_babel_0 sh_0 cl_7 kc_L_11 kn_7 kz_7 nl_7 (fun _ => rfl) (fun _ => rfl) ⟨Nat.le_of_ble_eq_true rfl, Nat.le_of_ble_eq_true rfl⟩ ?_
  refine k_dup C dL_babel_3 rfl ?_
  refine k_cI C dL_babel_4 ki_L_142 moX7_init (kX7_init hF0) (Nat.le_of_ble_eq_true rfl) (Nat.le_of_ble_eq_true rfl) ⟨Nat.le_of_ble_eq_true rfl, Nat.le_of_ble_eq_true rfl⟩ (fun K4 hp4 => ?_)
  obtain ⟨n4, σ4, As4⟩ := K4
  obtain ⟨hn4, hcp4⟩ := hp4
  replace hn4 : n4 = 195 := hn4
  replace hcp4 : CP 0 195 (fun _ _ => (0 : Int)) (fun _ _ => false) σ4 As4 := hcp4
  subst hn4
  refine k_astore_n (ls2 := [some vS, some (vI at9), some (vR 0), none, none, none, none, none]) C dL_babel_7 (show 2 < 8 by decide) rfl ?_
  refine k_to_s he rfl (fun a ha => ?_) ?_
  · have z := hcp4.2.1 a (by omega) (by omega)
    exact ⟨fun k => z.1 k, fun k hk => z.2 k hk⟩
  · exact babel_body he hat C hR
