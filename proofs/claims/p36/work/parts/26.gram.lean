/-! The grammars of the class. -/
def gv (G : Nat) (c : Int) : sv_V := Sum.inr (Sum.inr (if c = -1 then Sum.inr false else Sum.inl (G + 4 + 8 + c.toNat)))
theorem gv_n {G : Nat} {c : Int} (h : c = -1) : gv G c = vN := by unfold gv; rw [if_pos h]
theorem gv_r {G : Nat} {c : Int} (h : ¬ c = -1) : gv G c = vR (G + 4 + 8 + c.toNat) := by unfold gv; rw [if_neg h]
abbrev PG (G : Nat) (P : Int → sv_G → Prop) : Option sv_V → sv_G → Prop := fun o σ => ∃ r, o = some (gv G r) ∧ P r σ
theorem s_cV1g {X : sx_T} {E : sv_E} {D : sd_T} {Q : State → Prop} {u w pc : Nat} {ls : List (Option sv_V)} {σ : sv_G} {M : md_T} {idx k9 a c9 : Nat} {v1 : sv_V} {rest : List sv_V} {P : Int → sv_G → Prop} (C : sx_ok X E D) (hd : decode D.2.1 pc = .ok (.invokevirtual idx, 3)) (hl : Cond.methodLink D.1 idx M.1 ∈ LW) (ho : mo M 1) (hv : mov M) (hM : CT E M k9 [vR a, v1] σ (PG a P)) (ha : shp a = (c9, 0)) (hc : ∃ T N, vwCl[c9]? = some (M.1.cls, T, N)) (hk : k9 + 1 ≤ dK D) (hrest : rw8 rest ≤ 8) (h0 : mdM M = 0) (hb9 : u + 0 ≤ dMc D ∧ w + 6 * 0 ≤ dMs D) (kk : ∀ r σ9, P r σ9 → SW X E Q u w (pc + 3) ls (gv a r :: rest) σ9) : SW X E Q u w pc ls (v1 :: vR a :: rest) σ :=
  s_cV (as9 := [v1]) (rest := rest) C hd hl ho hv hM ha hc rfl hk hrest (by rw [h0]; exact hb9) (fun o9 σ9 h9 => by
    obtain ⟨r9, rfl, h9⟩ := h9
    rw [h0]
    exact kk r9 σ9 h9)
/-- what stays: all but a row -/
def frR (σ σ9 : sv_G) (a : Nat) : Prop := ∀ b k, b ≠ a → b ≠ a + 1 → σ9 b k = σ b k
theorem frR.rf {σ : sv_G} {a : Nat} : frR σ σ a := fun _ _ _ _ => rfl
theorem frR.tr {σ σ1 σ2 : sv_G} {a : Nat} (h : frR σ σ1 a) (h2 : frR σ1 σ2 a) : frR σ σ2 a := fun b k q1 q2 => (h2 b k q1 q2).trans (h b k q1 q2)
def RC (σ : sv_G) (G : Nat) (D : gd_T) : Prop := AtOK σ (G + 1) ∧ AtF σ (G + 1) (gF D) ∧ σ (G + 1) 2 = gC D 0 ∧ σ G 2 = gC D 1 ∧ (∀ (i : Int) (k : Nat), 0 ≤ i → i < gC D 1 → k < 7 → σ (G + 4 + 8 + i.toNat) (k : Int) = gB D i k) ∧
  FmOK σ (G + 5) ∧ FmF σ (G + 5) (gP D) ∧ σ (G + 5) 3 = gC D 2 ∧ σ G 4 = gC D 3 ∧ σ G 8 = gC D 4 ∧ ∀ i, 0 ≤ i → i < gC D 4 → σ (G + 9) i = gS D 0 i ∧ σ (G + 10) i = gS D 1 i ∧ σ (G + 11) i = gS D 2 i
theorem AtOK.fr {σ σ9 : sv_G} {a : Nat} (h : AtOK σ a) (h0 : ∀ k, σ9 a k = σ a k) (h1 : ∀ k, σ9 (a + 1) k = σ (a + 1) k) : AtOK σ9 a := ⟨by rw [h0]; exact h.1, by rw [h0]; exact h.2.1, fun i j g1 g2 g3 => by rw [h0] at g3; rw [h1, h1]; exact h.2.2 i j g1 g2 g3⟩
theorem AtF.fr {σ σ9 : sv_G} {a : Nat} {f : Int → Int} (h : AtF σ a f) (h0 : ∀ k, σ9 a k = σ a k) (h1 : ∀ k, σ9 (a + 1) k = σ (a + 1) k) (h2 : ∀ k, σ9 (a + 2) k = σ (a + 2) k) : AtF σ9 a f := ⟨fun i g1 g2 => by rw [h0] at g2; rw [h1, h2]; exact h.1 i g1 g2, fun x q => by
  obtain ⟨i, g1, g2, g3⟩ := h.2 x q
  exact ⟨i, g1, by rw [h0]; exact g2, by rw [h1]; exact g3⟩⟩
theorem FmOK.fr {σ σ9 : sv_G} {a : Nat} (h : FmOK σ a) (h0 : ∀ k, σ9 a k = σ a k) (h1 : ∀ k, σ9 (a + 1) k = σ (a + 1) k) (h2 : ∀ k, σ9 (a + 2) k = σ (a + 2) k) : FmOK σ9 a := ⟨by rw [h0]; exact h.1, by rw [h0]; exact h.2.1, fun i j g1 g2 g3 => by rw [h0] at g3; rw [h1, h1, h2, h2]; exact h.2.2 i j g1 g2 g3⟩
theorem FmF.fr {σ σ9 : sv_G} {a : Nat} {φ : Int → Int → Int} (h : FmF σ a φ) (h0 : ∀ k, σ9 a k = σ a k) (h1 : ∀ k, σ9 (a + 1) k = σ (a + 1) k) (h2 : ∀ k, σ9 (a + 2) k = σ (a + 2) k) (h3 : ∀ k, σ9 (a + 3) k = σ (a + 3) k) : FmF σ9 a φ := ⟨fun i g1 g2 => by rw [h0] at g2; rw [h1, h2, h3]; exact h.1 i g1 g2, fun w k q => by
  obtain ⟨i, g1, g2, g3, g4⟩ := h.2 w k q
  exact ⟨i, g1, by rw [h0]; exact g2, by rw [h1]; exact g3, by rw [h2]; exact g4⟩⟩
theorem RC.fr {σ σ9 : sv_G} {G : Nat} {D : gd_T} (hD : GDok D) (h : RC σ G D) (hf : ∀ b k, G ≤ b → b < G + 17 → σ9 b k = σ b k) : RC σ9 G D := by
  obtain ⟨h1, h2, h3, h4, h5, h6, h7, h8, h9, h10, h11⟩ := h
  have hn := hD.2.2.2.1
  exact ⟨h1.fr (fun k => hf _ k (by omega) (by omega)) (fun k => hf _ k (by omega) (by omega)), h2.fr (fun k => hf _ k (by omega) (by omega)) (fun k => hf _ k (by omega) (by omega)) (fun k => hf _ k (by omega) (by omega)),
    by rw [hf _ _ (by omega) (by omega)]; exact h3, by rw [hf _ _ (by omega) (by omega)]; exact h4, fun i k g1 g2 g3 => by rw [hf _ _ (by omega) (by omega)]; exact h5 i k g1 g2 g3,
    h6.fr (fun k => hf _ k (by omega) (by omega)) (fun k => hf _ k (by omega) (by omega)) (fun k => hf _ k (by omega) (by omega)), h7.fr (fun k => hf _ k (by omega) (by omega)) (fun k => hf _ k (by omega) (by omega)) (fun k => hf _ k (by omega) (by omega)) (fun k => hf _ k (by omega) (by omega)),
    by rw [hf _ _ (by omega) (by omega)]; exact h8, by rw [hf _ _ (by omega) (by omega)]; exact h9, by rw [hf _ _ (by omega) (by omega)]; exact h10,
    fun i g1 g2 => by rw [hf _ _ (by omega) (by omega), hf _ _ (by omega) (by omega), hf _ _ (by omega) (by omega)]; exact h11 i g1 g2⟩
theorem shG {G : Nat} (h : shp G = (4, 0)) : 23 ≤ G ∧ G ≤ 74 := shp_all (P := fun a => 23 ≤ a ∧ a ≤ 74) (by decide) (by decide +kernel) h
theorem shR {a : Nat} (h : shp a = (6, 0)) : (2 ≤ a ∧ a ≤ 8) ∨ (91 ≤ a ∧ a ≤ 193) := shp_all (P := fun a => (2 ≤ a ∧ a ≤ 8) ∨ (91 ≤ a ∧ a ≤ 193)) (by decide) (by decide +kernel) h
theorem RC.row {σ σ9 : sv_G} {G a : Nat} {D : gd_T} (h : RC σ G D) (hD : GDok D) (hG : shp G = (4, 0)) (ha : shp a = (6, 0)) (hf : frR σ σ9 a) : RC σ9 G D := h.fr hD fun b k h1 h2 => by
  have := shG hG
  have := shR ha
  exact hf b k (by omega) (by omega)
/-- what was appended: all, and 1; or not, and 0 -/
def xtP (σ σ9 : sv_G) (a : Nat) (r : Int) (o : Option (List Int)) : Prop := frR σ σ9 a ∧ ((r = 1 ∧ ∃ l, o = some l ∧ Rw σ9 a l) ∨ (r = 0 ∧ o = none ∧ ∃ l, Rw σ9 a l))
theorem xtP.b {σ σ9 : sv_G} {a : Nat} {r : Int} {o : Option (List Int)} (h : xtP σ σ9 a r o) : r = 0 ∨ r = 1 := h.2.elim (fun q => Or.inr q.1) (fun q => Or.inl q.1)
theorem xtP.one {σ σ9 : sv_G} {a : Nat} {r : Int} {o : Option (List Int)} (h : xtP σ σ9 a r o) (hr : r ≠ 0) : ∃ l, o = some l ∧ Rw σ9 a l := h.2.elim (fun q => q.2) (fun q => absurd q.1 hr)
theorem xtP.zero {σ σ9 : sv_G} {a : Nat} {r : Int} {o : Option (List Int)} (h : xtP σ σ9 a r o) (hr : r = 0) : o = none ∧ ∃ l, Rw σ9 a l := h.2.elim (fun q => by omega) (fun q => q.2)
theorem xt_no {σ σ9 : sv_G} {a : Nat} {ws : List Int} (hf : frR σ σ9 a) (hw : Rw σ9 a ws) : xtP σ σ9 a 0 none := ⟨hf, Or.inr ⟨rfl, rfl, ws, hw⟩⟩
theorem xt_yes {σ σ9 : sv_G} {a : Nat} {ws : List Int} (hf : frR σ σ9 a) (hw : Rw σ9 a ws) : xtP σ σ9 a 1 (some ws) := ⟨hf, Or.inl ⟨rfl, ws, rfl, hw⟩⟩
theorem xt_f1 {σ σ1 : sv_G} {a : Nat} {r : Int} {ws : List Int} {x y : Option (List Int)} (h : xtP σ σ1 a r (ext ws x)) (hr : r = 0) : xtP σ σ1 a 0 (ext ws (oap x y)) := by
  obtain ⟨h1, l, h2⟩ := h.zero hr
  rw [ext_oap, h1]
  exact xt_no h.1 h2
theorem xt_2 {σ σ1 σ2 : sv_G} {a : Nat} {r z : Int} {ws w1 : List Int} {x y : Option (List Int)} (hf : frR σ σ1 a) (h1 : ext ws x = some w1) (h2 : xtP σ1 σ2 a r (ext w1 y)) (hr : r = z) : xtP σ σ2 a z (ext ws (oap x y)) := by
  subst hr
  rw [ext_oap, h1]
  exact ⟨hf.tr h2.1, h2.2⟩
theorem xt_e {ws w1 w2 : List Int} {x y : Option (List Int)} (h1 : ext ws x = some w1) (h2 : ext w1 y = some w2) : ext ws (oap x y) = some w2 := by
  rw [ext_oap, h1]
  exact h2
theorem kX6_addx {E : sv_E} {σ : sv_G} {a : Nat} {x : Int} (ha : shp a = (6, 0)) (hx : -2147483648 ≤ x ∧ x ≤ 2147483647) {ws : List Int} (hw : Rw σ a ws) : CT E MX6_add 0 [(vR a), (vI x)] σ (PI fun r σ9 => xtP σ σ9 a r (ext ws (some [x]))) := by
  refine CT.mono (fun o σ9 h => ?_) (kX6_add ha hx hw)
  obtain ⟨r, h1, h2⟩ := h
  refine ⟨r, h1, ?_⟩
  rw [ext_one]
  rcases h2 with ⟨rfl, g2, g3, g4⟩ | ⟨rfl, g2, rfl⟩
  · rw [if_pos g2]; exact xt_yes g4 g3
  · rw [if_neg (by omega)]; exact xt_no frR.rf hw
def jnO (x : Int) : Option (List Int) := some (if x = -1 then [] else [x])
def nmC (E : sv_E) (k : Nat) : Prop := k ≤ 41 → ∀ {σ : sv_G} {G a : Nat} {D : gd_T} {n d : Int} {ws : List Int}, shp G = (4, 0) → shp a = (6, 0) → GDok D → (0 ≤ n ∧ n ≤ 9999) → d = 41 - k → RC σ G D → Rw σ a ws → CT E MX4_addName (2 * k + 3) [vR G, vI n, vR a, vI d] σ (PI fun r σ9 => xtP σ σ9 a r (ext ws (nmF D k n)))
set_option maxRecDepth 100000 in
set_option maxHeartbeats 8000000 in
theorem kX4_greatestUpTo {E : sv_E} {σ : sv_G} {G : Nat} {D : gd_T} (hG : shp G = (4, 0)) (hD : GDok D) (hC : RC σ G D) {x : Int} (hx : -2147483648 ≤ x ∧ x ≤ 2147483647) : CT E MX4_greatestUpTo 0 [(vR G), (vI x)] σ (PG G fun r σ9 => σ9 = σ ∧ r = cnt D x) := by
  refine CT.of (RX4, cX4_greatestUpTo, 5, (some (.object "NumeralBabel$Base")), [], 0, 0, 0) rfl moX4_greatestUpTo (Nat.le_of_ble_eq_true rfl) (ls0 := [some (vR G), some (vI x), none, none, none]) rfl ?_
  intro X Q C hR
  obtain ⟨hA, hF, hn0, hn1, hB, hFo, hFf, hn2, ho, hns, hSm⟩ := hC
  have hnb := hD.2.2.2.1
  refine s_null C dX4_greatestUpTo_0 ?_
  refine s_astoreN_n (ls2 := [some (vR G), some (vI x), some vN, none, none]) C dX4_greatestUpTo_1 (by decide) rfl ?_
  refine s_iconst C dX4_greatestUpTo_2 ?_
  refine s_istore_n (ls2 := [some (vR G), some (vI x), some vN, some (vI 0), none]) C dX4_greatestUpTo_3 (by decide) rfl ?_
  have L4 : ∀ (n : Nat) (c : Int) (m : Int), (5 - m).toNat < n → (0 ≤ m ∧ m ≤ gC D 1) → (c = cntR (gB D) x m.toNat) → (c = -1 ∨ (0 ≤ c ∧ c < m)) → SW X E Q 0 0 4 [some (vR G), some (vI x), some (gv G c), some (vI m), none] [] σ := by
    intro n
    induction n with
    | zero => intro c m hm; exact absurd hm (Nat.not_lt_zero _)
    | succ n ih4 =>
      intro c m hm4 i4_0 i4_1 i4_2
      refine s_iload_n C dX4_greatestUpTo_4 rfl ?_
      refine s_aload_n C dX4_greatestUpTo_5 rfl ?_
      refine s_getI (c := 4) (kz := 2) C fl_4_24 dX4_greatestUpTo_6 hG rfl rfl (fun g6 => ?_)
      refine s_icmp_ge (tgt := 54) C dX4_greatestUpTo_9 (by decide) (by omega) (by omega) (fun c9 => ?_) (fun c9 => ?_)
      · by_cases q54 : c = -1
        · rw [gv_n q54]
          refine s_aloadN_n C dX4_greatestUpTo_54 rfl ?_
          refine s_aretN C hR dX4_greatestUpTo_55 rfl ?_ (by decide)
          first
            | exact ⟨c, by rw [gv_n q54], rfl, by unfold cnt; rw [i4_1, show m.toNat = (gC D 1).toNat by omega]⟩
            | exact ⟨c, by rw [gv_r q54], rfl, by unfold cnt; rw [i4_1, show m.toNat = (gC D 1).toNat by omega]⟩
        · rw [gv_r q54]
          refine s_aload_n C dX4_greatestUpTo_54 rfl ?_
          refine s_aret C hR dX4_greatestUpTo_55 rfl ?_ (by decide)
          first
            | exact ⟨c, by rw [gv_n q54], rfl, by unfold cnt; rw [i4_1, show m.toNat = (gC D 1).toNat by omega]⟩
            | exact ⟨c, by rw [gv_r q54], rfl, by unfold cnt; rw [i4_1, show m.toNat = (gC D 1).toNat by omega]⟩
      · refine s_aload_n C dX4_greatestUpTo_12 rfl ?_
        refine s_getR (c := 4) C fl_4_20 dX4_greatestUpTo_13 hG rfl (rfc_4_1 hG) ?_
        refine s_iload_n C dX4_greatestUpTo_16 rfl ?_
        refine s_aald (t := 4) C dX4_greatestUpTo_17 (shc_4_1 hG) (by decide) (by omega) (rfa_14 (shc_4_1 hG) (show (m).toNat < 5 by omega)) ?_
        refine s_astore (ls2 := [some (vR G), some (vI x), some (gv G c), some (vI m), some (vR (G + 4 + 8 + (m).toNat))]) C dX4_greatestUpTo_18 (by decide) rfl ?_
        have bm : σ (G + 4 + 8 + (m).toNat) 0 = gB D m 0 := hB m 0 (by omega) (by omega) (by omega)
        have hst : cntR (gB D) x (m + 1).toNat = if gB D m 0 ≤ x ∧ (c = -1 ∨ gB D c 0 < gB D m 0) then m else c := by
          rw [show (m + 1).toNat = m.toNat + 1 by omega]
          show (if gB D (m.toNat : Int) 0 ≤ x ∧ (cntR (gB D) x m.toNat = -1 ∨ gB D (cntR (gB D) x m.toNat) 0 < gB D (m.toNat : Int) 0) then (m.toNat : Int) else cntR (gB D) x m.toNat) = _
          rw [← i4_1, show (m.toNat : Int) = m by omega]
        refine s_aload C dX4_greatestUpTo_20 rfl ?_
        refine s_getI (c := 1) (kz := 0) C fl_4_56 dX4_greatestUpTo_22 (sha_14 (shc_4_1 hG) (show (m).toNat < 5 by omega)) rfl rfl (fun g22 => ?_)
        refine s_iload_n C dX4_greatestUpTo_25 rfl ?_
        have J48 : ∀ (c2 : Int), (c2 = cntR (gB D) x (m + 1).toNat) → SW X E Q 0 0 48 [some (vR G), some (vI x), some (gv G c2), some (vI m), none] [] σ := by
          intro c2 j48_0
          obtain ⟨x3_48, ex3_48⟩ : ∃ y : Int, y = m + 1 := ⟨_, rfl⟩
          refine s_iinc (z2 := x3_48) (ls2 := [some (vR G), some (vI x), some (gv G c2), some (vI x3_48), none]) C dX4_greatestUpTo_48 (by decide) rfl ex3_48 rfl ?_
          refine s_goto (tgt := 4) C dX4_greatestUpTo_51 (by decide) ?_
          refine ih4 c2 x3_48 (by omega) (by first | assumption | omega) ?_ ?_
          · rw [show x3_48.toNat = (m + 1).toNat by omega]; exact j48_0
          · have h9 := cntR_in (gB D) x (m + 1).toNat
            rw [← j48_0] at h9
            omega
        refine s_icmp_gt (tgt := 48) C dX4_greatestUpTo_26 (by decide) (by omega) (by omega) (fun c26 => ?_) (fun c26 => ?_)
        · refine s_weak (ls2 := [some (vR G), some (vI x), some (gv G c), some (vI m), none]) (sv_wk_c (sv_wk_c (sv_wk_c (sv_wk_c (sv_wk_n sv_wk_0))))) ?_
          refine J48 c ?_
          · rw [hst, if_neg (by omega)]
        · by_cases q29 : c = -1
          · rw [gv_n q29]
            refine s_aloadN_n C dX4_greatestUpTo_29 rfl ?_
            refine s_ifnullN (tgt := 45) C dX4_greatestUpTo_30 (by decide) ?_
            refine s_aload C dX4_greatestUpTo_45 rfl ?_
            refine s_astore_n (ls2 := [some (vR G), some (vI x), some (vR (G + 4 + 8 + (m).toNat)), some (vI m), some (vR (G + 4 + 8 + (m).toNat))]) C dX4_greatestUpTo_47 (by decide) rfl ?_
            refine s_weak (ls2 := [some (vR G), some (vI x), some (vR (G + 4 + 8 + (m).toNat)), some (vI m), none]) (sv_wk_c (sv_wk_c (sv_wk_c (sv_wk_c (sv_wk_n sv_wk_0))))) ?_
            rw [← gv_r (G := G) (c := m) (by omega)]
            refine J48 m ?_
            · rw [hst, if_pos (by omega)]
          · rw [gv_r q29]
            have hc : 0 ≤ c ∧ c < m := by omega
            have bc : σ (G + 4 + 8 + (c).toNat) 0 = gB D c 0 := hB c 0 hc.1 (by omega) (by omega)
            refine s_aload_n C dX4_greatestUpTo_29 rfl ?_
            refine s_ifnull C dX4_greatestUpTo_30 ?_
            refine s_aload C dX4_greatestUpTo_33 rfl ?_
            refine s_getI (c := 1) (kz := 0) C fl_4_56 dX4_greatestUpTo_35 (sha_14 (shc_4_1 hG) (show (m).toNat < 5 by omega)) rfl rfl (fun g35 => ?_)
            refine s_aload_n C dX4_greatestUpTo_38 rfl ?_
            refine s_getI (c := 1) (kz := 0) C fl_4_56 dX4_greatestUpTo_39 (sha_14 (shc_4_1 hG) (show (c).toNat < 5 by omega)) rfl rfl (fun g39 => ?_)
            refine s_icmp_le (tgt := 48) C dX4_greatestUpTo_42 (by decide) (by omega) (by omega) (fun c42 => ?_) (fun c42 => ?_)
            · refine s_weak (ls2 := [some (vR G), some (vI x), some (vR (G + 4 + 8 + (c).toNat)), some (vI m), none]) (sv_wk_c (sv_wk_c (sv_wk_c (sv_wk_c (sv_wk_n sv_wk_0))))) ?_
              rw [← gv_r (G := G) (c := c) (by omega)]
              refine J48 c ?_
              · rw [hst, if_neg (by omega)]
            · refine s_aload C dX4_greatestUpTo_45 rfl ?_
              refine s_astore_n (ls2 := [some (vR G), some (vI x), some (vR (G + 4 + 8 + (m).toNat)), some (vI m), some (vR (G + 4 + 8 + (m).toNat))]) C dX4_greatestUpTo_47 (by decide) rfl ?_
              refine s_weak (ls2 := [some (vR G), some (vI x), some (vR (G + 4 + 8 + (m).toNat)), some (vI m), none]) (sv_wk_c (sv_wk_c (sv_wk_c (sv_wk_c (sv_wk_n sv_wk_0))))) ?_
              rw [← gv_r (G := G) (c := m) (by omega)]
              refine J48 m ?_
              · rw [hst, if_pos (by omega)]
  rw [← gv_n (G := G) (c := -1) rfl]
  refine L4 _ (-1) 0 (Nat.lt_succ_self _) (by first | assumption | omega) ?_ ?_
  · rfl
  · exact Or.inl rfl
set_option maxRecDepth 100000 in
set_option maxHeartbeats 8000000 in
theorem kX4_addUnlessNone {E : sv_E} {σ : sv_G} {a : Nat} {x : Int} (ha : shp a = (6, 0)) (hx : -1 ≤ x ∧ x ≤ 199) {ws : List Int} (hw : Rw σ a ws) : CT E MX4_addUnlessNone 1 [(vI x), (vR a)] σ (PI fun r σ9 => xtP σ σ9 a r (ext ws (jnO x))) := by
  refine CT.of (RX4, cX4_addUnlessNone, 2, (some .boolean), [], 1, 0, 0) rfl moX4_addUnlessNone (Nat.le_of_ble_eq_true rfl) (ls0 := [some (vI x), some (vR a)]) rfl ?_
  intro X Q C hR
  refine s_iload_n C dX4_addUnlessNone_0 rfl ?_
  refine s_iconst C dX4_addUnlessNone_1 ?_
  refine s_icmp_eq (tgt := 13) C dX4_addUnlessNone_2 (by decide) (by omega) (by omega) (fun c2 => ?_) (fun c2 => ?_)
  · have e0 : ext ws (jnO x) = some ws := by
      unfold jnO
      rw [if_pos c2]
      exact ext_nil hw.2.1
    refine s_iconst C dX4_addUnlessNone_13 ?_
    refine s_goto (tgt := 18) C dX4_addUnlessNone_14 (by decide) ?_
    refine s_zret C hR dX4_addUnlessNone_18 rfl (by decide) ⟨_, rfl, ?_⟩ (by decide)
    first
      | (rw [e0]; exact xt_yes frR.rf hw)
      | (rw [e0]; exact ⟨hp7.1, Or.inl ⟨rfl, hp7.one c10⟩⟩)
      | (rw [e0]; exact ⟨hp7.1, Or.inr ⟨rfl, hp7.zero c10⟩⟩)
  · have e0 : jnO x = some [x] := by
      unfold jnO
      rw [if_neg c2]
    refine s_aload_n C dX4_addUnlessNone_5 rfl ?_
    refine s_iload_n C dX4_addUnlessNone_6 rfl ?_
    refine s_cN1i C dX4_addUnlessNone_7 lkX4_107 moX6_add mvX6_add (kX6_addx ha (by omega) hw) ha ⟨_, _, rfl⟩ (by decide) (Nat.le_of_ble_eq_true rfl) rfl (by decide) (fun r7 σ_7 hp7 => ?_)
    have b7 := hp7.b
    refine s_if_eq (tgt := 17) C dX4_addUnlessNone_10 (by decide) (by omega) (fun c10 => ?_) (fun c10 => ?_)
    · refine s_iconst C dX4_addUnlessNone_17 ?_
      refine s_zret C hR dX4_addUnlessNone_18 rfl (by decide) ⟨_, rfl, ?_⟩ (by decide)
      first
        | (rw [e0]; exact xt_yes frR.rf hw)
        | (rw [e0]; exact ⟨hp7.1, Or.inl ⟨rfl, hp7.one c10⟩⟩)
        | (rw [e0]; exact ⟨hp7.1, Or.inr ⟨rfl, hp7.zero c10⟩⟩)
    · refine s_iconst C dX4_addUnlessNone_13 ?_
      refine s_goto (tgt := 18) C dX4_addUnlessNone_14 (by decide) ?_
      refine s_zret C hR dX4_addUnlessNone_18 rfl (by decide) ⟨_, rfl, ?_⟩ (by decide)
      first
        | (rw [e0]; exact xt_yes frR.rf hw)
        | (rw [e0]; exact ⟨hp7.1, Or.inl ⟨rfl, hp7.one c10⟩⟩)
        | (rw [e0]; exact ⟨hp7.1, Or.inr ⟨rfl, hp7.zero c10⟩⟩)
