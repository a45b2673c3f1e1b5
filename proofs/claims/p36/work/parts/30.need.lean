/-! What the calls need. -/
set_option maxRecDepth 100000 in
set_option maxHeartbeats 8000000 in
theorem kX7_needWord {E : sv_E} {σ : sv_G} {x : Int} (hx : -2147483648 ≤ x ∧ x ≤ 2147483647) : CX E MX7_needWord 6 [(vI x)] σ (PV fun σ9 => σ9 = σ ∧ (0 ≤ x ∧ x ≤ 199)) (fun En σ9 => σ9 = σ ∧ En = xI ∧ ¬ (0 ≤ x ∧ x ≤ 199)) := by
  refine CX.of (RX7, cX7_needWord, 1, none, [], 6, 1, 6) rfl moX7_needWord (by decide +kernel) (Nat.le_of_ble_eq_true rfl) (ls0 := [some (vI x)]) rfl ?_
  intro X Q C hR hT
  refine s_iload_n C dX7_needWord_0 rfl ?_
  refine s_if_lt (tgt := 11) C dX7_needWord_1 (by decide) (by omega) (fun c1 => ?_) (fun c1 => ?_)
  · exact s_throwG (sa := 0) (ik := 185) (is := 303) (ic := 189) C hT atX7_189 lcX7_185 lsX7_303 rfl (by exact ⟨rfl, rfl, by omega⟩) (by decide) (by decide) (by decide) (Nat.le_of_ble_eq_true rfl) true dX7_needWord_11 dX7_needWord_14 ⟨dX7_needWord_15, dX7_needWord_18, dX7_needWord_21⟩
  · refine s_iload_n C dX7_needWord_4 rfl ?_
    refine s_sipush C dX7_needWord_5 (by decide) ?_
    refine s_icmp_lt (tgt := 22) C dX7_needWord_8 (by decide) (by omega) (by omega) (fun c8 => ?_) (fun c8 => ?_)
    · refine s_vret C hR dX7_needWord_22 rfl ⟨rfl, ?_⟩ (by decide)
      exact ⟨rfl, by omega⟩
    · exact s_throwG (sa := 0) (ik := 185) (is := 303) (ic := 189) C hT atX7_189 lcX7_185 lsX7_303 rfl (by exact ⟨rfl, rfl, by omega⟩) (by decide) (by decide) (by decide) (Nat.le_of_ble_eq_true rfl) true dX7_needWord_11 dX7_needWord_14 ⟨dX7_needWord_15, dX7_needWord_18, dX7_needWord_21⟩
set_option maxRecDepth 100000 in
set_option maxHeartbeats 8000000 in
theorem kX7_needClass {E : sv_E} {σ : sv_G} {x : Int} (hx : -2147483648 ≤ x ∧ x ≤ 2147483647) : CX E MX7_needClass 6 [(vI x)] σ (PV fun σ9 => σ9 = σ ∧ (0 ≤ x ∧ x ≤ 2)) (fun En σ9 => σ9 = σ ∧ En = xI ∧ ¬ (0 ≤ x ∧ x ≤ 2)) := by
  refine CX.of (RX7, cX7_needClass, 1, none, [], 6, 1, 6) rfl moX7_needClass (by decide +kernel) (Nat.le_of_ble_eq_true rfl) (ls0 := [some (vI x)]) rfl ?_
  intro X Q C hR hT
  refine s_iload_n C dX7_needClass_0 rfl ?_
  refine s_if_lt (tgt := 9) C dX7_needClass_1 (by decide) (by omega) (fun c1 => ?_) (fun c1 => ?_)
  · exact s_throwG (sa := 0) (ik := 185) (is := 305) (ic := 189) C hT atX7_189 lcX7_185 lsX7_305 rfl (by exact ⟨rfl, rfl, by omega⟩) (by decide) (by decide) (by decide) (Nat.le_of_ble_eq_true rfl) true dX7_needClass_9 dX7_needClass_12 ⟨dX7_needClass_13, dX7_needClass_16, dX7_needClass_19⟩
  · refine s_iload_n C dX7_needClass_4 rfl ?_
    refine s_iconst C dX7_needClass_5 ?_
    refine s_icmp_lt (tgt := 20) C dX7_needClass_6 (by decide) (by omega) (by omega) (fun c6 => ?_) (fun c6 => ?_)
    · refine s_vret C hR dX7_needClass_20 rfl ⟨rfl, ?_⟩ (by decide)
      exact ⟨rfl, by omega⟩
    · exact s_throwG (sa := 0) (ik := 185) (is := 305) (ic := 189) C hT atX7_189 lcX7_185 lsX7_305 rfl (by exact ⟨rfl, rfl, by omega⟩) (by decide) (by decide) (by decide) (Nat.le_of_ble_eq_true rfl) true dX7_needClass_9 dX7_needClass_12 ⟨dX7_needClass_13, dX7_needClass_16, dX7_needClass_19⟩
set_option maxRecDepth 100000 in
set_option maxHeartbeats 8000000 in
theorem kX7_needCord {E : sv_E} {σ : sv_G} {x : Int} (hx : -2147483648 ≤ x ∧ x ≤ 2147483647) : CX E MX7_needCord 6 [(vI x)] σ (PV fun σ9 => σ9 = σ ∧ (0 ≤ x ∧ x ≤ 5)) (fun En σ9 => σ9 = σ ∧ En = xI ∧ ¬ (0 ≤ x ∧ x ≤ 5)) := by
  refine CX.of (RX7, cX7_needCord, 1, none, [], 6, 1, 6) rfl moX7_needCord (by decide +kernel) (Nat.le_of_ble_eq_true rfl) (ls0 := [some (vI x)]) rfl ?_
  intro X Q C hR hT
  refine s_iload_n C dX7_needCord_0 rfl ?_
  refine s_if_lt (tgt := 10) C dX7_needCord_1 (by decide) (by omega) (fun c1 => ?_) (fun c1 => ?_)
  · exact s_throwG (sa := 0) (ik := 185) (is := 307) (ic := 189) C hT atX7_189 lcX7_185 lsX7_307 rfl (by exact ⟨rfl, rfl, by omega⟩) (by decide) (by decide) (by decide) (Nat.le_of_ble_eq_true rfl) true dX7_needCord_10 dX7_needCord_13 ⟨dX7_needCord_14, dX7_needCord_17, dX7_needCord_20⟩
  · refine s_iload_n C dX7_needCord_4 rfl ?_
    refine s_bipush C dX7_needCord_5 (by decide) ?_
    refine s_icmp_lt (tgt := 21) C dX7_needCord_7 (by decide) (by omega) (by omega) (fun c7 => ?_) (fun c7 => ?_)
    · refine s_vret C hR dX7_needCord_21 rfl ⟨rfl, ?_⟩ (by decide)
      exact ⟨rfl, by omega⟩
    · exact s_throwG (sa := 0) (ik := 185) (is := 307) (ic := 189) C hT atX7_189 lcX7_185 lsX7_307 rfl (by exact ⟨rfl, rfl, by omega⟩) (by decide) (by decide) (by decide) (Nat.le_of_ble_eq_true rfl) true dX7_needCord_10 dX7_needCord_13 ⟨dX7_needCord_14, dX7_needCord_17, dX7_needCord_20⟩
set_option maxRecDepth 100000 in
set_option maxHeartbeats 8000000 in
theorem kX7_needRange {E : sv_E} {σ : sv_G} {x y z : Int} (hx : -2147483648 ≤ x ∧ x ≤ 2147483647) (hy : -2147483648 ≤ y ∧ y ≤ 2147483647) (hz : -2147483648 ≤ z ∧ z ≤ 2147483647) : CX E MX7_needRange 6 [(vI x), (vI y), (vI z)] σ (PV fun σ9 => σ9 = σ ∧ (y ≤ x ∧ x ≤ z)) (fun En σ9 => σ9 = σ ∧ En = xA ∧ ¬ (y ≤ x ∧ x ≤ z)) := by
  refine CX.of (RX7, cX7_needRange, 3, none, [], 6, 1, 6) rfl moX7_needRange (by decide +kernel) (Nat.le_of_ble_eq_true rfl) (ls0 := [some (vI x), some (vI y), some (vI z)]) rfl ?_
  intro X Q C hR hT
  refine s_iload_n C dX7_needRange_0 rfl ?_
  refine s_iload_n C dX7_needRange_1 rfl ?_
  refine s_icmp_lt (tgt := 10) C dX7_needRange_2 (by decide) (by omega) (by omega) (fun c2 => ?_) (fun c2 => ?_)
  · exact s_throwG (sa := 0) (ik := 211) (is := 309) (ic := 215) C hT atX7_215 lcX7_211 lsX7_309 rfl (by exact ⟨rfl, rfl, by omega⟩) (by decide) (by decide) (by decide) (Nat.le_of_ble_eq_true rfl) true dX7_needRange_10 dX7_needRange_13 ⟨dX7_needRange_14, dX7_needRange_17, dX7_needRange_20⟩
  · refine s_iload_n C dX7_needRange_5 rfl ?_
    refine s_iload_n C dX7_needRange_6 rfl ?_
    refine s_icmp_le (tgt := 21) C dX7_needRange_7 (by decide) (by omega) (by omega) (fun c7 => ?_) (fun c7 => ?_)
    · refine s_vret C hR dX7_needRange_21 rfl ⟨rfl, ?_⟩ (by decide)
      exact ⟨rfl, by omega⟩
    · exact s_throwG (sa := 0) (ik := 211) (is := 309) (ic := 215) C hT atX7_215 lcX7_211 lsX7_309 rfl (by exact ⟨rfl, rfl, by omega⟩) (by decide) (by decide) (by decide) (Nat.le_of_ble_eq_true rfl) true dX7_needRange_10 dX7_needRange_13 ⟨dX7_needRange_14, dX7_needRange_17, dX7_needRange_20⟩
set_option maxRecDepth 100000 in
set_option maxHeartbeats 8000000 in
theorem kX7_needWordOrNone {E : sv_E} {σ : sv_G} {x : Int} (hx : -2147483648 ≤ x ∧ x ≤ 2147483647) : CX E MX7_needWordOrNone 7 [(vI x)] σ (PV fun σ9 => σ9 = σ ∧ (-1 ≤ x ∧ x ≤ 199)) (fun En σ9 => σ9 = σ ∧ En = xI ∧ ¬ (-1 ≤ x ∧ x ≤ 199)) := by
  refine CX.of (RX7, cX7_needWordOrNone, 1, none, [], 7, 1, 6) rfl moX7_needWordOrNone (by decide +kernel) (Nat.le_of_ble_eq_true rfl) (ls0 := [some (vI x)]) rfl ?_
  intro X Q C hR hT
  refine s_iload_n C dX7_needWordOrNone_0 rfl ?_
  refine s_iconst C dX7_needWordOrNone_1 ?_
  refine s_icmp_eq (tgt := 9) C dX7_needWordOrNone_2 (by decide) (by omega) (by omega) (fun c2 => ?_) (fun c2 => ?_)
  · refine s_vret C hR dX7_needWordOrNone_9 rfl ⟨rfl, ?_⟩ (by decide)
    exact ⟨rfl, by omega⟩
  · refine s_iload_n C dX7_needWordOrNone_5 rfl ?_
    refine sx_cS1v (u2 := 1) (w2 := 6) C dX7_needWordOrNone_6 lkX7_78 moX7_needWord mvX7_needWord (kX7_needWord (by omega)) (by decide) (Nat.le_of_ble_eq_true rfl) (by decide) (by decide) hT rfl (by decide) (fun En σ9 h => ⟨h.1, h.2.1, by omega⟩) (kpV (fun hp6 => ?_))
    refine s_vret C hR dX7_needWordOrNone_9 rfl ⟨rfl, ?_⟩ (by decide)
    exact ⟨rfl, by omega⟩
set_option maxRecDepth 100000 in
set_option maxHeartbeats 8000000 in
theorem kX7_grammarAt {E : sv_E} {σ : sv_G} {x : Int} (hx : -2147483648 ≤ x ∧ x ≤ 2147483647) : CX E MX7_grammarAt 6 [(vR 0), (vI x)] σ (PR fun r σ9 => σ9 = σ ∧ (0 ≤ x ∧ x ≤ 3) ∧ r = 23 + 17 * x.toNat ∧ shp r = (4, 0)) (fun En σ9 => σ9 = σ ∧ En = xI ∧ ¬ (0 ≤ x ∧ x ≤ 3)) := by
  refine CX.of (RX7, cX7_grammarAt, 2, (some (.object "NumeralBabel$Grammar")), [], 6, 1, 6) rfl moX7_grammarAt (by decide +kernel) (Nat.le_of_ble_eq_true rfl) (ls0 := [some (vR 0), some (vI x)]) rfl ?_
  intro X Q C hR hT
  refine s_iload_n C dX7_grammarAt_0 rfl ?_
  refine s_if_lt (tgt := 9) C dX7_grammarAt_1 (by decide) (by omega) (fun c1 => ?_) (fun c1 => ?_)
  · exact s_throwG (sa := 0) (ik := 185) (is := 296) (ic := 189) C hT atX7_189 lcX7_185 lsX7_296 rfl (by exact ⟨rfl, rfl, by omega⟩) (by decide) (by decide) (by decide) (Nat.le_of_ble_eq_true rfl) true dX7_grammarAt_9 dX7_grammarAt_12 ⟨dX7_grammarAt_13, dX7_grammarAt_16, dX7_grammarAt_19⟩
  · refine s_iload_n C dX7_grammarAt_4 rfl ?_
    refine s_iconst C dX7_grammarAt_5 ?_
    refine s_icmp_lt (tgt := 20) C dX7_grammarAt_6 (by decide) (by omega) (by omega) (fun c6 => ?_) (fun c6 => ?_)
    · refine s_aload_n C dX7_grammarAt_20 rfl ?_
      refine s_getR (c := 7) C fl_7_11 dX7_grammarAt_21 sh_0 rfl rf_0_0 ?_
      refine s_iload_n C dX7_grammarAt_24 rfl ?_
      refine s_aald (t := 2) C dX7_grammarAt_25 sh_1 (by decide) (by omega) (rfa_1 (show (x).toNat < 4 by omega)) ?_
      refine s_aret C hR dX7_grammarAt_26 rfl ⟨_, rfl, ?_⟩ (by decide)
      exact ⟨rfl, by omega, rfl, sha_1 (show (x).toNat < 4 by omega)⟩
    · exact s_throwG (sa := 0) (ik := 185) (is := 296) (ic := 189) C hT atX7_189 lcX7_185 lsX7_296 rfl (by exact ⟨rfl, rfl, by omega⟩) (by decide) (by decide) (by decide) (Nat.le_of_ble_eq_true rfl) true dX7_grammarAt_9 dX7_grammarAt_12 ⟨dX7_grammarAt_13, dX7_grammarAt_16, dX7_grammarAt_19⟩
set_option maxRecDepth 100000 in
set_option maxHeartbeats 8000000 in
theorem kX7_grammarToHear {E : sv_E} {σ : sv_G} {x y z : Int} (hx : -2147483648 ≤ x ∧ x ≤ 2147483647) (hy : -2147483648 ≤ y ∧ y ≤ 2147483647) (hz : -2147483648 ≤ z ∧ z ≤ 2147483647) : CX E MX7_grammarToHear 7 [(vR 0), (vI x), (vI y), (vI z)] σ (PR fun r σ9 => σ9 = σ ∧ ((0 ≤ x ∧ x ≤ 3) ∧ (0 ≤ y ∧ y ≤ 2) ∧ 0 ≤ z ∧ z ≤ 999) ∧ r = 23 + 17 * x.toNat ∧ shp r = (4, 0)) (fun En σ9 => σ9 = σ ∧ ((En = xI ∧ ¬ ((0 ≤ x ∧ x ≤ 3) ∧ 0 ≤ y ∧ y ≤ 2)) ∨ (En = xA ∧ ((0 ≤ x ∧ x ≤ 3) ∧ 0 ≤ y ∧ y ≤ 2) ∧ ¬ (0 ≤ z ∧ z ≤ 999)))) := by
  refine CX.of (RX7, cX7_grammarToHear, 5, (some (.object "NumeralBabel$Grammar")), [], 7, 3, 18) rfl moX7_grammarToHear (by decide +kernel) (Nat.le_of_ble_eq_true rfl) (ls0 := [some (vR 0), some (vI x), some (vI y), some (vI z), none]) rfl ?_
  intro X Q C hR hT
  refine s_aload_n C dX7_grammarToHear_0 rfl ?_
  refine s_iload_n C dX7_grammarToHear_1 rfl ?_
  refine sx_cV1r (u2 := 1) (w2 := 6) C dX7_grammarToHear_2 lkX7_70 moX7_grammarAt mvX7_grammarAt (kX7_grammarAt (by omega)) sh_0 ⟨_, _, rfl⟩ (by decide) (Nat.le_of_ble_eq_true rfl) (by decide) (by decide) hT rfl (by decide) (fun En σ9 h => ⟨h.1, Or.inl ⟨h.2.1, by omega⟩⟩) (kpI (fun r2 hp2 => ?_))
  refine s_astore (ls2 := [some (vR 0), some (vI x), some (vI y), some (vI z), some (vR r2)]) C dX7_grammarToHear_5 (by decide) rfl ?_
  refine s_iload_n C dX7_grammarToHear_7 rfl ?_
  refine sx_cS1v (u2 := 2) (w2 := 12) C dX7_grammarToHear_8 lkX7_173 moX7_needClass mvX7_needClass (kX7_needClass (by omega)) (by decide) (Nat.le_of_ble_eq_true rfl) (by decide) (by decide) hT rfl (by decide) (fun En σ9 h => ⟨h.1, Or.inl ⟨h.2.1, by omega⟩⟩) (kpV (fun hp8 => ?_))
  refine s_iload_n C dX7_grammarToHear_11 rfl ?_
  refine s_iconst C dX7_grammarToHear_12 ?_
  refine s_sipush C dX7_grammarToHear_13 (by decide) ?_
  refine sx_cS3v (u2 := 3) (w2 := 18) C dX7_grammarToHear_16 lkX7_82 moX7_needRange mvX7_needRange (kX7_needRange (by omega) (by decide) (by decide)) (by decide) (Nat.le_of_ble_eq_true rfl) (by decide) (by decide) hT rfl (by decide) (fun En σ9 h => ⟨h.1, Or.inr ⟨h.2.1, by omega, h.2.2⟩⟩) (kpV (fun hp16 => ?_))
  refine s_aload C dX7_grammarToHear_19 rfl ?_
  refine s_aret C hR dX7_grammarToHear_21 rfl ⟨_, rfl, ?_⟩ (by decide)
  exact ⟨rfl, by omega, hp2.2.1, hp2.2.2⟩
set_option maxRecDepth 100000 in
set_option maxHeartbeats 8000000 in
theorem kX7_baseAt {E : sv_E} {σ : sv_G} {G : Nat} {D : gd_T} (hG : shp G = (4, 0)) (hn : σ G 2 = gC D 1) (hm : gC D 1 ≤ 5) {x : Int} (hx : -2147483648 ≤ x ∧ x ≤ 2147483647) : CX E MX7_baseAt 6 [(vR G), (vI x)] σ (PR fun r σ9 => σ9 = σ ∧ (0 ≤ x ∧ x < gC D 1) ∧ r = G + 4 + 8 + x.toNat ∧ shp r = (1, 0)) (fun En σ9 => σ9 = σ ∧ En = xI ∧ ¬ (0 ≤ x ∧ x < gC D 1)) := by
  refine CX.of (RX7, cX7_baseAt, 2, (some (.object "NumeralBabel$Base")), [], 6, 1, 6) rfl moX7_baseAt (by decide +kernel) (Nat.le_of_ble_eq_true rfl) (ls0 := [some (vR G), some (vI x)]) rfl ?_
  intro X Q C hR hT
  refine s_iload_n C dX7_baseAt_0 rfl ?_
  refine s_if_lt (tgt := 12) C dX7_baseAt_1 (by decide) (by omega) (fun c1 => ?_) (fun c1 => ?_)
  · exact s_throwG (sa := 0) (ik := 185) (is := 298) (ic := 189) C hT atX7_189 lcX7_185 lsX7_298 rfl (by exact ⟨rfl, rfl, by omega⟩) (by decide) (by decide) (by decide) (Nat.le_of_ble_eq_true rfl) true dX7_baseAt_12 dX7_baseAt_15 ⟨dX7_baseAt_16, dX7_baseAt_19, dX7_baseAt_22⟩
  · refine s_iload_n C dX7_baseAt_4 rfl ?_
    refine s_aload_n C dX7_baseAt_5 rfl ?_
    refine s_getI (c := 4) (kz := 2) C fl_7_110 dX7_baseAt_6 hG rfl rfl (fun g6 => ?_)
    refine s_icmp_lt (tgt := 23) C dX7_baseAt_9 (by decide) (by omega) (by omega) (fun c9 => ?_) (fun c9 => ?_)
    · refine s_aload_n C dX7_baseAt_23 rfl ?_
      refine s_getR (c := 4) C fl_7_300 dX7_baseAt_24 hG rfl (rfc_4_1 hG) ?_
      refine s_iload_n C dX7_baseAt_27 rfl ?_
      refine s_aald (t := 4) C dX7_baseAt_28 (shc_4_1 hG) (by decide) (by omega) (rfa_14 (shc_4_1 hG) (show (x).toNat < 5 by omega)) ?_
      refine s_aret C hR dX7_baseAt_29 rfl ⟨_, rfl, ?_⟩ (by decide)
      exact ⟨rfl, by omega, rfl, sha_14 (shc_4_1 hG) (show (x).toNat < 5 by omega)⟩
    · exact s_throwG (sa := 0) (ik := 185) (is := 298) (ic := 189) C hT atX7_189 lcX7_185 lsX7_298 rfl (by exact ⟨rfl, rfl, by omega⟩) (by decide) (by decide) (by decide) (Nat.le_of_ble_eq_true rfl) true dX7_baseAt_12 dX7_baseAt_15 ⟨dX7_baseAt_16, dX7_baseAt_19, dX7_baseAt_22⟩
