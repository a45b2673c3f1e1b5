/-! The law's own rules: constants of ints, a row of 20 ints that stands behind the object's cells, room. -/
theorem s_ldc {X : sx_T} {E : sv_E} {D : sd_T} {Q : State → Prop} {u w pc : Nat} {ls : List (Option sv_V)} {st : List sv_V} {σ : sv_G} {n : Int} {v : Int32} {idx : Nat} (C : sx_ok X E D) (hd : decode D.2.1 pc = .ok (.ldc idx, 2)) (hw : Cond.constant D.1 idx v ∈ LW) (hv : v = Int32.ofInt n) (kk : SW X E Q u w (pc + 2) ls (vI n :: st) σ) : SW X E Q u w pc ls st σ := by
  obtain ⟨p, l, e, R, s, m, args, below, meth, c⟩ := X
  obtain ⟨own, cc, nL, rt, tb, k, mc, ms⟩ := D
  obtain ⟨hx, hb, hnl, hown, hts, -⟩ := C
  intro H locs lsA hR hL
  have kk := kk H locs lsA hR hL
  subst hv
  exact lv_ldc hx hb hown (hts _ hw) hd kk
theorem s_widen {X : sx_T} {E : sv_E} {Q : State → Prop} {u w u2 w2 pc : Nat} {ls : List (Option sv_V)} {st : List sv_V} {σ : sv_G} (hu : u ≤ u2) (hw : w ≤ w2) (kk : SW X E Q u2 w2 pc ls st σ) : SW X E Q u w pc ls st σ := by
  obtain ⟨p, l, e, R, s, m, args, below, meth, c⟩ := X
  intro H locs lsA hR hL
  exact W.widen hu hw (kk H locs lsA hR hL)
theorem i32_rng (x : Int32) : -2147483648 ≤ x.toInt ∧ x.toInt ≤ 2147483647 := by
  have h1 := Int32.le_toInt x
  have h2 := Int32.toInt_lt x
  omega
theorem px3_no {σ σ9 : sv_G} {n : Int} {e1 e2 e3 En : String} (h : n = 0) : ¬ px3 σ n e1 e2 e3 En σ9 := by
  rintro ⟨-, ⟨-, h1⟩ | ⟨-, h1⟩ | ⟨-, h1⟩⟩ <;> omega
theorem px4_no {σ σ9 : sv_G} {S : st_T} {n : Int} {e1 e2 En : String} (h : n = 0) : ¬ px4 σ S n e1 e2 En σ9 := by
  rintro ⟨-, ⟨-, h1⟩ | ⟨-, h1⟩⟩ <;> omega
theorem landI_max (x : Int) : 0 ≤ landI x 2147483647 ∧ landI x 2147483647 ≤ 2147483647 := by
  have h : (Int32.ofInt x &&& Int32.ofInt 2147483647).toBitVec.toNat ≤ 2147483647 := by
    rw [Int32.toBitVec_and, BitVec.toNat_and]
    exact Nat.and_le_right
  have h2 : (Int32.ofInt x &&& Int32.ofInt 2147483647).toInt = ((Int32.ofInt x &&& Int32.ofInt 2147483647).toBitVec.toNat : Int) := by
    show BitVec.toInt _ = _
    rw [BitVec.toInt_eq_toNat_cond, if_pos (by omega)]
  unfold landI
  rw [h2]
  omega
def wE (E : sv_E) (j : Nat) : sv_E := (E.1, (E.2.1.1, [j]), E.2.2)
def wZ (σ : sv_G) (j : Nat) : sv_G := fun a k => if a = 195 + j then 0 else σ a k
theorem wZ_a {σ : sv_G} {j a : Nat} (h : a ≠ 195 + j) (k : Int) : wZ σ j a k = σ a k := if_neg h
theorem wZ_s {σ : sv_G} {j : Nat} (k : Int) : wZ σ j (195 + j) k = 0 := if_pos rfl
theorem cv_wE {E : sv_E} {j : Nat} (v : sv_V) : cv (wE E j) v = cv E v := by
  match v with
  | .inl _ => rfl
  | .inr (.inl _) => rfl
  | .inr (.inr (.inl _)) => rfl
  | .inr (.inr (.inr false)) => rfl
  | .inr (.inr (.inr true)) => rfl
theorem cv_wEm {E : sv_E} {j : Nat} (st : List sv_V) : st.map (cv (wE E j)) = st.map (cv E) := List.map_congr_left fun v _ => cv_wE v
theorem sx_wE {X : sx_T} {E : sv_E} {D : sd_T} {j : Nat} (C : sx_ok X E D) : sx_ok X (wE E j) D := by
  obtain ⟨p, l, e, R, s, m, args, below, meth, c⟩ := X
  obtain ⟨own, cc, nL, rt, tb, k, mc, ms⟩ := D
  exact C
theorem cel_wE {E : sv_E} {σ σ2 : sv_G} {j a : Nat} (h : ∀ k, σ2 a k = σ a k) : cel (wE E j) σ2 a = cel E σ a := by
  have e1 : ∀ c, fld (wE E j) σ2 a c = fld E σ a c := by
    intro c
    funext k
    unfold fld
    rw [h]
    rfl
  unfold cel
  split <;> simp only [celI, celL, celR, celO, h, e1] <;> rfl
theorem sv_ws_0 {E : sv_E} {σ : sv_G} (he : E.2.1.2 = []) : sv_ws E σ = (List.range 195).map fun a => (E.1 + a, cel E σ a) := by
  unfold sv_ws sv_wx
  rw [he, List.map_nil, List.append_nil]
theorem sv_ws_1 {E : sv_E} {σ σ2 : sv_G} {j : Nat} (he : E.2.1.2 = []) (h : ∀ a k, a < 195 → σ2 a k = σ a k) : sv_ws (wE E j) σ2 = sv_ws E σ ++ [(E.1 + (195 + j), celI (wE E j) σ2 (195 + j) 20)] := by
  rw [sv_ws_0 he]
  show ((List.range 195).map fun a => (E.1 + a, cel (wE E j) σ2 a)) ++ [(E.1 + (195 + j), celI (wE E j) σ2 (195 + j) 20)] = _
  congr 1
  refine List.map_congr_left fun a ha => ?_
  rw [cel_wE fun k => h a k (List.mem_range.mp ha)]
theorem sv_ws_at1 {E : sv_E} {σ : sv_G} {j : Nat} : (sv_ws (wE E j) σ)[195]? = some (E.1 + (195 + j), celI (wE E j) σ (195 + j) 20) := by
  show (((List.range 195).map fun a => (E.1 + a, cel (wE E j) σ a)) ++ [(E.1 + (195 + j), celI (wE E j) σ (195 + j) 20)])[195]? = _
  rw [List.getElem?_append_right (by simp)]
  simp
theorem sv_L_wE {E : sv_E} {j : Nat} {lsA : Array Slot} {nL : Nat} {ls : List (Option sv_V)} : sv_L (wE E j) lsA nL ls ↔ sv_L E lsA nL ls := by
  unfold sv_L
  simp only [cv_wE]
theorem s_dropW {X : sx_T} {E : sv_E} {Q : State → Prop} {u w pc : Nat} {ls : List (Option sv_V)} {st : List sv_V} {σ : sv_G} {j : Nat} (he : E.2.1.2 = []) (kk : SW X E Q u w pc ls st σ) : SW X (wE E j) Q u w pc ls st σ := by
  obtain ⟨p, l, e, R, s, m, args, below, meth, c⟩ := X
  intro H locs lsA hR hL
  obtain ⟨hP, hD, hS, hG⟩ := hR
  rw [sv_ws_1 (σ := σ) he (fun _ _ _ => rfl)] at hP hD
  have hpre : ∀ (k : Nat) (x : Nat × va_E), (sv_ws E σ)[k]? = some x → (sv_ws E σ ++ [(E.1 + (195 + j), celI (wE E j) σ (195 + j) 20)])[k]? = some x := fun k x hx => by
    rw [List.getElem?_append_left (List.getElem?_eq_some_iff.mp hx).1]; exact hx
  rw [cv_wEm]
  exact kk H locs lsA ⟨fun k x hx => hP k x (hpre k x hx), ⟨fun a b x y h1 h2 h3 => hD.1 a b x y (hpre a x h1) (hpre b y h2) h3, fun k x hx => hD.2 k x (hpre k x hx)⟩, hS, hG⟩ (sv_L_wE.mp hL)
theorem s_newW {X : sx_T} {E : sv_E} {D : sd_T} {Q : State → Prop} {u w pc : Nat} {ls : List (Option sv_V)} {st : List sv_V} {σ : sv_G} (C : sx_ok X E D) (he : E.2.1.2 = []) (hd : decode D.2.1 pc = .ok (.newarray .int, 2)) (hr : u + 1 ≤ dMc D ∧ w + 20 ≤ dMs D) (kk : ∀ j : Nat, SW X (wE E j) Q (u + 1) (w + 20) (pc + 2) ls (vR (195 + j) :: st) (wZ σ j)) : SW X E Q u w pc ls (vI 20 :: st) σ := by
  obtain ⟨p, l, e, R, s, m, args, below, meth, c⟩ := X
  obtain ⟨own, cc, nL, rt, tb, k, mc, ms⟩ := D
  obtain ⟨hx, hb, hnl, hown, hts, hMW, hK, hret, hlocks, htab, htr, hRf, hRl, hRc, hRs⟩ := C
  intro H locs lsA hR hL
  obtain ⟨hP, hD, hS, hG⟩ := hR
  have h194 := (hP 194 _ (sv_ws_at (by decide))).lt
  obtain ⟨j, hj⟩ : ∃ j, H.size = E.1 + (195 + j) := ⟨H.size - (E.1 + 195), by have z : E.1 + 194 < H.size := h194; omega⟩
  refine va_newaK (n := Int32.ofInt 20) hx hb (hts _ ac_I) rfl hd rfl (by decide) (N := 20) (by decide) (by decide) (Nat.le_trans hr.1 hRc) (Nat.le_trans hr.2 hRs) rfl fun H1 cA e1 z1 o1 hAr hNm => ?_
  have hcA : cA = E.2.2.1 0 := Option.some.inj (hNm.symm.trans (hK.2 0 _ rfl).2)
  subst hcA
  have hk : ∀ (k : Nat) (x : Nat × va_E), (sv_ws E σ)[k]? = some x → H1[x.1]? = H[x.1]? := fun k x hx => o1 x.1 ((hP k x hx).lt)
  have ew := sv_ws_1 (σ := σ) (σ2 := wZ σ j) (j := j) he (fun a k ha => wZ_a (by omega) k)
  have hP1 : va_P E.2.2.2 vwCl (sv_ws (wE E j) (wZ σ j)) H1 := by
    rw [ew]
    refine (hP.kept hk).app (fun k x hx => ?_)
    have hz9 : k < 1 := (List.getElem?_eq_some_iff.mp hx).1
    rw [show k = 0 by omega] at hx
    cases hx
    rw [← hj]
    show H1[H.size]? = some (vp_cell _ _)
    rw [e1]
    unfold vp_cell
    simp only [wZ_s]
    rfl
  have hD1 : va_D (fun q => E.1 ≤ q) (sv_ws (wE E j) (wZ σ j)) := by
    rw [ew, ← hj]
    exact hD.push hP rfl (by omega)
  have hG1 : RG (wZ σ j) := fun a k => by
    by_cases q : a = 195 + j
    · rw [q, wZ_s]; exact ⟨fun _ => by decide, by decide⟩
    · rw [wZ_a q]; exact hG a k
  have h := kk j H1 locs lsA ⟨hP1, hD1, ⟨Nat.le_trans hS.1 (by omega), fun x h1 h2 => (o1 x (Nat.lt_of_lt_of_le h1 hS.1)).trans (hS.2.1 x h1 h2), hS.2.2⟩, hG1⟩ (sv_L_wE.mpr hL)
  rw [cv_wEm] at h
  have e9 : (vR (195 + j) :: st).map (cv E) = .ref H.size :: st.map (cv E) := by rw [hj]; rfl
  rw [e9] at h
  exact h
theorem s_ialdW {X : sx_T} {E : sv_E} {D : sd_T} {Q : State → Prop} {u w pc : Nat} {ls : List (Option sv_V)} {st : List sv_V} {σ : sv_G} {j : Nat} {i : Int} (C : sx_ok X (wE E j) D) (hd : decode D.2.1 pc = .ok (.iaload, 1)) (hi : 0 ≤ i ∧ i < 20) (kk : (-2147483648 ≤ σ (195 + j) i ∧ σ (195 + j) i ≤ 2147483647) → SW X (wE E j) Q u w (pc + 1) ls (vI (σ (195 + j) i) :: st) σ) : SW X (wE E j) Q u w pc ls (vI i :: vR (195 + j) :: st) σ := by
  obtain ⟨p, l, e, R, s, m, args, below, meth, c⟩ := X
  obtain ⟨own, cc, nL, rt, tb, k, mc, ms⟩ := D
  obtain ⟨hx, hb, hnl, hown, hts, hMW, hK, -⟩ := C
  intro H locs lsA hR hL
  obtain ⟨hP, hD, hS, hG⟩ := hR
  have hlg : isLg (195 + j) i = false := by
    have h : shp (195 + j) = (99, 0) := by
      unfold shp
      rw [List.getD_eq_getElem?_getD, List.getElem?_eq_none (by show sh_L.length ≤ 195 + j; exact Nat.le_trans (by decide +kernel) (Nat.le_add_right 195 j))]
      rfl
    unfold isLg
    rw [h]
    rfl
  have kk := kk (hG.i hlg) H locs lsA ⟨hP, hD, hS, hG⟩ hL
  refine va_iald hx hb hK hP 195 0 (f := fun k => Int32.ofInt (σ (195 + j) k)) sv_ws_at1 rfl (ix_in (n := 20) hi.1 hi.2 (by decide)) hd ?_
  simp only [ix_cl hi.1 (by omega : i ≤ 2147483647)]
  exact kk
theorem ws_setW {E : sv_E} {σ : sv_G} {j : Nat} {k v : Int} : (sv_ws (wE E j) σ).set 195 (E.1 + (195 + j), celI (wE E j) (up σ (195 + j) k v) (195 + j) 20) = sv_ws (wE E j) (up σ (195 + j) k v) := by
  show (((List.range 195).map fun a => (E.1 + a, cel (wE E j) σ a)) ++ [(E.1 + (195 + j), celI (wE E j) σ (195 + j) 20)]).set 195 _ = ((List.range 195).map fun a => (E.1 + a, cel (wE E j) (up σ (195 + j) k v) a)) ++ [(E.1 + (195 + j), celI (wE E j) (up σ (195 + j) k v) (195 + j) 20)]
  have hb : ((List.range 195).map fun a => (E.1 + a, cel (wE E j) (up σ (195 + j) k v) a)) = (List.range 195).map fun a => (E.1 + a, cel (wE E j) σ a) := List.map_congr_left fun a ha => by
    have ha2 := List.mem_range.mp ha
    rw [up_cel (by omega)]
  rw [hb, List.set_append_right _ _ (by simp)]
  simp
theorem s_iastW {X : sx_T} {E : sv_E} {D : sd_T} {Q : State → Prop} {u w pc : Nat} {ls : List (Option sv_V)} {st : List sv_V} {σ : sv_G} {j : Nat} {i z : Int} (C : sx_ok X (wE E j) D) (hd : decode D.2.1 pc = .ok (.iastore, 1)) (hi : 0 ≤ i ∧ i < 20) (hz : -2147483648 ≤ z ∧ z ≤ 2147483647) (kk : SW X (wE E j) Q u w (pc + 1) ls st (up σ (195 + j) i z)) : SW X (wE E j) Q u w pc ls (vI z :: vI i :: vR (195 + j) :: st) σ := by
  obtain ⟨p, l, e, R, s, m, args, below, meth, c⟩ := X
  obtain ⟨own, cc, nL, rt, tb, k, mc, ms⟩ := D
  obtain ⟨hx, hb, hnl, hown, hts, hMW, hK, -⟩ := C
  intro H locs lsA hR hL
  obtain ⟨hP, hD, hS, hG⟩ := hR
  have he : upd (fun k : Nat => Int32.ofInt (σ (195 + j) k)) (Int32.ofInt i).toNatClampNeg (Int32.ofInt z) = fun k : Nat => Int32.ofInt (up σ (195 + j) i z (195 + j) k) := by
    funext k
    have h1 := ix_cl hi.1 (by omega : i ≤ 2147483647)
    unfold upd up
    by_cases q : k = (Int32.ofInt i).toNatClampNeg
    · rw [if_pos q, if_pos ⟨rfl, by omega⟩]
    · rw [if_neg q, if_neg (by omega)]
  refine va_iast hx hb hK hP hD hS 195 0 (f := fun k => Int32.ofInt (σ (195 + j) k)) sv_ws_at1 rfl (ix_in (n := 20) hi.1 hi.2 (by decide)) hd (fun H1 locs1 a1 a2 a3 => ?_)
  rw [he] at a1 a2
  refine kk H1 locs1 lsA ⟨?_, ?_, a3, hG.upI hz⟩ hL
  · rw [← ws_setW]; exact a1
  · rw [← ws_setW]; exact a2
theorem s_mS2i {X : sx_T} {E : sv_E} {D : sd_T} {Q : State → Prop} {u w pc : Nat} {ls : List (Option sv_V)} {σ : sv_G} {M : md_T} {idx k9 u2 w2 : Nat} {v1 v2 : sv_V} {rest : List sv_V} {P : Int → sv_G → Prop} (C : sx_ok X E D) (hd : decode D.2.1 pc = .ok (.invokestatic idx, 3)) (hl : Cond.methodLink D.1 idx M.1 ∈ LW) (ho : mo M 2) (hv : mos M) (hM : CT E M k9 [v1, v2] σ (PI P)) (hk : k9 + 1 ≤ dK D) (hrest : rw8 rest ≤ 8) (h2 : u + mdM M = u2 ∧ w + 6 * mdM M = w2) (hb9 : u2 ≤ dMc D ∧ w2 ≤ dMs D) (kk : ∀ r9 σ9, P r9 σ9 → SW X E Q u2 w2 (pc + 3) ls (vI r9 :: rest) σ9) : SW X E Q u w pc ls (v2 :: v1 :: rest) σ := by
  obtain ⟨rfl, rfl⟩ := h2
  exact s_cS (as9 := [v1, v2]) (rest := rest) C hd hl ho hv hM rfl hk hrest hb9 (fun o9 σ9 h9 => by
    obtain ⟨r9, rfl, h9⟩ := h9
    exact kk r9 σ9 h9)
theorem s_mS3i {X : sx_T} {E : sv_E} {D : sd_T} {Q : State → Prop} {u w pc : Nat} {ls : List (Option sv_V)} {σ : sv_G} {M : md_T} {idx k9 u2 w2 : Nat} {v1 v2 v3 : sv_V} {rest : List sv_V} {P : Int → sv_G → Prop} (C : sx_ok X E D) (hd : decode D.2.1 pc = .ok (.invokestatic idx, 3)) (hl : Cond.methodLink D.1 idx M.1 ∈ LW) (ho : mo M 3) (hv : mos M) (hM : CT E M k9 [v1, v2, v3] σ (PI P)) (hk : k9 + 1 ≤ dK D) (hrest : rw8 rest ≤ 8) (h2 : u + mdM M = u2 ∧ w + 6 * mdM M = w2) (hb9 : u2 ≤ dMc D ∧ w2 ≤ dMs D) (kk : ∀ r9 σ9, P r9 σ9 → SW X E Q u2 w2 (pc + 3) ls (vI r9 :: rest) σ9) : SW X E Q u w pc ls (v3 :: v2 :: v1 :: rest) σ := by
  obtain ⟨rfl, rfl⟩ := h2
  exact s_cS (as9 := [v1, v2, v3]) (rest := rest) C hd hl ho hv hM rfl hk hrest hb9 (fun o9 σ9 h9 => by
    obtain ⟨r9, rfl, h9⟩ := h9
    exact kk r9 σ9 h9)
theorem s_mS4i {X : sx_T} {E : sv_E} {D : sd_T} {Q : State → Prop} {u w pc : Nat} {ls : List (Option sv_V)} {σ : sv_G} {M : md_T} {idx k9 u2 w2 : Nat} {v1 v2 v3 v4 : sv_V} {rest : List sv_V} {P : Int → sv_G → Prop} (C : sx_ok X E D) (hd : decode D.2.1 pc = .ok (.invokestatic idx, 3)) (hl : Cond.methodLink D.1 idx M.1 ∈ LW) (ho : mo M 4) (hv : mos M) (hM : CT E M k9 [v1, v2, v3, v4] σ (PI P)) (hk : k9 + 1 ≤ dK D) (hrest : rw8 rest ≤ 8) (h2 : u + mdM M = u2 ∧ w + 6 * mdM M = w2) (hb9 : u2 ≤ dMc D ∧ w2 ≤ dMs D) (kk : ∀ r9 σ9, P r9 σ9 → SW X E Q u2 w2 (pc + 3) ls (vI r9 :: rest) σ9) : SW X E Q u w pc ls (v4 :: v3 :: v2 :: v1 :: rest) σ := by
  obtain ⟨rfl, rfl⟩ := h2
  exact s_cS (as9 := [v1, v2, v3, v4]) (rest := rest) C hd hl ho hv hM rfl hk hrest hb9 (fun o9 σ9 h9 => by
    obtain ⟨r9, rfl, h9⟩ := h9
    exact kk r9 σ9 h9)
theorem s_mS5i {X : sx_T} {E : sv_E} {D : sd_T} {Q : State → Prop} {u w pc : Nat} {ls : List (Option sv_V)} {σ : sv_G} {M : md_T} {idx k9 u2 w2 : Nat} {v1 v2 v3 v4 v5 : sv_V} {rest : List sv_V} {P : Int → sv_G → Prop} (C : sx_ok X E D) (hd : decode D.2.1 pc = .ok (.invokestatic idx, 3)) (hl : Cond.methodLink D.1 idx M.1 ∈ LW) (ho : mo M 5) (hv : mos M) (hM : CT E M k9 [v1, v2, v3, v4, v5] σ (PI P)) (hk : k9 + 1 ≤ dK D) (hrest : rw8 rest ≤ 8) (h2 : u + mdM M = u2 ∧ w + 6 * mdM M = w2) (hb9 : u2 ≤ dMc D ∧ w2 ≤ dMs D) (kk : ∀ r9 σ9, P r9 σ9 → SW X E Q u2 w2 (pc + 3) ls (vI r9 :: rest) σ9) : SW X E Q u w pc ls (v5 :: v4 :: v3 :: v2 :: v1 :: rest) σ := by
  obtain ⟨rfl, rfl⟩ := h2
  exact s_cS (as9 := [v1, v2, v3, v4, v5]) (rest := rest) C hd hl ho hv hM rfl hk hrest hb9 (fun o9 σ9 h9 => by
    obtain ⟨r9, rfl, h9⟩ := h9
    exact kk r9 σ9 h9)
theorem s_mS6i {X : sx_T} {E : sv_E} {D : sd_T} {Q : State → Prop} {u w pc : Nat} {ls : List (Option sv_V)} {σ : sv_G} {M : md_T} {idx k9 u2 w2 : Nat} {v1 v2 v3 v4 v5 v6 : sv_V} {rest : List sv_V} {P : Int → sv_G → Prop} (C : sx_ok X E D) (hd : decode D.2.1 pc = .ok (.invokestatic idx, 3)) (hl : Cond.methodLink D.1 idx M.1 ∈ LW) (ho : mo M 6) (hv : mos M) (hM : CT E M k9 [v1, v2, v3, v4, v5, v6] σ (PI P)) (hk : k9 + 1 ≤ dK D) (hrest : rw8 rest ≤ 8) (h2 : u + mdM M = u2 ∧ w + 6 * mdM M = w2) (hb9 : u2 ≤ dMc D ∧ w2 ≤ dMs D) (kk : ∀ r9 σ9, P r9 σ9 → SW X E Q u2 w2 (pc + 3) ls (vI r9 :: rest) σ9) : SW X E Q u w pc ls (v6 :: v5 :: v4 :: v3 :: v2 :: v1 :: rest) σ := by
  obtain ⟨rfl, rfl⟩ := h2
  exact s_cS (as9 := [v1, v2, v3, v4, v5, v6]) (rest := rest) C hd hl ho hv hM rfl hk hrest hb9 (fun o9 σ9 h9 => by
    obtain ⟨r9, rfl, h9⟩ := h9
    exact kk r9 σ9 h9)
theorem lcc_7 : Cond.constant RL 7 (835184597) ∈ LW := LW_in 301 (by decide +kernel) rfl
theorem lcc_8 : Cond.constant RL 8 (799125965) ∈ LW := LW_in 302 (by decide +kernel) rfl
theorem lcc_9 : Cond.constant RL 9 (2147483647) ∈ LW := LW_in 303 (by decide +kernel) rfl
theorem lcc_45 : Cond.constant RL 45 (-70007) ∈ LW := LW_in 614 (by decide +kernel) rfl
theorem lcc_48 : Cond.constant RL 48 (-70009) ∈ LW := LW_in 615 (by decide +kernel) rfl
theorem lcc_51 : Cond.constant RL 51 (-70008) ∈ LW := LW_in 616 (by decide +kernel) rfl
theorem lcc_116 : Cond.constant RL 116 (1073741824) ∈ LW := LW_in 625 (by decide +kernel) rfl
theorem lc2_117 : Cond.constantLong RL 117 536870912 ∈ LW := LW_in 785 (by decide +kernel) rfl
