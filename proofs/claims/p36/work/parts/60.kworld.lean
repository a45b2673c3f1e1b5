/-! The world while the constructors run: how many cells there are, their numbers, which references are set. -/
abbrev kw_T : Type := Nat × sv_G × (Nat → Nat → Bool)
def fldK (E : sv_E) (K : kw_T) (a c k : Nat) : Value := match fkd c k with
  | 0 => .int (Int32.ofInt (K.2.1 a k))
  | 1 => .long (Int64.ofInt (K.2.1 a k))
  | _ => if K.2.2 a k = true then .ref (E.1 + rfs a k) else .null
def celKO (E : sv_E) (K : kw_T) (a c : Nat) : va_E := .inr (c, (List.range (nfd c)).map (fldK E K a c))
def celKR (E : sv_E) (K : kw_T) (a t n : Nat) : va_E := .inl (E.2.2.1 t, n, .inr (.inr (.inr (.inr fun k => if k < n ∧ K.2.2 a k = true then some (E.1 + rfs a k) else none))))
def celK (E : sv_E) (K : kw_T) (a : Nat) : va_E := match shp a with
  | (10, n) => celI E K.2.1 a n
  | (11, n) => celL E K.2.1 a n
  | (12, n) => celKR E K a 2 n
  | (13, n) => celKR E K a 3 n
  | (14, n) => celKR E K a 4 n
  | (c, _) => celKO E K a c
def kw_ws (E : sv_E) (K : kw_T) : va_W := (List.range K.1).map fun a => (E.1 + a, celK E K a)
theorem kw_at {E : sv_E} {K : kw_T} {a : Nat} (h : a < K.1) : (kw_ws E K)[a]? = some (E.1 + a, celK E K a) := by
  simp [kw_ws, h]
theorem celK_O {E : sv_E} {K : kw_T} {a c : Nat} (h : shp a = (c, 0)) (hc : c < 10) : celK E K a = celKO E K a c := by
  unfold celK
  rw [h]
  match c, hc with
  | 0, _ | 1, _ | 2, _ | 3, _ | 4, _ | 5, _ | 6, _ | 7, _ | 8, _ | 9, _ => rfl
theorem celK_I {E : sv_E} {K : kw_T} {a n : Nat} (h : shp a = (10, n)) : celK E K a = celI E K.2.1 a n := by unfold celK; rw [h]; rfl
theorem celK_L {E : sv_E} {K : kw_T} {a n : Nat} (h : shp a = (11, n)) : celK E K a = celL E K.2.1 a n := by unfold celK; rw [h]; rfl
theorem celK_R {E : sv_E} {K : kw_T} {a n t : Nat} (h : shp a = (10 + t, n)) (h1 : 2 ≤ t) (h2 : t ≤ 4) : celK E K a = celKR E K a t n := by
  unfold celK
  rw [h]
  match t, h1, h2 with
  | 2, _, _ | 3, _, _ | 4, _, _ => rfl
theorem celK_cg {E : sv_E} {K K' : kw_T} {b : Nat} (h1 : K'.2.1 b = K.2.1 b) (h2 : K'.2.2 b = K.2.2 b) : celK E K' b = celK E K b := by
  have e : ∀ c, fldK E K' b c = fldK E K b c := fun c => by
    funext k
    unfold fldK
    rw [h1, h2]
  unfold celK celI celL celKR celKO
  simp only [h1, h2, e]
theorem kw_set {E : sv_E} {K K' : kw_T} {a : Nat} (ha : a < K.1) (hn : K'.1 = K.1) (h : ∀ b, b ≠ a → celK E K' b = celK E K b) : (kw_ws E K).set a (E.1 + a, celK E K' a) = kw_ws E K' := by
  apply List.ext_getElem?
  intro i
  by_cases q : i = a
  · subst q
    rw [List.getElem?_set_self (by simp [kw_ws, ha]), kw_at (by omega)]
  · rw [List.getElem?_set_ne (Ne.symm q)]
    by_cases q2 : i < K.1
    · rw [kw_at q2, kw_at (by omega), h i q]
    · rw [List.getElem?_eq_none (by simp [kw_ws]; omega), List.getElem?_eq_none (by simp [kw_ws]; omega)]
theorem fldK_set {E : sv_E} {K K' : kw_T} {a c k : Nat} (x : Value) (hk : k < nfd c) (hx : fldK E K' a c k = x) (ho : ∀ j, j ≠ k → fldK E K' a c j = fldK E K a c j) : ((List.range (nfd c)).map (fldK E K a c)).set k x = (List.range (nfd c)).map (fldK E K' a c) := by
  apply List.ext_getElem?
  intro i
  by_cases q : i = k
  · subst q
    rw [List.getElem?_set_self (by simp [hk])]
    simp [hk, hx]
  · rw [List.getElem?_set_ne (Ne.symm q)]
    simp only [List.getElem?_map]
    by_cases q2 : i < nfd c
    · rw [List.getElem?_range q2]
      show some _ = some _
      rw [ho i q]
    · rw [List.getElem?_eq_none (by simp; omega)]; rfl
def kR (E : sv_E) (H0 : Heap) (K : kw_T) (H : Heap) (locs : List Loc) : Prop :=
  va_P E.2.2.2 vwCl (kw_ws E K) H ∧ va_D (fun q => E.1 ≤ q) (kw_ws E K) ∧ va_S (fun q => E.1 ≤ q) H0 H locs ∧ H.size = E.1 + K.1 ∧ E.1 ≤ H0.size
def KW (X : sx_T) (E : sv_E) (Q : State → Prop) (u w : Nat) (pc : Nat) (ls : List (Option sv_V)) (st : List sv_V) (K : kw_T) : Prop := match X with
  | (p, l, e, R, s, m, args, below, meth, c) => ∀ (H : Heap) (locs : List Loc) (lsA : Array Slot), kR E s.heap K H locs → sv_L E lsA c.maxLocals ls → W p l e R s m args below meth c H locs u w Q (F0 m pc lsA (st.map (cv E)))
def kIn (X : sx_T) : Prop := match X with
  | (p, l, e, R, s, m, args, below, meth, c) => meth.name = "<init>"
def asS (As : Nat → Nat → Bool) (a k : Nat) : Nat → Nat → Bool := fun a' k' => if a' = a ∧ k' = k then true else As a' k'
theorem asS_s {As : Nat → Nat → Bool} {a k : Nat} : asS As a k a k = true := by simp [asS]
theorem asS_a {As : Nat → Nat → Bool} {a k b : Nat} (h : b ≠ a) : asS As a k b = As b := by funext j; simp [asS, h]
theorem asS_k {As : Nat → Nat → Bool} {a k j : Nat} (h : j ≠ k) : asS As a k a j = As a j := by simp [asS, h]
theorem k_aload_n {X : sx_T} {E : sv_E} {D : sd_T} {Q : State → Prop} {u w pc : Nat} {ls : List (Option sv_V)} {st : List sv_V} {σ : kw_T} {j : Fin 4} {z : Nat} (C : sx_ok X E D) (hd : decode D.2.1 pc = .ok (.aload_n j, 1)) (hl : ls[(j : Nat)]? = some (some (vR z))) (kk : KW X E Q u w (pc + 1) ls (vR z :: st) σ) : KW X E Q u w pc ls (st) σ := by
  obtain ⟨p, l, e, R, s, m, args, below, meth, c⟩ := X
  obtain ⟨own, cc, nL, rt, tb, k, mc, ms⟩ := D
  obtain ⟨hx, hb, hnl, -⟩ := C
  intro H locs lsA hR hL
  have kk := kk H locs lsA hR hL
  refine lv_aload_n hx hb hd rfl (hL.2.2 _ _ hl) ?_
  exact kk
theorem k_iload_n {X : sx_T} {E : sv_E} {D : sd_T} {Q : State → Prop} {u w pc : Nat} {ls : List (Option sv_V)} {st : List sv_V} {σ : kw_T} {j : Fin 4} {z : Int} (C : sx_ok X E D) (hd : decode D.2.1 pc = .ok (.iload_n j, 1)) (hl : ls[(j : Nat)]? = some (some (vI z))) (kk : KW X E Q u w (pc + 1) ls (vI z :: st) σ) : KW X E Q u w pc ls (st) σ := by
  obtain ⟨p, l, e, R, s, m, args, below, meth, c⟩ := X
  obtain ⟨own, cc, nL, rt, tb, k, mc, ms⟩ := D
  obtain ⟨hx, hb, hnl, -⟩ := C
  intro H locs lsA hR hL
  have kk := kk H locs lsA hR hL
  refine lv_iload_n hx hb hd rfl (hL.2.2 _ _ hl) ?_
  exact kk
theorem k_istore_n {X : sx_T} {E : sv_E} {D : sd_T} {Q : State → Prop} {u w pc : Nat} {ls : List (Option sv_V)} {st : List sv_V} {σ : kw_T} {j : Fin 4} {z : Int} {ls2 : List (Option sv_V)} (C : sx_ok X E D) (hd : decode D.2.1 pc = .ok (.istore_n j, 1)) (hn : (j : Nat) < D.2.2.1) (hl : sv_st1 ls (j : Nat) (some (vI z)) = ls2) (kk : KW X E Q u w (pc + 1) ls2 st σ) : KW X E Q u w pc ls (vI z :: st) σ := by
  obtain ⟨p, l, e, R, s, m, args, below, meth, c⟩ := X
  obtain ⟨own, cc, nL, rt, tb, k, mc, ms⟩ := D
  obtain ⟨hx, hb, hnl, -⟩ := C
  intro H locs lsA hR hL
  subst hl
  refine lv_istore_n hx hb hd rfl hL.has (by rw [hnl]; exact hn) rfl (fun ls9 h9 => ?_)
  exact kk H locs ls9 hR (sv_L.st1 (fun v hv => by cases hv; rfl) h9)
theorem k_astore_n {X : sx_T} {E : sv_E} {D : sd_T} {Q : State → Prop} {u w pc : Nat} {ls : List (Option sv_V)} {st : List sv_V} {σ : kw_T} {j : Fin 4} {z : Nat} {ls2 : List (Option sv_V)} (C : sx_ok X E D) (hd : decode D.2.1 pc = .ok (.astore_n j, 1)) (hn : (j : Nat) < D.2.2.1) (hl : sv_st1 ls (j : Nat) (some (vR z)) = ls2) (kk : KW X E Q u w (pc + 1) ls2 st σ) : KW X E Q u w pc ls (vR z :: st) σ := by
  obtain ⟨p, l, e, R, s, m, args, below, meth, c⟩ := X
  obtain ⟨own, cc, nL, rt, tb, k, mc, ms⟩ := D
  obtain ⟨hx, hb, hnl, -⟩ := C
  intro H locs lsA hR hL
  subst hl
  refine lv_astore_n hx hb hd rfl hL.has (by rw [hnl]; exact hn) rfl (fun ls9 h9 => ?_)
  exact kk H locs ls9 hR (sv_L.st1 (fun v hv => by cases hv; rfl) h9)
theorem k_iconst {X : sx_T} {E : sv_E} {D : sd_T} {Q : State → Prop} {u w pc : Nat} {ls : List (Option sv_V)} {st : List sv_V} {σ : kw_T} {n : Int} (C : sx_ok X E D) (hd : decode D.2.1 pc = .ok (.iconst n, 1))  (kk : KW X E Q u w (pc + 1) ls (vI n :: st) σ) : KW X E Q u w pc ls (st) σ := by
  obtain ⟨p, l, e, R, s, m, args, below, meth, c⟩ := X
  obtain ⟨own, cc, nL, rt, tb, k, mc, ms⟩ := D
  obtain ⟨hx, hb, hnl, -⟩ := C
  intro H locs lsA hR hL
  have kk := kk H locs lsA hR hL
  refine lv_iconst hx hb hd rfl ?_
  exact kk
theorem k_bipush {X : sx_T} {E : sv_E} {D : sd_T} {Q : State → Prop} {u w pc : Nat} {ls : List (Option sv_V)} {st : List sv_V} {σ : kw_T} {n : Int} (C : sx_ok X E D) (hd : decode D.2.1 pc = .ok (.bipush n, 2)) (hn : -128 ≤ n ∧ n ≤ 127) (kk : KW X E Q u w (pc + 2) ls (vI n :: st) σ) : KW X E Q u w pc ls (st) σ := by
  obtain ⟨p, l, e, R, s, m, args, below, meth, c⟩ := X
  obtain ⟨own, cc, nL, rt, tb, k, mc, ms⟩ := D
  obtain ⟨hx, hb, hnl, -⟩ := C
  intro H locs lsA hR hL
  have kk := kk H locs lsA hR hL
  refine lv_bipush hx hb hd (Int8.toInt32_ofInt (by show (-128 : Int) ≤ n; omega) (by show n ≤ (127 : Int); omega)) ?_
  exact kk
theorem k_sipush {X : sx_T} {E : sv_E} {D : sd_T} {Q : State → Prop} {u w pc : Nat} {ls : List (Option sv_V)} {st : List sv_V} {σ : kw_T} {n : Int} (C : sx_ok X E D) (hd : decode D.2.1 pc = .ok (.sipush n, 3)) (hn : -32768 ≤ n ∧ n ≤ 32767) (kk : KW X E Q u w (pc + 3) ls (vI n :: st) σ) : KW X E Q u w pc ls (st) σ := by
  obtain ⟨p, l, e, R, s, m, args, below, meth, c⟩ := X
  obtain ⟨own, cc, nL, rt, tb, k, mc, ms⟩ := D
  obtain ⟨hx, hb, hnl, -⟩ := C
  intro H locs lsA hR hL
  have kk := kk H locs lsA hR hL
  refine lv_sipush hx hb hd (Int16.toInt32_ofInt (by show (-32768 : Int) ≤ n; omega) (by show n ≤ (32767 : Int); omega)) ?_
  exact kk
theorem k_lconst {X : sx_T} {E : sv_E} {D : sd_T} {Q : State → Prop} {u w pc : Nat} {ls : List (Option sv_V)} {st : List sv_V} {σ : kw_T} {n : Fin 2} (C : sx_ok X E D) (hd : decode D.2.1 pc = .ok (.lconst n, 1))  (kk : KW X E Q u w (pc + 1) ls (vL (n : Nat) :: st) σ) : KW X E Q u w pc ls (st) σ := by
  obtain ⟨p, l, e, R, s, m, args, below, meth, c⟩ := X
  obtain ⟨own, cc, nL, rt, tb, k, mc, ms⟩ := D
  obtain ⟨hx, hb, hnl, -⟩ := C
  intro H locs lsA hR hL
  have kk := kk H locs lsA hR hL
  refine lv_lconst hx hb hd (Int64.ofInt_eq_ofNat (n := (n : Nat))).symm ?_
  exact kk
theorem k_dup {X : sx_T} {E : sv_E} {D : sd_T} {Q : State → Prop} {u w pc : Nat} {ls : List (Option sv_V)} {st : List sv_V} {σ : kw_T} {v : sv_V} (C : sx_ok X E D) (hd : decode D.2.1 pc = .ok (.dup, 1)) (hv : sv_c1 v = true) (kk : KW X E Q u w (pc + 1) ls (v :: v :: st) σ) : KW X E Q u w pc ls (v :: st) σ := by
  obtain ⟨p, l, e, R, s, m, args, below, meth, c⟩ := X
  obtain ⟨own, cc, nL, rt, tb, k, mc, ms⟩ := D
  obtain ⟨hx, hb, hnl, -⟩ := C
  intro H locs lsA hR hL
  have kk := kk H locs lsA hR hL
  refine lv_dup hx hb hd (sv_c1_cat hv) ?_
  exact kk
theorem k_icmp_ge {X : sx_T} {E : sv_E} {D : sd_T} {Q : State → Prop} {u w pc : Nat} {ls : List (Option sv_V)} {st : List sv_V} {σ : kw_T} {x y : Int} {off : Int} {tgt : Nat} (C : sx_ok X E D) (hd : decode D.2.1 pc = .ok (.if_icmp .ge off, 3)) (ht : (pc : Int) + off = (tgt : Int)) (hx9 : -2147483648 ≤ x ∧ x ≤ 2147483647) (hy9 : -2147483648 ≤ y ∧ y ≤ 2147483647) (kt : y ≤ x → KW X E Q u w tgt ls st σ) (kf : ¬ (y ≤ x) → KW X E Q u w (pc + 3) ls st σ) : KW X E Q u w pc ls (vI y :: vI x :: st) σ := by
  obtain ⟨p, l, e, R, s, m, args, below, meth, c⟩ := X
  obtain ⟨own, cc, nL, rt, tb, k, mc, ms⟩ := D
  obtain ⟨hx, hb, hnl, -⟩ := C
  intro H locs lsA hR hL
  have hq := sn_le hy9 hx9
  refine lv_icmp_ge hx hb hd ht (fun h => kt ?_ H locs lsA hR hL) (fun h => kf ?_ H locs lsA hR hL)
  · exact hq.mp h
  · exact fun z => h (hq.mpr z)
theorem k_iinc {X : sx_T} {E : sv_E} {D : sd_T} {Q : State → Prop} {u w pc : Nat} {ls : List (Option sv_V)} {st : List sv_V} {σ : kw_T} {j : Nat} {n z z2 : Int} {ls2 : List (Option sv_V)} (C : sx_ok X E D) (hd : decode D.2.1 pc = .ok (.iinc j n, 3)) (hn : j < D.2.2.1) (hz : ls[j]? = some (some (vI z))) (hz2 : z2 = z + n) (hl : sv_st1 ls j (some (vI z2)) = ls2) (kk : KW X E Q u w (pc + 3) ls2 st σ) : KW X E Q u w pc ls st σ := by
  obtain ⟨p, l, e, R, s, m, args, below, meth, c⟩ := X
  obtain ⟨own, cc, nL, rt, tb, k, mc, ms⟩ := D
  obtain ⟨hx, hb, hnl, -⟩ := C
  intro H locs lsA hR hL
  subst hl
  subst hz2
  obtain ⟨i9, h9⟩ := List.getElem?_of_mem (sv_pr_in.mpr ⟨_, hz, rfl⟩ : (j, cv E (vI z)) ∈ sv_pr E ls)
  refine lv_iinc (v := Int32.ofInt (z + n)) hx hb hd hL.has h9 (Int32.ofInt_add z n).symm (by rw [hnl]; exact hn) rfl (fun ls9 h9 => ?_)
  exact kk H locs ls9 hR (sv_L.st1 (fun v hv => by cases hv; rfl) h9)
theorem k_goto {X : sx_T} {E : sv_E} {D : sd_T} {Q : State → Prop} {u w pc : Nat} {ls : List (Option sv_V)} {st : List sv_V} {σ : kw_T} {off : Int} {tgt : Nat} (C : sx_ok X E D) (hd : decode D.2.1 pc = .ok (.goto off, 3)) (ht : (pc : Int) + off = (tgt : Int)) (kk : KW X E Q u w tgt ls st σ) : KW X E Q u w pc ls st σ := by
  obtain ⟨p, l, e, R, s, m, args, below, meth, c⟩ := X
  obtain ⟨own, cc, nL, rt, tb, k, mc, ms⟩ := D
  obtain ⟨hx, hb, hnl, -⟩ := C
  intro H locs lsA hR hL
  exact lv_goto hx hb hd ht (kk H locs lsA hR hL)
theorem k_new {X : sx_T} {E : sv_E} {D : sd_T} {Q : State → Prop} {u w pc : Nat} {ls : List (Option sv_V)} {st : List sv_V} {K : kw_T} {idx c9 : Nat} {C9 : String} {T9 : u_T} {N9 : Nat} (C : sx_ok X E D) (hd : decode D.2.1 pc = .ok (.new idx, 3)) (hs : shp K.1 = (c9, 0)) (hc : cl_ok c9 C9 T9 N9) (hl : Cond.classLink D.1 idx C9 ∈ LW) (hi1 : Cond.instantiable C9 N9 ∈ LW) (hi2 : Cond.initialized C9 ∈ LW) (hnl : ∀ k, k < N9 → fkd c9 k ≠ 0 → fkd c9 k ≠ 1 → ∀ ty, parseFieldDescriptor (T9 k).2.2.1 = some ty → defaultValue ty = .null) (hz : ∀ k : Nat, K.2.1 K.1 k = 0) (ha : ∀ k, K.2.2 K.1 k = false) (hr : u + 1 ≤ dMc D ∧ w + N9 ≤ dMs D) (kk : KW X E Q (u + 1) (w + N9) (pc + 3) ls (vR K.1 :: st) (K.1 + 1, K.2)) : KW X E Q u w pc ls st K := by
  obtain ⟨p, l, e, R, s, m, args, below, meth, c⟩ := X
  obtain ⟨own, cc, nL, rt, tb, k, mc, ms⟩ := D
  obtain ⟨hx, hb, hnl2, hown, hts, hMW, hK, hret, hlocks, htab, htr, hRf, hRl, hRc, hRs⟩ := C
  intro H locs lsA hR hL
  obtain ⟨hP, hD, hS, hsz, h0⟩ := hR
  obtain ⟨g1, rfl, g3, g4, g5, ty, g6, g7⟩ := hc
  have hKn := hK.1 c9 _ g1
  refine W.newcK hx hb hown (hts _ hl) (hts _ hi1) (hts _ hi2) rfl hd (Nat.le_trans hr.1 hRc) (Nat.le_trans hr.2 hRs) hKn.2.1 rfl fun H1 kC hkC e1 z1 o1 => ?_
  have hk : ∀ (k : Nat) (x : Nat × va_E), (kw_ws E K)[k]? = some x → H1[x.1]? = H[x.1]? := fun k x hx => o1 x.1 ((hP k x hx).lt)
  have ew : kw_ws E (K.1 + 1, K.2) = kw_ws E K ++ [(H.size, celK E K K.1)] := by
    unfold kw_ws
    rw [List.range_succ, List.map_append, hsz]; rfl
  have hP1 : va_P E.2.2.2 vwCl (kw_ws E (K.1 + 1, K.2)) H1 := by
    rw [ew]
    refine (hP.kept hk).app (fun k x hx => ?_)
    have hz9 : k < 1 := (List.getElem?_eq_some_iff.mp hx).1
    rw [show k = 0 by omega] at hx
    cases hx
    rw [celK_O hs (by omega)]
    refine ⟨_, g1, (u_born ty hts g4 hKn hkC e1 g6).to (fun j hj => ?_)⟩
    show _ = ((List.range (nfd c9)).map (fldK E K K.1 c9)).getD j .null
    rw [List.getD_eq_getElem?_getD, List.getElem?_map, List.getElem?_range hj]
    show _ = fldK E K K.1 c9 j
    unfold fldK
    split
    · rename_i q
      rw [(g7 j hj).1 q, hz]; rfl
    · rename_i q
      rw [(g7 j hj).2 q, hz]; rfl
    · rename_i q0 q1
      rw [ha, hnl j hj q0 q1 _ (g6 j hj)]; rfl
  have hD1 : va_D (fun q => E.1 ≤ q) (kw_ws E (K.1 + 1, K.2)) := by
    rw [ew]
    exact hD.push hP rfl (Nat.le_trans h0 hS.1)
  have h := kk H1 locs lsA ⟨hP1, hD1, ⟨Nat.le_trans hS.1 (by omega), fun x h1 h2 => (o1 x (Nat.lt_of_lt_of_le h1 hS.1)).trans (hS.2.1 x h1 h2), hS.2.2⟩, by rw [z1, hsz]; rfl, h0⟩ hL
  have e9 : (vR K.1 :: st).map (cv E) = .ref H.size :: st.map (cv E) := by rw [hsz]; rfl
  rw [e9] at h
  exact h
theorem k_newaI {X : sx_T} {E : sv_E} {D : sd_T} {Q : State → Prop} {u w pc : Nat} {ls : List (Option sv_V)} {st : List sv_V} {K : kw_T} {z : Int} {N9 : Nat} (C : sx_ok X E D) (hd : decode D.2.1 pc = .ok (.newarray .int, 2)) (hs : shp K.1 = (10, N9)) (hA : Cond.arrayClass (newarray.typeOf .int) ∈ LW) (hn : ¬ Int32.ofInt z < 0) (hN : (Int32.ofInt z).toNatClampNeg = N9) (hby : N9 * componentBytes (newarray.typeOf .int) ≤ 536870912) (hz : ∀ k : Int, K.2.1 K.1 k = 0) (hr : u + 1 ≤ dMc D ∧ w + N9 ≤ dMs D) (kk : KW X E Q (u + 1) (w + N9) (pc + 2) ls (vR K.1 :: st) (K.1 + 1, K.2)) : KW X E Q u w pc ls (vI z :: st) K := by
  obtain ⟨p, l, e, R, s, m, args, below, meth, c⟩ := X
  obtain ⟨own, cc, nL, rt, tb, k, mc, ms⟩ := D
  obtain ⟨hx, hb, hnl2, hown, hts, hMW, hK, hret, hlocks, htab, htr, hRf, hRl, hRc, hRs⟩ := C
  intro H locs lsA hR hL
  obtain ⟨hP, hD, hS, hsz, h0⟩ := hR
  refine va_newaK hx hb (hts _ hA) rfl hd rfl hn hN hby (Nat.le_trans hr.1 hRc) (Nat.le_trans hr.2 hRs) rfl fun H1 cA e1 z1 o1 hAr hNm => ?_
  have hcA : cA = E.2.2.1 0 := Option.some.inj (hNm.symm.trans (hK.2 0 _ rfl).2)
  subst hcA
  have hk : ∀ (k : Nat) (x : Nat × va_E), (kw_ws E K)[k]? = some x → H1[x.1]? = H[x.1]? := fun k x hx => o1 x.1 ((hP k x hx).lt)
  have ew : kw_ws E (K.1 + 1, K.2) = kw_ws E K ++ [(H.size, celK E K K.1)] := by
    unfold kw_ws
    rw [List.range_succ, List.map_append, hsz]; rfl
  have hP1 : va_P E.2.2.2 vwCl (kw_ws E (K.1 + 1, K.2)) H1 := by
    rw [ew]
    refine (hP.kept hk).app (fun k x hx => ?_)
    have hz9 : k < 1 := (List.getElem?_eq_some_iff.mp hx).1
    rw [show k = 0 by omega] at hx
    cases hx
    rw [celK_I hs]
    show H1[H.size]? = some (vp_cell _ _)
    rw [e1]
    unfold vp_cell
    simp only [hz]
    rfl
  have hD1 : va_D (fun q => E.1 ≤ q) (kw_ws E (K.1 + 1, K.2)) := by
    rw [ew]
    exact hD.push hP rfl (Nat.le_trans h0 hS.1)
  have h := kk H1 locs lsA ⟨hP1, hD1, ⟨Nat.le_trans hS.1 (by omega), fun x h1 h2 => (o1 x (Nat.lt_of_lt_of_le h1 hS.1)).trans (hS.2.1 x h1 h2), hS.2.2⟩, by rw [z1, hsz]; rfl, h0⟩ hL
  have e9 : (vR K.1 :: st).map (cv E) = .ref H.size :: st.map (cv E) := by rw [hsz]; rfl
  rw [e9] at h
  exact h
theorem k_newq {X : sx_T} {E : sv_E} {D : sd_T} {Q : State → Prop} {u w pc : Nat} {ls : List (Option sv_V)} {st : List sv_V} {K : kw_T} {z : Int} {idx t N9 : Nat} {C9 : String} (C : sx_ok X E D) (hd : decode D.2.1 pc = .ok (.anewarray idx, 3)) (ht : 2 ≤ t ∧ t ≤ 4) (hs : shp K.1 = (10 + t, N9)) (hty : (sv_tys E)[t]? = some (E.2.2.1 t, .object C9)) (hl : Cond.classLink D.1 idx C9 ∈ LW) (hAO : C9 ∈ AO_l) (hn : ¬ Int32.ofInt z < 0) (hN : (Int32.ofInt z).toNatClampNeg = N9) (hby : N9 * 4 ≤ 536870912) (ha : ∀ k, K.2.2 K.1 k = false) (hr : u + 1 ≤ dMc D ∧ w + N9 ≤ dMs D) (kk : KW X E Q (u + 1) (w + N9) (pc + 3) ls (vR K.1 :: st) (K.1 + 1, K.2)) : KW X E Q u w pc ls (vI z :: st) K := by
  obtain ⟨p, l, e, R, s, m, args, below, meth, c⟩ := X
  obtain ⟨own, cc, nL, rt, tb, k, mc, ms⟩ := D
  obtain ⟨hx, hb, hnl2, hown, hts, hMW, hK, hret, hlocks, htab, htr, hRf, hRl, hRc, hRs⟩ := C
  intro H locs lsA hR hL
  obtain ⟨hP, hD, hS, hsz, h0⟩ := hR
  subst hN
  refine W.anew hx hb hown (hts _ hl) (va_AO.use (hMW.2.1 _ hAO)) rfl hd rfl hn hby (Nat.le_trans hr.1 hRc) (Nat.le_trans hr.2 hRs) fun cA kA comp f1 f2 f3 f4 => ?_
  have hcA : cA = E.2.2.1 t := by
    obtain ⟨-, kA', comp', a1, a2, a3, a4⟩ := hK.2 t _ hty
    exact Option.some.inj (f1.symm.trans a4)
  subst hcA
  generalize hH1 : H.push ({ cls := E.2.2.1 t, slots := Array.replicate (Int32.ofInt z).toNatClampNeg .null, vm := .none } : Cell) = H1
  have z1 : H1.size = H.size + 1 := by rw [← hH1, Array.size_push]
  have e1 : H1[H.size]? = some (arrV (E.2.2.1 t) (Int32.ofInt z).toNatClampNeg (fun _ => .null)) := by rw [← hH1, Array.getElem?_push_size, ← arrV_new]
  have o1 : ∀ q : Nat, q < H.size → H1[q]? = H[q]? := fun q hq => by rw [← hH1, Array.getElem?_push, if_neg (Nat.ne_of_lt hq)]
  have hk : ∀ (k : Nat) (x : Nat × va_E), (kw_ws E K)[k]? = some x → H1[x.1]? = H[x.1]? := fun k x hx => o1 x.1 ((hP k x hx).lt)
  have ew : kw_ws E (K.1 + 1, K.2) = kw_ws E K ++ [(H.size, celK E K K.1)] := by
    unfold kw_ws
    rw [List.range_succ, List.map_append, hsz]; rfl
  have hP1 : va_P E.2.2.2 vwCl (kw_ws E (K.1 + 1, K.2)) H1 := by
    rw [ew]
    refine (hP.kept hk).app (fun k x hx => ?_)
    have hz9 : k < 1 := (List.getElem?_eq_some_iff.mp hx).1
    rw [show k = 0 by omega] at hx
    cases hx
    rw [celK_R hs ht.1 ht.2]
    show H1[H.size]? = some (vp_cell _ _)
    rw [e1, vp_cell_q]
    congr 2
    funext j
    rw [if_neg (fun q => by rw [ha] at q; exact Bool.noConfusion q.2)]
    rfl
  have hD1 : va_D (fun q => E.1 ≤ q) (kw_ws E (K.1 + 1, K.2)) := by
    rw [ew]
    exact hD.push hP rfl (Nat.le_trans h0 hS.1)
  have h := kk H1 locs lsA ⟨hP1, hD1, ⟨Nat.le_trans hS.1 (by omega), fun x h1 h2 => (o1 x (Nat.lt_of_lt_of_le h1 hS.1)).trans (hS.2.1 x h1 h2), hS.2.2⟩, by rw [z1, hsz]; rfl, h0⟩ hL
  have e9 : (vR K.1 :: st).map (cv E) = .ref H.size :: st.map (cv E) := by rw [hsz]; rfl
  rw [e9] at h
  exact h
theorem kp_put {p : Program} {l : Launch} {e : Env} {R : Room} {s : State} {m : MethodId} {args : Array Value} {below : List Frame} {meth : Method} {c : Code} {H : Heap} {locs : List Loc} {u w : Nat} {Q : State → Prop} {cc : ByteArray} {pc : Nat} {ls : Array Slot} {rest : List Value} {G : va_G} {A : Nat → Prop} {a : Nat} {tys : List (ClassId × FieldType)} {ws : va_W} {H0 : Heap} (hexec : p.tables.exec = Jvm.exec) (hb : c.code = cc) {own C : String} {T : u_T} {N ci index : Nat} (hts : ∀ w ∈ LW, w.before args s = true) (hin : ∀ w ∈ u_ws C T N, w ∈ LW) (ty0 : Nat → FieldType) (hty : ∀ k, k < N → parseFieldDescriptor (T k).2.2.1 = some (ty0 k)) (hnm : ∀ a, a < N → ∀ b, b < N → a ≠ b → (T a).2.1 ≠ (T b).2.1) (hown : s.vm.findClass own = some m.cls) (hK : va_K G vwCl tys s) (hP : va_P G vwCl ws H) (hD : va_D A ws) (hS0 : va_S A H0 H locs) (q0 : Nat) {fs : List Value} (he : ws[q0]? = some (a, .inr (ci, fs))) (hc : vwCl[ci]? = some (C, T, N)) (k : Nat) (hk : k < N) (hlink : (Cond.fieldLink own index (T k).1 (T k).2.1 (T k).2.2.1).before args s = true) (hfin : (T k).2.2.2 = false) {ty : FieldType} {v : Value} (hd : parseFieldDescriptor (T k).2.2.1 = some ty) (hn : narrow ty v = v) (hfit : fits ty v = true) (hl : k < fs.length)
    (hdg : decode cc pc = .ok (.putfield index, 3)) (kk : ∀ (H1 : Heap) (locs1 : List Loc), va_P G vwCl (ws.set q0 (a, .inr (ci, fs.set k v))) H1 → va_D A (ws.set q0 (a, .inr (ci, fs.set k v))) → va_S A H0 H1 locs1 → H1.size = H.size → W p l e R s m args below meth c H1 locs1 u w Q (F0 m (pc + 3) ls rest)) : W p l e R s m args below meth c H locs u w Q (F0 m pc ls (v :: .ref a :: rest)) := by
  have hap := va_apart (own := own) hts hin ty0 hty hnm hK hc
  obtain ⟨r, h1, cell, q1, q2, q3, q4⟩ := hP q0 _ he
  have hr : r = (C, T, N) := Option.some.inj (h1.symm.trans hc)
  subst hr
  obtain ⟨hS, hfc, kC, hkC, hkind⟩ := hK.1 ci _ hc
  obtain ⟨cf, kf, fi, f, hi, hsl⟩ := hS k hk
  have hlay := hts _ (hin _ (u_in_lay hk))
  unfold u_lay at hlay
  rw [if_neg (by rw [hfin]; decide)] at hlay
  have hst := (u_facts hfc hkC (u_lays hts hin hk) hi).1
  have h6 := u_store hfc hkC hkind hlay hi hd hn hfit
  refine W.putK hexec hb (f := f) ⟨hown, hlink, ⟨_, _, _, hi⟩, hst⟩ (by rw [q2]; exact h6) q1 q3 (by rw [hsl]; exact k2_hasslot (q4 k hk)) rfl rfl hdg fun H' e1 e2 e3 => ?_
  rw [hsl] at e1 ⊢
  exact kk H' _ (hP.set hD he ⟨_, hc, t_OB.to (V := updV (vp_V fs) k v) ⟨_, e1, q2, q3, t_set q4 hap hk v⟩ (fun j _ => vp_updV_set hl v j)⟩ e3) (hD.set he) (hS0.put e2 e3 (hD.2 q0 _ he)) e2
theorem kp_putF {p : Program} {l : Launch} {e : Env} {R : Room} {s : State} {m : MethodId} {args : Array Value} {below : List Frame} {meth : Method} {c : Code} {H : Heap} {locs : List Loc} {u w : Nat} {Q : State → Prop} {cc : ByteArray} {pc : Nat} {ls : Array Slot} {rest : List Value} {G : va_G} {A : Nat → Prop} {a : Nat} {tys : List (ClassId × FieldType)} {ws : va_W} {H0 : Heap} (hexec : p.tables.exec = Jvm.exec) (hb : c.code = cc) {own C : String} {T : u_T} {N ci index : Nat} (hts : ∀ w ∈ LW, w.before args s = true) (hin : ∀ w ∈ u_ws C T N, w ∈ LW) (ty0 : Nat → FieldType) (hty : ∀ k, k < N → parseFieldDescriptor (T k).2.2.1 = some (ty0 k)) (hnm : ∀ a, a < N → ∀ b, b < N → a ≠ b → (T a).2.1 ≠ (T b).2.1) (hown : s.vm.findClass own = some m.cls) (hK : va_K G vwCl tys s) (hP : va_P G vwCl ws H) (hD : va_D A ws) (hS0 : va_S A H0 H locs) (q0 : Nat) {fs : List Value} (he : ws[q0]? = some (a, .inr (ci, fs))) (hc : vwCl[ci]? = some (C, T, N)) (k : Nat) (hk : k < N) (hlink : (Cond.fieldLink own index (T k).1 (T k).2.1 (T k).2.2.1).before args s = true) (hfin : (T k).2.2.2 = true) (hin2 : meth.name = "<init>") (hdecl : (T k).1 = own) {ty : FieldType} {v : Value} (hd : parseFieldDescriptor (T k).2.2.1 = some ty) (hn : narrow ty v = v) (hfit : fits ty v = true) (hl : k < fs.length)
    (hdg : decode cc pc = .ok (.putfield index, 3)) (kk : ∀ (H1 : Heap) (locs1 : List Loc), va_P G vwCl (ws.set q0 (a, .inr (ci, fs.set k v))) H1 → va_D A (ws.set q0 (a, .inr (ci, fs.set k v))) → va_S A H0 H1 locs1 → H1.size = H.size → W p l e R s m args below meth c H1 locs1 u w Q (F0 m (pc + 3) ls rest)) : W p l e R s m args below meth c H locs u w Q (F0 m pc ls (v :: .ref a :: rest)) := by
  have hap := va_apart (own := own) hts hin ty0 hty hnm hK hc
  obtain ⟨r, h1, cell, q1, q2, q3, q4⟩ := hP q0 _ he
  have hr : r = (C, T, N) := Option.some.inj (h1.symm.trans hc)
  subst hr
  obtain ⟨hS, hfc, kC, hkC, hkind⟩ := hK.1 ci _ hc
  obtain ⟨cf, kf, fi, f, hi, hsl⟩ := hS k hk
  have hlay := hts _ (hin _ (u_in_lay hk))
  unfold u_lay at hlay
  rw [if_pos hfin] at hlay
  have hst := (u_facts hfc hkC (u_lays hts hin hk) hi).1
  have hcf : m.cls = cf := by
    obtain ⟨_, _, c', _, _, _, -, -, hf', -, -, -, hown2, -⟩ := Cond.laysFinal_spec hlay
    have e1 : c' = cf := by
      have w9 := hi.symm.trans hf'
      simp at w9
      exact w9.1.symm
    rw [hdecl] at hown2
    rw [← e1]; exact Option.some.inj (hown.symm.trans hown2)
  have h6 := u_fits hfc hkC hkind (Or.inr hlay) hi hd hn hfit
  refine W.putFinK hexec hb hown hlink hi hst hcf hin2 (by rw [q2]; exact h6) q1 q3 (by rw [hsl]; exact k2_hasslot (q4 k hk)) rfl rfl hdg fun H' e1 e2 e3 => ?_
  rw [hsl] at e1 ⊢
  exact kk H' _ (hP.set hD he ⟨_, hc, t_OB.to (V := updV (vp_V fs) k v) ⟨_, e1, q2, q3, t_set q4 hap hk v⟩ (fun j _ => vp_updV_set hl v j)⟩ e3) (hD.set he) (hS0.put e2 e3 (hD.2 q0 _ he)) e2
theorem k_putI {X : sx_T} {E : sv_E} {D : sd_T} {Q : State → Prop} {u w pc : Nat} {ls : List (Option sv_V)} {st : List sv_V} {K : kw_T} {idx a c9 k9 : Nat} {z kz : Int} {C9 : String} {T9 : u_T} {N9 : Nat} (C : sx_ok X E D) (hc : cl_ok c9 C9 T9 N9) (hk9 : k9 < N9) (hlk : Cond.fieldLink D.1 idx (T9 k9).1 (T9 k9).2.1 (T9 k9).2.2.1 ∈ LW) (hd : decode D.2.1 pc = .ok (.putfield idx, 3)) (ha : shp a = (c9, 0)) (hn9 : a < K.1) (hk : fkd c9 k9 = 0) (hfin : (T9 k9).2.2.2 = false) (hkz : (k9 : Int) = kz) (kk : KW X E Q u w (pc + 3) ls st (K.1, up K.2.1 a kz z, K.2.2)) : KW X E Q u w pc ls (vI z :: vR a :: st) K := by
  subst hkz
  obtain ⟨p, l, e, R, s, m, args, below, meth, c⟩ := X
  obtain ⟨own, cc, nL, rt, tb, k, mc, ms⟩ := D
  obtain ⟨hx, hb, hnl2, hown, hts, hMW, hK, hret, hlocks, htab, htr, hRf, hRl, hRc, hRs⟩ := C
  intro H locs lsA hR hL
  obtain ⟨hP, hD, hS, hsz, h0⟩ := hR
  obtain ⟨g1, rfl, g3, g4, g5, ty, g6, g7⟩ := hc
  have hw : (kw_ws E K)[a]? = some (E.1 + a, .inr (c9, (List.range (nfd c9)).map (fldK E K a c9))) := by rw [kw_at hn9, celK_O ha (by omega)]; rfl
  have hev : fldK E (K.1, up K.2.1 a k9 z, K.2.2) a c9 k9 = .int (Int32.ofInt z) := by
    unfold fldK; rw [hk]; simp only [up_s]
  have he : (kw_ws E K).set a (E.1 + a, .inr (c9, ((List.range (nfd c9)).map (fldK E K a c9)).set k9 (.int (Int32.ofInt z)))) = kw_ws E (K.1, up K.2.1 a k9 z, K.2.2) := by
    rw [← kw_set (K' := (K.1, up K.2.1 a k9 z, K.2.2)) hn9 rfl (fun b hb => celK_cg (by funext j; exact up_a hb) rfl), celK_O ha (by omega)]
    unfold celKO
    rw [fldK_set _ hk9 hev (fun j hj => by
      unfold fldK
      rw [show (K.1, up K.2.1 a k9 z, K.2.2).2.1 a j = K.2.1 a j from up_k (by omega)])]
  refine kp_put (T := T9) (ty := .int) hx hb hts g4 ty g6 g5 hown hK hP hD hS a hw g1 k9 hk9 (hts _ hlk) hfin (by rw [g6 k9 hk9, (g7 k9 hk9).1 hk]) rfl rfl (by simp [hk9]) hd ?_
  intro H1 locs1 a1 a2 a3 a4
  have b1 : va_P E.2.2.2 vwCl ((kw_ws E K).set a (E.1 + a, .inr (c9, ((List.range (nfd c9)).map (fldK E K a c9)).set k9 (.int (Int32.ofInt z))))) H1 := a1
  have b2 : va_D (fun q => E.1 ≤ q) ((kw_ws E K).set a (E.1 + a, .inr (c9, ((List.range (nfd c9)).map (fldK E K a c9)).set k9 (.int (Int32.ofInt z))))) := a2
  rw [he] at b1 b2
  exact kk H1 locs1 lsA ⟨b1, b2, a3, a4.trans hsz, h0⟩ hL
theorem k_putL {X : sx_T} {E : sv_E} {D : sd_T} {Q : State → Prop} {u w pc : Nat} {ls : List (Option sv_V)} {st : List sv_V} {K : kw_T} {idx a c9 k9 : Nat} {z kz : Int} {C9 : String} {T9 : u_T} {N9 : Nat} (C : sx_ok X E D) (hc : cl_ok c9 C9 T9 N9) (hk9 : k9 < N9) (hlk : Cond.fieldLink D.1 idx (T9 k9).1 (T9 k9).2.1 (T9 k9).2.2.1 ∈ LW) (hd : decode D.2.1 pc = .ok (.putfield idx, 3)) (ha : shp a = (c9, 0)) (hn9 : a < K.1) (hk : fkd c9 k9 = 1) (hfin : (T9 k9).2.2.2 = false) (hkz : (k9 : Int) = kz) (kk : KW X E Q u w (pc + 3) ls st (K.1, up K.2.1 a kz z, K.2.2)) : KW X E Q u w pc ls (vL z :: vR a :: st) K := by
  subst hkz
  obtain ⟨p, l, e, R, s, m, args, below, meth, c⟩ := X
  obtain ⟨own, cc, nL, rt, tb, k, mc, ms⟩ := D
  obtain ⟨hx, hb, hnl2, hown, hts, hMW, hK, hret, hlocks, htab, htr, hRf, hRl, hRc, hRs⟩ := C
  intro H locs lsA hR hL
  obtain ⟨hP, hD, hS, hsz, h0⟩ := hR
  obtain ⟨g1, rfl, g3, g4, g5, ty, g6, g7⟩ := hc
  have hw : (kw_ws E K)[a]? = some (E.1 + a, .inr (c9, (List.range (nfd c9)).map (fldK E K a c9))) := by rw [kw_at hn9, celK_O ha (by omega)]; rfl
  have hev : fldK E (K.1, up K.2.1 a k9 z, K.2.2) a c9 k9 = .long (Int64.ofInt z) := by
    unfold fldK; rw [hk]; simp only [up_s]
  have he : (kw_ws E K).set a (E.1 + a, .inr (c9, ((List.range (nfd c9)).map (fldK E K a c9)).set k9 (.long (Int64.ofInt z)))) = kw_ws E (K.1, up K.2.1 a k9 z, K.2.2) := by
    rw [← kw_set (K' := (K.1, up K.2.1 a k9 z, K.2.2)) hn9 rfl (fun b hb => celK_cg (by funext j; exact up_a hb) rfl), celK_O ha (by omega)]
    unfold celKO
    rw [fldK_set _ hk9 hev (fun j hj => by
      unfold fldK
      rw [show (K.1, up K.2.1 a k9 z, K.2.2).2.1 a j = K.2.1 a j from up_k (by omega)])]
  refine kp_put (T := T9) (ty := .long) hx hb hts g4 ty g6 g5 hown hK hP hD hS a hw g1 k9 hk9 (hts _ hlk) hfin (by rw [g6 k9 hk9, (g7 k9 hk9).2 hk]) rfl rfl (by simp [hk9]) hd ?_
  intro H1 locs1 a1 a2 a3 a4
  have b1 : va_P E.2.2.2 vwCl ((kw_ws E K).set a (E.1 + a, .inr (c9, ((List.range (nfd c9)).map (fldK E K a c9)).set k9 (.long (Int64.ofInt z))))) H1 := a1
  have b2 : va_D (fun q => E.1 ≤ q) ((kw_ws E K).set a (E.1 + a, .inr (c9, ((List.range (nfd c9)).map (fldK E K a c9)).set k9 (.long (Int64.ofInt z))))) := a2
  rw [he] at b1 b2
  exact kk H1 locs1 lsA ⟨b1, b2, a3, a4.trans hsz, h0⟩ hL
theorem k_putR {X : sx_T} {E : sv_E} {D : sd_T} {Q : State → Prop} {u w pc : Nat} {ls : List (Option sv_V)} {st : List sv_V} {K : kw_T} {idx a c9 k9 b9 : Nat} {C9 : String} {T9 : u_T} {N9 : Nat} (C : sx_ok X E D) (hI : kIn X) (hc : cl_ok c9 C9 T9 N9) (hk9 : k9 < N9) (hlk : Cond.fieldLink D.1 idx (T9 k9).1 (T9 k9).2.1 (T9 k9).2.2.1 ∈ LW) (hd : decode D.2.1 pc = .ok (.putfield idx, 3)) (ha : shp a = (c9, 0)) (hn9 : a < K.1) (hk0 : fkd c9 k9 ≠ 0) (hk1 : fkd c9 k9 ≠ 1) (hfin : (T9 k9).2.2.2 = true) (hb9 : rfs a k9 = b9) (hdecl : (T9 k9).1 = D.1) {ty9 : FieldType} (hty : parseFieldDescriptor (T9 k9).2.2.1 = some ty9) (hnr : ∀ r, narrow ty9 (.ref r) = .ref r) (hft : ∀ r, fits ty9 (.ref r) = true) (kk : KW X E Q u w (pc + 3) ls st (K.1, K.2.1, asS K.2.2 a k9)) : KW X E Q u w pc ls (vR b9 :: vR a :: st) K := by
  subst hb9
  obtain ⟨p, l, e, R, s, m, args, below, meth, c⟩ := X
  obtain ⟨own, cc, nL, rt, tb, k, mc, ms⟩ := D
  obtain ⟨hx, hb, hnl2, hown, hts, hMW, hK, hret, hlocks, htab, htr, hRf, hRl, hRc, hRs⟩ := C
  intro H locs lsA hR hL
  obtain ⟨hP, hD, hS, hsz, h0⟩ := hR
  obtain ⟨g1, rfl, g3, g4, g5, ty, g6, g7⟩ := hc
  have hw : (kw_ws E K)[a]? = some (E.1 + a, .inr (c9, (List.range (nfd c9)).map (fldK E K a c9))) := by rw [kw_at hn9, celK_O ha (by omega)]; rfl
  have hev : fldK E (K.1, K.2.1, asS K.2.2 a k9) a c9 k9 = .ref (E.1 + rfs a k9) := by
    unfold fldK
    split
    · rename_i q; exact absurd q hk0
    · rename_i q; exact absurd q hk1
    · rw [if_pos asS_s]
  have he : (kw_ws E K).set a (E.1 + a, .inr (c9, ((List.range (nfd c9)).map (fldK E K a c9)).set k9 (.ref (E.1 + rfs a k9)))) = kw_ws E (K.1, K.2.1, asS K.2.2 a k9) := by
    rw [← kw_set (K' := (K.1, K.2.1, asS K.2.2 a k9)) hn9 rfl (fun b hb => celK_cg rfl (asS_a hb)), celK_O ha (by omega)]
    unfold celKO
    rw [fldK_set _ hk9 hev (fun j hj => by
      unfold fldK
      rw [show (K.1, K.2.1, asS K.2.2 a k9).2.2 a j = K.2.2 a j from asS_k hj])]
  refine kp_putF (T := T9) (ty := ty9) hx hb hts g4 ty g6 g5 hown hK hP hD hS a hw g1 k9 hk9 (hts _ hlk) hfin hI hdecl (hty) (hnr _) (hft _) (by simp [hk9]) hd ?_
  intro H1 locs1 a1 a2 a3 a4
  have b1 : va_P E.2.2.2 vwCl ((kw_ws E K).set a (E.1 + a, .inr (c9, ((List.range (nfd c9)).map (fldK E K a c9)).set k9 (.ref (E.1 + rfs a k9))))) H1 := a1
  have b2 : va_D (fun q => E.1 ≤ q) ((kw_ws E K).set a (E.1 + a, .inr (c9, ((List.range (nfd c9)).map (fldK E K a c9)).set k9 (.ref (E.1 + rfs a k9))))) := a2
  rw [he] at b1 b2
  exact kk H1 locs1 lsA ⟨b1, b2, a3, a4.trans hsz, h0⟩ hL
theorem k_getR {X : sx_T} {E : sv_E} {D : sd_T} {Q : State → Prop} {u w pc : Nat} {ls : List (Option sv_V)} {st : List sv_V} {K : kw_T} {idx a c9 k9 b9 : Nat} {C9 : String} {T9 : u_T} {N9 : Nat} (C : sx_ok X E D) (hc : cl_ok c9 C9 T9 N9) (hk9 : k9 < N9) (hlk : Cond.fieldLink D.1 idx (T9 k9).1 (T9 k9).2.1 (T9 k9).2.2.1 ∈ LW) (hd : decode D.2.1 pc = .ok (.getfield idx, 3)) (ha : shp a = (c9, 0)) (hn9 : a < K.1) (hk0 : fkd c9 k9 ≠ 0) (hk1 : fkd c9 k9 ≠ 1) (hs9 : K.2.2 a k9 = true) (hb9 : rfs a k9 = b9) (kk : KW X E Q u w (pc + 3) ls (vR b9 :: st) K) : KW X E Q u w pc ls (vR a :: st) K := by
  subst hb9
  obtain ⟨p, l, e, R, s, m, args, below, meth, c⟩ := X
  obtain ⟨own, cc, nL, rt, tb, k, mc, ms⟩ := D
  obtain ⟨hx, hb, hnl2, hown, hts, hMW, hK, hret, hlocks, htab, htr, hRf, hRl, hRc, hRs⟩ := C
  intro H locs lsA hR hL
  obtain ⟨hP, hD, hS, hsz, h0⟩ := hR
  have kk := kk H locs lsA ⟨hP, hD, hS, hsz, h0⟩ hL
  obtain ⟨g1, rfl, g3, g4, g5, ty, g6, g7⟩ := hc
  have hw : (kw_ws E K)[a]? = some (E.1 + a, .inr (c9, (List.range (nfd c9)).map (fldK E K a c9))) := by rw [kw_at hn9, celK_O ha (by omega)]; rfl
  have hv9 : ((List.range (nfd c9)).map (fldK E K a c9))[k9]? = some (cv E (vR (rfs a k9))) := by
    rw [List.getElem?_map, List.getElem?_range hk9]
    show some (fldK E K a c9 k9) = _
    unfold fldK
    split
    · rename_i q; exact absurd q hk0
    · rename_i q; exact absurd q hk1
    · rw [if_pos hs9]; rfl
  exact va_get (T := T9) hx hb hts g4 hown hK hP a hw g1 k9 hk9 (hts _ hlk) (fun _ h => h) hv9 hd kk
theorem k_iast {X : sx_T} {E : sv_E} {D : sd_T} {Q : State → Prop} {u w pc : Nat} {ls : List (Option sv_V)} {st : List sv_V} {K : kw_T} {a N9 : Nat} {i z : Int} (C : sx_ok X E D) (hd : decode D.2.1 pc = .ok (.iastore, 1)) (ha : shp a = (10, N9)) (hn9 : a < K.1) (hi : 0 ≤ i ∧ i < (N9 : Int)) (kk : KW X E Q u w (pc + 1) ls st (K.1, up K.2.1 a i z, K.2.2)) : KW X E Q u w pc ls (vI z :: vI i :: vR a :: st) K := by
  obtain ⟨p, l, e, R, s, m, args, below, meth, c⟩ := X
  obtain ⟨own, cc, nL, rt, tb, k, mc, ms⟩ := D
  obtain ⟨hx, hb, hnl2, hown, hts, hMW, hK, hret, hlocks, htab, htr, hRf, hRl, hRc, hRs⟩ := C
  intro H locs lsA hR hL
  obtain ⟨hP, hD, hS, hsz, h0⟩ := hR
  have hn := shp_n ha (by omega)
  have hw : (kw_ws E K)[a]? = some (E.1 + a, .inl (E.2.2.1 0, N9, .inl fun k => Int32.ofInt (K.2.1 a k))) := by rw [kw_at hn9, celK_I ha]; rfl
  have he : (kw_ws E K).set a (E.1 + a, .inl (E.2.2.1 0, N9, .inl fun k => Int32.ofInt (up K.2.1 a i z a k))) = kw_ws E (K.1, up K.2.1 a i z, K.2.2) := by
    rw [← kw_set (K' := (K.1, up K.2.1 a i z, K.2.2)) hn9 rfl (fun b hb => celK_cg (by funext j; exact up_a hb) rfl), celK_I ha]; rfl
  have hin := ix_in hi.1 hi.2 hn
  refine W.iast hx hb (hP a _ hw) ((hK.2 0 _ rfl).1 N9 (fun j => .int (Int32.ofInt (K.2.1 a j)))) (fun q => by cases q) (by show ¬ (Int32.ofInt i < 0 ∨ (arrV _ _ _).slots.size ≤ _); rw [arrV_size]; exact hin) rfl rfl hd fun H1 e z9 oq => ?_
  have hP1 := hP.set (e := .inl (E.2.2.1 0, N9, .inl fun k => Int32.ofInt (up K.2.1 a i z a k))) hD hw ?_ oq
  · have hD1 := hD.set (e := .inl (E.2.2.1 0, N9, .inl fun k => Int32.ofInt (up K.2.1 a i z a k))) hw
    rw [he] at hP1 hD1
    exact kk H1 _ lsA ⟨hP1, hD1, hS.put z9 oq (hD.2 a _ hw), z9.trans hsz, h0⟩ hL
  · show H1[E.1 + a]? = some (vp_cell _ _)
    rw [e]
    show some ((arrV _ _ _).setSlot _ _) = _
    rw [vp_cell_i, arrV_store]
    congr 2
    funext q
    have h1 := ix_cl hi.1 (by omega : i ≤ 2147483647)
    unfold updV up
    by_cases hq : q = (Int32.ofInt i).toNatClampNeg
    · rw [if_pos hq, if_pos ⟨rfl, by omega⟩]
    · rw [if_neg hq, if_neg (by omega)]
theorem k_aast {X : sx_T} {E : sv_E} {D : sd_T} {Q : State → Prop} {u w pc : Nat} {ls : List (Option sv_V)} {st : List sv_V} {K : kw_T} {a b9 t c9 N9 : Nat} {i : Int} {C9 : String} {T9 : u_T} {M9 : Nat} (C : sx_ok X E D) (hd : decode D.2.1 pc = .ok (.aastore, 1)) (ht : 2 ≤ t ∧ t ≤ 4) (ha : shp a = (10 + t, N9)) (hn9 : a < K.1) (hi : 0 ≤ i ∧ i < (N9 : Int)) (hb9 : rfs a i.toNat = b9) (hn8 : b9 < K.1) (hbs : shp b9 = (c9, 0)) (hc : cl_ok c9 C9 T9 M9) (hty : (sv_tys E)[t]? = some (E.2.2.1 t, .object C9)) (kk : KW X E Q u w (pc + 1) ls st (K.1, K.2.1, asS K.2.2 a i.toNat)) : KW X E Q u w pc ls (vR b9 :: vI i :: vR a :: st) K := by
  subst hb9
  obtain ⟨p, l, e, R, s, m, args, below, meth, c⟩ := X
  obtain ⟨own, cc, nL, rt, tb, k, mc, ms⟩ := D
  obtain ⟨hx, hb, hnl2, hown, hts, hMW, hK, hret, hlocks, htab, htr, hRf, hRl, hRc, hRs⟩ := C
  intro H locs lsA hR hL
  obtain ⟨hP, hD, hS, hsz, h0⟩ := hR
  obtain ⟨g1, rfl, g3, g4, g5, ty, g6, g7⟩ := hc
  have hn := shp_n ha (by omega)
  have hw : (kw_ws E K)[a]? = some (E.1 + a, celKR E K a t N9) := by rw [kw_at hn9, celK_R ha ht.1 ht.2]
  have hw2 : (kw_ws E K)[rfs a i.toNat]? = some (E.1 + rfs a i.toNat, .inr (c9, (List.range (nfd c9)).map (fldK E K (rfs a i.toNat) c9))) := by rw [kw_at hn8, celK_O hbs (by omega)]; rfl
  have he : (kw_ws E K).set a (E.1 + a, celKR E (K.1, K.2.1, asS K.2.2 a i.toNat) a t N9) = kw_ws E (K.1, K.2.1, asS K.2.2 a i.toNat) := by
    rw [← kw_set (K' := (K.1, K.2.1, asS K.2.2 a i.toNat)) hn9 rfl (fun b hb => celK_cg rfl (asS_a hb)), celK_R ha ht.1 ht.2]
  have hin := ix_in hi.1 hi.2 hn
  obtain ⟨r', hr', cellV, v1, v2, v3, -⟩ := hP (rfs a i.toNat) _ hw2
  have hcls := (hK.1 c9 _ g1).2
  obtain ⟨-, kA, comp, k1, k2, k3, -⟩ := hK.2 t _ hty
  have hcomp : comp = E.2.2.2.1 c9 := Option.some.inj (k3.symm.trans hcls.1)
  subst hcomp
  obtain ⟨kC, hkC, -⟩ := hcls.2
  refine W.aast hx hb (hP a _ hw) (fun q h => by cases h) (fun h => by cases h) k1 k2 rfl hkC ⟨fun q => hin (Or.inl q), by show _ < (arrV _ _ _).slots.size; rw [arrV_size]; exact Nat.not_le.mp fun q => hin (Or.inr q)⟩ v1 (fun q h => by rw [v3] at h; cases h) (by rw [v2]; exact hkC) (by rw [v2]; exact va_assign hcls) rfl rfl hd fun H1 e z9 oq => ?_
  have hP1 := hP.set (e := celKR E (K.1, K.2.1, asS K.2.2 a i.toNat) a t N9) hD hw ?_ oq
  · have hD1 := hD.set (e := celKR E (K.1, K.2.1, asS K.2.2 a i.toNat) a t N9) hw
    rw [he] at hP1 hD1
    exact kk H1 _ lsA ⟨hP1, hD1, hS.put z9 oq (hD.2 a _ hw), z9.trans hsz, h0⟩ hL
  · show H1[E.1 + a]? = some (vp_cell _ _)
    rw [e]
    show some ((vp_cell (E.2.2.1 t) (N9, .inr (.inr (.inr (.inr fun k => if k < N9 ∧ K.2.2 a k = true then some (E.1 + rfs a k) else none))))).setSlot _ _) = some (vp_cell (E.2.2.1 t) (N9, .inr (.inr (.inr (.inr fun k => if k < N9 ∧ asS K.2.2 a i.toNat a k = true then some (E.1 + rfs a k) else none)))))
    rw [vp_cell_q, vp_cell_q, arrV_store]
    congr 2
    funext q
    have h1 := ix_cl hi.1 (by omega : i ≤ 2147483647)
    unfold updV
    by_cases hq : q = (Int32.ofInt i).toNatClampNeg
    · rw [if_pos hq]
      have e1 : q = i.toNat := by omega
      show _ = va_rf (if q < N9 ∧ asS K.2.2 a i.toNat a q = true then some (E.1 + rfs a q) else none)
      rw [e1, if_pos ⟨by omega, asS_s⟩]; rfl
    · rw [if_neg hq]
      show va_rf (if q < N9 ∧ K.2.2 a q = true then some (E.1 + rfs a q) else none) = va_rf (if q < N9 ∧ asS K.2.2 a i.toNat a q = true then some (E.1 + rfs a q) else none)
      rw [asS_k (show q ≠ i.toNat by omega)]
