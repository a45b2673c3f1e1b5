/-! Methods: their contracts, their entry, their ends, calls, throws. -/
/-- a method: name, code, locals, what it returns, how many cells it may make (a throw makes one, of six slots) -/
abbrev md_T : Type := MethodName × ByteArray × Nat × Option FieldType × Nat
abbrev mdM (M : md_T) : Nat := M.2.2.2.2
abbrev dRt (D : sd_T) : Option FieldType := D.2.2.2.1
abbrev dTb (D : sd_T) : List ExceptionTableEntry := D.2.2.2.2.1
abbrev dK (D : sd_T) : Nat := D.2.2.2.2.2.1
abbrev dMc (D : sd_T) : Nat := D.2.2.2.2.2.2.1
abbrev dMs (D : sd_T) : Nat := D.2.2.2.2.2.2.2
def rm_of (M : md_T) (k : Nat) : Room := { frames := k, cells := mdM M, slots := 6 * mdM M, locals := 40 * k }
def WdH (E : sv_E) (σ : sv_G) (H : Heap) : Prop := va_P E.2.2.2 vwCl (sv_ws E σ) H ∧ va_D (fun q => E.1 ≤ q) (sv_ws E σ) ∧ RG σ
def Wd (E : sv_E) (σ : sv_G) (U : State) : Prop := WdH E σ U.heap ∧ va_K E.2.2.2 vwCl (sv_tys E) U ∧ MW E U
def QcP (E : sv_E) (Post : Option sv_V → sv_G → Prop) : Array Value → State → Outcome → State → Prop := fun _ st oc t => (∃ o σ', oc = .returned (o.map (cv E)) ∧ Post o σ' ∧ WdH E σ' t.heap) ∧ va_F (fun q => E.1 ≤ q) st t
def XcP (E : sv_E) (PX : String → sv_G → Prop) : String → State → State → Prop := fun En st t => ∃ σ', PX En σ' ∧ WdH E σ' t.heap ∧ va_F (fun q => E.1 ≤ q) st t
abbrev mcd (M : md_T) : Cond := Cond.code M.1 M.2.1 M.2.2.1 M.2.2.2.1
def CT (E : sv_E) (M : md_T) (k : Nat) (av : List sv_V) (σ : sv_G) (Post : Option sv_V → sv_G → Prop) : Prop := ∀ l : Launch, l.stackTraces = false →
  Met l M.1 (mcd M :: LW) (rm_of M k) (va_Pc (av.map (cv E)) (Wd E σ)) (QcP E Post) (mdM M) (6 * mdM M) (fun q => E.1 ≤ q)
def CX (E : sv_E) (M : md_T) (k : Nat) (av : List sv_V) (σ : sv_G) (Post : Option sv_V → sv_G → Prop) (PX : String → sv_G → Prop) : Prop := ∀ l : Launch, l.stackTraces = false →
  vx_Met l M.1 (mcd M :: LW) (rm_of M k) (va_Pc (av.map (cv E)) (Wd E σ)) (QcP E Post) (XcP E PX) (mdM M) (6 * mdM M) (fun q => E.1 ≤ q)
def CW (E : sv_E) (M : md_T) (hh : List (Nat × Nat × Nat × Nat)) (k : Nat) (av : List sv_V) (σ : sv_G) (Post : Option sv_V → sv_G → Prop) : Prop := ∀ l : Launch, l.stackTraces = false →
  Met l M.1 (Cond.codeWith M.1 M.2.1 M.2.2.1 M.2.2.2.1 hh :: LW) (rm_of M k) (va_Pc (av.map (cv E)) (Wd E σ)) (QcP E Post) (mdM M) (6 * mdM M) (fun q => E.1 ≤ q)
/-- the end that a body owes where it returns .. -/
def QR (X : sx_T) (E : sv_E) (Q : State → Prop) (mc : Nat) (Post : Option sv_V → sv_G → Prop) : Prop := match X with
  | (p, l, e, R, s, m, args, below, meth, c) => ∀ (H : Heap) (locs : List Loc) (g : JFrame), W p l e R s m args below meth c H locs mc (6 * mc) (MQ below (QcP E Post) args s mc (6 * mc) (fun q => E.1 ≤ q)) g → W p l e R s m args below meth c H locs mc (6 * mc) Q g
/-- .. and where it throws -/
def QT (X : sx_T) (E : sv_E) (Q : State → Prop) (mc : Nat) (PX : String → sv_G → Prop) : Prop := match X with
  | (p, l, e, R, s, m, args, below, meth, c) => ∃ Qc, Q = vx_MQ below Qc (XcP E PX) args s mc (6 * mc) (fun q => E.1 ≤ q)
theorem Wd.calling {E : sv_E} {σ : sv_G} {U : State} (g : JFrame) (mk : MethodId) (a : Array Value) (h : Wd E σ U) : Wd E σ (U.calling g mk a) :=
  ⟨h.1, va_K.moved (u := U) (U := U.calling g mk a) (Vm.Alike.refl U.vm) h.2.1, MW.mv (u := U) (U := U.calling g mk a) (sv_refl U) (fun _ _ _ => rfl) h.2.2⟩
theorem Wd.blind {E : sv_E} {σ : sv_G} {av : List Value} : FrameBlind (va_Pc av (Wd E σ)) := fun _ _ g mk h => ⟨h.1, h.2.calling g mk _⟩
-- the locals at the entry
def sv_in : List sv_V → List (Option sv_V)
  | [] => []
  | v :: r => match v with
    | .inr (.inl z) => some (vL z) :: none :: sv_in r
    | v => some v :: sv_in r
def sv_ini (av : List sv_V) (nL : Nat) : List (Option sv_V) := sv_in av ++ List.replicate (nL - (sv_in av).length) none
theorem cv_c1 {E : sv_E} {v : sv_V} (h : ∀ z, v ≠ vL z) : ¬ (cv E v).category = 2 := fun q => by
  obtain ⟨z, hz⟩ := cv_cat2 q
  exact h z hz
theorem sv_in_cons {v : sv_V} {r : List sv_V} (h : ∀ z, v ≠ vL z) : sv_in (v :: r) = some v :: sv_in r := by
  match v, h with
  | .inl _, _ => rfl
  | .inr (.inl z), h => exact absurd rfl (h z)
  | .inr (.inr _), _ => rfl
theorem lg_sl_L (z : Int64) (l : List Value) : (lg_sl (Value.long z :: l)).length = 2 + (lg_sl l).length := by
  have h : lg_sl (Value.long z :: l) = [.val (.long z), .second] ++ lg_sl l := by simp [lg_sl, Value.category]
  rw [h, List.length_append]
  rfl
theorem sv_in_len {E : sv_E} : ∀ av : List sv_V, (lg_sl (av.map (cv E))).length = (sv_in av).length
  | [] => rfl
  | v :: r => by
    by_cases h : ∃ z, v = vL z
    · obtain ⟨z, rfl⟩ := h
      show (lg_sl (Value.long (Int64.ofInt z) :: r.map (cv E))).length = (some (vL z) :: none :: sv_in r).length
      rw [lg_sl_L, sv_in_len (E := E) r]
      simp only [List.length_cons]
      omega
    · have h2 : ∀ z, v ≠ vL z := fun z q => h ⟨z, q⟩
      rw [sv_in_cons h2]
      have h3 := cv_c1 (E := E) h2
      simp only [lg_sl, List.map_cons, List.flatMap_cons, if_neg h3, List.length_append, List.length_cons, List.length_nil]
      have := sv_in_len (E := E) r
      simp only [lg_sl] at this
      omega
theorem sv_in_at {E : sv_E} : ∀ (av : List sv_V) (i0 i : Nat) (v : sv_V), (sv_in av)[i]? = some (some v) → (i0 + i, cv E v) ∈ lv_args i0 (av.map (cv E))
  | [], _, _, _, h => by simp [sv_in] at h
  | x :: r, i0, i, v, h => by
    by_cases q : ∃ z, x = vL z
    · obtain ⟨z, rfl⟩ := q
      have h1 : (some (vL z) :: none :: sv_in r)[i]? = some (some v) := h
      show (i0 + i, cv E v) ∈ (i0, cv E (vL z)) :: lv_args (if (cv E (vL z)).category = 2 then i0 + 2 else i0 + 1) (r.map (cv E))
      rw [if_pos (show (cv E (vL z)).category = 2 from rfl)]
      match i, h1 with
      | 0, h1 => cases h1; exact List.mem_cons_self
      | 1, h1 => cases h1
      | i + 2, h1 =>
        have h2 := sv_in_at (E := E) r (i0 + 2) i v h1
        rw [show i0 + (i + 2) = i0 + 2 + i by omega]
        exact List.mem_cons_of_mem _ h2
    · have q2 : ∀ z, x ≠ vL z := fun z q3 => q ⟨z, q3⟩
      rw [sv_in_cons q2] at h
      show (i0 + i, cv E v) ∈ (i0, cv E x) :: lv_args (if (cv E x).category = 2 then i0 + 2 else i0 + 1) (r.map (cv E))
      rw [if_neg (cv_c1 q2)]
      match i, h with
      | 0, h => cases h; exact List.mem_cons_self
      | i + 1, h =>
        have h2 := sv_in_at (E := E) r (i0 + 1) i v h
        rw [show i0 + (i + 1) = i0 + 1 + i by omega]
        exact List.mem_cons_of_mem _ h2
theorem sv_entry {E : sv_E} {av : List sv_V} {nL : Nat} (h : (sv_in av).length ≤ nL) : sv_L E ((lg_sl (av.map (cv E)) ++ List.replicate (nL - (lg_sl (av.map (cv E))).length) Slot.unset).toArray) nL (sv_ini av nL) := by
  have h1 := lv_entry (av.map (cv E)) (n := nL) (by rw [sv_in_len]; exact h)
  refine ⟨h1.1, h1.2.1, fun i v hi => ?_⟩
  have h2 : (sv_in av)[i]? = some (some v) := by
    unfold sv_ini at hi
    by_cases q : i < (sv_in av).length
    · rwa [List.getElem?_append_left q] at hi
    · rw [List.getElem?_append_right (by omega)] at hi
      have := List.eq_of_mem_replicate (List.mem_of_getElem? hi)
      cases this
  have h3 := sv_in_at (E := E) av 0 i v h2
  rw [Nat.zero_add] at h3
  exact h1.2.2 _ h3
/-- what the tables say of a method: its code, its class, how many parameters -/
def mo (M : md_T) (n : Nat) : Prop := mcd M ∈ LW ∧ Cond.initialized M.1.cls ∈ LW ∧ (M.1.cls ≠ "java/lang/invoke/MethodHandle" ∧ M.1.cls ≠ "java/lang/invoke/VarHandle") ∧ (parseMethodDescriptor M.1.desc).map (fun d => d.parameters.length) = some n ∧ plainFor M.1 = true ∧ M.2.2.1 ≤ 21
def mov (M : md_T) : Prop := Cond.instanceMethod M.1 ∈ LW ∧ Cond.selects M.1.cls M.1 M.1 ∈ LW
def mos (M : md_T) : Prop := Cond.static M.1 ∈ LW
theorem mo_of {M : md_T} {n : Nat} (i j : Nat) (h1 : lw_tbl[i]? = some (mcd M)) (h2 : lw_tbl[j]? = some (Cond.initialized M.1.cls)) (h3 : (M.1.cls ≠ "java/lang/invoke/MethodHandle" ∧ M.1.cls ≠ "java/lang/invoke/VarHandle") ∧ (parseMethodDescriptor M.1.desc).map (fun d => d.parameters.length) = some n ∧ plainFor M.1 = true) (h4 : M.2.2.1 ≤ 21) : mo M n := ⟨LW_in i h1 rfl, LW_in j h2 rfl, h3.1, h3.2.1, h3.2.2, h4⟩
theorem mov_of {M : md_T} (i j : Nat) (h1 : lw_tbl[i]? = some (Cond.instanceMethod M.1)) (h2 : lw_tbl[j]? = some (Cond.selects M.1.cls M.1 M.1)) : mov M := ⟨LW_in i h1 rfl, LW_in j h2 rfl⟩
theorem CT.of {E : sv_E} {M : md_T} {n k : Nat} {av : List sv_V} {σ : sv_G} {Post : Option sv_V → sv_G → Prop} (D : sd_T) (hD : (M.1.cls, M.2.1, M.2.2.1, M.2.2.2.1, ([] : List ExceptionTableEntry), k, mdM M, 6 * mdM M) = D) (ho : mo M n) (hl : (sv_in av).length ≤ M.2.2.1) {ls0 : List (Option sv_V)} (hls : sv_ini av M.2.2.1 = ls0)
    (body : ∀ (X : sx_T) (Q : State → Prop), sx_ok X E D → QR X E Q (mdM M) Post → SW X E Q 0 0 0 ls0 [] σ) : CT E M k av σ Post := by
  intro l hlt
  subst hD
  subst hls
  refine va_MetF (cc := M.2.1) (maxL := M.2.2.1) (ret := M.2.2.2.1) ho.2.2.2.2.1 rfl ?_
  intro p e s m args below meth c s₁ B hml hv
  obtain ⟨rfl, ⟨hP, hD, hG⟩, hK, hMW⟩ := hv
  have hts := atoms_spec (ws := mcd M :: LW) B.pre
  have hown : s.vm.findClass M.1.cls = some m.cls := findClass_of_methodNamed B.named
  have htab : c.exceptionTable.toList = [] := by
    obtain ⟨meth9, c9, h1, h2, -, -, -, -, h7, -⟩ := Cond.code_spec B.named (hts _ List.mem_cons_self)
    cases Option.some.inj (h1.symm.trans B.method)
    cases Option.some.inj (h2.symm.trans (Stand.of_body B).code)
    rw [Array.isEmpty_iff.mp h7]
  have hb := body (p, l, e, (headSpec (mcd M :: LW) (rm_of M k)).room, s, m, (av.map (cv E)).toArray, below, meth, c) _ ⟨B.exec, B.bytes, hml, hown, fun w h => hts w (List.mem_cons_of_mem _ h), hMW, hK, B.returns, B.notSynchronized, htab, hlt, Nat.le_refl _, Nat.le_refl _, Nat.le_refl _, Nat.le_refl _⟩ (fun H locs g h => h)
  rw [lg_entry_eq]
  exact hb s.heap [] _ ⟨hP, hD, va_S.rf, hG⟩ (by rw [hml]; exact sv_entry hl)
theorem CX.of {E : sv_E} {M : md_T} {n k : Nat} {av : List sv_V} {σ : sv_G} {Post : Option sv_V → sv_G → Prop} {PX : String → sv_G → Prop} (D : sd_T) (hD : (M.1.cls, M.2.1, M.2.2.1, M.2.2.2.1, ([] : List ExceptionTableEntry), k, mdM M, 6 * mdM M) = D) (ho : mo M n) (hy9 : plainName M.1.cls = true) (hl : (sv_in av).length ≤ M.2.2.1) {ls0 : List (Option sv_V)} (hls : sv_ini av M.2.2.1 = ls0)
    (body : ∀ (X : sx_T) (Q : State → Prop), sx_ok X E D → QR X E Q (mdM M) Post → QT X E Q (mdM M) PX → SW X E Q 0 0 0 ls0 [] σ) : CX E M k av σ Post PX := by
  intro l hlt
  subst hD
  subst hls
  refine vx_ofW (cc := M.2.1) (maxL := M.2.2.1) (ret := M.2.2.2.1) hy9 rfl ?_
  intro p e s m args below meth c s₁ B hml ht hv
  obtain ⟨rfl, ⟨hP, hD, hG⟩, hK, hMW⟩ := hv
  have hts := atoms_spec (ws := mcd M :: LW) B.pre
  have hown : s.vm.findClass M.1.cls = some m.cls := findClass_of_methodNamed B.named
  have htab : c.exceptionTable.toList = [] := List.eq_nil_iff_forall_not_mem.mpr ht
  have hb := body (p, l, e, (headSpec (mcd M :: LW) (rm_of M k)).room, s, m, (av.map (cv E)).toArray, below, meth, c) _ ⟨B.exec, B.bytes, hml, hown, fun w h => hts w (List.mem_cons_of_mem _ h), hMW, hK, B.returns, B.notSynchronized, htab, hlt, Nat.le_refl _, Nat.le_refl _, Nat.le_refl _, Nat.le_refl _⟩ (fun H locs g h => vx_ret h) ⟨_, rfl⟩
  rw [lg_entry_eq]
  exact hb s.heap [] _ ⟨hP, hD, va_S.rf, hG⟩ (by rw [hml]; exact sv_entry hl)

theorem s_iret {X : sx_T} {E : sv_E} {D : sd_T} {Q : State → Prop} {u w pc : Nat} {ls : List (Option sv_V)} {σ : sv_G} {z : Int} {mc9 : Nat} {Post : Option sv_V → sv_G → Prop} (C : sx_ok X E D) (hQ : QR X E Q mc9 Post) (hd : decode D.2.1 pc = .ok (.ireturn, 1)) (hr : dRt D = some .int)  (hp : Post (some (vI z)) σ) (hu : u ≤ mc9 ∧ w ≤ 6 * mc9) : SW X E Q u w pc ls [vI z] σ := by
  obtain ⟨p, l, e, R, s, m, args, below, meth, c⟩ := X
  obtain ⟨own, cc, nL, rt, tb, k, mc, ms⟩ := D
  obtain ⟨hx, hb, hnl, hown, hts, hMW, hK, hret, hlocks, htab, htr, hRf, hRl, hRc, hRs⟩ := C
  intro H locs lsA hR hL
  obtain ⟨hP, hD, hS, hG⟩ := hR
  refine W.widen hu.1 hu.2 (hQ H locs _ ?_)
  exact W.iret (v := Int32.ofInt z) hx hb (hret.trans hr) (fun t ht hW => ⟨⟨some (vI z), σ, rfl, hp, by rw [ht]; exact ⟨hP, hD, hG⟩⟩, hS.F ht⟩) hS.2.2 hd hlocks
theorem s_zret {X : sx_T} {E : sv_E} {D : sd_T} {Q : State → Prop} {u w pc : Nat} {ls : List (Option sv_V)} {σ : sv_G} {z : Int} {mc9 : Nat} {Post : Option sv_V → sv_G → Prop} (C : sx_ok X E D) (hQ : QR X E Q mc9 Post) (hd : decode D.2.1 pc = .ok (.ireturn, 1)) (hr : dRt D = some .boolean) (hz : z = 0 ∨ z = 1) (hp : Post (some (vI z)) σ) (hu : u ≤ mc9 ∧ w ≤ 6 * mc9) : SW X E Q u w pc ls [vI z] σ := by
  obtain ⟨p, l, e, R, s, m, args, below, meth, c⟩ := X
  obtain ⟨own, cc, nL, rt, tb, k, mc, ms⟩ := D
  obtain ⟨hx, hb, hnl, hown, hts, hMW, hK, hret, hlocks, htab, htr, hRf, hRl, hRc, hRs⟩ := C
  intro H locs lsA hR hL
  obtain ⟨hP, hD, hS, hG⟩ := hR
  refine W.widen hu.1 hu.2 (hQ H locs _ ?_)
  exact W.zret (v := Int32.ofInt z) hx hb (hret.trans hr) (by rcases hz with rfl | rfl <;> rfl) (fun t ht hW => ⟨⟨some (vI z), σ, rfl, hp, by rw [ht]; exact ⟨hP, hD, hG⟩⟩, hS.F ht⟩) hS.2.2 hd hlocks
theorem s_lret {X : sx_T} {E : sv_E} {D : sd_T} {Q : State → Prop} {u w pc : Nat} {ls : List (Option sv_V)} {σ : sv_G} {z : Int} {mc9 : Nat} {Post : Option sv_V → sv_G → Prop} (C : sx_ok X E D) (hQ : QR X E Q mc9 Post) (hd : decode D.2.1 pc = .ok (.lreturn, 1)) (hr : dRt D = some .long)  (hp : Post (some (vL z)) σ) (hu : u ≤ mc9 ∧ w ≤ 6 * mc9) : SW X E Q u w pc ls [vL z] σ := by
  obtain ⟨p, l, e, R, s, m, args, below, meth, c⟩ := X
  obtain ⟨own, cc, nL, rt, tb, k, mc, ms⟩ := D
  obtain ⟨hx, hb, hnl, hown, hts, hMW, hK, hret, hlocks, htab, htr, hRf, hRl, hRc, hRs⟩ := C
  intro H locs lsA hR hL
  obtain ⟨hP, hD, hS, hG⟩ := hR
  refine W.widen hu.1 hu.2 (hQ H locs _ ?_)
  exact W.lret (v := Int64.ofInt z) hx hb (hret.trans hr) (fun t ht hW => ⟨⟨some (vL z), σ, rfl, hp, by rw [ht]; exact ⟨hP, hD, hG⟩⟩, hS.F ht⟩) hS.2.2 hd hlocks
theorem s_aret {X : sx_T} {E : sv_E} {D : sd_T} {Q : State → Prop} {u w pc : Nat} {ls : List (Option sv_V)} {σ : sv_G} {z : Nat} {mc9 : Nat} {Post : Option sv_V → sv_G → Prop} (C : sx_ok X E D) (hQ : QR X E Q mc9 Post) (hd : decode D.2.1 pc = .ok (.areturn, 1)) {rt9 : String} (hr : dRt D = some (.object rt9))  (hp : Post (some (vR z)) σ) (hu : u ≤ mc9 ∧ w ≤ 6 * mc9) : SW X E Q u w pc ls [vR z] σ := by
  obtain ⟨p, l, e, R, s, m, args, below, meth, c⟩ := X
  obtain ⟨own, cc, nL, rt, tb, k, mc, ms⟩ := D
  obtain ⟨hx, hb, hnl, hown, hts, hMW, hK, hret, hlocks, htab, htr, hRf, hRl, hRc, hRs⟩ := C
  intro H locs lsA hR hL
  obtain ⟨hP, hD, hS, hG⟩ := hR
  refine W.widen hu.1 hu.2 (hQ H locs _ ?_)
  exact W.aret (v := .ref (E.1 + z)) hx hb (hret.trans hr) (Or.inl ⟨_, rfl⟩) (Or.inr ⟨_, rfl⟩) (fun t ht hW => ⟨⟨some (vR z), σ, rfl, hp, by rw [ht]; exact ⟨hP, hD, hG⟩⟩, hS.F ht⟩) hS.2.2 hd hlocks
theorem s_aretN {X : sx_T} {E : sv_E} {D : sd_T} {Q : State → Prop} {u w pc : Nat} {ls : List (Option sv_V)} {σ : sv_G} {mc9 : Nat} {Post : Option sv_V → sv_G → Prop} (C : sx_ok X E D) (hQ : QR X E Q mc9 Post) (hd : decode D.2.1 pc = .ok (.areturn, 1)) {rt9 : String} (hr : dRt D = some (.object rt9)) (hp : Post (some vN) σ) (hu : u ≤ mc9 ∧ w ≤ 6 * mc9) : SW X E Q u w pc ls [vN] σ := by
  obtain ⟨p, l, e, R, s, m, args, below, meth, c⟩ := X
  obtain ⟨own, cc, nL, rt, tb, k, mc, ms⟩ := D
  obtain ⟨hx, hb, hnl, hown, hts, hMW, hK, hret, hlocks, htab, htr, hRf, hRl, hRc, hRs⟩ := C
  intro H locs lsA hR hL
  obtain ⟨hP, hD, hS, hG⟩ := hR
  refine W.widen hu.1 hu.2 (hQ H locs _ ?_)
  exact W.aret (v := .null) hx hb (hret.trans hr) (Or.inl ⟨_, rfl⟩) (Or.inl rfl) (fun t ht hW => ⟨⟨some vN, σ, rfl, hp, by rw [ht]; exact ⟨hP, hD, hG⟩⟩, hS.F ht⟩) hS.2.2 hd hlocks
theorem s_vret {X : sx_T} {E : sv_E} {D : sd_T} {Q : State → Prop} {u w pc : Nat} {ls : List (Option sv_V)} {σ : sv_G} {mc9 : Nat} {Post : Option sv_V → sv_G → Prop} (C : sx_ok X E D) (hQ : QR X E Q mc9 Post) (hd : decode D.2.1 pc = .ok (.return_, 1)) (hr : dRt D = none) (hp : Post none σ) (hu : u ≤ mc9 ∧ w ≤ 6 * mc9) : SW X E Q u w pc ls [] σ := by
  obtain ⟨p, l, e, R, s, m, args, below, meth, c⟩ := X
  obtain ⟨own, cc, nL, rt, tb, k, mc, ms⟩ := D
  obtain ⟨hx, hb, hnl, hown, hts, hMW, hK, hret, hlocks, htab, htr, hRf, hRl, hRc, hRs⟩ := C
  intro H locs lsA hR hL
  obtain ⟨hP, hD, hS, hG⟩ := hR
  refine W.widen hu.1 hu.2 (hQ H locs _ ?_)
  exact W.vret hx hb (hret.trans hr) (fun t ht hW => ⟨⟨none, σ, rfl, hp, by rw [ht]; exact ⟨hP, hD, hG⟩⟩, hS.F ht⟩) hS.2.2 hd hlocks

section RUN
variable {p : Program} {l : Launch} {e : Env} {R : Room} {s : State} {m : MethodId} {args : Array Value} {below : List Frame} {meth : Method} {c : Code} {H : Heap} {locs : List Loc} {u w : Nat} {Q : State → Prop}
theorem sw_run {E : sv_E} {Post : Option sv_V → sv_G → Prop} {a : Array Value} {mc ms pc : Nat} {lsA : Array Slot} {st0 rest : List Value} (hr : va_Run p l e R s m args below meth c H locs u w mc ms (F0 m pc lsA st0) rest (QcP E Post a) (fun q => E.1 ≤ q)) (hS : va_S (fun q => E.1 ≤ q) s.heap H locs)
    (kk : ∀ (o : Option sv_V) (σ' : sv_G) (H1 : Heap) (locs1 : List Loc), Post o σ' → sv_R E s.heap σ' H1 locs1 → W p l e R s m args below meth c H1 locs1 (u + mc) (w + ms) Q (F0 m (pc + 3) lsA ((o.map (cv E)).toList ++ rest))) : W p l e R s m args below meth c H locs u w Q (F0 m pc lsA st0) := by
  intro T hT X
  obtain ⟨v, st₀, t, T', L, h0, X', hL, e1, e2, ⟨⟨o, σ', hv, hp, hP, hD, hG⟩, hF⟩, st⟩ := hr T hT X
  cases hv
  obtain ⟨-, -, k3⟩ := vx_keep h0 e1 hS (fun _ _ h => h) (fun _ h => h) hL hF
  obtain ⟨t2, a1, b1⟩ := kk o σ' T'.heap (locs ++ L) hp ⟨by rw [e1]; exact hP, hD, k3, hG⟩ T' rfl X'
  exact ⟨t2, st t2 a1, b1⟩
theorem sx_run {E : sv_E} {Post : Option sv_V → sv_G → Prop} {PX : String → sv_G → Prop} {a : Array Value} {mc ms pc : Nat} {lsA : Array Slot} {st0 rest : List Value} (hr : vx_Run p l e R s m args below meth c H locs u w mc ms (F0 m pc lsA st0) rest (QcP E Post a) (XcP E PX) (fun q => E.1 ≤ q)) (hS : va_S (fun q => E.1 ≤ q) s.heap H locs)
    (kx : ∀ (En : String) (ce : Cell) (q9 : Addr) (σ' : sv_G) (H1 : Heap) (locs1 : List Loc), PX En σ' → sv_R E s.heap σ' H1 locs1 → H1[q9]? = some ce → ce.vm = .none → s.vm.findClass En = some ce.cls → vx_W p l e R s m args below meth c H1 locs1 (u + mc) (w + ms) Q (F0 m pc lsA rest) q9)
    (kk : ∀ (o : Option sv_V) (σ' : sv_G) (H1 : Heap) (locs1 : List Loc), Post o σ' → sv_R E s.heap σ' H1 locs1 → W p l e R s m args below meth c H1 locs1 (u + mc) (w + ms) Q (F0 m (pc + 3) lsA ((o.map (cv E)).toList ++ rest))) : W p l e R s m args below meth c H locs u w Q (F0 m pc lsA st0) := by
  intro T hT X
  rcases hr T hT X with ⟨v, st₀, t, T', L, h0, X', hL, e1, e2, ⟨⟨o, σ', hv, hp, hP, hD, hG⟩, hF⟩, st⟩ | ⟨q, st₀, t, T', L, En, ce, h0, X', hL, e1, e2, ⟨σ', hp, ⟨hP, hD, hG⟩, hF⟩, hce, hcv, hcl, st⟩
  · cases hv
    obtain ⟨-, -, k3⟩ := vx_keep h0 e1 hS (fun _ _ h => h) (fun _ h => h) hL hF
    obtain ⟨t2, a1, b1⟩ := kk o σ' T'.heap (locs ++ L) hp ⟨by rw [e1]; exact hP, hD, k3, hG⟩ T' rfl X'
    exact ⟨t2, st t2 a1, b1⟩
  · obtain ⟨-, -, k3⟩ := vx_keep h0 e1 hS (fun _ _ h => h) (fun _ h => h) hL hF
    obtain ⟨t2, a1, b1⟩ := kx En ce q σ' T'.heap (locs ++ L) hp ⟨by rw [e1]; exact hP, hD, k3, hG⟩ (by rw [e1]; exact hce) hcv hcl T' rfl X'
    exact ⟨t2, st.trans a1, b1⟩
end RUN
def sv_wd : sv_V → Nat
  | .inl _ => 1
  | .inr (.inl _) => 2
  | .inr (.inr _) => 1
def rw8 : List sv_V → Nat
  | [] => 0
  | v :: r => sv_wd v + rw8 r
theorem sv_wd_cat {E : sv_E} {v : sv_V} : (cv E v).category = sv_wd v := by
  match v with
  | .inl _ => rfl
  | .inr (.inl _) => rfl
  | .inr (.inr (.inl _)) => rfl
  | .inr (.inr (.inr false)) => rfl
  | .inr (.inr (.inr true)) => rfl
theorem sv_room {E : sv_E} {m : MethodId} {pc : Nat} {lsA : Array Slot} {st : List Value} {rest : List sv_V} (h : rw8 rest ≤ 8) : 2 * (F0 m pc lsA st).monitorRoom + ((rest.map (cv E)).map fun v => v.category).sum ≤ 8 := by
  refine lv_room ?_
  have h1 : ∀ l : List sv_V, ((l.map (cv E)).map fun v => v.category).sum = rw8 l := by
    intro l
    induction l with
    | nil => rfl
    | cons v r ih =>
      simp only [List.map_cons, List.sum_cons, ih, sv_wd_cat]
      rfl
  rw [h1]
  exact h
theorem sv_pre {E : sv_E} {s : State} {σ : sv_G} {H : Heap} {locs : List Loc} {av : List sv_V} (hR : sv_R E s.heap σ H locs) (hMW : MW E s) (hK : va_K E.2.2.2 vwCl (sv_tys E) s) : ∀ U : State, U.heap = H → s.WarmedH U.vm → va_Pc (av.map (cv E)) (Wd E σ) ((av.map (cv E)).toArray) U := by
  intro U hU hW
  obtain ⟨hP, hD, hS, hG⟩ := hR
  exact ⟨rfl, ⟨by rw [hU]; exact hP, hD, hG⟩, va_K.moved hW.alike hK, MW.mv hW (fun q h1 h2 => by rw [hU]; exact hS.2.1 q h1 h2) hMW⟩
theorem sv_pars {M : md_T} {n : Nat} (ho : mo M n) : ∀ sig, parseMethodDescriptor M.1.desc = some sig → n = sig.parameters.length := fun sig h => by
  have h2 := ho.2.2.2.1
  rw [h] at h2
  exact (Option.some.inj h2).symm
theorem sv_pay {args : Array Value} {s : State} {M : md_T} (h : mcd M ∈ LW) (hts : ∀ w ∈ LW, w.before args s = true) : ∀ w ∈ mcd M :: LW, ∀ (a' : Array Value) (U : State), s.WarmedH U.vm → w.before a' U = true := pay_in hts (GoodLW0 h)
theorem sv_cell {E : sv_E} {σ : sv_G} {s : State} {H : Heap} {a c : Nat} {C : String} (hP : va_P E.2.2.2 vwCl (sv_ws E σ) H) (hK : va_K E.2.2.2 vwCl (sv_tys E) s) (ha : shp a = (c, 0)) (hc : ∃ T N, vwCl[c]? = some (C, T, N)) (h9 : c < 10) : ∃ cellB : Cell, H[E.1 + a]? = some cellB ∧ cellB.vm.isStatics = false ∧ s.vm.findClass C = some cellB.cls := by
  obtain ⟨T, N, hc⟩ := hc
  exact va_recv hK hP hc (q0 := a) (by rw [sv_ws_at (shp_lt ha (by omega)), cel_O ha h9]; rfl)

theorem s_cV {X : sx_T} {E : sv_E} {D : sd_T} {Q : State → Prop} {u w pc : Nat} {ls : List (Option sv_V)} {σ : sv_G} {M : md_T} {idx n9 k9 a c9 : Nat} {as9 rest : List sv_V} {Post : Option sv_V → sv_G → Prop} (C : sx_ok X E D) (hd : decode D.2.1 pc = .ok (.invokevirtual idx, 3)) (hl : Cond.methodLink D.1 idx M.1 ∈ LW) (ho : mo M n9) (hv : mov M) (hM : CT E M k9 (vR a :: as9) σ Post) (ha : shp a = (c9, 0)) (hc : ∃ T N, vwCl[c9]? = some (M.1.cls, T, N)) (hn : as9.length = n9) (hk : k9 + 1 ≤ dK D) (hrest : rw8 rest ≤ 8) (hb9 : u + mdM M ≤ dMc D ∧ w + 6 * mdM M ≤ dMs D) (kk : ∀ o9 σ9, Post o9 σ9 → SW X E Q (u + mdM M) (w + 6 * mdM M) (pc + 3) ls (o9.toList ++ rest) σ9) : SW X E Q u w pc ls (as9.reverse ++ vR a :: rest) σ := by
  obtain ⟨p, l, e, R, s, m, args, below, meth, c⟩ := X
  obtain ⟨own, cc, nL, rt, tb, k, mc, ms⟩ := D
  obtain ⟨hx, hb, hnl, hown, hts, hMW, hK, hret, hlocks, htab, htr, hRf, hRl, hRc, hRs⟩ := C
  intro H locs lsA hR hL
  obtain ⟨hP, hD, hS, hG⟩ := hR
  have hR : sv_R E s.heap σ H locs := ⟨hP, hD, hS, hG⟩
  have hlen : (as9.map (cv E)).length = n9 := by rw [List.length_map]; exact hn
  have hst : (as9.reverse ++ vR a :: rest).map (cv E) = (as9.map (cv E)).reverse ++ Value.ref (E.1 + a) :: rest.map (cv E) := by simp [cv]
  have hRf2 : k ≤ R.frames := hRf
  have hRl2 : 40 * k ≤ R.locals := hRl
  have hk2 : k9 + 1 ≤ k := hk
  have h21 : M.2.2.1 ≤ 21 := ho.2.2.2.2.2
  have hb1 : u + mdM M ≤ mc := hb9.1
  have hb2 : w + 6 * mdM M ≤ ms := hb9.2
  have hfr : (rm_of M k9).frames + 1 ≤ R.frames := Nat.le_trans hk2 hRf2
  have hlo : 8 + (M.2.2.1 + 11) + (rm_of M k9).locals ≤ R.locals := by show 8 + (M.2.2.1 + 11) + 40 * k9 ≤ R.locals; omega
  rw [hst]
  have hc9 : c9 < 10 := by
    obtain ⟨T, N, hc⟩ := hc
    have := (List.getElem?_eq_some_iff.mp hc).1
    have h9 : vwCl.length = 8 := rfl
    omega
  have hp : PreV s H M.1.cls (E.1 + a) (va_Pc ((vR a :: as9).map (cv E)) (Wd E σ)) (as9.map (cv E)) := ⟨Wd.blind, sv_cell hP hK ha hc hc9, sv_pre hR hMW hK⟩
  refine sw_run (va_runV (nL := nL) (rest := rest.map (cv E)) (Ts := LW) (own := own) ⟨hx, hb, hnl, hown, hts⟩ (hM l htr) (n := n9) ⟨⟨rfl, rfl, hfr, hlo, sv_pay ho.1 hts, List.mem_cons_self, hts _ ho.1, hts _ ho.2.1, ho.2.2.1, sv_pars ho, hts _ hl⟩, hts _ hv.1, hts _ hv.2⟩ hp rfl hlen (hL.1.trans hnl) rfl (sv_room hrest) hd ⟨Nat.le_trans hb1 hRc, Nat.le_trans hb2 hRs⟩) hS (fun o9 σ9 H1 locs1 hp9 hR9 => by
    have h := kk o9 σ9 hp9 H1 locs1 lsA hR9 hL
    rw [List.map_append, show (o9.toList.map (cv E)) = (o9.map (cv E)).toList by cases o9 <;> rfl] at h
    exact h)
theorem s_cN {X : sx_T} {E : sv_E} {D : sd_T} {Q : State → Prop} {u w pc : Nat} {ls : List (Option sv_V)} {σ : sv_G} {M : md_T} {idx n9 k9 a c9 : Nat} {as9 rest : List sv_V} {Post : Option sv_V → sv_G → Prop} (C : sx_ok X E D) (hd : decode D.2.1 pc = .ok (.invokevirtual idx, 3)) (hl : ∃ h, Cond.methodLinkNest D.1 idx M.1 h ∈ NW) (ho : mo M n9) (hv : mov M) (hM : CT E M k9 (vR a :: as9) σ Post) (ha : shp a = (c9, 0)) (hc : ∃ T N, vwCl[c9]? = some (M.1.cls, T, N)) (hn : as9.length = n9) (hk : k9 + 1 ≤ dK D) (hrest : rw8 rest ≤ 8) (hb9 : u + mdM M ≤ dMc D ∧ w + 6 * mdM M ≤ dMs D) (kk : ∀ o9 σ9, Post o9 σ9 → SW X E Q (u + mdM M) (w + 6 * mdM M) (pc + 3) ls (o9.toList ++ rest) σ9) : SW X E Q u w pc ls (as9.reverse ++ vR a :: rest) σ := by
  obtain ⟨p, l, e, R, s, m, args, below, meth, c⟩ := X
  obtain ⟨own, cc, nL, rt, tb, k, mc, ms⟩ := D
  obtain ⟨hx, hb, hnl, hown, hts, hMW, hK, hret, hlocks, htab, htr, hRf, hRl, hRc, hRs⟩ := C
  intro H locs lsA hR hL
  obtain ⟨hP, hD, hS, hG⟩ := hR
  have hR : sv_R E s.heap σ H locs := ⟨hP, hD, hS, hG⟩
  have hlen : (as9.map (cv E)).length = n9 := by rw [List.length_map]; exact hn
  have hst : (as9.reverse ++ vR a :: rest).map (cv E) = (as9.map (cv E)).reverse ++ Value.ref (E.1 + a) :: rest.map (cv E) := by simp [cv]
  have hRf2 : k ≤ R.frames := hRf
  have hRl2 : 40 * k ≤ R.locals := hRl
  have hk2 : k9 + 1 ≤ k := hk
  have h21 : M.2.2.1 ≤ 21 := ho.2.2.2.2.2
  have hb1 : u + mdM M ≤ mc := hb9.1
  have hb2 : w + 6 * mdM M ≤ ms := hb9.2
  have hfr : (rm_of M k9).frames + 1 ≤ R.frames := Nat.le_trans hk2 hRf2
  have hlo : 8 + (M.2.2.1 + 11) + (rm_of M k9).locals ≤ R.locals := by show 8 + (M.2.2.1 + 11) + 40 * k9 ≤ R.locals; omega
  rw [hst]
  have hc9 : c9 < 10 := by
    obtain ⟨T, N, hc⟩ := hc
    have := (List.getElem?_eq_some_iff.mp hc).1
    have h9 : vwCl.length = 8 := rfl
    omega
  have hp : PreV s H M.1.cls (E.1 + a) (va_Pc ((vR a :: as9).map (cv E)) (Wd E σ)) (as9.map (cv E)) := ⟨Wd.blind, sv_cell hP hK ha hc hc9, sv_pre hR hMW hK⟩
  obtain ⟨host, hl⟩ := hl
  refine sw_run (va_runVN (nL := nL) (rest := rest.map (cv E)) (host := host) (Ts := LW) (own := own) ⟨hx, hb, hnl, hown, hts⟩ (hM l htr) (n := n9) ⟨⟨⟨rfl, rfl, hfr, hlo, sv_pay ho.1 hts, List.mem_cons_self⟩, hts _ ho.1, hts _ ho.2.1, ho.2.2.1, sv_pars ho, va_Nw.use rfl (hMW.1 _ hl)⟩, hts _ hv.1, hts _ hv.2⟩ hp rfl hlen (hL.1.trans hnl) rfl (sv_room hrest) hd ⟨Nat.le_trans hb1 hRc, Nat.le_trans hb2 hRs⟩) hS (fun o9 σ9 H1 locs1 hp9 hR9 => by
    have h := kk o9 σ9 hp9 H1 locs1 lsA hR9 hL
    rw [List.map_append, show (o9.toList.map (cv E)) = (o9.map (cv E)).toList by cases o9 <;> rfl] at h
    exact h)
theorem s_cS {X : sx_T} {E : sv_E} {D : sd_T} {Q : State → Prop} {u w pc : Nat} {ls : List (Option sv_V)} {σ : sv_G} {M : md_T} {idx n9 k9 : Nat} {as9 rest : List sv_V} {Post : Option sv_V → sv_G → Prop} (C : sx_ok X E D) (hd : decode D.2.1 pc = .ok (.invokestatic idx, 3)) (hl : Cond.methodLink D.1 idx M.1 ∈ LW) (ho : mo M n9) (hv : mos M) (hM : CT E M k9 (as9) σ Post) (hn : as9.length = n9) (hk : k9 + 1 ≤ dK D) (hrest : rw8 rest ≤ 8) (hb9 : u + mdM M ≤ dMc D ∧ w + 6 * mdM M ≤ dMs D) (kk : ∀ o9 σ9, Post o9 σ9 → SW X E Q (u + mdM M) (w + 6 * mdM M) (pc + 3) ls (o9.toList ++ rest) σ9) : SW X E Q u w pc ls (as9.reverse ++ rest) σ := by
  obtain ⟨p, l, e, R, s, m, args, below, meth, c⟩ := X
  obtain ⟨own, cc, nL, rt, tb, k, mc, ms⟩ := D
  obtain ⟨hx, hb, hnl, hown, hts, hMW, hK, hret, hlocks, htab, htr, hRf, hRl, hRc, hRs⟩ := C
  intro H locs lsA hR hL
  obtain ⟨hP, hD, hS, hG⟩ := hR
  have hR : sv_R E s.heap σ H locs := ⟨hP, hD, hS, hG⟩
  have hlen : (as9.map (cv E)).length = n9 := by rw [List.length_map]; exact hn
  have hst : (as9.reverse ++ rest).map (cv E) = (as9.map (cv E)).reverse ++ rest.map (cv E) := by simp [cv]
  have hRf2 : k ≤ R.frames := hRf
  have hRl2 : 40 * k ≤ R.locals := hRl
  have hk2 : k9 + 1 ≤ k := hk
  have h21 : M.2.2.1 ≤ 21 := ho.2.2.2.2.2
  have hb1 : u + mdM M ≤ mc := hb9.1
  have hb2 : w + 6 * mdM M ≤ ms := hb9.2
  have hfr : (rm_of M k9).frames + 1 ≤ R.frames := Nat.le_trans hk2 hRf2
  have hlo : 8 + (M.2.2.1 + 11) + (rm_of M k9).locals ≤ R.locals := by show 8 + (M.2.2.1 + 11) + 40 * k9 ≤ R.locals; omega
  rw [hst]
  have hp : PreS s H (va_Pc (as9.map (cv E)) (Wd E σ)) (as9.map (cv E)) := ⟨Wd.blind, sv_pre hR hMW hK⟩
  refine sw_run (va_runS (nL := nL) (rest := rest.map (cv E)) (Ts := LW) (own := own) ⟨hx, hb, hnl, hown, hts⟩ (hM l htr) (n := n9) ⟨⟨rfl, rfl, hfr, hlo, sv_pay ho.1 hts, List.mem_cons_self, hts _ ho.1, hts _ ho.2.1, ho.2.2.1, sv_pars ho, hts _ hl⟩, hts _ hv⟩ hp rfl hlen (hL.1.trans hnl) rfl (sv_room hrest) hd ⟨Nat.le_trans hb1 hRc, Nat.le_trans hb2 hRs⟩) hS (fun o9 σ9 H1 locs1 hp9 hR9 => by
    have h := kk o9 σ9 hp9 H1 locs1 lsA hR9 hL
    rw [List.map_append, show (o9.toList.map (cv E)) = (o9.map (cv E)).toList by cases o9 <;> rfl] at h
    exact h)
theorem sx_cV {X : sx_T} {E : sv_E} {D : sd_T} {Q : State → Prop} {u w pc : Nat} {ls : List (Option sv_V)} {σ : sv_G} {M : md_T} {idx n9 k9 a c9 : Nat} {as9 rest : List sv_V} {Post : Option sv_V → sv_G → Prop} {PX PX0 : String → sv_G → Prop} {mc9 : Nat} (C : sx_ok X E D) (hd : decode D.2.1 pc = .ok (.invokevirtual idx, 3)) (hl : Cond.methodLink D.1 idx M.1 ∈ LW) (ho : mo M n9) (hv : mov M) (hM : CX E M k9 (vR a :: as9) σ Post PX) (ha : shp a = (c9, 0)) (hc : ∃ T N, vwCl[c9]? = some (M.1.cls, T, N)) (hn : as9.length = n9) (hk : k9 + 1 ≤ dK D) (hrest : rw8 rest ≤ 8) (hb9 : u + mdM M ≤ dMc D ∧ w + 6 * mdM M ≤ dMs D) (hQ : QT X E Q mc9 PX0) (htb : dTb D = []) (hb8 : u + mdM M ≤ mc9 ∧ w + 6 * mdM M ≤ 6 * mc9) (hpx : ∀ En σ9, PX En σ9 → PX0 En σ9) (kk : ∀ o9 σ9, Post o9 σ9 → SW X E Q (u + mdM M) (w + 6 * mdM M) (pc + 3) ls (o9.toList ++ rest) σ9) : SW X E Q u w pc ls (as9.reverse ++ vR a :: rest) σ := by
  obtain ⟨p, l, e, R, s, m, args, below, meth, c⟩ := X
  obtain ⟨own, cc, nL, rt, tb, k, mc, ms⟩ := D
  obtain ⟨hx, hb, hnl, hown, hts, hMW, hK, hret, hlocks, htab, htr, hRf, hRl, hRc, hRs⟩ := C
  intro H locs lsA hR hL
  obtain ⟨hP, hD, hS, hG⟩ := hR
  have hR : sv_R E s.heap σ H locs := ⟨hP, hD, hS, hG⟩
  have hlen : (as9.map (cv E)).length = n9 := by rw [List.length_map]; exact hn
  have hst : (as9.reverse ++ vR a :: rest).map (cv E) = (as9.map (cv E)).reverse ++ Value.ref (E.1 + a) :: rest.map (cv E) := by simp [cv]
  have hRf2 : k ≤ R.frames := hRf
  have hRl2 : 40 * k ≤ R.locals := hRl
  have hk2 : k9 + 1 ≤ k := hk
  have h21 : M.2.2.1 ≤ 21 := ho.2.2.2.2.2
  have hb1 : u + mdM M ≤ mc := hb9.1
  have hb2 : w + 6 * mdM M ≤ ms := hb9.2
  have hfr : (rm_of M k9).frames + 1 ≤ R.frames := Nat.le_trans hk2 hRf2
  have hlo : 8 + (M.2.2.1 + 11) + (rm_of M k9).locals ≤ R.locals := by show 8 + (M.2.2.1 + 11) + 40 * k9 ≤ R.locals; omega
  rw [hst]
  have hc9 : c9 < 10 := by
    obtain ⟨T, N, hc⟩ := hc
    have := (List.getElem?_eq_some_iff.mp hc).1
    have h9 : vwCl.length = 8 := rfl
    omega
  have hp : PreV s H M.1.cls (E.1 + a) (va_Pc ((vR a :: as9).map (cv E)) (Wd E σ)) (as9.map (cv E)) := ⟨Wd.blind, sv_cell hP hK ha hc hc9, sv_pre hR hMW hK⟩
  obtain ⟨Qc9, rfl⟩ := hQ
  refine sx_run (vx_runV (nL := nL) (rest := rest.map (cv E)) (Ts := LW) (own := own) ⟨hx, hb, hnl, hown, hts⟩ (hM l htr) (n := n9) ⟨⟨rfl, rfl, hfr, hlo, sv_pay ho.1 hts, List.mem_cons_self, hts _ ho.1, hts _ ho.2.1, ho.2.2.1, sv_pars ho, hts _ hl⟩, hts _ hv.1, hts _ hv.2⟩ hp rfl hlen (hL.1.trans hnl) rfl (sv_room hrest) hd ⟨Nat.le_trans hb1 hRc, Nat.le_trans hb2 hRs⟩) hS (fun En ce q9 σ9 H1 locs1 hp9 hR9 h1 h2 h3 => ?_) (fun o9 σ9 H1 locs1 hp9 hR9 => by
    have h := kk o9 σ9 hp9 H1 locs1 lsA hR9 hL
    rw [List.map_append, show (o9.toList.map (cv E)) = (o9.map (cv E)).toList by cases o9 <;> rfl] at h
    exact h)
  obtain ⟨gP, gD, gS, gG⟩ := hR9
  have htb2 : c.exceptionTable.toList = [] := htab.trans htb
  exact vx_out (by rw [htb2]; exact fun x hx => nomatch hx) hlocks h1 h2 h3 (fun t ht hA => ⟨σ9, hpx _ _ hp9, by rw [ht]; exact ⟨gP, gD, gG⟩, gS.F ht⟩) gS.2.2 hb8.1 hb8.2
theorem sx_cS {X : sx_T} {E : sv_E} {D : sd_T} {Q : State → Prop} {u w pc : Nat} {ls : List (Option sv_V)} {σ : sv_G} {M : md_T} {idx n9 k9 : Nat} {as9 rest : List sv_V} {Post : Option sv_V → sv_G → Prop} {PX PX0 : String → sv_G → Prop} {mc9 : Nat} (C : sx_ok X E D) (hd : decode D.2.1 pc = .ok (.invokestatic idx, 3)) (hl : Cond.methodLink D.1 idx M.1 ∈ LW) (ho : mo M n9) (hv : mos M) (hM : CX E M k9 (as9) σ Post PX) (hn : as9.length = n9) (hk : k9 + 1 ≤ dK D) (hrest : rw8 rest ≤ 8) (hb9 : u + mdM M ≤ dMc D ∧ w + 6 * mdM M ≤ dMs D) (hQ : QT X E Q mc9 PX0) (htb : dTb D = []) (hb8 : u + mdM M ≤ mc9 ∧ w + 6 * mdM M ≤ 6 * mc9) (hpx : ∀ En σ9, PX En σ9 → PX0 En σ9) (kk : ∀ o9 σ9, Post o9 σ9 → SW X E Q (u + mdM M) (w + 6 * mdM M) (pc + 3) ls (o9.toList ++ rest) σ9) : SW X E Q u w pc ls (as9.reverse ++ rest) σ := by
  obtain ⟨p, l, e, R, s, m, args, below, meth, c⟩ := X
  obtain ⟨own, cc, nL, rt, tb, k, mc, ms⟩ := D
  obtain ⟨hx, hb, hnl, hown, hts, hMW, hK, hret, hlocks, htab, htr, hRf, hRl, hRc, hRs⟩ := C
  intro H locs lsA hR hL
  obtain ⟨hP, hD, hS, hG⟩ := hR
  have hR : sv_R E s.heap σ H locs := ⟨hP, hD, hS, hG⟩
  have hlen : (as9.map (cv E)).length = n9 := by rw [List.length_map]; exact hn
  have hst : (as9.reverse ++ rest).map (cv E) = (as9.map (cv E)).reverse ++ rest.map (cv E) := by simp [cv]
  have hRf2 : k ≤ R.frames := hRf
  have hRl2 : 40 * k ≤ R.locals := hRl
  have hk2 : k9 + 1 ≤ k := hk
  have h21 : M.2.2.1 ≤ 21 := ho.2.2.2.2.2
  have hb1 : u + mdM M ≤ mc := hb9.1
  have hb2 : w + 6 * mdM M ≤ ms := hb9.2
  have hfr : (rm_of M k9).frames + 1 ≤ R.frames := Nat.le_trans hk2 hRf2
  have hlo : 8 + (M.2.2.1 + 11) + (rm_of M k9).locals ≤ R.locals := by show 8 + (M.2.2.1 + 11) + 40 * k9 ≤ R.locals; omega
  rw [hst]
  have hp : PreS s H (va_Pc (as9.map (cv E)) (Wd E σ)) (as9.map (cv E)) := ⟨Wd.blind, sv_pre hR hMW hK⟩
  obtain ⟨Qc9, rfl⟩ := hQ
  refine sx_run (vx_runS (nL := nL) (rest := rest.map (cv E)) (Ts := LW) (own := own) ⟨hx, hb, hnl, hown, hts⟩ (hM l htr) (n := n9) ⟨⟨rfl, rfl, hfr, hlo, sv_pay ho.1 hts, List.mem_cons_self, hts _ ho.1, hts _ ho.2.1, ho.2.2.1, sv_pars ho, hts _ hl⟩, hts _ hv⟩ hp rfl hlen (hL.1.trans hnl) rfl (sv_room hrest) hd ⟨Nat.le_trans hb1 hRc, Nat.le_trans hb2 hRs⟩) hS (fun En ce q9 σ9 H1 locs1 hp9 hR9 h1 h2 h3 => ?_) (fun o9 σ9 H1 locs1 hp9 hR9 => by
    have h := kk o9 σ9 hp9 H1 locs1 lsA hR9 hL
    rw [List.map_append, show (o9.toList.map (cv E)) = (o9.map (cv E)).toList by cases o9 <;> rfl] at h
    exact h)
  obtain ⟨gP, gD, gS, gG⟩ := hR9
  have htb2 : c.exceptionTable.toList = [] := htab.trans htb
  exact vx_out (by rw [htb2]; exact fun x hx => nomatch hx) hlocks h1 h2 h3 (fun t ht hA => ⟨σ9, hpx _ _ hp9, by rw [ht]; exact ⟨gP, gD, gG⟩, gS.F ht⟩) gS.2.2 hb8.1 hb8.2
