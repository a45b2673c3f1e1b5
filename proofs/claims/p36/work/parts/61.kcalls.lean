/-! Constructors: contracts, calls, ends; their words. -/
def kWdH (E : sv_E) (K : kw_T) (H : Heap) : Prop := va_P E.2.2.2 vwCl (kw_ws E K) H ∧ va_D (fun q => E.1 ≤ q) (kw_ws E K) ∧ H.size = E.1 + K.1
def kWd (E : sv_E) (K : kw_T) (U : State) : Prop := kWdH E K U.heap ∧ va_K E.2.2.2 vwCl (sv_tys E) U ∧ MW E U
def QcK (E : sv_E) (Post : kw_T → Prop) : Array Value → State → Outcome → State → Prop := fun _ st oc t => (∃ K', oc = .returned none ∧ Post K' ∧ kWdH E K' t.heap) ∧ va_F (fun q => E.1 ≤ q) st t
def rmK (k mc ms : Nat) : Room := { frames := k, cells := mc, slots := ms, locals := 40 * k }
def KC (E : sv_E) (M : md_T) (k mc ms : Nat) (av : List sv_V) (K : kw_T) (Post : kw_T → Prop) : Prop := ∀ l : Launch, l.stackTraces = false →
  Met l M.1 (mcd M :: LW) (rmK k mc ms) (va_Pc (av.map (cv E)) (kWd E K)) (QcK E Post) mc ms (fun q => E.1 ≤ q)
def QRk (X : sx_T) (E : sv_E) (Q : State → Prop) (mc ms : Nat) (Post : kw_T → Prop) : Prop := match X with
  | (p, l, e, R, s, m, args, below, meth, c) => ∀ (H : Heap) (locs : List Loc) (g : JFrame), W p l e R s m args below meth c H locs mc ms (MQ below (QcK E Post) args s mc ms (fun q => E.1 ≤ q)) g → W p l e R s m args below meth c H locs mc ms Q g
theorem kWd.calling {E : sv_E} {K : kw_T} {U : State} (g : JFrame) (mk : MethodId) (a : Array Value) (h : kWd E K U) : kWd E K (U.calling g mk a) :=
  ⟨h.1, va_K.moved (u := U) (U := U.calling g mk a) (Vm.Alike.refl U.vm) h.2.1, MW.mv (u := U) (U := U.calling g mk a) (sv_refl U) (fun _ _ _ => rfl) h.2.2⟩
theorem kWd.blind {E : sv_E} {K : kw_T} {av : List Value} : FrameBlind (va_Pc av (kWd E K)) := fun _ _ g mk h => ⟨h.1, h.2.calling g mk _⟩
def moK (M : md_T) : Prop := mcd M ∈ LW ∧ Cond.initialized M.1.cls ∈ LW ∧ (M.1.cls ≠ "java/lang/invoke/MethodHandle" ∧ M.1.cls ≠ "java/lang/invoke/VarHandle") ∧ (parseMethodDescriptor M.1.desc).map (fun d => d.parameters.length) = some 0 ∧ plainName M.1.cls = true ∧ M.2.2.1 ≤ 21 ∧ M.1.name = "<init>" ∧ Cond.instanceMethod M.1 ∈ LW ∧ M.2.2.2.1 = none
theorem moK_of {M : md_T} (i j k : Nat) (h1 : lw_tbl[i]? = some (mcd M)) (h2 : lw_tbl[j]? = some (Cond.initialized M.1.cls)) (h3 : lw_tbl[k]? = some (Cond.instanceMethod M.1)) (h4 : (M.1.cls ≠ "java/lang/invoke/MethodHandle" ∧ M.1.cls ≠ "java/lang/invoke/VarHandle") ∧ (parseMethodDescriptor M.1.desc).map (fun d => d.parameters.length) = some 0 ∧ plainName M.1.cls = true) (h5 : M.2.2.1 ≤ 21) (h6 : M.1.name = "<init>") (h7 : M.2.2.2.1 = none) : moK M := ⟨LW_in i h1 rfl, LW_in j h2 rfl, h4.1, h4.2.1, h4.2.2, h5, h6, LW_in k h3 rfl, h7⟩
theorem moK_pars {M : md_T} (ho : moK M) : ∀ sig, parseMethodDescriptor M.1.desc = some sig → 0 = sig.parameters.length := fun sig h => by
  have h2 := ho.2.2.2.1
  rw [h] at h2
  exact (Option.some.inj h2).symm
theorem KC.of {E : sv_E} {M : md_T} {k mc ms : Nat} {av : List sv_V} {K : kw_T} {Post : kw_T → Prop} (D : sd_T) (hD : (M.1.cls, M.2.1, M.2.2.1, M.2.2.2.1, ([] : List ExceptionTableEntry), k, mc, ms) = D) (ho : moK M) (hl : (sv_in av).length ≤ M.2.2.1) {ls0 : List (Option sv_V)} (hls : sv_ini av M.2.2.1 = ls0)
    (body : ∀ (X : sx_T) (Q : State → Prop), sx_ok X E D → kIn X → QRk X E Q mc ms Post → KW X E Q 0 0 0 ls0 [] K) : KC E M k mc ms av K Post := by
  intro l hlt
  subst hD
  subst hls
  refine Met.ofW (cc := M.2.1) (maxL := M.2.2.1) (ret := M.2.2.2.1) ho.2.2.2.2.1 rfl ?_
  intro p e s m args below meth c s₁ B hml hv
  obtain ⟨rfl, ⟨hP, hD, hsz⟩, hK, hMW⟩ := hv
  have hts := atoms_spec (ws := mcd M :: LW) B.pre
  have hown : s.vm.findClass M.1.cls = some m.cls := findClass_of_methodNamed B.named
  have hnm : meth.name = M.1.name := (name_of_methodNamed B.named B.method).1
  have htab : c.exceptionTable.toList = [] := by
    obtain ⟨meth9, c9, h1, h2, -, -, -, -, h7, -⟩ := Cond.code_spec B.named (hts _ List.mem_cons_self)
    cases Option.some.inj (h1.symm.trans B.method)
    cases Option.some.inj (h2.symm.trans (Stand.of_body B).code)
    rw [Array.isEmpty_iff.mp h7]
  have hb := body (p, l, e, (headSpec (mcd M :: LW) (rmK k mc ms)).room, s, m, (av.map (cv E)).toArray, below, meth, c) _ ⟨B.exec, B.bytes, hml, hown, fun w h => hts w (List.mem_cons_of_mem _ h), hMW, hK, B.returns, B.notSynchronized, htab, hlt, Nat.le_refl _, Nat.le_refl _, Nat.le_refl _, Nat.le_refl _⟩ (hnm.trans ho.2.2.2.2.2.2.1) (fun H locs g h => h)
  rw [lg_entry_eq]
  exact hb s.heap [] _ ⟨hP, hD, va_S.rf, hsz, by rw [hsz]; exact Nat.le_add_right _ _⟩ (by rw [hml]; exact sv_entry hl)
theorem k_vret {X : sx_T} {E : sv_E} {D : sd_T} {Q : State → Prop} {u w pc : Nat} {ls : List (Option sv_V)} {K : kw_T} {mc9 ms9 : Nat} {Post : kw_T → Prop} (C : sx_ok X E D) (hQ : QRk X E Q mc9 ms9 Post) (hd : decode D.2.1 pc = .ok (.return_, 1)) (hr : dRt D = none) (hp : Post K) (hu : u ≤ mc9 ∧ w ≤ ms9) : KW X E Q u w pc ls [] K := by
  obtain ⟨p, l, e, R, s, m, args, below, meth, c⟩ := X
  obtain ⟨own, cc, nL, rt, tb, k, mc, ms⟩ := D
  obtain ⟨hx, hb, hnl, hown, hts, hMW, hK, hret, hlocks, htab, htr, hRf, hRl, hRc, hRs⟩ := C
  intro H locs lsA hR hL
  obtain ⟨hP, hD, hS, hsz, h0⟩ := hR
  refine W.widen hu.1 hu.2 (hQ H locs _ ?_)
  exact W.vret hx hb (hret.trans hr) (fun t ht hW => ⟨⟨K, rfl, hp, by rw [ht]; exact ⟨hP, hD, hsz⟩⟩, hS.F ht⟩) hS.2.2 hd hlocks
theorem kw_pre {E : sv_E} {s : State} {K : kw_T} {H : Heap} {locs : List Loc} {av : List sv_V} (hR : kR E s.heap K H locs) (hMW : MW E s) (hK : va_K E.2.2.2 vwCl (sv_tys E) s) : ∀ U : State, U.heap = H → s.WarmedH U.vm → va_Pc (av.map (cv E)) (kWd E K) ((av.map (cv E)).toArray) U := by
  intro U hU hW
  obtain ⟨hP, hD, hS, hsz, h0⟩ := hR
  exact ⟨rfl, ⟨by rw [hU]; exact hP, hD, by rw [hU]; exact hsz⟩, va_K.moved hW.alike hK, MW.mv hW (fun q h1 h2 => by rw [hU]; exact hS.2.1 q h1 h2) hMW⟩
theorem kw_run {p : Program} {l : Launch} {e : Env} {R : Room} {s : State} {m : MethodId} {args : Array Value} {below : List Frame} {meth : Method} {c : Code} {H : Heap} {locs : List Loc} {u w : Nat} {Q : State → Prop} {E : sv_E} {Post : kw_T → Prop} {a : Array Value} {mc ms pc : Nat} {lsA : Array Slot} {st0 rest : List Value} (hr : va_Run p l e R s m args below meth c H locs u w mc ms (F0 m pc lsA st0) rest (QcK E Post a) (fun q => E.1 ≤ q)) (hS : va_S (fun q => E.1 ≤ q) s.heap H locs) (hE : E.1 ≤ s.heap.size)
    (kk : ∀ (K' : kw_T) (H1 : Heap) (locs1 : List Loc), Post K' → kR E s.heap K' H1 locs1 → W p l e R s m args below meth c H1 locs1 (u + mc) (w + ms) Q (F0 m (pc + 3) lsA rest)) : W p l e R s m args below meth c H locs u w Q (F0 m pc lsA st0) := by
  intro T hT X
  obtain ⟨v, st₀, t, T', L, h0, X', hL, e1, e2, ⟨⟨K', hv, hp, hP, hD, hsz⟩, hF⟩, st⟩ := hr T hT X
  cases hv
  obtain ⟨-, -, k3⟩ := vx_keep h0 e1 hS (fun _ _ h => h) (fun _ h => h) hL hF
  obtain ⟨t2, a1, b1⟩ := kk K' T'.heap (locs ++ L) hp ⟨by rw [e1]; exact hP, hD, k3, by rw [e1]; exact hsz, hE⟩ T' rfl X'
  exact ⟨t2, st t2 a1, b1⟩
theorem k_cI {X : sx_T} {E : sv_E} {D : sd_T} {Q : State → Prop} {u w pc : Nat} {ls : List (Option sv_V)} {K : kw_T} {M : md_T} {idx k9 mc9 ms9 a : Nat} {rest : List sv_V} {Post : kw_T → Prop} (C : sx_ok X E D) (hd : decode D.2.1 pc = .ok (.invokespecial idx, 3)) (hl : Cond.methodLink D.1 idx M.1 ∈ LW) (ho : moK M) (hM : KC E M k9 mc9 ms9 [vR a] K Post) (hk : k9 + 1 ≤ dK D) (hrest : rw8 rest ≤ 8) (hb9 : u + mc9 ≤ dMc D ∧ w + ms9 ≤ dMs D) (kk : ∀ K', Post K' → KW X E Q (u + mc9) (w + ms9) (pc + 3) ls rest K') : KW X E Q u w pc ls (vR a :: rest) K := by
  obtain ⟨p, l, e, R, s, m, args, below, meth, c⟩ := X
  obtain ⟨own, cc, nL, rt, tb, k, mc, ms⟩ := D
  obtain ⟨hx, hb, hnl2, hown, hts, hMW, hK, hret, hlocks, htab, htr, hRf, hRl, hRc, hRs⟩ := C
  intro H locs lsA hR hL
  obtain ⟨hP, hD, hS, hsz, h0⟩ := hR
  have hR : kR E s.heap K H locs := ⟨hP, hD, hS, hsz, h0⟩
  have hRf2 : k ≤ R.frames := hRf
  have hRl2 : 40 * k ≤ R.locals := hRl
  have hk2 : k9 + 1 ≤ k := hk
  have h21 : M.2.2.1 ≤ 21 := ho.2.2.2.2.2.1
  have hb1 : u + mc9 ≤ mc := hb9.1
  have hb2 : w + ms9 ≤ ms := hb9.2
  have hfr : (rmK k9 mc9 ms9).frames + 1 ≤ R.frames := Nat.le_trans hk2 hRf2
  have hlo : 8 + (M.2.2.1 + 11) + (rmK k9 mc9 ms9).locals ≤ R.locals := by show 8 + (M.2.2.1 + 11) + 40 * k9 ≤ R.locals; omega
  have hst : (vR a :: rest).map (cv E) = ([] : List Value).reverse ++ Value.ref (E.1 + a) :: rest.map (cv E) := by simp [cv]
  have hp : PreS s H (va_Pc ([vR a].map (cv E)) (kWd E K)) (Value.ref (E.1 + a) :: []) := ⟨kWd.blind, kw_pre (av := [vR a]) hR hMW hK⟩
  rw [hst]
  exact kw_run (va_runI (nL := nL) (rest := rest.map (cv E)) (Ts := LW) (own := own) ⟨hx, hb, hnl2, hown, hts⟩ (hM l htr) (n := 0) ⟨⟨rfl, rfl, hfr, hlo, sv_pay ho.1 hts, by rw [← ho.2.2.2.2.2.2.2.2]; exact List.mem_cons_self, by rw [← ho.2.2.2.2.2.2.2.2]; exact hts _ ho.1, hts _ ho.2.1, ho.2.2.1, moK_pars ho, hts _ hl⟩, ho.2.2.2.2.2.2.1, hts _ ho.2.2.2.2.2.2.2.1⟩ hp rfl rfl (hL.1.trans hnl2) rfl (sv_room hrest) hd ⟨Nat.le_trans hb1 hRc, Nat.le_trans hb2 hRs⟩) hS h0 (fun K' H1 locs1 hp9 hR9 => kk K' hp9 H1 locs1 lsA hR9 hL)
theorem k_cIN {X : sx_T} {E : sv_E} {D : sd_T} {Q : State → Prop} {u w pc : Nat} {ls : List (Option sv_V)} {K : kw_T} {M : md_T} {idx k9 mc9 ms9 a : Nat} {rest : List sv_V} {Post : kw_T → Prop} (C : sx_ok X E D) (hd : decode D.2.1 pc = .ok (.invokespecial idx, 3)) (hl : ∃ h, Cond.methodLinkNest D.1 idx M.1 h ∈ NW) (ho : moK M) (hM : KC E M k9 mc9 ms9 [vR a] K Post) (hk : k9 + 1 ≤ dK D) (hrest : rw8 rest ≤ 8) (hb9 : u + mc9 ≤ dMc D ∧ w + ms9 ≤ dMs D) (kk : ∀ K', Post K' → KW X E Q (u + mc9) (w + ms9) (pc + 3) ls rest K') : KW X E Q u w pc ls (vR a :: rest) K := by
  obtain ⟨p, l, e, R, s, m, args, below, meth, c⟩ := X
  obtain ⟨own, cc, nL, rt, tb, k, mc, ms⟩ := D
  obtain ⟨hx, hb, hnl2, hown, hts, hMW, hK, hret, hlocks, htab, htr, hRf, hRl, hRc, hRs⟩ := C
  intro H locs lsA hR hL
  obtain ⟨hP, hD, hS, hsz, h0⟩ := hR
  have hR : kR E s.heap K H locs := ⟨hP, hD, hS, hsz, h0⟩
  have hRf2 : k ≤ R.frames := hRf
  have hRl2 : 40 * k ≤ R.locals := hRl
  have hk2 : k9 + 1 ≤ k := hk
  have h21 : M.2.2.1 ≤ 21 := ho.2.2.2.2.2.1
  have hb1 : u + mc9 ≤ mc := hb9.1
  have hb2 : w + ms9 ≤ ms := hb9.2
  have hfr : (rmK k9 mc9 ms9).frames + 1 ≤ R.frames := Nat.le_trans hk2 hRf2
  have hlo : 8 + (M.2.2.1 + 11) + (rmK k9 mc9 ms9).locals ≤ R.locals := by show 8 + (M.2.2.1 + 11) + 40 * k9 ≤ R.locals; omega
  have hst : (vR a :: rest).map (cv E) = ([] : List Value).reverse ++ Value.ref (E.1 + a) :: rest.map (cv E) := by simp [cv]
  have hp : PreS s H (va_Pc ([vR a].map (cv E)) (kWd E K)) (Value.ref (E.1 + a) :: []) := ⟨kWd.blind, kw_pre (av := [vR a]) hR hMW hK⟩
  rw [hst]
  obtain ⟨host, hl⟩ := hl
  exact kw_run (va_runIN (nL := nL) (rest := rest.map (cv E)) (host := host) (Ts := LW) (own := own) ⟨hx, hb, hnl2, hown, hts⟩ (hM l htr) (n := 0) ⟨⟨⟨rfl, rfl, hfr, hlo, sv_pay ho.1 hts, by rw [← ho.2.2.2.2.2.2.2.2]; exact List.mem_cons_self⟩, by rw [← ho.2.2.2.2.2.2.2.2]; exact hts _ ho.1, hts _ ho.2.1, ho.2.2.1, moK_pars ho, va_Nw.use rfl (hMW.1 _ hl)⟩, ho.2.2.2.2.2.2.1, hts _ ho.2.2.2.2.2.2.2.1⟩ hp rfl rfl (hL.1.trans hnl2) rfl (sv_room hrest) hd ⟨Nat.le_trans hb1 hRc, Nat.le_trans hb2 hRs⟩) hS h0 (fun K' H1 locs1 hp9 hR9 => kk K' hp9 H1 locs1 lsA hR9 hL)
theorem oi_1 : Cond.instanceMethod Lib.objectInit ∈ LW := LW_in 78 (by decide +kernel) rfl
theorem oi_2 : Cond.code Lib.objectInit ⟨#[0xb1]⟩ 1 none ∈ LW := LW_in 79 (by decide +kernel) rfl
theorem k_obj {X : sx_T} {E : sv_E} {D : sd_T} {Q : State → Prop} {u w pc : Nat} {ls : List (Option sv_V)} {K : kw_T} {idx a : Nat} {rest : List sv_V} (C : sx_ok X E D) (hd : decode D.2.1 pc = .ok (.invokespecial idx, 3)) (hl : Cond.methodLink D.1 idx Lib.objectInit ∈ LW) (hk : 1 ≤ dK D) (hrest : rw8 rest ≤ 8) (kk : KW X E Q u w (pc + 3) ls rest K) : KW X E Q u w pc ls (vR a :: rest) K := by
  obtain ⟨p, l, e, R, s, m, args, below, meth, c⟩ := X
  obtain ⟨own, cc, nL, rt, tb, k, mc, ms⟩ := D
  obtain ⟨hx, hb, hnl2, hown, hts, hMW, hK, hret, hlocks, htab, htr, hRf, hRl, hRc, hRs⟩ := C
  intro H locs lsA hR hL
  obtain ⟨hP, hD, hS, hsz, h0⟩ := hR
  have hRf2 : k ≤ R.frames := hRf
  have hRl2 : 40 * k ≤ R.locals := hRl
  have hk2 : 1 ≤ k := hk
  have hsr := sv_room (E := E) (m := m) (pc := pc) (lsA := lsA) (st := (vR a :: rest).map (cv E)) (rest := rest) hrest
  exact W.objInit hx hb hown (hts _ hl) (hts _ oi_1) (hts _ oi_2) rfl hL.1 rfl hd (by omega) (by omega) (kk H locs lsA ⟨hP, hD, hS, hsz, h0⟩ hL)
theorem ac_I : Cond.arrayClass (newarray.typeOf .int) ∈ LW := LW_in 96 (by decide +kernel) rfl
abbrev MX0_init : md_T := (yX0_init, cX0_init, 1, none, 0)
theorem moX0_init : moK MX0_init := moK_of 142 58 141 (by decide +kernel) (by decide +kernel) (by decide +kernel) (by decide +kernel) (by decide) rfl rfl
abbrev MX1_init : md_T := (yX1_init, cX1_init, 1, none, 0)
theorem moX1_init : moK MX1_init := moK_of 181 60 180 (by decide +kernel) (by decide +kernel) (by decide +kernel) (by decide +kernel) (by decide) rfl rfl
abbrev MX2_init : md_T := (yX2_init, cX2_init, 2, none, 0)
theorem moX2_init : moK MX2_init := moK_of 118 56 117 (by decide +kernel) (by decide +kernel) (by decide +kernel) (by decide +kernel) (by decide) rfl rfl
abbrev MX3_init : md_T := (yX3_init, cX3_init, 1, none, 0)
theorem moX3_init : moK MX3_init := moK_of 162 59 161 (by decide +kernel) (by decide +kernel) (by decide +kernel) (by decide +kernel) (by decide) rfl rfl
abbrev MX4_init : md_T := (yX4_init, cX4_init, 2, none, 0)
theorem moX4_init : moK MX4_init := moK_of 136 57 135 (by decide +kernel) (by decide +kernel) (by decide +kernel) (by decide +kernel) (by decide) rfl rfl
abbrev MX5_init : md_T := (yX5_init, cX5_init, 1, none, 0)
theorem moX5_init : moK MX5_init := moK_of 101 55 100 (by decide +kernel) (by decide +kernel) (by decide +kernel) (by decide +kernel) (by decide) rfl rfl
abbrev MX6_init : md_T := (yX6_init, cX6_init, 1, none, 0)
theorem moX6_init : moK MX6_init := moK_of 86 54 85 (by decide +kernel) (by decide +kernel) (by decide +kernel) (by decide +kernel) (by decide) rfl rfl
abbrev MX7_init : md_T := (yX7_init, cX7_init, 2, none, 0)
theorem moX7_init : moK MX7_init := moK_of 76 53 75 (by decide +kernel) (by decide +kernel) (by decide +kernel) (by decide +kernel) (by decide) rfl rfl
theorem kc_L_11 : Cond.classLink RL 11 RX7 ∈ LW := LW_in 72 (by decide +kernel) rfl
theorem ki_L_142 : Cond.methodLink RL 142 yX7_init ∈ LW := LW_in 74 (by decide +kernel) rfl
theorem ko_7 : Cond.methodLink RX7 1 Lib.objectInit ∈ LW := LW_in 77 (by decide +kernel) rfl
theorem kc_X7_9 : Cond.classLink RX7 9 RX4 ∈ LW := LW_in 80 (by decide +kernel) rfl
theorem kc_X7_15 : Cond.classLink RX7 15 RX6 ∈ LW := LW_in 82 (by decide +kernel) rfl
theorem ki_X7_17 : ∃ h, Cond.methodLinkNest RX7 17 yX6_init h ∈ NW := ⟨"NumeralBabel", NW_in 84 (by decide +kernel) rfl⟩
theorem ko_6 : Cond.methodLink RX6 3 Lib.objectInit ∈ LW := LW_in 87 (by decide +kernel) rfl
theorem kf_6_9 : Cond.fieldLink RX6 9 (TX6 0).1 (TX6 0).2.1 (TX6 0).2.2.1 ∈ LW := LW_in 88 (by decide +kernel) rfl
theorem kf_6_15 : Cond.fieldLink RX6 15 (TX6 1).1 (TX6 1).2.1 (TX6 1).2.2.1 ∈ LW := LW_in 89 (by decide +kernel) rfl
theorem kc_X7_38 : Cond.classLink RX7 38 RX5 ∈ LW := LW_in 97 (by decide +kernel) rfl
theorem ki_X7_40 : ∃ h, Cond.methodLinkNest RX7 40 yX5_init h ∈ NW := ⟨"NumeralBabel", NW_in 99 (by decide +kernel) rfl⟩
theorem ko_5 : Cond.methodLink RX5 3 Lib.objectInit ∈ LW := LW_in 102 (by decide +kernel) rfl
theorem kf_5_9 : Cond.fieldLink RX5 9 (TX5 0).1 (TX5 0).2.1 (TX5 0).2.2.1 ∈ LW := LW_in 103 (by decide +kernel) rfl
theorem kf_5_15 : Cond.fieldLink RX5 15 (TX5 1).1 (TX5 1).2.1 (TX5 1).2.2.1 ∈ LW := LW_in 104 (by decide +kernel) rfl
theorem kf_5_18 : Cond.fieldLink RX5 18 (TX5 2).1 (TX5 2).2.1 (TX5 2).2.2.1 ∈ LW := LW_in 105 (by decide +kernel) rfl
theorem kc_X7_62 : Cond.classLink RX7 62 RX2 ∈ LW := LW_in 114 (by decide +kernel) rfl
theorem ki_X7_64 : ∃ h, Cond.methodLinkNest RX7 64 yX2_init h ∈ NW := ⟨"NumeralBabel", NW_in 116 (by decide +kernel) rfl⟩
theorem ko_2 : Cond.methodLink RX2 3 Lib.objectInit ∈ LW := LW_in 119 (by decide +kernel) rfl
theorem kf_2_9 : Cond.fieldLink RX2 9 (TX2 0).1 (TX2 0).2.1 (TX2 0).2.2.1 ∈ LW := LW_in 120 (by decide +kernel) rfl
theorem kf_2_15 : Cond.fieldLink RX2 15 (TX2 1).1 (TX2 1).2.1 (TX2 1).2.2.1 ∈ LW := LW_in 122 (by decide +kernel) rfl
theorem kf_2_18 : Cond.fieldLink RX2 18 (TX2 2).1 (TX2 2).2.1 (TX2 2).2.2.1 ∈ LW := LW_in 124 (by decide +kernel) rfl
theorem ki_X7_69 : ∃ h, Cond.methodLinkNest RX7 69 yX4_init h ∈ NW := ⟨"NumeralBabel", NW_in 134 (by decide +kernel) rfl⟩
theorem ko_4 : Cond.methodLink RX4 3 Lib.objectInit ∈ LW := LW_in 137 (by decide +kernel) rfl
theorem kc_X4_9 : Cond.classLink RX4 9 RX0 ∈ LW := LW_in 138 (by decide +kernel) rfl
theorem ki_X4_11 : ∃ h, Cond.methodLinkNest RX4 11 yX0_init h ∈ NW := ⟨"NumeralBabel", NW_in 140 (by decide +kernel) rfl⟩
theorem ko_0 : Cond.methodLink RX0 3 Lib.objectInit ∈ LW := LW_in 143 (by decide +kernel) rfl
theorem kf_0_9 : Cond.fieldLink RX0 9 (TX0 0).1 (TX0 0).2.1 (TX0 0).2.2.1 ∈ LW := LW_in 144 (by decide +kernel) rfl
theorem kf_0_15 : Cond.fieldLink RX0 15 (TX0 1).1 (TX0 1).2.1 (TX0 1).2.2.1 ∈ LW := LW_in 145 (by decide +kernel) rfl
theorem kf_0_18 : Cond.fieldLink RX0 18 (TX0 2).1 (TX0 2).2.1 (TX0 2).2.2.1 ∈ LW := LW_in 146 (by decide +kernel) rfl
theorem kc_X4_18 : Cond.classLink RX4 18 RX1 ∈ LW := LW_in 156 (by decide +kernel) rfl
theorem kc_X4_28 : Cond.classLink RX4 28 RX3 ∈ LW := LW_in 158 (by decide +kernel) rfl
theorem ki_X4_30 : ∃ h, Cond.methodLinkNest RX4 30 yX3_init h ∈ NW := ⟨"NumeralBabel", NW_in 160 (by decide +kernel) rfl⟩
theorem ko_3 : Cond.methodLink RX3 3 Lib.objectInit ∈ LW := LW_in 163 (by decide +kernel) rfl
theorem kf_3_9 : Cond.fieldLink RX3 9 (TX3 0).1 (TX3 0).2.1 (TX3 0).2.2.1 ∈ LW := LW_in 164 (by decide +kernel) rfl
theorem kf_3_15 : Cond.fieldLink RX3 15 (TX3 1).1 (TX3 1).2.1 (TX3 1).2.2.1 ∈ LW := LW_in 165 (by decide +kernel) rfl
theorem kf_3_18 : Cond.fieldLink RX3 18 (TX3 2).1 (TX3 2).2.1 (TX3 2).2.2.1 ∈ LW := LW_in 166 (by decide +kernel) rfl
theorem kf_3_21 : Cond.fieldLink RX3 21 (TX3 3).1 (TX3 3).2.1 (TX3 3).2.2.1 ∈ LW := LW_in 167 (by decide +kernel) rfl
theorem ki_X4_51 : ∃ h, Cond.methodLinkNest RX4 51 yX1_init h ∈ NW := ⟨"NumeralBabel", NW_in 179 (by decide +kernel) rfl⟩
theorem ko_1 : Cond.methodLink RX1 3 Lib.objectInit ∈ LW := LW_in 182 (by decide +kernel) rfl
theorem kf_1_9 : Cond.fieldLink RX1 9 (TX1 0).1 (TX1 0).2.1 (TX1 0).2.2.1 ∈ LW := LW_in 183 (by decide +kernel) rfl
theorem kf_1_15 : Cond.fieldLink RX1 15 (TX1 1).1 (TX1 1).2.1 (TX1 1).2.2.1 ∈ LW := LW_in 186 (by decide +kernel) rfl
theorem kf_1_18 : Cond.fieldLink RX1 18 (TX1 2).1 (TX1 2).2.1 (TX1 2).2.2.1 ∈ LW := LW_in 189 (by decide +kernel) rfl
theorem kf_1_21 : Cond.fieldLink RX1 21 (TX1 3).1 (TX1 3).2.1 (TX1 3).2.2.1 ∈ LW := LW_in 192 (by decide +kernel) rfl
theorem kf_1_24 : Cond.fieldLink RX1 24 (TX1 4).1 (TX1 4).2.1 (TX1 4).2.2.1 ∈ LW := LW_in 194 (by decide +kernel) rfl
theorem kf_1_27 : Cond.fieldLink RX1 27 (TX1 5).1 (TX1 5).2.1 (TX1 5).2.2.1 ∈ LW := LW_in 197 (by decide +kernel) rfl
theorem kf_1_30 : Cond.fieldLink RX1 30 (TX1 6).1 (TX1 6).2.1 (TX1 6).2.2.1 ∈ LW := LW_in 200 (by decide +kernel) rfl
theorem kf_4_12 : Cond.fieldLink RX4 12 (TX4 0).1 (TX4 0).2.1 (TX4 0).2.2.1 ∈ LW := LW_in 218 (by decide +kernel) rfl
theorem kf_4_20 : Cond.fieldLink RX4 20 (TX4 1).1 (TX4 1).2.1 (TX4 1).2.2.1 ∈ LW := LW_in 220 (by decide +kernel) rfl
theorem kf_4_24 : Cond.fieldLink RX4 24 (TX4 2).1 (TX4 2).2.1 (TX4 2).2.2.1 ∈ LW := LW_in 222 (by decide +kernel) rfl
theorem kf_4_31 : Cond.fieldLink RX4 31 (TX4 3).1 (TX4 3).2.1 (TX4 3).2.2.1 ∈ LW := LW_in 224 (by decide +kernel) rfl
theorem kf_4_35 : Cond.fieldLink RX4 35 (TX4 4).1 (TX4 4).2.1 (TX4 4).2.2.1 ∈ LW := LW_in 226 (by decide +kernel) rfl
theorem kf_4_38 : Cond.fieldLink RX4 38 (TX4 5).1 (TX4 5).2.1 (TX4 5).2.2.1 ∈ LW := LW_in 228 (by decide +kernel) rfl
theorem kf_4_42 : Cond.fieldLink RX4 42 (TX4 6).1 (TX4 6).2.1 (TX4 6).2.2.1 ∈ LW := LW_in 229 (by decide +kernel) rfl
theorem kf_4_45 : Cond.fieldLink RX4 45 (TX4 7).1 (TX4 7).2.1 (TX4 7).2.2.1 ∈ LW := LW_in 230 (by decide +kernel) rfl
theorem kf_4_48 : Cond.fieldLink RX4 48 (TX4 8).1 (TX4 8).2.1 (TX4 8).2.2.1 ∈ LW := LW_in 231 (by decide +kernel) rfl
theorem kf_7_11 : Cond.fieldLink RX7 11 (TX7 0).1 (TX7 0).2.1 (TX7 0).2.2.1 ∈ LW := LW_in 252 (by decide +kernel) rfl
theorem kf_7_18 : Cond.fieldLink RX7 18 (TX7 1).1 (TX7 1).2.1 (TX7 1).2.2.1 ∈ LW := LW_in 253 (by decide +kernel) rfl
theorem kf_7_22 : Cond.fieldLink RX7 22 (TX7 2).1 (TX7 2).2.1 (TX7 2).2.2.1 ∈ LW := LW_in 254 (by decide +kernel) rfl
theorem kf_7_25 : Cond.fieldLink RX7 25 (TX7 3).1 (TX7 3).2.1 (TX7 3).2.2.1 ∈ LW := LW_in 255 (by decide +kernel) rfl
theorem kf_7_28 : Cond.fieldLink RX7 28 (TX7 4).1 (TX7 4).2.1 (TX7 4).2.2.1 ∈ LW := LW_in 256 (by decide +kernel) rfl
theorem kf_7_31 : Cond.fieldLink RX7 31 (TX7 5).1 (TX7 5).2.1 (TX7 5).2.2.1 ∈ LW := LW_in 257 (by decide +kernel) rfl
theorem kf_7_35 : Cond.fieldLink RX7 35 (TX7 6).1 (TX7 6).2.1 (TX7 6).2.2.1 ∈ LW := LW_in 258 (by decide +kernel) rfl
theorem kf_7_41 : Cond.fieldLink RX7 41 (TX7 7).1 (TX7 7).2.1 (TX7 7).2.2.1 ∈ LW := LW_in 259 (by decide +kernel) rfl
theorem kf_7_45 : Cond.fieldLink RX7 45 (TX7 8).1 (TX7 8).2.1 (TX7 8).2.2.1 ∈ LW := LW_in 260 (by decide +kernel) rfl
theorem kf_7_48 : Cond.fieldLink RX7 48 (TX7 9).1 (TX7 9).2.1 (TX7 9).2.2.1 ∈ LW := LW_in 261 (by decide +kernel) rfl
theorem kf_7_52 : Cond.fieldLink RX7 52 (TX7 10).1 (TX7 10).2.1 (TX7 10).2.2.1 ∈ LW := LW_in 262 (by decide +kernel) rfl
theorem kf_7_56 : Cond.fieldLink RX7 56 (TX7 11).1 (TX7 11).2.1 (TX7 11).2.2.1 ∈ LW := LW_in 263 (by decide +kernel) rfl
theorem kf_7_59 : Cond.fieldLink RX7 59 (TX7 12).1 (TX7 12).2.1 (TX7 12).2.2.1 ∈ LW := LW_in 264 (by decide +kernel) rfl
theorem kf_7_65 : Cond.fieldLink RX7 65 (TX7 13).1 (TX7 13).2.1 (TX7 13).2.2.1 ∈ LW := LW_in 265 (by decide +kernel) rfl
theorem kn_0 : Cond.instantiable RX0 3 ∈ LW := LW_in 139 (by decide +kernel) rfl
theorem kz_0 : Cond.initialized RX0 ∈ LW := LW_in 58 (by decide +kernel) rfl
theorem nl_0 : ∀ k, k < 3 → fkd 0 k ≠ 0 → fkd 0 k ≠ 1 → ∀ ty, parseFieldDescriptor (TX0 k).2.2.1 = some ty → defaultValue ty = .null := by
  intro k hk h0 h1 ty h
  rw [tyX0_ok k hk] at h
  cases h
  match k, hk, h0, h1 with
  | 0, _, _, _ => exact rfl
  | 1, _, _, _ => exact rfl
  | 2, _, h0, _ => exact absurd rfl h0
theorem kn_1 : Cond.instantiable RX1 7 ∈ LW := LW_in 178 (by decide +kernel) rfl
theorem kz_1 : Cond.initialized RX1 ∈ LW := LW_in 60 (by decide +kernel) rfl
theorem nl_1 : ∀ k, k < 7 → fkd 1 k ≠ 0 → fkd 1 k ≠ 1 → ∀ ty, parseFieldDescriptor (TX1 k).2.2.1 = some ty → defaultValue ty = .null := by
  intro k hk h0 h1 ty h
  rw [tyX1_ok k hk] at h
  cases h
  match k, hk, h0, h1 with
  | 0, _, h0, _ => exact absurd rfl h0
  | 1, _, h0, _ => exact absurd rfl h0
  | 2, _, h0, _ => exact absurd rfl h0
  | 3, _, h0, _ => exact absurd rfl h0
  | 4, _, h0, _ => exact absurd rfl h0
  | 5, _, h0, _ => exact absurd rfl h0
  | 6, _, h0, _ => exact absurd rfl h0
theorem kn_2 : Cond.instantiable RX2 3 ∈ LW := LW_in 115 (by decide +kernel) rfl
theorem kz_2 : Cond.initialized RX2 ∈ LW := LW_in 56 (by decide +kernel) rfl
theorem nl_2 : ∀ k, k < 3 → fkd 2 k ≠ 0 → fkd 2 k ≠ 1 → ∀ ty, parseFieldDescriptor (TX2 k).2.2.1 = some ty → defaultValue ty = .null := by
  intro k hk h0 h1 ty h
  rw [tyX2_ok k hk] at h
  cases h
  match k, hk, h0, h1 with
  | 0, _, _, _ => exact rfl
  | 1, _, _, _ => exact rfl
  | 2, _, _, h1 => exact absurd rfl h1
theorem kn_3 : Cond.instantiable RX3 4 ∈ LW := LW_in 159 (by decide +kernel) rfl
theorem kz_3 : Cond.initialized RX3 ∈ LW := LW_in 59 (by decide +kernel) rfl
theorem nl_3 : ∀ k, k < 4 → fkd 3 k ≠ 0 → fkd 3 k ≠ 1 → ∀ ty, parseFieldDescriptor (TX3 k).2.2.1 = some ty → defaultValue ty = .null := by
  intro k hk h0 h1 ty h
  rw [tyX3_ok k hk] at h
  cases h
  match k, hk, h0, h1 with
  | 0, _, _, _ => exact rfl
  | 1, _, _, _ => exact rfl
  | 2, _, _, _ => exact rfl
  | 3, _, h0, _ => exact absurd rfl h0
theorem kn_4 : Cond.instantiable RX4 9 ∈ LW := LW_in 133 (by decide +kernel) rfl
theorem kz_4 : Cond.initialized RX4 ∈ LW := LW_in 57 (by decide +kernel) rfl
theorem nl_4 : ∀ k, k < 9 → fkd 4 k ≠ 0 → fkd 4 k ≠ 1 → ∀ ty, parseFieldDescriptor (TX4 k).2.2.1 = some ty → defaultValue ty = .null := by
  intro k hk h0 h1 ty h
  rw [tyX4_ok k hk] at h
  cases h
  match k, hk, h0, h1 with
  | 0, _, _, _ => exact rfl
  | 1, _, _, _ => exact rfl
  | 2, _, h0, _ => exact absurd rfl h0
  | 3, _, _, _ => exact rfl
  | 4, _, h0, _ => exact absurd rfl h0
  | 5, _, _, _ => exact rfl
  | 6, _, _, _ => exact rfl
  | 7, _, _, _ => exact rfl
  | 8, _, h0, _ => exact absurd rfl h0
theorem kn_5 : Cond.instantiable RX5 3 ∈ LW := LW_in 98 (by decide +kernel) rfl
theorem kz_5 : Cond.initialized RX5 ∈ LW := LW_in 55 (by decide +kernel) rfl
theorem nl_5 : ∀ k, k < 3 → fkd 5 k ≠ 0 → fkd 5 k ≠ 1 → ∀ ty, parseFieldDescriptor (TX5 k).2.2.1 = some ty → defaultValue ty = .null := by
  intro k hk h0 h1 ty h
  rw [tyX5_ok k hk] at h
  cases h
  match k, hk, h0, h1 with
  | 0, _, _, _ => exact rfl
  | 1, _, _, _ => exact rfl
  | 2, _, _, _ => exact rfl
theorem kn_6 : Cond.instantiable RX6 2 ∈ LW := LW_in 83 (by decide +kernel) rfl
theorem kz_6 : Cond.initialized RX6 ∈ LW := LW_in 54 (by decide +kernel) rfl
theorem nl_6 : ∀ k, k < 2 → fkd 6 k ≠ 0 → fkd 6 k ≠ 1 → ∀ ty, parseFieldDescriptor (TX6 k).2.2.1 = some ty → defaultValue ty = .null := by
  intro k hk h0 h1 ty h
  rw [tyX6_ok k hk] at h
  cases h
  match k, hk, h0, h1 with
  | 0, _, _, _ => exact rfl
  | 1, _, h0, _ => exact absurd rfl h0
theorem kn_7 : Cond.instantiable RX7 14 ∈ LW := LW_in 73 (by decide +kernel) rfl
theorem kz_7 : Cond.initialized RX7 ∈ LW := LW_in 53 (by decide +kernel) rfl
theorem nl_7 : ∀ k, k < 14 → fkd 7 k ≠ 0 → fkd 7 k ≠ 1 → ∀ ty, parseFieldDescriptor (TX7 k).2.2.1 = some ty → defaultValue ty = .null := by
  intro k hk h0 h1 ty h
  rw [tyX7_ok k hk] at h
  cases h
  match k, hk, h0, h1 with
  | 0, _, _, _ => exact rfl
  | 1, _, _, _ => exact rfl
  | 2, _, _, _ => exact rfl
  | 3, _, _, _ => exact rfl
  | 4, _, _, _ => exact rfl
  | 5, _, _, _ => exact rfl
  | 6, _, _, _ => exact rfl
  | 7, _, _, _ => exact rfl
  | 8, _, _, _ => exact rfl
  | 9, _, _, _ => exact rfl
  | 10, _, h0, _ => exact absurd rfl h0
  | 11, _, _, _ => exact rfl
  | 12, _, _, _ => exact rfl
  | 13, _, _, _ => exact rfl
