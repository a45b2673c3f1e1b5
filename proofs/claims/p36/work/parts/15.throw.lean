/-! Throws, handlers, bodies with handlers, the script. -/
def xN : List String := ["java/lang/RuntimeException", "java/lang/Exception"]
def at_ok (own : String) (ic : Nat) (cls : String) : Prop := Cond.initialized cls ∈ LW ∧ Bundle.fit cls = true ∧ (∀ n ∈ xN, Bundle.fit n = true) ∧ (∀ w ∈ (vx_atS own ic cls xN).filter goodWord, w ∈ lw_tbl) ∧ (∀ w ∈ (vx_atS own ic cls xN).filter (fun w => !goodWord w), w ∈ NW) ∧ (∀ w ∈ Cond.initialized cls :: vx_atS own ic cls xN, vx_ot w = true)
theorem NW_tab {w : Cond} (h : isNw w = true) : w.onTables = true := by
  cases w <;> first | rfl | (simp [isNw] at h; done)
theorem s_throwG {X : sx_T} {E : sv_E} {D : sd_T} {Q : State → Prop} {u w pc : Nat} {ls : List (Option sv_V)} {st : List sv_V} {σ : sv_G} {ik is ic sa mc9 : Nat} {cls text : String} {PX : String → sv_G → Prop} (C : sx_ok X E D) (hQ : QT X E Q mc9 PX) (ha : at_ok D.1 ic cls) (hk0 : Cond.classLink D.1 ik cls ∈ LW) (hs : (D.1, is, text) ∈ SR_l) (htb : dTb D = []) (hp : PX cls σ) (hu : u + 1 ≤ mc9 ∧ w + 6 ≤ 6 * mc9) (hm : u + 1 ≤ dMc D ∧ w + 6 ≤ dMs D) (hk : 6 ≤ dK D) (hst : st.length ≤ 4)
    (wide : Bool) (d0 : decode D.2.1 pc = .ok (.new ik, 3)) (d3 : decode D.2.1 (pc + 3) = .ok (.dup, 1))
    (d4 : if wide then decode D.2.1 (pc + 4) = .ok (.ldc_w is, 3) ∧ decode D.2.1 (pc + 7) = .ok (.invokespecial ic, 3) ∧ decode D.2.1 (pc + 10) = .ok (.athrow, 1) else decode D.2.1 (pc + 4) = .ok (.ldc is, 2) ∧ decode D.2.1 (pc + 6) = .ok (.invokespecial ic, 3) ∧ decode D.2.1 (pc + 9) = .ok (.athrow, 1)) : SW X E Q u w pc ls st σ := by
  obtain ⟨p, l, e, R, s, m, args, below, meth, c⟩ := X
  obtain ⟨own, cc, nL, rt, tb, k, mc, ms⟩ := D
  obtain ⟨hx, hb, hnl, hown, hts, hMW, hK, hret, hlocks, htab, htr, hRf, hRl, hRc, hRs⟩ := C
  intro H locs lsA hR hL
  obtain ⟨hP, hD, hS, hG⟩ := hR
  obtain ⟨Qc9, rfl⟩ := hQ
  have hown2 : s.vm.findClass own = some m.cls := hown
  obtain ⟨hini, hf1, hf2, hat1, hat2, hot⟩ := ha
  have htb2 : c.exceptionTable.toList = [] := htab.trans htb
  obtain ⟨-, -, hU, hN, hSR, -⟩ := id hMW
  obtain ⟨sa, hsa⟩ := hSR _ hs
  have hat : ∀ w ∈ vx_atS own ic cls xN, w.before args s = true := by
    intro w hw
    by_cases g : goodWord w = true
    · exact hts w (List.mem_filter.mpr ⟨hat1 w (List.mem_filter.mpr ⟨hw, g⟩), g⟩)
    · have h9 := hat2 w (List.mem_filter.mpr ⟨hw, by simp [g]⟩)
      exact va_tabs (NW_tab (List.mem_filter.mp h9).2) rfl (hMW.1 w h9)
  have hgood : ∀ w ∈ Cond.classLink own ik cls :: Cond.initialized cls :: vx_atS own ic cls xN, vx_ot w = true := by
    intro w hw
    rcases List.mem_cons.mp hw with rfl | hw
    · rfl
    · exact hot w hw
  have hcat : ((st.map (cv E)).map fun v => v.category).sum ≤ 8 := by
    have h1 : ∀ l : List sv_V, ((l.map (cv E)).map fun v => v.category).sum ≤ 2 * l.length := by
      intro l
      induction l with
      | nil => simp
      | cons v r ih =>
        simp only [List.map_cons, List.sum_cons, List.length_cons]
        have := lv_cat (cv E v)
        omega
    have := h1 st
    omega
  have hk2 : 6 ≤ k := hk
  have hRf2 : k ≤ R.frames := hRf
  have hRl2 : 40 * k ≤ R.locals := hRl
  have hm1 : u + 1 ≤ mc := hm.1
  have hm2 : w + 6 ≤ ms := hm.2
  have hRc2 : mc ≤ R.cells := hRc
  have hRs2 : ms ≤ R.slots := hRs
  have hxx : ∀ t : State, s.vm.Alike t.vm → H.size ≤ t.heap.size → (∀ q : Nat, q < H.size → t.heap[q]? = H[q]?) → XcP E PX cls s t := by
    intro t _ h1 h2
    refine ⟨σ, hp, ⟨hP.kept (fun k q hk => h2 q.1 (hP k q hk).lt), hD, hG⟩, Nat.le_trans hS.1 h1, fun q g1 g2 => ?_⟩
    rw [h2 q (Nat.lt_of_lt_of_le g1 hS.1)]
    exact hS.2.1 q g1 g2
  cases wide with
  | true =>
    obtain ⟨e4, e7, e10⟩ := d4
    exact vx_throwSW (names := xN) (A := fun q => E.1 ≤ q) hx hb htr hown2 hf1 hf2 (hts _ hk0) (hts _ hini) hsa hat hgood hU hN hS hL.1 d0 d3 e4 e7 e10 (by rw [htb2]; exact fun x hx => nomatch hx) (by show 2 + 3 < R.frames; omega) (by show _ + (13 * (2 + 1) + 43) ≤ R.locals; omega) (by omega) (by omega) hlocks hxx hS.2.2 hu.1 hu.2
  | false =>
    obtain ⟨e4, e6, e9⟩ := d4
    exact vx_throwS (names := xN) (A := fun q => E.1 ≤ q) hx hb htr hown2 hf1 hf2 (hts _ hk0) (hts _ hini) hsa hat hgood hU hN hS hL.1 d0 d3 e4 e6 e9 (by rw [htb2]; exact fun x hx => nomatch hx) (by show 2 + 3 < R.frames; omega) (by show _ + (13 * (2 + 1) + 43) ≤ R.locals; omega) (by omega) (by omega) hlocks hxx hS.2.2 hu.1 hu.2
/-- an exception of class En stands over the frame at pc -/
def SWx (X : sx_T) (E : sv_E) (Q : State → Prop) (u w : Nat) (pc : Nat) (ls : List (Option sv_V)) (En : String) (σ : sv_G) : Prop := match X with
  | (p, l, e, R, s, m, args, below, meth, c) => ∀ (H : Heap) (locs : List Loc) (lsA : Array Slot) (q : Addr) (ce : Cell) (st : List Value), sv_R E s.heap σ H locs → sv_L E lsA c.maxLocals ls → H[q]? = some ce → ce.vm = .none → s.vm.findClass En = some ce.cls → vx_W p l e R s m args below meth c H locs u w Q (F0 m pc lsA st) q

theorem s_catch {X : sx_T} {E : sv_E} {D : sd_T} {Q : State → Prop} {u w pc : Nat} {ls : List (Option sv_V)} {σ : sv_G} {j : Nat} {En name : String} {ls2 : List (Option sv_V)} (C : sx_ok X E D) (pre : List ExceptionTableEntry) (x : ExceptionTableEntry) (suf : List ExceptionTableEntry) (htb : dTb D = pre ++ x :: suf) (hpass : ∀ z ∈ pre, z.catchType ≠ 0 ∧ ∃ nm : String, Cond.classLink D.1 z.catchType nm ∈ LW ∧ (En, nm) ∈ NC_l) (hx9 : covers x pc = true) (h0 : x.catchType ≠ 0) (hlink : Cond.classLink D.1 x.catchType name ∈ LW) (hcast : Cond.castable En name ∈ NW)
    (hd : decode D.2.1 x.handlerPc = .ok (.astore j, 2)) (hn : j < D.2.2.1) (hl : sv_st1 ls j none = ls2) (kk : SW X E Q u w (x.handlerPc + 2) ls2 [] σ) : SWx X E Q u w pc ls En σ := by
  obtain ⟨p, l, e, R, s, m, args, below, meth, c⟩ := X
  obtain ⟨own, cc, nL, rt, tb, k, mc, ms⟩ := D
  obtain ⟨hx, hb, hnl, hown, hts, hMW, hK, hret, hlocks, htab, htr, hRf, hRl, hRc, hRs⟩ := C
  intro H locs lsA q9 ce st hR hL h1 h2 h3
  obtain ⟨hP, hD, hS, hG⟩ := hR
  subst hl
  have htb2 : c.exceptionTable.toList = pre ++ x :: suf := htab.trans htb
  refine vx_catch (own := own) hown pre x suf htb2 (fun z hz => ?_) hx9 h0 (hts _ hlink) (va_Nw.use rfl (hMW.1 _ hcast)) h1 h2 h3 ?_
  · obtain ⟨g1, nm, g2, g3⟩ := hpass z hz
    exact Or.inr ⟨g1, nm, hts _ g2, hMW.2.2.2.2.2.1 _ g3⟩
  · refine lv_astore hx hb hd hL.has (by rw [hnl]; exact hn) rfl (fun ls9 h9 => ?_)
    exact kk H locs ls9 ⟨hP, hD, hS, hG⟩ (sv_L.st1 (fun v hv => nomatch hv) h9)
theorem s_catch_n {X : sx_T} {E : sv_E} {D : sd_T} {Q : State → Prop} {u w pc : Nat} {ls : List (Option sv_V)} {σ : sv_G} {j : Fin 4} {En name : String} {ls2 : List (Option sv_V)} (C : sx_ok X E D) (pre : List ExceptionTableEntry) (x : ExceptionTableEntry) (suf : List ExceptionTableEntry) (htb : dTb D = pre ++ x :: suf) (hpass : ∀ z ∈ pre, z.catchType ≠ 0 ∧ ∃ nm : String, Cond.classLink D.1 z.catchType nm ∈ LW ∧ (En, nm) ∈ NC_l) (hx9 : covers x pc = true) (h0 : x.catchType ≠ 0) (hlink : Cond.classLink D.1 x.catchType name ∈ LW) (hcast : Cond.castable En name ∈ NW)
    (hd : decode D.2.1 x.handlerPc = .ok (.astore_n j, 1)) (hn : (j : Nat) < D.2.2.1) (hl : sv_st1 ls (j : Nat) none = ls2) (kk : SW X E Q u w (x.handlerPc + 1) ls2 [] σ) : SWx X E Q u w pc ls En σ := by
  obtain ⟨p, l, e, R, s, m, args, below, meth, c⟩ := X
  obtain ⟨own, cc, nL, rt, tb, k, mc, ms⟩ := D
  obtain ⟨hx, hb, hnl, hown, hts, hMW, hK, hret, hlocks, htab, htr, hRf, hRl, hRc, hRs⟩ := C
  intro H locs lsA q9 ce st hR hL h1 h2 h3
  obtain ⟨hP, hD, hS, hG⟩ := hR
  subst hl
  have htb2 : c.exceptionTable.toList = pre ++ x :: suf := htab.trans htb
  refine vx_catch (own := own) hown pre x suf htb2 (fun z hz => ?_) hx9 h0 (hts _ hlink) (va_Nw.use rfl (hMW.1 _ hcast)) h1 h2 h3 ?_
  · obtain ⟨g1, nm, g2, g3⟩ := hpass z hz
    exact Or.inr ⟨g1, nm, hts _ g2, hMW.2.2.2.2.2.1 _ g3⟩
  · refine lv_astore_n hx hb hd rfl hL.has (by rw [hnl]; exact hn) rfl (fun ls9 h9 => ?_)
    exact kk H locs ls9 ⟨hP, hD, hS, hG⟩ (sv_L.st1 (fun v hv => nomatch hv) h9)
theorem sc_cV {X : sx_T} {E : sv_E} {D : sd_T} {Q : State → Prop} {u w pc : Nat} {ls : List (Option sv_V)} {σ : sv_G} {M : md_T} {idx n9 k9 a c9 : Nat} {as9 rest : List sv_V} {Post : Option sv_V → sv_G → Prop} {PX : String → sv_G → Prop} (C : sx_ok X E D) (hd : decode D.2.1 pc = .ok (.invokevirtual idx, 3)) (hl : Cond.methodLink D.1 idx M.1 ∈ LW) (ho : mo M n9) (hv : mov M) (hM : CX E M k9 (vR a :: as9) σ Post PX) (ha : shp a = (c9, 0)) (hc : ∃ T N, vwCl[c9]? = some (M.1.cls, T, N)) (hn : as9.length = n9) (hk : k9 + 1 ≤ dK D) (hrest : rw8 rest ≤ 8) (hb9 : u + mdM M ≤ dMc D ∧ w + 6 * mdM M ≤ dMs D)
    (kx : ∀ En σ9, PX En σ9 → SWx X E Q (u + mdM M) (w + 6 * mdM M) pc ls En σ9) (kk : ∀ o9 σ9, Post o9 σ9 → SW X E Q (u + mdM M) (w + 6 * mdM M) (pc + 3) ls (o9.toList ++ rest) σ9) : SW X E Q u w pc ls (as9.reverse ++ vR a :: rest) σ := by
  obtain ⟨p, l, e, R, s, m, args, below, meth, c⟩ := X
  obtain ⟨own, cc, nL, rt, tb, k, mc, ms⟩ := D
  obtain ⟨hx, hb, hnl, hown, hts, hMW, hK, hret, hlocks, htab, htr, hRf, hRl, hRc, hRs⟩ := C
  intro H locs lsA hR hL
  obtain ⟨hP, hD, hS, hG⟩ := hR
  have hR : sv_R E s.heap σ H locs := ⟨hP, hD, hS, hG⟩
  have hlen : (as9.map (cv E)).length = n9 := by rw [List.length_map]; exact hn
  have hst : (as9.reverse ++ vR a :: rest).map (cv E) = (as9.map (cv E)).reverse ++ Value.ref (E.1 + a) :: rest.map (cv E) := by simp [cv]
  have hRf2 : k ≤ R.frames := hRf
  have hRl2 : 40 * k ≤ R.locals := hRl
  have hk2 : k9 + 1 ≤ k := hk
  have h21 : M.2.2.1 ≤ 21 := ho.2.2.2.2.2
  have hb1 : u + mdM M ≤ mc := hb9.1
  have hb2 : w + 6 * mdM M ≤ ms := hb9.2
  have hfr : (rm_of M k9).frames + 1 ≤ R.frames := Nat.le_trans hk2 hRf2
  have hlo : 8 + (M.2.2.1 + 11) + (rm_of M k9).locals ≤ R.locals := by show 8 + (M.2.2.1 + 11) + 40 * k9 ≤ R.locals; omega
  rw [hst]
  have hc9 : c9 < 10 := by
    obtain ⟨T, N, hc⟩ := hc
    have := (List.getElem?_eq_some_iff.mp hc).1
    have h9 : vwCl.length = 8 := rfl
    omega
  have hp : PreV s H M.1.cls (E.1 + a) (va_Pc ((vR a :: as9).map (cv E)) (Wd E σ)) (as9.map (cv E)) := ⟨Wd.blind, sv_cell hP hK ha hc hc9, sv_pre hR hMW hK⟩
  refine sx_run (vx_runV (nL := nL) (rest := rest.map (cv E)) (Ts := LW) (own := own) ⟨hx, hb, hnl, hown, hts⟩ (hM l htr) (n := n9) ⟨⟨rfl, rfl, hfr, hlo, sv_pay ho.1 hts, List.mem_cons_self, hts _ ho.1, hts _ ho.2.1, ho.2.2.1, sv_pars ho, hts _ hl⟩, hts _ hv.1, hts _ hv.2⟩ hp rfl hlen (hL.1.trans hnl) rfl (sv_room hrest) hd ⟨Nat.le_trans hb1 hRc, Nat.le_trans hb2 hRs⟩) hS (fun En ce q9 σ9 H1 locs1 hp9 hR9 h1 h2 h3 => kx En σ9 hp9 H1 locs1 lsA q9 ce _ hR9 hL h1 h2 h3) (fun o9 σ9 H1 locs1 hp9 hR9 => by
    have h := kk o9 σ9 hp9 H1 locs1 lsA hR9 hL
    rw [List.map_append, show (o9.toList.map (cv E)) = (o9.map (cv E)).toList by cases o9 <;> rfl] at h
    exact h)
/-- a body with handlers -/
abbrev mcw (M : md_T) (hh : List (Nat × Nat × Nat × Nat)) : Cond := Cond.codeWith M.1 M.2.1 M.2.2.1 M.2.2.2.1 hh
def mw (M : md_T) (hh : List (Nat × Nat × Nat × Nat)) (n : Nat) : Prop := mcw M hh ∈ LW ∧ Cond.initialized M.1.cls ∈ LW ∧ (M.1.cls ≠ "java/lang/invoke/MethodHandle" ∧ M.1.cls ≠ "java/lang/invoke/VarHandle") ∧ (parseMethodDescriptor M.1.desc).map (fun d => d.parameters.length) = some n ∧ plainName M.1.cls = true ∧ M.2.2.1 ≤ 21
theorem mw_of {M : md_T} {hh : List (Nat × Nat × Nat × Nat)} {n : Nat} (i j : Nat) (h1 : lw_tbl[i]? = some (mcw M hh)) (h2 : lw_tbl[j]? = some (Cond.initialized M.1.cls)) (h3 : (M.1.cls ≠ "java/lang/invoke/MethodHandle" ∧ M.1.cls ≠ "java/lang/invoke/VarHandle") ∧ (parseMethodDescriptor M.1.desc).map (fun d => d.parameters.length) = some n ∧ plainName M.1.cls = true) (h4 : M.2.2.1 ≤ 21) : mw M hh n := ⟨LW_in i h1 rfl, LW_in j h2 rfl, h3.1, h3.2.1, h3.2.2, h4⟩
theorem CW.of {E : sv_E} {M : md_T} {hh : List (Nat × Nat × Nat × Nat)} {n k : Nat} {av : List sv_V} {σ : sv_G} {Post : Option sv_V → sv_G → Prop} (D : sd_T) (hD : (M.1.cls, M.2.1, M.2.2.1, M.2.2.2.1, tableOf hh, k, mdM M, 6 * mdM M) = D) (ho : mw M hh n) (hl : (sv_in av).length ≤ M.2.2.1) {ls0 : List (Option sv_V)} (hls : sv_ini av M.2.2.1 = ls0)
    (body : ∀ (X : sx_T) (Q : State → Prop), sx_ok X E D → QR X E Q (mdM M) Post → SW X E Q 0 0 0 ls0 [] σ) : CW E M hh k av σ Post := by
  intro l hlt
  subst hD
  subst hls
  refine MetFree.of_bodyS (code := M.2.1) (maxLocals := M.2.2.1) (ret := M.2.2.2.1) ho.2.2.2.2.1 ?_ ?_
  · intro args s m h hn
    obtain ⟨m9, meth, c, hn9, h1, h2, h3, h4, -, h5, h6, -⟩ := Cond.codeWith_spec (atoms_spec (ws := mcw M hh :: LW) h _ List.mem_cons_self)
    cases hn.symm.trans hn9
    exact ⟨meth, c, h1, h2, h3, h4, h5, h6⟩
  · intro p e s m args below meth c s₁ B hml hv _
    have hh0 : s₁.heap = s.heap := by rw [B.state]; rfl
    obtain ⟨rfl, ⟨hP, hD, hG⟩, hK, hMW⟩ := hv
    have hts := atoms_spec (ws := mcw M hh :: LW) B.pre
    have hown : s.vm.findClass M.1.cls = some m.cls := findClass_of_methodNamed B.named
    have htab : c.exceptionTable.toList = tableOf hh := vx_table (x := M.1) B (hts _ List.mem_cons_self)
    have hb := body (p, l, e, (headSpec (mcw M hh :: LW) (rm_of M k)).room, s, m, (av.map (cv E)).toArray, below, meth, c) _ ⟨B.exec, B.bytes, hml, hown, fun w h => hts w (List.mem_cons_of_mem _ h), hMW, hK, B.returns, B.notSynchronized, htab, hlt, Nat.le_refl _, Nat.le_refl _, Nat.le_refl _, Nat.le_refl _⟩ (fun H locs g h => h)
    have hb2 : W p l e (headSpec (mcw M hh :: LW) (rm_of M k)).room s m (av.map (cv E)).toArray below meth c s.heap [] 0 0 (MQ below (QcP E Post) (av.map (cv E)).toArray s (mdM M) (6 * mdM M) (fun q => E.1 ≤ q)) (entryFrame m (av.map (cv E)).toArray M.2.2.1) := by
      rw [lg_entry_eq]
      exact hb s.heap [] _ ⟨hP, hD, va_S.rf, hG⟩ (by rw [hml]; exact sv_entry hl)
    obtain ⟨t, a1, o, b1, b2, b3⟩ := hb2 s₁ hh0 (Stand.of_body B)
    exact ⟨t, o, a1, b1, b2, ⟨b3.1, b3.2⟩⟩

theorem s_cW {X : sx_T} {E : sv_E} {D : sd_T} {Q : State → Prop} {u w pc : Nat} {ls : List (Option sv_V)} {σ : sv_G} {M : md_T} {hh : List (Nat × Nat × Nat × Nat)} {idx n9 k9 : Nat} {as9 rest : List sv_V} {Post : Option sv_V → sv_G → Prop} (C : sx_ok X E D) (hd : decode D.2.1 pc = .ok (.invokestatic idx, 3)) (hl : Cond.methodLink D.1 idx M.1 ∈ LW) (ho : mw M hh n9) (hv : mos M) (hM : CW E M hh k9 as9 σ Post) (hn : as9.length = n9) (hk : k9 + 1 ≤ dK D) (hrest : rw8 rest ≤ 8) (hb9 : u + mdM M ≤ dMc D ∧ w + 6 * mdM M ≤ dMs D)
    (kk : ∀ o9 σ9, Post o9 σ9 → SW X E Q (u + mdM M) (w + 6 * mdM M) (pc + 3) ls (o9.toList ++ rest) σ9) : SW X E Q u w pc ls (as9.reverse ++ rest) σ := by
  obtain ⟨p, l, e, R, s, m, args, below, meth, c⟩ := X
  obtain ⟨own, cc, nL, rt, tb, k, mc, ms⟩ := D
  obtain ⟨hx, hb, hnl, hown, hts, hMW, hK, hret, hlocks, htab, htr, hRf, hRl, hRc, hRs⟩ := C
  intro H locs lsA hR hL
  obtain ⟨hP, hD, hS, hG⟩ := hR
  have hR : sv_R E s.heap σ H locs := ⟨hP, hD, hS, hG⟩
  have hlen : (as9.map (cv E)).length = n9 := by rw [List.length_map]; exact hn
  have hst : (as9.reverse ++ rest).map (cv E) = (as9.map (cv E)).reverse ++ rest.map (cv E) := by simp [cv]
  have hRf2 : k ≤ R.frames := hRf
  have hRl2 : 40 * k ≤ R.locals := hRl
  have hk2 : k9 + 1 ≤ k := hk
  have h21 : M.2.2.1 ≤ 21 := ho.2.2.2.2.2
  have hb1 : u + mdM M ≤ mc := hb9.1
  have hb2 : w + 6 * mdM M ≤ ms := hb9.2
  have hfr : (rm_of M k9).frames + 1 ≤ R.frames := Nat.le_trans hk2 hRf2
  have hlo : 8 + (M.2.2.1 + 11) + (rm_of M k9).locals ≤ R.locals := by show 8 + (M.2.2.1 + 11) + 40 * k9 ≤ R.locals; omega
  rw [hst]
  have hp : PreS s H (va_Pc (as9.map (cv E)) (Wd E σ)) (as9.map (cv E)) := ⟨Wd.blind, sv_pre hR hMW hK⟩
  have hpay : ∀ w ∈ mcw M hh :: LW, ∀ (a' : Array Value) (U : State), s.WarmedH U.vm → w.before a' U = true := pay_in hts (fun w hw => by
    rcases List.mem_cons.mp hw with rfl | hw
    · exact ⟨ho.1, good_of_word (LW_good _ ho.1)⟩
    · exact ⟨hw, good_of_word (LW_good _ hw)⟩)
  refine sw_run (vx_runSW (nL := nL) (rest := rest.map (cv E)) (Ts := LW) (own := own) ⟨hx, hb, hnl, hown, hts⟩ (hM l htr) (n := n9) ⟨⟨rfl, rfl, hfr, hlo, hpay, List.mem_cons_self⟩, hts _ ho.1, hts _ ho.2.1, ho.2.2.1, fun sig h => by
    have h2 := ho.2.2.2.1
    rw [h] at h2
    exact (Option.some.inj h2).symm, hts _ hl, hts _ hv⟩ hp rfl hlen (hL.1.trans hnl) rfl (sv_room hrest) hd ⟨Nat.le_trans hb1 hRc, Nat.le_trans hb2 hRs⟩) hS (fun o9 σ9 H1 locs1 hp9 hR9 => by
    have h := kk o9 σ9 hp9 H1 locs1 lsA hR9 hL
    rw [List.map_append, show (o9.toList.map (cv E)) = (o9.map (cv E)).toList by cases o9 <;> rfl] at h
    exact h)
/-- the script stands ahead of all cells -/
def sv_X (X : sx_T) (E : sv_E) (L : Nat) (xs : Nat → Int32) : Prop := match X with
  | (p, l, e, R, s, m, args, below, meth, c) => va_X E.2.1.1 L xs s s.heap ∧ E.2.1.1 < s.heap.size ∧ ¬ E.1 ≤ E.2.1.1
theorem s_sc {X : sx_T} {E : sv_E} {D : sd_T} {Q : State → Prop} {u w pc : Nat} {ls : List (Option sv_V)} {st : List sv_V} {σ : sv_G} (C : sx_ok X E D) (kk : ∀ (L : Nat) (xs : Nat → Int32), L ≤ 260 → sv_X X E L xs → SW X E Q u w pc ls st σ) : SW X E Q u w pc ls st σ := by
  obtain ⟨p, l, e, R, s, m, args, below, meth, c⟩ := X
  obtain ⟨own, cc, nL, rt, tb, k, mc, ms⟩ := D
  obtain ⟨hx, hb, hnl, hown, hts, hMW, -⟩ := C
  obtain ⟨L, xs, h1, h2⟩ := hMW.2.2.2.2.2.2
  exact kk L xs h1 h2
theorem s_slen {X : sx_T} {E : sv_E} {D : sd_T} {Q : State → Prop} {u w pc : Nat} {ls : List (Option sv_V)} {st : List sv_V} {σ : sv_G} {L : Nat} {xs : Nat → Int32} (C : sx_ok X E D) (hX : sv_X X E L xs) (hd : decode D.2.1 pc = .ok (.arraylength, 1)) (kk : SW X E Q u w (pc + 1) ls (vI L :: st) σ) : SW X E Q u w pc ls (vS :: st) σ := by
  obtain ⟨p, l, e, R, s, m, args, below, meth, c⟩ := X
  obtain ⟨own, cc, nL, rt, tb, k, mc, ms⟩ := D
  obtain ⟨hx, hb, hnl, hown, hts, hMW, hK, hret, hlocks, htab, htr, hRf, hRl, hRc, hRs⟩ := C
  intro H locs lsA hR hL
  obtain ⟨hP, hD, hS, hG⟩ := hR
  refine va_slen (A := fun q => E.1 ≤ q) hx hb hX.1 hX.2.1 hX.2.2 hS hd ?_
  have kk := kk H locs lsA ⟨hP, hD, hS, hG⟩ hL
  rw [← Int32.ofInt_eq_ofNat]
  exact kk
theorem s_sld {X : sx_T} {E : sv_E} {D : sd_T} {Q : State → Prop} {u w pc : Nat} {ls : List (Option sv_V)} {st : List sv_V} {σ : sv_G} {L : Nat} {xs : Nat → Int32} {i : Int} (C : sx_ok X E D) (hX : sv_X X E L xs) (hL9 : L ≤ 20000) (hd : decode D.2.1 pc = .ok (.iaload, 1)) (hi : 0 ≤ i ∧ i < (L : Int)) (kk : SW X E Q u w (pc + 1) ls (vI (xs i.toNat).toInt :: st) σ) : SW X E Q u w pc ls (vI i :: vS :: st) σ := by
  obtain ⟨p, l, e, R, s, m, args, below, meth, c⟩ := X
  obtain ⟨own, cc, nL, rt, tb, k, mc, ms⟩ := D
  obtain ⟨hx, hb, hnl, hown, hts, hMW, hK, hret, hlocks, htab, htr, hRf, hRl, hRc, hRs⟩ := C
  intro H locs lsA hR hL
  obtain ⟨hP, hD, hS, hG⟩ := hR
  refine va_sld (A := fun q => E.1 ≤ q) hx hb hX.1 hX.2.1 hX.2.2 hS (ix_in hi.1 hi.2 hL9) hd ?_
  have hc := ix_cl hi.1 (by omega : i ≤ 2147483647)
  have hc2 : (Int32.ofInt i).toNatClampNeg = i.toNat := by omega
  have kk := kk H locs lsA ⟨hP, hD, hS, hG⟩ hL
  rw [hc2]
  simp only [List.map_cons, cv, Int32.ofInt_toInt] at kk
  exact kk

