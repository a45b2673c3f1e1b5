/-! The law, ahead of all objects: nothing is kept. -/
def ZW (X : sx_T) (E : sv_E) (Q : State → Prop) (u w : Nat) (pc : Nat) (ls : List (Option sv_V)) (st : List sv_V) (_ : sv_G) : Prop := match X with
  | (p, l, e, R, s, m, args, below, meth, c) => ∀ (H : Heap) (locs : List Loc) (lsA : Array Slot), va_S (fun q => E.1 ≤ q) s.heap H locs → sv_L E lsA c.maxLocals ls → W p l e R s m args below meth c H locs u w Q (F0 m pc lsA (st.map (cv E)))
def zE (X : sx_T) (E : sv_E) : Prop := match X with
  | (p, l, e, R, s, m, args, below, meth, c) => E.1 = s.heap.size
theorem z_aloadS_n {X : sx_T} {E : sv_E} {D : sd_T} {Q : State → Prop} {u w pc : Nat} {ls : List (Option sv_V)} {st : List sv_V} {σ : sv_G} {j : Fin 4} (C : sx_ok X E D) (hd : decode D.2.1 pc = .ok (.aload_n j, 1)) (hl : ls[(j : Nat)]? = some (some (vS))) (kk : ZW X E Q u w (pc + 1) ls (vS :: st) σ) : ZW X E Q u w pc ls (st) σ := by
  obtain ⟨p, l, e, R, s, m, args, below, meth, c⟩ := X
  obtain ⟨own, cc, nL, rt, tb, k, mc, ms⟩ := D
  obtain ⟨hx, hb, hnl, -⟩ := C
  intro H locs lsA hR hL
  have kk := kk H locs lsA hR hL
  refine lv_aload_n hx hb hd rfl (hL.2.2 _ _ hl) ?_
  exact kk
theorem z_iconst {X : sx_T} {E : sv_E} {D : sd_T} {Q : State → Prop} {u w pc : Nat} {ls : List (Option sv_V)} {st : List sv_V} {σ : sv_G} {n : Int} (C : sx_ok X E D) (hd : decode D.2.1 pc = .ok (.iconst n, 1))  (kk : ZW X E Q u w (pc + 1) ls (vI n :: st) σ) : ZW X E Q u w pc ls (st) σ := by
  obtain ⟨p, l, e, R, s, m, args, below, meth, c⟩ := X
  obtain ⟨own, cc, nL, rt, tb, k, mc, ms⟩ := D
  obtain ⟨hx, hb, hnl, -⟩ := C
  intro H locs lsA hR hL
  have kk := kk H locs lsA hR hL
  refine lv_iconst hx hb hd rfl ?_
  exact kk
theorem z_sipush {X : sx_T} {E : sv_E} {D : sd_T} {Q : State → Prop} {u w pc : Nat} {ls : List (Option sv_V)} {st : List sv_V} {σ : sv_G} {n : Int} (C : sx_ok X E D) (hd : decode D.2.1 pc = .ok (.sipush n, 3)) (hn : -32768 ≤ n ∧ n ≤ 32767) (kk : ZW X E Q u w (pc + 3) ls (vI n :: st) σ) : ZW X E Q u w pc ls (st) σ := by
  obtain ⟨p, l, e, R, s, m, args, below, meth, c⟩ := X
  obtain ⟨own, cc, nL, rt, tb, k, mc, ms⟩ := D
  obtain ⟨hx, hb, hnl, -⟩ := C
  intro H locs lsA hR hL
  have kk := kk H locs lsA hR hL
  refine lv_sipush hx hb hd (Int16.toInt32_ofInt (by show (-32768 : Int) ≤ n; omega) (by show n ≤ (32767 : Int); omega)) ?_
  exact kk
theorem z_if_eq {X : sx_T} {E : sv_E} {D : sd_T} {Q : State → Prop} {u w pc : Nat} {ls : List (Option sv_V)} {st : List sv_V} {σ : sv_G} {x : Int} {off : Int} {tgt : Nat} (C : sx_ok X E D) (hd : decode D.2.1 pc = .ok (.ifCond .eq off, 3)) (ht : (pc : Int) + off = (tgt : Int)) (hx9 : -2147483648 ≤ x ∧ x ≤ 2147483647)  (kt : x = 0 → ZW X E Q u w tgt ls st σ) (kf : ¬ (x = 0) → ZW X E Q u w (pc + 3) ls st σ) : ZW X E Q u w pc ls (vI x :: st) σ := by
  obtain ⟨p, l, e, R, s, m, args, below, meth, c⟩ := X
  obtain ⟨own, cc, nL, rt, tb, k, mc, ms⟩ := D
  obtain ⟨hx, hb, hnl, -⟩ := C
  intro H locs lsA hR hL
  have hq := sn_eq hx9 (show (-2147483648 : Int) ≤ 0 ∧ (0 : Int) ≤ 2147483647 by decide)
  refine lv_if_eq hx hb hd ht (fun h => kt ?_ H locs lsA hR hL) (fun h => kf ?_ H locs lsA hR hL)
  · exact hq.mp h
  · exact fun z => h (hq.mpr z)
theorem z_goto {X : sx_T} {E : sv_E} {D : sd_T} {Q : State → Prop} {u w pc : Nat} {ls : List (Option sv_V)} {st : List sv_V} {σ : sv_G} {off : Int} {tgt : Nat} (C : sx_ok X E D) (hd : decode D.2.1 pc = .ok (.goto off, 3)) (ht : (pc : Int) + off = (tgt : Int)) (kk : ZW X E Q u w tgt ls st σ) : ZW X E Q u w pc ls st σ := by
  obtain ⟨p, l, e, R, s, m, args, below, meth, c⟩ := X
  obtain ⟨own, cc, nL, rt, tb, k, mc, ms⟩ := D
  obtain ⟨hx, hb, hnl, -⟩ := C
  intro H locs lsA hR hL
  exact lv_goto hx hb hd ht (kk H locs lsA hR hL)
theorem MW.up {E : sv_E} {s : State} {B : Nat} (h : MW E s) (hB : E.1 ≤ B) : MW (B, E.2) s := by
  obtain ⟨h1, h2, h3, h4, h5, h6, L, xs, g1, g2, g3, g4⟩ := h
  have hn : ∀ q : Nat, B ≤ q → E.1 ≤ q := fun q hq => Nat.le_trans hB hq
  exact ⟨h1, h2, h3.narrow hn, h4.narrow hn, h5, h6, L, xs, g1, g2, g3, fun z => g4 (hn _ z)⟩
theorem z_call {X : sx_T} {E : sv_E} {D : sd_T} {Q : State → Prop} {u w u2 w2 pc : Nat} {ls : List (Option sv_V)} {σ : sv_G} {M : md_T} {idx k9 : Nat} {a : Int} {rest : List sv_V} (C : sx_ok X E D) (hz : zE X E) (hd : decode D.2.1 pc = .ok (.invokestatic idx, 3)) (hl : Cond.methodLink D.1 idx M.1 ∈ LW) (ho : mo M 2) (hv : mos M) (hM : ∀ B : Nat, BT (B, E.2) M k9 [vS, vI a] (PI fun r _ => r = 1)) (hk : k9 + 1 ≤ dK D) (hrest : rw8 rest ≤ 8) (h2 : u + mdM M = u2 ∧ w + 6 * mdM M = w2) (hb9 : u2 ≤ dMc D ∧ w2 ≤ dMs D) (kk : ZW X E Q u2 w2 (pc + 3) ls (vI 1 :: rest) σ) : ZW X E Q u w pc ls (vI a :: vS :: rest) σ := by
  obtain ⟨rfl, rfl⟩ := h2
  obtain ⟨p, l, e, R, s, m, args, below, meth, c⟩ := X
  obtain ⟨own, cc, nL, rt, tb, k, mc, ms⟩ := D
  obtain ⟨hx, hb, hnl, hown, hts, hMW, hK, hret, hlocks, htab, htr, hRf, hRl, hRc, hRs⟩ := C
  intro H locs lsA hS hL
  have hE : E.1 = s.heap.size := hz
  have hEH : E.1 ≤ H.size := by rw [hE]; exact hS.1
  have hRf2 : k ≤ R.frames := hRf
  have hRl2 : 40 * k ≤ R.locals := hRl
  have hk2 : k9 + 1 ≤ k := hk
  have h21 : M.2.2.1 ≤ 21 := ho.2.2.2.2.2
  have hb1 : u + mdM M ≤ mc := hb9.1
  have hb2 : w + 6 * mdM M ≤ ms := hb9.2
  have hfr : (rm_of M k9).frames + 1 ≤ R.frames := Nat.le_trans hk2 hRf2
  have hlo : 8 + (M.2.2.1 + 11) + (rm_of M k9).locals ≤ R.locals := by show 8 + (M.2.2.1 + 11) + 40 * k9 ≤ R.locals; omega
  have hMW2 : MW (H.size, E.2) s := hMW.up hEH
  have hp : PreS s H (va_Pc ([vS, vI a].map (cv (H.size, E.2))) (kWd (H.size, E.2) (0, (fun _ _ => (0 : Int)), (fun _ _ => false)))) ([vS, vI a].map (cv (H.size, E.2))) := by
    refine ⟨kWd.blind, fun U hU hW => ⟨rfl, ⟨fun k q h => by simp [kw_ws] at h, ⟨fun i j p q h => by simp [kw_ws] at h, fun k q h => by simp [kw_ws] at h⟩, by rw [hU]; rfl⟩, va_K.moved hW.alike hK, ?_⟩⟩
    refine MW.mv hW (fun q h1 h2 => ?_) hMW2
    rw [hU]
    exact hS.2.1 q h1 (by rw [hE]; exact Nat.not_le.mpr h1)
  have hr := va_runS (e := e) (below := below) (meth := meth) (nL := nL) (rest := rest.map (cv E)) (Ts := LW) (own := own) ⟨hx, hb, hnl, hown, hts⟩ (hM H.size l htr) (n := 2) ⟨⟨rfl, rfl, hfr, hlo, sv_pay ho.1 hts, List.mem_cons_self, hts _ ho.1, hts _ ho.2.1, ho.2.2.1, sv_pars ho, hts _ hl⟩, hts _ hv⟩ hp (g := F0 m pc lsA ((vI a :: vS :: rest).map (cv E))) rfl rfl (hL.1.trans hnl) rfl (sv_room hrest) hd (locs := locs) (cells := u) (slots := w) ⟨Nat.le_trans hb1 hRc, Nat.le_trans hb2 hRs⟩
  intro T hT XX
  obtain ⟨v, st₀, t, T', L, h0, X', hL2, e1, e2, ⟨⟨o9, σ', hv9, ⟨r9, ho9, hr9⟩, -⟩, hF⟩, st⟩ := hr T hT XX
  subst ho9
  subst hr9
  cases hv9
  obtain ⟨-, -, k3⟩ := vx_keep h0 e1 hS (A1 := fun q => H.size ≤ q) (fun q _ h2 => Nat.le_trans hEH h2) (fun q h => Nat.le_trans hEH h) hL2 hF
  obtain ⟨t2, a1, b1⟩ := kk T'.heap (locs ++ L) lsA k3 hL T' rfl X'
  exact ⟨t2, st t2 a1, b1⟩
