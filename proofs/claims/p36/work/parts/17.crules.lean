/-! Call rules by kind. -/
abbrev PI (P : Int → sv_G → Prop) : Option sv_V → sv_G → Prop := fun o σ => ∃ r, o = some (vI r) ∧ P r σ
abbrev PL (P : Int → sv_G → Prop) : Option sv_V → sv_G → Prop := fun o σ => ∃ r, o = some (vL r) ∧ P r σ
abbrev PR (P : Nat → sv_G → Prop) : Option sv_V → sv_G → Prop := fun o σ => ∃ r, o = some (vR r) ∧ P r σ
abbrev PV (P : sv_G → Prop) : Option sv_V → sv_G → Prop := fun o σ => o = none ∧ P σ
theorem s_nameG {X : sx_T} {E : sv_E} {Q : State → Prop} {u w pc : Nat} {ls : List (Option sv_V)} {st : List sv_V} {σ : sv_G} (kk : ∀ τ : sv_G, τ = σ → SW X E Q u w pc ls st τ) : SW X E Q u w pc ls st σ := kk σ rfl
theorem s_cN0i {X : sx_T} {E : sv_E} {D : sd_T} {Q : State → Prop} {u w pc : Nat} {ls : List (Option sv_V)} {σ : sv_G} {M : md_T} {idx k9 a c9 : Nat} {rest : List sv_V} {P : Int → sv_G → Prop} (C : sx_ok X E D) (hd : decode D.2.1 pc = .ok (.invokevirtual idx, 3)) (hl : ∃ h, Cond.methodLinkNest D.1 idx M.1 h ∈ NW) (ho : mo M 0) (hv : mov M) (hM : CT E M k9 [vR a] σ (PI P)) (ha : shp a = (c9, 0)) (hc : ∃ T N, vwCl[c9]? = some (M.1.cls, T, N)) (hk : k9 + 1 ≤ dK D) (hrest : rw8 rest ≤ 8) (h0 : mdM M = 0) (hb9 : u ≤ dMc D ∧ w ≤ dMs D) (kk : ∀ r9 σ9, P r9 σ9 → SW X E Q u w (pc + 3) ls (vI r9 :: rest) σ9) : SW X E Q u w pc ls (vR a :: rest) σ := by
  exact s_cN (as9 := []) (rest := rest) C hd hl ho hv hM ha hc rfl hk hrest (by rw [h0]; exact hb9) (fun o9 σ9 h9 => by
    obtain ⟨r9, rfl, h9⟩ := h9
    rw [h0]
    exact kk r9 σ9 h9)
theorem s_cN0l {X : sx_T} {E : sv_E} {D : sd_T} {Q : State → Prop} {u w pc : Nat} {ls : List (Option sv_V)} {σ : sv_G} {M : md_T} {idx k9 a c9 : Nat} {rest : List sv_V} {P : Int → sv_G → Prop} (C : sx_ok X E D) (hd : decode D.2.1 pc = .ok (.invokevirtual idx, 3)) (hl : ∃ h, Cond.methodLinkNest D.1 idx M.1 h ∈ NW) (ho : mo M 0) (hv : mov M) (hM : CT E M k9 [vR a] σ (PL P)) (ha : shp a = (c9, 0)) (hc : ∃ T N, vwCl[c9]? = some (M.1.cls, T, N)) (hk : k9 + 1 ≤ dK D) (hrest : rw8 rest ≤ 8) (h0 : mdM M = 0) (hb9 : u ≤ dMc D ∧ w ≤ dMs D) (kk : ∀ r9 σ9, P r9 σ9 → SW X E Q u w (pc + 3) ls (vL r9 :: rest) σ9) : SW X E Q u w pc ls (vR a :: rest) σ := by
  exact s_cN (as9 := []) (rest := rest) C hd hl ho hv hM ha hc rfl hk hrest (by rw [h0]; exact hb9) (fun o9 σ9 h9 => by
    obtain ⟨r9, rfl, h9⟩ := h9
    rw [h0]
    exact kk r9 σ9 h9)
theorem s_cN0v {X : sx_T} {E : sv_E} {D : sd_T} {Q : State → Prop} {u w pc : Nat} {ls : List (Option sv_V)} {σ : sv_G} {M : md_T} {idx k9 a c9 : Nat} {rest : List sv_V} {P : sv_G → Prop} (C : sx_ok X E D) (hd : decode D.2.1 pc = .ok (.invokevirtual idx, 3)) (hl : ∃ h, Cond.methodLinkNest D.1 idx M.1 h ∈ NW) (ho : mo M 0) (hv : mov M) (hM : CT E M k9 [vR a] σ (PV P)) (ha : shp a = (c9, 0)) (hc : ∃ T N, vwCl[c9]? = some (M.1.cls, T, N)) (hk : k9 + 1 ≤ dK D) (hrest : rw8 rest ≤ 8) (h0 : mdM M = 0) (hb9 : u ≤ dMc D ∧ w ≤ dMs D) (kk : ∀ σ9, P σ9 → SW X E Q u w (pc + 3) ls rest σ9) : SW X E Q u w pc ls (vR a :: rest) σ := by
  exact s_cN (as9 := []) (rest := rest) C hd hl ho hv hM ha hc rfl hk hrest (by rw [h0]; exact hb9) (fun o9 σ9 h9 => by
    obtain ⟨rfl, h9⟩ := h9
    rw [h0]
    exact kk σ9 h9)
theorem s_cN1i {X : sx_T} {E : sv_E} {D : sd_T} {Q : State → Prop} {u w pc : Nat} {ls : List (Option sv_V)} {σ : sv_G} {M : md_T} {idx k9 a c9 : Nat} {v1 : sv_V} {rest : List sv_V} {P : Int → sv_G → Prop} (C : sx_ok X E D) (hd : decode D.2.1 pc = .ok (.invokevirtual idx, 3)) (hl : ∃ h, Cond.methodLinkNest D.1 idx M.1 h ∈ NW) (ho : mo M 1) (hv : mov M) (hM : CT E M k9 [vR a, v1] σ (PI P)) (ha : shp a = (c9, 0)) (hc : ∃ T N, vwCl[c9]? = some (M.1.cls, T, N)) (hk : k9 + 1 ≤ dK D) (hrest : rw8 rest ≤ 8) (h0 : mdM M = 0) (hb9 : u ≤ dMc D ∧ w ≤ dMs D) (kk : ∀ r9 σ9, P r9 σ9 → SW X E Q u w (pc + 3) ls (vI r9 :: rest) σ9) : SW X E Q u w pc ls (v1 :: vR a :: rest) σ := by
  exact s_cN (as9 := [v1]) (rest := rest) C hd hl ho hv hM ha hc rfl hk hrest (by rw [h0]; exact hb9) (fun o9 σ9 h9 => by
    obtain ⟨r9, rfl, h9⟩ := h9
    rw [h0]
    exact kk r9 σ9 h9)
theorem s_cN1l {X : sx_T} {E : sv_E} {D : sd_T} {Q : State → Prop} {u w pc : Nat} {ls : List (Option sv_V)} {σ : sv_G} {M : md_T} {idx k9 a c9 : Nat} {v1 : sv_V} {rest : List sv_V} {P : Int → sv_G → Prop} (C : sx_ok X E D) (hd : decode D.2.1 pc = .ok (.invokevirtual idx, 3)) (hl : ∃ h, Cond.methodLinkNest D.1 idx M.1 h ∈ NW) (ho : mo M 1) (hv : mov M) (hM : CT E M k9 [vR a, v1] σ (PL P)) (ha : shp a = (c9, 0)) (hc : ∃ T N, vwCl[c9]? = some (M.1.cls, T, N)) (hk : k9 + 1 ≤ dK D) (hrest : rw8 rest ≤ 8) (h0 : mdM M = 0) (hb9 : u ≤ dMc D ∧ w ≤ dMs D) (kk : ∀ r9 σ9, P r9 σ9 → SW X E Q u w (pc + 3) ls (vL r9 :: rest) σ9) : SW X E Q u w pc ls (v1 :: vR a :: rest) σ := by
  exact s_cN (as9 := [v1]) (rest := rest) C hd hl ho hv hM ha hc rfl hk hrest (by rw [h0]; exact hb9) (fun o9 σ9 h9 => by
    obtain ⟨r9, rfl, h9⟩ := h9
    rw [h0]
    exact kk r9 σ9 h9)
theorem s_cN1v {X : sx_T} {E : sv_E} {D : sd_T} {Q : State → Prop} {u w pc : Nat} {ls : List (Option sv_V)} {σ : sv_G} {M : md_T} {idx k9 a c9 : Nat} {v1 : sv_V} {rest : List sv_V} {P : sv_G → Prop} (C : sx_ok X E D) (hd : decode D.2.1 pc = .ok (.invokevirtual idx, 3)) (hl : ∃ h, Cond.methodLinkNest D.1 idx M.1 h ∈ NW) (ho : mo M 1) (hv : mov M) (hM : CT E M k9 [vR a, v1] σ (PV P)) (ha : shp a = (c9, 0)) (hc : ∃ T N, vwCl[c9]? = some (M.1.cls, T, N)) (hk : k9 + 1 ≤ dK D) (hrest : rw8 rest ≤ 8) (h0 : mdM M = 0) (hb9 : u ≤ dMc D ∧ w ≤ dMs D) (kk : ∀ σ9, P σ9 → SW X E Q u w (pc + 3) ls rest σ9) : SW X E Q u w pc ls (v1 :: vR a :: rest) σ := by
  exact s_cN (as9 := [v1]) (rest := rest) C hd hl ho hv hM ha hc rfl hk hrest (by rw [h0]; exact hb9) (fun o9 σ9 h9 => by
    obtain ⟨rfl, h9⟩ := h9
    rw [h0]
    exact kk σ9 h9)
theorem s_cN2i {X : sx_T} {E : sv_E} {D : sd_T} {Q : State → Prop} {u w pc : Nat} {ls : List (Option sv_V)} {σ : sv_G} {M : md_T} {idx k9 a c9 : Nat} {v1 v2 : sv_V} {rest : List sv_V} {P : Int → sv_G → Prop} (C : sx_ok X E D) (hd : decode D.2.1 pc = .ok (.invokevirtual idx, 3)) (hl : ∃ h, Cond.methodLinkNest D.1 idx M.1 h ∈ NW) (ho : mo M 2) (hv : mov M) (hM : CT E M k9 [vR a, v1, v2] σ (PI P)) (ha : shp a = (c9, 0)) (hc : ∃ T N, vwCl[c9]? = some (M.1.cls, T, N)) (hk : k9 + 1 ≤ dK D) (hrest : rw8 rest ≤ 8) (h0 : mdM M = 0) (hb9 : u ≤ dMc D ∧ w ≤ dMs D) (kk : ∀ r9 σ9, P r9 σ9 → SW X E Q u w (pc + 3) ls (vI r9 :: rest) σ9) : SW X E Q u w pc ls (v2 :: v1 :: vR a :: rest) σ := by
  exact s_cN (as9 := [v1, v2]) (rest := rest) C hd hl ho hv hM ha hc rfl hk hrest (by rw [h0]; exact hb9) (fun o9 σ9 h9 => by
    obtain ⟨r9, rfl, h9⟩ := h9
    rw [h0]
    exact kk r9 σ9 h9)
theorem s_cN2v {X : sx_T} {E : sv_E} {D : sd_T} {Q : State → Prop} {u w pc : Nat} {ls : List (Option sv_V)} {σ : sv_G} {M : md_T} {idx k9 a c9 : Nat} {v1 v2 : sv_V} {rest : List sv_V} {P : sv_G → Prop} (C : sx_ok X E D) (hd : decode D.2.1 pc = .ok (.invokevirtual idx, 3)) (hl : ∃ h, Cond.methodLinkNest D.1 idx M.1 h ∈ NW) (ho : mo M 2) (hv : mov M) (hM : CT E M k9 [vR a, v1, v2] σ (PV P)) (ha : shp a = (c9, 0)) (hc : ∃ T N, vwCl[c9]? = some (M.1.cls, T, N)) (hk : k9 + 1 ≤ dK D) (hrest : rw8 rest ≤ 8) (h0 : mdM M = 0) (hb9 : u ≤ dMc D ∧ w ≤ dMs D) (kk : ∀ σ9, P σ9 → SW X E Q u w (pc + 3) ls rest σ9) : SW X E Q u w pc ls (v2 :: v1 :: vR a :: rest) σ := by
  exact s_cN (as9 := [v1, v2]) (rest := rest) C hd hl ho hv hM ha hc rfl hk hrest (by rw [h0]; exact hb9) (fun o9 σ9 h9 => by
    obtain ⟨rfl, h9⟩ := h9
    rw [h0]
    exact kk σ9 h9)
theorem s_cN3i {X : sx_T} {E : sv_E} {D : sd_T} {Q : State → Prop} {u w pc : Nat} {ls : List (Option sv_V)} {σ : sv_G} {M : md_T} {idx k9 a c9 : Nat} {v1 v2 v3 : sv_V} {rest : List sv_V} {P : Int → sv_G → Prop} (C : sx_ok X E D) (hd : decode D.2.1 pc = .ok (.invokevirtual idx, 3)) (hl : ∃ h, Cond.methodLinkNest D.1 idx M.1 h ∈ NW) (ho : mo M 3) (hv : mov M) (hM : CT E M k9 [vR a, v1, v2, v3] σ (PI P)) (ha : shp a = (c9, 0)) (hc : ∃ T N, vwCl[c9]? = some (M.1.cls, T, N)) (hk : k9 + 1 ≤ dK D) (hrest : rw8 rest ≤ 8) (h0 : mdM M = 0) (hb9 : u ≤ dMc D ∧ w ≤ dMs D) (kk : ∀ r9 σ9, P r9 σ9 → SW X E Q u w (pc + 3) ls (vI r9 :: rest) σ9) : SW X E Q u w pc ls (v3 :: v2 :: v1 :: vR a :: rest) σ := by
  exact s_cN (as9 := [v1, v2, v3]) (rest := rest) C hd hl ho hv hM ha hc rfl hk hrest (by rw [h0]; exact hb9) (fun o9 σ9 h9 => by
    obtain ⟨r9, rfl, h9⟩ := h9
    rw [h0]
    exact kk r9 σ9 h9)
theorem s_cN3v {X : sx_T} {E : sv_E} {D : sd_T} {Q : State → Prop} {u w pc : Nat} {ls : List (Option sv_V)} {σ : sv_G} {M : md_T} {idx k9 a c9 : Nat} {v1 v2 v3 : sv_V} {rest : List sv_V} {P : sv_G → Prop} (C : sx_ok X E D) (hd : decode D.2.1 pc = .ok (.invokevirtual idx, 3)) (hl : ∃ h, Cond.methodLinkNest D.1 idx M.1 h ∈ NW) (ho : mo M 3) (hv : mov M) (hM : CT E M k9 [vR a, v1, v2, v3] σ (PV P)) (ha : shp a = (c9, 0)) (hc : ∃ T N, vwCl[c9]? = some (M.1.cls, T, N)) (hk : k9 + 1 ≤ dK D) (hrest : rw8 rest ≤ 8) (h0 : mdM M = 0) (hb9 : u ≤ dMc D ∧ w ≤ dMs D) (kk : ∀ σ9, P σ9 → SW X E Q u w (pc + 3) ls rest σ9) : SW X E Q u w pc ls (v3 :: v2 :: v1 :: vR a :: rest) σ := by
  exact s_cN (as9 := [v1, v2, v3]) (rest := rest) C hd hl ho hv hM ha hc rfl hk hrest (by rw [h0]; exact hb9) (fun o9 σ9 h9 => by
    obtain ⟨rfl, h9⟩ := h9
    rw [h0]
    exact kk σ9 h9)
theorem s_cN4i {X : sx_T} {E : sv_E} {D : sd_T} {Q : State → Prop} {u w pc : Nat} {ls : List (Option sv_V)} {σ : sv_G} {M : md_T} {idx k9 a c9 : Nat} {v1 v2 v3 v4 : sv_V} {rest : List sv_V} {P : Int → sv_G → Prop} (C : sx_ok X E D) (hd : decode D.2.1 pc = .ok (.invokevirtual idx, 3)) (hl : ∃ h, Cond.methodLinkNest D.1 idx M.1 h ∈ NW) (ho : mo M 4) (hv : mov M) (hM : CT E M k9 [vR a, v1, v2, v3, v4] σ (PI P)) (ha : shp a = (c9, 0)) (hc : ∃ T N, vwCl[c9]? = some (M.1.cls, T, N)) (hk : k9 + 1 ≤ dK D) (hrest : rw8 rest ≤ 8) (h0 : mdM M = 0) (hb9 : u ≤ dMc D ∧ w ≤ dMs D) (kk : ∀ r9 σ9, P r9 σ9 → SW X E Q u w (pc + 3) ls (vI r9 :: rest) σ9) : SW X E Q u w pc ls (v4 :: v3 :: v2 :: v1 :: vR a :: rest) σ := by
  exact s_cN (as9 := [v1, v2, v3, v4]) (rest := rest) C hd hl ho hv hM ha hc rfl hk hrest (by rw [h0]; exact hb9) (fun o9 σ9 h9 => by
    obtain ⟨r9, rfl, h9⟩ := h9
    rw [h0]
    exact kk r9 σ9 h9)
theorem s_cN4v {X : sx_T} {E : sv_E} {D : sd_T} {Q : State → Prop} {u w pc : Nat} {ls : List (Option sv_V)} {σ : sv_G} {M : md_T} {idx k9 a c9 : Nat} {v1 v2 v3 v4 : sv_V} {rest : List sv_V} {P : sv_G → Prop} (C : sx_ok X E D) (hd : decode D.2.1 pc = .ok (.invokevirtual idx, 3)) (hl : ∃ h, Cond.methodLinkNest D.1 idx M.1 h ∈ NW) (ho : mo M 4) (hv : mov M) (hM : CT E M k9 [vR a, v1, v2, v3, v4] σ (PV P)) (ha : shp a = (c9, 0)) (hc : ∃ T N, vwCl[c9]? = some (M.1.cls, T, N)) (hk : k9 + 1 ≤ dK D) (hrest : rw8 rest ≤ 8) (h0 : mdM M = 0) (hb9 : u ≤ dMc D ∧ w ≤ dMs D) (kk : ∀ σ9, P σ9 → SW X E Q u w (pc + 3) ls rest σ9) : SW X E Q u w pc ls (v4 :: v3 :: v2 :: v1 :: vR a :: rest) σ := by
  exact s_cN (as9 := [v1, v2, v3, v4]) (rest := rest) C hd hl ho hv hM ha hc rfl hk hrest (by rw [h0]; exact hb9) (fun o9 σ9 h9 => by
    obtain ⟨rfl, h9⟩ := h9
    rw [h0]
    exact kk σ9 h9)
theorem s_cS2i {X : sx_T} {E : sv_E} {D : sd_T} {Q : State → Prop} {u w pc : Nat} {ls : List (Option sv_V)} {σ : sv_G} {M : md_T} {idx k9 : Nat} {v1 v2 : sv_V} {rest : List sv_V} {P : Int → sv_G → Prop} (C : sx_ok X E D) (hd : decode D.2.1 pc = .ok (.invokestatic idx, 3)) (hl : Cond.methodLink D.1 idx M.1 ∈ LW) (ho : mo M 2) (hv : mos M) (hM : CT E M k9 [v1, v2] σ (PI P)) (hk : k9 + 1 ≤ dK D) (hrest : rw8 rest ≤ 8) (h0 : mdM M = 0) (hb9 : u ≤ dMc D ∧ w ≤ dMs D) (kk : ∀ r9 σ9, P r9 σ9 → SW X E Q u w (pc + 3) ls (vI r9 :: rest) σ9) : SW X E Q u w pc ls (v2 :: v1 :: rest) σ := by
  exact s_cS (as9 := [v1, v2]) (rest := rest) C hd hl ho hv hM rfl hk hrest (by rw [h0]; exact hb9) (fun o9 σ9 h9 => by
    obtain ⟨r9, rfl, h9⟩ := h9
    rw [h0]
    exact kk r9 σ9 h9)
theorem s_cS2l {X : sx_T} {E : sv_E} {D : sd_T} {Q : State → Prop} {u w pc : Nat} {ls : List (Option sv_V)} {σ : sv_G} {M : md_T} {idx k9 : Nat} {v1 v2 : sv_V} {rest : List sv_V} {P : Int → sv_G → Prop} (C : sx_ok X E D) (hd : decode D.2.1 pc = .ok (.invokestatic idx, 3)) (hl : Cond.methodLink D.1 idx M.1 ∈ LW) (ho : mo M 2) (hv : mos M) (hM : CT E M k9 [v1, v2] σ (PL P)) (hk : k9 + 1 ≤ dK D) (hrest : rw8 rest ≤ 8) (h0 : mdM M = 0) (hb9 : u ≤ dMc D ∧ w ≤ dMs D) (kk : ∀ r9 σ9, P r9 σ9 → SW X E Q u w (pc + 3) ls (vL r9 :: rest) σ9) : SW X E Q u w pc ls (v2 :: v1 :: rest) σ := by
  exact s_cS (as9 := [v1, v2]) (rest := rest) C hd hl ho hv hM rfl hk hrest (by rw [h0]; exact hb9) (fun o9 σ9 h9 => by
    obtain ⟨r9, rfl, h9⟩ := h9
    rw [h0]
    exact kk r9 σ9 h9)
theorem s_cS2v {X : sx_T} {E : sv_E} {D : sd_T} {Q : State → Prop} {u w pc : Nat} {ls : List (Option sv_V)} {σ : sv_G} {M : md_T} {idx k9 : Nat} {v1 v2 : sv_V} {rest : List sv_V} {P : sv_G → Prop} (C : sx_ok X E D) (hd : decode D.2.1 pc = .ok (.invokestatic idx, 3)) (hl : Cond.methodLink D.1 idx M.1 ∈ LW) (ho : mo M 2) (hv : mos M) (hM : CT E M k9 [v1, v2] σ (PV P)) (hk : k9 + 1 ≤ dK D) (hrest : rw8 rest ≤ 8) (h0 : mdM M = 0) (hb9 : u ≤ dMc D ∧ w ≤ dMs D) (kk : ∀ σ9, P σ9 → SW X E Q u w (pc + 3) ls rest σ9) : SW X E Q u w pc ls (v2 :: v1 :: rest) σ := by
  exact s_cS (as9 := [v1, v2]) (rest := rest) C hd hl ho hv hM rfl hk hrest (by rw [h0]; exact hb9) (fun o9 σ9 h9 => by
    obtain ⟨rfl, h9⟩ := h9
    rw [h0]
    exact kk σ9 h9)
theorem s_cS3i {X : sx_T} {E : sv_E} {D : sd_T} {Q : State → Prop} {u w pc : Nat} {ls : List (Option sv_V)} {σ : sv_G} {M : md_T} {idx k9 : Nat} {v1 v2 v3 : sv_V} {rest : List sv_V} {P : Int → sv_G → Prop} (C : sx_ok X E D) (hd : decode D.2.1 pc = .ok (.invokestatic idx, 3)) (hl : Cond.methodLink D.1 idx M.1 ∈ LW) (ho : mo M 3) (hv : mos M) (hM : CT E M k9 [v1, v2, v3] σ (PI P)) (hk : k9 + 1 ≤ dK D) (hrest : rw8 rest ≤ 8) (h0 : mdM M = 0) (hb9 : u ≤ dMc D ∧ w ≤ dMs D) (kk : ∀ r9 σ9, P r9 σ9 → SW X E Q u w (pc + 3) ls (vI r9 :: rest) σ9) : SW X E Q u w pc ls (v3 :: v2 :: v1 :: rest) σ := by
  exact s_cS (as9 := [v1, v2, v3]) (rest := rest) C hd hl ho hv hM rfl hk hrest (by rw [h0]; exact hb9) (fun o9 σ9 h9 => by
    obtain ⟨r9, rfl, h9⟩ := h9
    rw [h0]
    exact kk r9 σ9 h9)
theorem s_cS4i {X : sx_T} {E : sv_E} {D : sd_T} {Q : State → Prop} {u w pc : Nat} {ls : List (Option sv_V)} {σ : sv_G} {M : md_T} {idx k9 : Nat} {v1 v2 v3 v4 : sv_V} {rest : List sv_V} {P : Int → sv_G → Prop} (C : sx_ok X E D) (hd : decode D.2.1 pc = .ok (.invokestatic idx, 3)) (hl : Cond.methodLink D.1 idx M.1 ∈ LW) (ho : mo M 4) (hv : mos M) (hM : CT E M k9 [v1, v2, v3, v4] σ (PI P)) (hk : k9 + 1 ≤ dK D) (hrest : rw8 rest ≤ 8) (h0 : mdM M = 0) (hb9 : u ≤ dMc D ∧ w ≤ dMs D) (kk : ∀ r9 σ9, P r9 σ9 → SW X E Q u w (pc + 3) ls (vI r9 :: rest) σ9) : SW X E Q u w pc ls (v4 :: v3 :: v2 :: v1 :: rest) σ := by
  exact s_cS (as9 := [v1, v2, v3, v4]) (rest := rest) C hd hl ho hv hM rfl hk hrest (by rw [h0]; exact hb9) (fun o9 σ9 h9 => by
    obtain ⟨r9, rfl, h9⟩ := h9
    rw [h0]
    exact kk r9 σ9 h9)
theorem s_cS5i {X : sx_T} {E : sv_E} {D : sd_T} {Q : State → Prop} {u w pc : Nat} {ls : List (Option sv_V)} {σ : sv_G} {M : md_T} {idx k9 : Nat} {v1 v2 v3 v4 v5 : sv_V} {rest : List sv_V} {P : Int → sv_G → Prop} (C : sx_ok X E D) (hd : decode D.2.1 pc = .ok (.invokestatic idx, 3)) (hl : Cond.methodLink D.1 idx M.1 ∈ LW) (ho : mo M 5) (hv : mos M) (hM : CT E M k9 [v1, v2, v3, v4, v5] σ (PI P)) (hk : k9 + 1 ≤ dK D) (hrest : rw8 rest ≤ 8) (h0 : mdM M = 0) (hb9 : u ≤ dMc D ∧ w ≤ dMs D) (kk : ∀ r9 σ9, P r9 σ9 → SW X E Q u w (pc + 3) ls (vI r9 :: rest) σ9) : SW X E Q u w pc ls (v5 :: v4 :: v3 :: v2 :: v1 :: rest) σ := by
  exact s_cS (as9 := [v1, v2, v3, v4, v5]) (rest := rest) C hd hl ho hv hM rfl hk hrest (by rw [h0]; exact hb9) (fun o9 σ9 h9 => by
    obtain ⟨r9, rfl, h9⟩ := h9
    rw [h0]
    exact kk r9 σ9 h9)
theorem s_cS6i {X : sx_T} {E : sv_E} {D : sd_T} {Q : State → Prop} {u w pc : Nat} {ls : List (Option sv_V)} {σ : sv_G} {M : md_T} {idx k9 : Nat} {v1 v2 v3 v4 v5 v6 : sv_V} {rest : List sv_V} {P : Int → sv_G → Prop} (C : sx_ok X E D) (hd : decode D.2.1 pc = .ok (.invokestatic idx, 3)) (hl : Cond.methodLink D.1 idx M.1 ∈ LW) (ho : mo M 6) (hv : mos M) (hM : CT E M k9 [v1, v2, v3, v4, v5, v6] σ (PI P)) (hk : k9 + 1 ≤ dK D) (hrest : rw8 rest ≤ 8) (h0 : mdM M = 0) (hb9 : u ≤ dMc D ∧ w ≤ dMs D) (kk : ∀ r9 σ9, P r9 σ9 → SW X E Q u w (pc + 3) ls (vI r9 :: rest) σ9) : SW X E Q u w pc ls (v6 :: v5 :: v4 :: v3 :: v2 :: v1 :: rest) σ := by
  exact s_cS (as9 := [v1, v2, v3, v4, v5, v6]) (rest := rest) C hd hl ho hv hM rfl hk hrest (by rw [h0]; exact hb9) (fun o9 σ9 h9 => by
    obtain ⟨r9, rfl, h9⟩ := h9
    rw [h0]
    exact kk r9 σ9 h9)
theorem s_cW7i {X : sx_T} {E : sv_E} {D : sd_T} {Q : State → Prop} {u w pc : Nat} {ls : List (Option sv_V)} {σ : sv_G} {M : md_T} {hh : List (Nat × Nat × Nat × Nat)} {idx k9 u2 w2 : Nat} {v1 v2 v3 v4 v5 v6 v7 : sv_V} {rest : List sv_V} {P : Int → sv_G → Prop} (C : sx_ok X E D) (hd : decode D.2.1 pc = .ok (.invokestatic idx, 3)) (hl : Cond.methodLink D.1 idx M.1 ∈ LW) (ho : mw M hh 7) (hv : mos M) (hM : CW E M hh k9 [v1, v2, v3, v4, v5, v6, v7] σ (PI P)) (hk : k9 + 1 ≤ dK D) (hrest : rw8 rest ≤ 8) (h2 : u + mdM M = u2 ∧ w + 6 * mdM M = w2) (hb9 : u2 ≤ dMc D ∧ w2 ≤ dMs D) (kk : ∀ r9 σ9, P r9 σ9 → SW X E Q u2 w2 (pc + 3) ls (vI r9 :: rest) σ9) : SW X E Q u w pc ls (v7 :: v6 :: v5 :: v4 :: v3 :: v2 :: v1 :: rest) σ := by
  obtain ⟨rfl, rfl⟩ := h2
  exact s_cW (as9 := [v1, v2, v3, v4, v5, v6, v7]) (rest := rest) C hd hl ho hv hM rfl hk hrest hb9 (fun o9 σ9 h9 => by
    obtain ⟨r9, rfl, h9⟩ := h9
    exact kk r9 σ9 h9)
theorem sx_cS1v {X : sx_T} {E : sv_E} {D : sd_T} {Q : State → Prop} {u w pc : Nat} {ls : List (Option sv_V)} {σ : sv_G} {M : md_T} {idx k9 u2 w2 : Nat} {v1 : sv_V} {rest : List sv_V} {P : sv_G → Prop} {PX PX0 : String → sv_G → Prop} {mc9 : Nat} (C : sx_ok X E D) (hd : decode D.2.1 pc = .ok (.invokestatic idx, 3)) (hl : Cond.methodLink D.1 idx M.1 ∈ LW) (ho : mo M 1) (hv : mos M) (hM : CX E M k9 [v1] σ (PV P) PX) (hk : k9 + 1 ≤ dK D) (hrest : rw8 rest ≤ 8) (h2 : u + mdM M = u2 ∧ w + 6 * mdM M = w2) (hb9 : u2 ≤ dMc D ∧ w2 ≤ dMs D) (hQ : QT X E Q mc9 PX0) (htb : dTb D = []) (hb8 : u2 ≤ mc9 ∧ w2 ≤ 6 * mc9) (hpx : ∀ En σ9, PX En σ9 → PX0 En σ9) (kk : ∀ σ9, P σ9 → SW X E Q u2 w2 (pc + 3) ls rest σ9) : SW X E Q u w pc ls (v1 :: rest) σ := by
  obtain ⟨rfl, rfl⟩ := h2
  exact sx_cS (as9 := [v1]) (rest := rest) C hd hl ho hv hM rfl hk hrest hb9 hQ htb hb8 hpx (fun o9 σ9 h9 => by
    obtain ⟨rfl, h9⟩ := h9
    exact kk σ9 h9)
theorem sx_cS2r {X : sx_T} {E : sv_E} {D : sd_T} {Q : State → Prop} {u w pc : Nat} {ls : List (Option sv_V)} {σ : sv_G} {M : md_T} {idx k9 u2 w2 : Nat} {v1 v2 : sv_V} {rest : List sv_V} {P : Nat → sv_G → Prop} {PX PX0 : String → sv_G → Prop} {mc9 : Nat} (C : sx_ok X E D) (hd : decode D.2.1 pc = .ok (.invokestatic idx, 3)) (hl : Cond.methodLink D.1 idx M.1 ∈ LW) (ho : mo M 2) (hv : mos M) (hM : CX E M k9 [v1, v2] σ (PR P) PX) (hk : k9 + 1 ≤ dK D) (hrest : rw8 rest ≤ 8) (h2 : u + mdM M = u2 ∧ w + 6 * mdM M = w2) (hb9 : u2 ≤ dMc D ∧ w2 ≤ dMs D) (hQ : QT X E Q mc9 PX0) (htb : dTb D = []) (hb8 : u2 ≤ mc9 ∧ w2 ≤ 6 * mc9) (hpx : ∀ En σ9, PX En σ9 → PX0 En σ9) (kk : ∀ r9 σ9, P r9 σ9 → SW X E Q u2 w2 (pc + 3) ls (vR r9 :: rest) σ9) : SW X E Q u w pc ls (v2 :: v1 :: rest) σ := by
  obtain ⟨rfl, rfl⟩ := h2
  exact sx_cS (as9 := [v1, v2]) (rest := rest) C hd hl ho hv hM rfl hk hrest hb9 hQ htb hb8 hpx (fun o9 σ9 h9 => by
    obtain ⟨r9, rfl, h9⟩ := h9
    exact kk r9 σ9 h9)
theorem sx_cS3v {X : sx_T} {E : sv_E} {D : sd_T} {Q : State → Prop} {u w pc : Nat} {ls : List (Option sv_V)} {σ : sv_G} {M : md_T} {idx k9 u2 w2 : Nat} {v1 v2 v3 : sv_V} {rest : List sv_V} {P : sv_G → Prop} {PX PX0 : String → sv_G → Prop} {mc9 : Nat} (C : sx_ok X E D) (hd : decode D.2.1 pc = .ok (.invokestatic idx, 3)) (hl : Cond.methodLink D.1 idx M.1 ∈ LW) (ho : mo M 3) (hv : mos M) (hM : CX E M k9 [v1, v2, v3] σ (PV P) PX) (hk : k9 + 1 ≤ dK D) (hrest : rw8 rest ≤ 8) (h2 : u + mdM M = u2 ∧ w + 6 * mdM M = w2) (hb9 : u2 ≤ dMc D ∧ w2 ≤ dMs D) (hQ : QT X E Q mc9 PX0) (htb : dTb D = []) (hb8 : u2 ≤ mc9 ∧ w2 ≤ 6 * mc9) (hpx : ∀ En σ9, PX En σ9 → PX0 En σ9) (kk : ∀ σ9, P σ9 → SW X E Q u2 w2 (pc + 3) ls rest σ9) : SW X E Q u w pc ls (v3 :: v2 :: v1 :: rest) σ := by
  obtain ⟨rfl, rfl⟩ := h2
  exact sx_cS (as9 := [v1, v2, v3]) (rest := rest) C hd hl ho hv hM rfl hk hrest hb9 hQ htb hb8 hpx (fun o9 σ9 h9 => by
    obtain ⟨rfl, h9⟩ := h9
    exact kk σ9 h9)
theorem s_cV0i {X : sx_T} {E : sv_E} {D : sd_T} {Q : State → Prop} {u w pc : Nat} {ls : List (Option sv_V)} {σ : sv_G} {M : md_T} {idx k9 a c9 : Nat} {rest : List sv_V} {P : Int → sv_G → Prop} (C : sx_ok X E D) (hd : decode D.2.1 pc = .ok (.invokevirtual idx, 3)) (hl : Cond.methodLink D.1 idx M.1 ∈ LW) (ho : mo M 0) (hv : mov M) (hM : CT E M k9 [vR a] σ (PI P)) (ha : shp a = (c9, 0)) (hc : ∃ T N, vwCl[c9]? = some (M.1.cls, T, N)) (hk : k9 + 1 ≤ dK D) (hrest : rw8 rest ≤ 8) (h0 : mdM M = 0) (hb9 : u ≤ dMc D ∧ w ≤ dMs D) (kk : ∀ r9 σ9, P r9 σ9 → SW X E Q u w (pc + 3) ls (vI r9 :: rest) σ9) : SW X E Q u w pc ls (vR a :: rest) σ := by
  exact s_cV (as9 := []) (rest := rest) C hd hl ho hv hM ha hc rfl hk hrest (by rw [h0]; exact hb9) (fun o9 σ9 h9 => by
    obtain ⟨r9, rfl, h9⟩ := h9
    rw [h0]
    exact kk r9 σ9 h9)
theorem s_cV0l {X : sx_T} {E : sv_E} {D : sd_T} {Q : State → Prop} {u w pc : Nat} {ls : List (Option sv_V)} {σ : sv_G} {M : md_T} {idx k9 a c9 : Nat} {rest : List sv_V} {P : Int → sv_G → Prop} (C : sx_ok X E D) (hd : decode D.2.1 pc = .ok (.invokevirtual idx, 3)) (hl : Cond.methodLink D.1 idx M.1 ∈ LW) (ho : mo M 0) (hv : mov M) (hM : CT E M k9 [vR a] σ (PL P)) (ha : shp a = (c9, 0)) (hc : ∃ T N, vwCl[c9]? = some (M.1.cls, T, N)) (hk : k9 + 1 ≤ dK D) (hrest : rw8 rest ≤ 8) (h0 : mdM M = 0) (hb9 : u ≤ dMc D ∧ w ≤ dMs D) (kk : ∀ r9 σ9, P r9 σ9 → SW X E Q u w (pc + 3) ls (vL r9 :: rest) σ9) : SW X E Q u w pc ls (vR a :: rest) σ := by
  exact s_cV (as9 := []) (rest := rest) C hd hl ho hv hM ha hc rfl hk hrest (by rw [h0]; exact hb9) (fun o9 σ9 h9 => by
    obtain ⟨r9, rfl, h9⟩ := h9
    rw [h0]
    exact kk r9 σ9 h9)
theorem s_cV0v {X : sx_T} {E : sv_E} {D : sd_T} {Q : State → Prop} {u w pc : Nat} {ls : List (Option sv_V)} {σ : sv_G} {M : md_T} {idx k9 a c9 : Nat} {rest : List sv_V} {P : sv_G → Prop} (C : sx_ok X E D) (hd : decode D.2.1 pc = .ok (.invokevirtual idx, 3)) (hl : Cond.methodLink D.1 idx M.1 ∈ LW) (ho : mo M 0) (hv : mov M) (hM : CT E M k9 [vR a] σ (PV P)) (ha : shp a = (c9, 0)) (hc : ∃ T N, vwCl[c9]? = some (M.1.cls, T, N)) (hk : k9 + 1 ≤ dK D) (hrest : rw8 rest ≤ 8) (h0 : mdM M = 0) (hb9 : u ≤ dMc D ∧ w ≤ dMs D) (kk : ∀ σ9, P σ9 → SW X E Q u w (pc + 3) ls rest σ9) : SW X E Q u w pc ls (vR a :: rest) σ := by
  exact s_cV (as9 := []) (rest := rest) C hd hl ho hv hM ha hc rfl hk hrest (by rw [h0]; exact hb9) (fun o9 σ9 h9 => by
    obtain ⟨rfl, h9⟩ := h9
    rw [h0]
    exact kk σ9 h9)
theorem s_cV1i {X : sx_T} {E : sv_E} {D : sd_T} {Q : State → Prop} {u w pc : Nat} {ls : List (Option sv_V)} {σ : sv_G} {M : md_T} {idx k9 a c9 : Nat} {v1 : sv_V} {rest : List sv_V} {P : Int → sv_G → Prop} (C : sx_ok X E D) (hd : decode D.2.1 pc = .ok (.invokevirtual idx, 3)) (hl : Cond.methodLink D.1 idx M.1 ∈ LW) (ho : mo M 1) (hv : mov M) (hM : CT E M k9 [vR a, v1] σ (PI P)) (ha : shp a = (c9, 0)) (hc : ∃ T N, vwCl[c9]? = some (M.1.cls, T, N)) (hk : k9 + 1 ≤ dK D) (hrest : rw8 rest ≤ 8) (h0 : mdM M = 0) (hb9 : u ≤ dMc D ∧ w ≤ dMs D) (kk : ∀ r9 σ9, P r9 σ9 → SW X E Q u w (pc + 3) ls (vI r9 :: rest) σ9) : SW X E Q u w pc ls (v1 :: vR a :: rest) σ := by
  exact s_cV (as9 := [v1]) (rest := rest) C hd hl ho hv hM ha hc rfl hk hrest (by rw [h0]; exact hb9) (fun o9 σ9 h9 => by
    obtain ⟨r9, rfl, h9⟩ := h9
    rw [h0]
    exact kk r9 σ9 h9)
theorem s_cV1l {X : sx_T} {E : sv_E} {D : sd_T} {Q : State → Prop} {u w pc : Nat} {ls : List (Option sv_V)} {σ : sv_G} {M : md_T} {idx k9 a c9 : Nat} {v1 : sv_V} {rest : List sv_V} {P : Int → sv_G → Prop} (C : sx_ok X E D) (hd : decode D.2.1 pc = .ok (.invokevirtual idx, 3)) (hl : Cond.methodLink D.1 idx M.1 ∈ LW) (ho : mo M 1) (hv : mov M) (hM : CT E M k9 [vR a, v1] σ (PL P)) (ha : shp a = (c9, 0)) (hc : ∃ T N, vwCl[c9]? = some (M.1.cls, T, N)) (hk : k9 + 1 ≤ dK D) (hrest : rw8 rest ≤ 8) (h0 : mdM M = 0) (hb9 : u ≤ dMc D ∧ w ≤ dMs D) (kk : ∀ r9 σ9, P r9 σ9 → SW X E Q u w (pc + 3) ls (vL r9 :: rest) σ9) : SW X E Q u w pc ls (v1 :: vR a :: rest) σ := by
  exact s_cV (as9 := [v1]) (rest := rest) C hd hl ho hv hM ha hc rfl hk hrest (by rw [h0]; exact hb9) (fun o9 σ9 h9 => by
    obtain ⟨r9, rfl, h9⟩ := h9
    rw [h0]
    exact kk r9 σ9 h9)
theorem s_cV1r {X : sx_T} {E : sv_E} {D : sd_T} {Q : State → Prop} {u w pc : Nat} {ls : List (Option sv_V)} {σ : sv_G} {M : md_T} {idx k9 a c9 : Nat} {v1 : sv_V} {rest : List sv_V} {P : Nat → sv_G → Prop} (C : sx_ok X E D) (hd : decode D.2.1 pc = .ok (.invokevirtual idx, 3)) (hl : Cond.methodLink D.1 idx M.1 ∈ LW) (ho : mo M 1) (hv : mov M) (hM : CT E M k9 [vR a, v1] σ (PR P)) (ha : shp a = (c9, 0)) (hc : ∃ T N, vwCl[c9]? = some (M.1.cls, T, N)) (hk : k9 + 1 ≤ dK D) (hrest : rw8 rest ≤ 8) (h0 : mdM M = 0) (hb9 : u ≤ dMc D ∧ w ≤ dMs D) (kk : ∀ r9 σ9, P r9 σ9 → SW X E Q u w (pc + 3) ls (vR r9 :: rest) σ9) : SW X E Q u w pc ls (v1 :: vR a :: rest) σ := by
  exact s_cV (as9 := [v1]) (rest := rest) C hd hl ho hv hM ha hc rfl hk hrest (by rw [h0]; exact hb9) (fun o9 σ9 h9 => by
    obtain ⟨r9, rfl, h9⟩ := h9
    rw [h0]
    exact kk r9 σ9 h9)
theorem s_cV2i {X : sx_T} {E : sv_E} {D : sd_T} {Q : State → Prop} {u w pc : Nat} {ls : List (Option sv_V)} {σ : sv_G} {M : md_T} {idx k9 a c9 : Nat} {v1 v2 : sv_V} {rest : List sv_V} {P : Int → sv_G → Prop} (C : sx_ok X E D) (hd : decode D.2.1 pc = .ok (.invokevirtual idx, 3)) (hl : Cond.methodLink D.1 idx M.1 ∈ LW) (ho : mo M 2) (hv : mov M) (hM : CT E M k9 [vR a, v1, v2] σ (PI P)) (ha : shp a = (c9, 0)) (hc : ∃ T N, vwCl[c9]? = some (M.1.cls, T, N)) (hk : k9 + 1 ≤ dK D) (hrest : rw8 rest ≤ 8) (h0 : mdM M = 0) (hb9 : u ≤ dMc D ∧ w ≤ dMs D) (kk : ∀ r9 σ9, P r9 σ9 → SW X E Q u w (pc + 3) ls (vI r9 :: rest) σ9) : SW X E Q u w pc ls (v2 :: v1 :: vR a :: rest) σ := by
  exact s_cV (as9 := [v1, v2]) (rest := rest) C hd hl ho hv hM ha hc rfl hk hrest (by rw [h0]; exact hb9) (fun o9 σ9 h9 => by
    obtain ⟨r9, rfl, h9⟩ := h9
    rw [h0]
    exact kk r9 σ9 h9)
theorem s_cV3i {X : sx_T} {E : sv_E} {D : sd_T} {Q : State → Prop} {u w pc : Nat} {ls : List (Option sv_V)} {σ : sv_G} {M : md_T} {idx k9 a c9 : Nat} {v1 v2 v3 : sv_V} {rest : List sv_V} {P : Int → sv_G → Prop} (C : sx_ok X E D) (hd : decode D.2.1 pc = .ok (.invokevirtual idx, 3)) (hl : Cond.methodLink D.1 idx M.1 ∈ LW) (ho : mo M 3) (hv : mov M) (hM : CT E M k9 [vR a, v1, v2, v3] σ (PI P)) (ha : shp a = (c9, 0)) (hc : ∃ T N, vwCl[c9]? = some (M.1.cls, T, N)) (hk : k9 + 1 ≤ dK D) (hrest : rw8 rest ≤ 8) (h0 : mdM M = 0) (hb9 : u ≤ dMc D ∧ w ≤ dMs D) (kk : ∀ r9 σ9, P r9 σ9 → SW X E Q u w (pc + 3) ls (vI r9 :: rest) σ9) : SW X E Q u w pc ls (v3 :: v2 :: v1 :: vR a :: rest) σ := by
  exact s_cV (as9 := [v1, v2, v3]) (rest := rest) C hd hl ho hv hM ha hc rfl hk hrest (by rw [h0]; exact hb9) (fun o9 σ9 h9 => by
    obtain ⟨r9, rfl, h9⟩ := h9
    rw [h0]
    exact kk r9 σ9 h9)
theorem s_cV4i {X : sx_T} {E : sv_E} {D : sd_T} {Q : State → Prop} {u w pc : Nat} {ls : List (Option sv_V)} {σ : sv_G} {M : md_T} {idx k9 a c9 : Nat} {v1 v2 v3 v4 : sv_V} {rest : List sv_V} {P : Int → sv_G → Prop} (C : sx_ok X E D) (hd : decode D.2.1 pc = .ok (.invokevirtual idx, 3)) (hl : Cond.methodLink D.1 idx M.1 ∈ LW) (ho : mo M 4) (hv : mov M) (hM : CT E M k9 [vR a, v1, v2, v3, v4] σ (PI P)) (ha : shp a = (c9, 0)) (hc : ∃ T N, vwCl[c9]? = some (M.1.cls, T, N)) (hk : k9 + 1 ≤ dK D) (hrest : rw8 rest ≤ 8) (h0 : mdM M = 0) (hb9 : u ≤ dMc D ∧ w ≤ dMs D) (kk : ∀ r9 σ9, P r9 σ9 → SW X E Q u w (pc + 3) ls (vI r9 :: rest) σ9) : SW X E Q u w pc ls (v4 :: v3 :: v2 :: v1 :: vR a :: rest) σ := by
  exact s_cV (as9 := [v1, v2, v3, v4]) (rest := rest) C hd hl ho hv hM ha hc rfl hk hrest (by rw [h0]; exact hb9) (fun o9 σ9 h9 => by
    obtain ⟨r9, rfl, h9⟩ := h9
    rw [h0]
    exact kk r9 σ9 h9)
theorem s_cV5v {X : sx_T} {E : sv_E} {D : sd_T} {Q : State → Prop} {u w pc : Nat} {ls : List (Option sv_V)} {σ : sv_G} {M : md_T} {idx k9 a c9 : Nat} {v1 v2 v3 v4 v5 : sv_V} {rest : List sv_V} {P : sv_G → Prop} (C : sx_ok X E D) (hd : decode D.2.1 pc = .ok (.invokevirtual idx, 3)) (hl : Cond.methodLink D.1 idx M.1 ∈ LW) (ho : mo M 5) (hv : mov M) (hM : CT E M k9 [vR a, v1, v2, v3, v4, v5] σ (PV P)) (ha : shp a = (c9, 0)) (hc : ∃ T N, vwCl[c9]? = some (M.1.cls, T, N)) (hk : k9 + 1 ≤ dK D) (hrest : rw8 rest ≤ 8) (h0 : mdM M = 0) (hb9 : u ≤ dMc D ∧ w ≤ dMs D) (kk : ∀ σ9, P σ9 → SW X E Q u w (pc + 3) ls rest σ9) : SW X E Q u w pc ls (v5 :: v4 :: v3 :: v2 :: v1 :: vR a :: rest) σ := by
  exact s_cV (as9 := [v1, v2, v3, v4, v5]) (rest := rest) C hd hl ho hv hM ha hc rfl hk hrest (by rw [h0]; exact hb9) (fun o9 σ9 h9 => by
    obtain ⟨rfl, h9⟩ := h9
    rw [h0]
    exact kk σ9 h9)
theorem sc_cV1i {X : sx_T} {E : sv_E} {D : sd_T} {Q : State → Prop} {u w pc : Nat} {ls : List (Option sv_V)} {σ : sv_G} {M : md_T} {idx k9 a c9 u2 w2 : Nat} {v1 : sv_V} {rest : List sv_V} {P : Int → sv_G → Prop} {PX : String → sv_G → Prop} (C : sx_ok X E D) (hd : decode D.2.1 pc = .ok (.invokevirtual idx, 3)) (hl : Cond.methodLink D.1 idx M.1 ∈ LW) (ho : mo M 1) (hv : mov M) (hM : CX E M k9 [vR a, v1] σ (PI P) PX) (ha : shp a = (c9, 0)) (hc : ∃ T N, vwCl[c9]? = some (M.1.cls, T, N)) (hk : k9 + 1 ≤ dK D) (hrest : rw8 rest ≤ 8) (h2 : u + mdM M = u2 ∧ w + 6 * mdM M = w2) (hb9 : u2 ≤ dMc D ∧ w2 ≤ dMs D) (kx : ∀ En σ9, PX En σ9 → SWx X E Q u2 w2 pc ls En σ9) (kk : ∀ r9 σ9, P r9 σ9 → SW X E Q u2 w2 (pc + 3) ls (vI r9 :: rest) σ9) : SW X E Q u w pc ls (v1 :: vR a :: rest) σ := by
  obtain ⟨rfl, rfl⟩ := h2
  exact sc_cV (as9 := [v1]) (rest := rest) C hd hl ho hv hM ha hc rfl hk hrest hb9 kx (fun o9 σ9 h9 => by
    obtain ⟨r9, rfl, h9⟩ := h9
    exact kk r9 σ9 h9)
theorem sc_cV2i {X : sx_T} {E : sv_E} {D : sd_T} {Q : State → Prop} {u w pc : Nat} {ls : List (Option sv_V)} {σ : sv_G} {M : md_T} {idx k9 a c9 u2 w2 : Nat} {v1 v2 : sv_V} {rest : List sv_V} {P : Int → sv_G → Prop} {PX : String → sv_G → Prop} (C : sx_ok X E D) (hd : decode D.2.1 pc = .ok (.invokevirtual idx, 3)) (hl : Cond.methodLink D.1 idx M.1 ∈ LW) (ho : mo M 2) (hv : mov M) (hM : CX E M k9 [vR a, v1, v2] σ (PI P) PX) (ha : shp a = (c9, 0)) (hc : ∃ T N, vwCl[c9]? = some (M.1.cls, T, N)) (hk : k9 + 1 ≤ dK D) (hrest : rw8 rest ≤ 8) (h2 : u + mdM M = u2 ∧ w + 6 * mdM M = w2) (hb9 : u2 ≤ dMc D ∧ w2 ≤ dMs D) (kx : ∀ En σ9, PX En σ9 → SWx X E Q u2 w2 pc ls En σ9) (kk : ∀ r9 σ9, P r9 σ9 → SW X E Q u2 w2 (pc + 3) ls (vI r9 :: rest) σ9) : SW X E Q u w pc ls (v2 :: v1 :: vR a :: rest) σ := by
  obtain ⟨rfl, rfl⟩ := h2
  exact sc_cV (as9 := [v1, v2]) (rest := rest) C hd hl ho hv hM ha hc rfl hk hrest hb9 kx (fun o9 σ9 h9 => by
    obtain ⟨r9, rfl, h9⟩ := h9
    exact kk r9 σ9 h9)
theorem sc_cV3i {X : sx_T} {E : sv_E} {D : sd_T} {Q : State → Prop} {u w pc : Nat} {ls : List (Option sv_V)} {σ : sv_G} {M : md_T} {idx k9 a c9 u2 w2 : Nat} {v1 v2 v3 : sv_V} {rest : List sv_V} {P : Int → sv_G → Prop} {PX : String → sv_G → Prop} (C : sx_ok X E D) (hd : decode D.2.1 pc = .ok (.invokevirtual idx, 3)) (hl : Cond.methodLink D.1 idx M.1 ∈ LW) (ho : mo M 3) (hv : mov M) (hM : CX E M k9 [vR a, v1, v2, v3] σ (PI P) PX) (ha : shp a = (c9, 0)) (hc : ∃ T N, vwCl[c9]? = some (M.1.cls, T, N)) (hk : k9 + 1 ≤ dK D) (hrest : rw8 rest ≤ 8) (h2 : u + mdM M = u2 ∧ w + 6 * mdM M = w2) (hb9 : u2 ≤ dMc D ∧ w2 ≤ dMs D) (kx : ∀ En σ9, PX En σ9 → SWx X E Q u2 w2 pc ls En σ9) (kk : ∀ r9 σ9, P r9 σ9 → SW X E Q u2 w2 (pc + 3) ls (vI r9 :: rest) σ9) : SW X E Q u w pc ls (v3 :: v2 :: v1 :: vR a :: rest) σ := by
  obtain ⟨rfl, rfl⟩ := h2
  exact sc_cV (as9 := [v1, v2, v3]) (rest := rest) C hd hl ho hv hM ha hc rfl hk hrest hb9 kx (fun o9 σ9 h9 => by
    obtain ⟨r9, rfl, h9⟩ := h9
    exact kk r9 σ9 h9)
theorem sc_cV4i {X : sx_T} {E : sv_E} {D : sd_T} {Q : State → Prop} {u w pc : Nat} {ls : List (Option sv_V)} {σ : sv_G} {M : md_T} {idx k9 a c9 u2 w2 : Nat} {v1 v2 v3 v4 : sv_V} {rest : List sv_V} {P : Int → sv_G → Prop} {PX : String → sv_G → Prop} (C : sx_ok X E D) (hd : decode D.2.1 pc = .ok (.invokevirtual idx, 3)) (hl : Cond.methodLink D.1 idx M.1 ∈ LW) (ho : mo M 4) (hv : mov M) (hM : CX E M k9 [vR a, v1, v2, v3, v4] σ (PI P) PX) (ha : shp a = (c9, 0)) (hc : ∃ T N, vwCl[c9]? = some (M.1.cls, T, N)) (hk : k9 + 1 ≤ dK D) (hrest : rw8 rest ≤ 8) (h2 : u + mdM M = u2 ∧ w + 6 * mdM M = w2) (hb9 : u2 ≤ dMc D ∧ w2 ≤ dMs D) (kx : ∀ En σ9, PX En σ9 → SWx X E Q u2 w2 pc ls En σ9) (kk : ∀ r9 σ9, P r9 σ9 → SW X E Q u2 w2 (pc + 3) ls (vI r9 :: rest) σ9) : SW X E Q u w pc ls (v4 :: v3 :: v2 :: v1 :: vR a :: rest) σ := by
  obtain ⟨rfl, rfl⟩ := h2
  exact sc_cV (as9 := [v1, v2, v3, v4]) (rest := rest) C hd hl ho hv hM ha hc rfl hk hrest hb9 kx (fun o9 σ9 h9 => by
    obtain ⟨r9, rfl, h9⟩ := h9
    exact kk r9 σ9 h9)
theorem sc_cV5i {X : sx_T} {E : sv_E} {D : sd_T} {Q : State → Prop} {u w pc : Nat} {ls : List (Option sv_V)} {σ : sv_G} {M : md_T} {idx k9 a c9 u2 w2 : Nat} {v1 v2 v3 v4 v5 : sv_V} {rest : List sv_V} {P : Int → sv_G → Prop} {PX : String → sv_G → Prop} (C : sx_ok X E D) (hd : decode D.2.1 pc = .ok (.invokevirtual idx, 3)) (hl : Cond.methodLink D.1 idx M.1 ∈ LW) (ho : mo M 5) (hv : mov M) (hM : CX E M k9 [vR a, v1, v2, v3, v4, v5] σ (PI P) PX) (ha : shp a = (c9, 0)) (hc : ∃ T N, vwCl[c9]? = some (M.1.cls, T, N)) (hk : k9 + 1 ≤ dK D) (hrest : rw8 rest ≤ 8) (h2 : u + mdM M = u2 ∧ w + 6 * mdM M = w2) (hb9 : u2 ≤ dMc D ∧ w2 ≤ dMs D) (kx : ∀ En σ9, PX En σ9 → SWx X E Q u2 w2 pc ls En σ9) (kk : ∀ r9 σ9, P r9 σ9 → SW X E Q u2 w2 (pc + 3) ls (vI r9 :: rest) σ9) : SW X E Q u w pc ls (v5 :: v4 :: v3 :: v2 :: v1 :: vR a :: rest) σ := by
  obtain ⟨rfl, rfl⟩ := h2
  exact sc_cV (as9 := [v1, v2, v3, v4, v5]) (rest := rest) C hd hl ho hv hM ha hc rfl hk hrest hb9 kx (fun o9 σ9 h9 => by
    obtain ⟨r9, rfl, h9⟩ := h9
    exact kk r9 σ9 h9)
theorem sx_cV1r {X : sx_T} {E : sv_E} {D : sd_T} {Q : State → Prop} {u w pc : Nat} {ls : List (Option sv_V)} {σ : sv_G} {M : md_T} {idx k9 a c9 u2 w2 : Nat} {v1 : sv_V} {rest : List sv_V} {P : Nat → sv_G → Prop} {PX PX0 : String → sv_G → Prop} {mc9 : Nat} (C : sx_ok X E D) (hd : decode D.2.1 pc = .ok (.invokevirtual idx, 3)) (hl : Cond.methodLink D.1 idx M.1 ∈ LW) (ho : mo M 1) (hv : mov M) (hM : CX E M k9 [vR a, v1] σ (PR P) PX) (ha : shp a = (c9, 0)) (hc : ∃ T N, vwCl[c9]? = some (M.1.cls, T, N)) (hk : k9 + 1 ≤ dK D) (hrest : rw8 rest ≤ 8) (h2 : u + mdM M = u2 ∧ w + 6 * mdM M = w2) (hb9 : u2 ≤ dMc D ∧ w2 ≤ dMs D) (hQ : QT X E Q mc9 PX0) (htb : dTb D = []) (hb8 : u2 ≤ mc9 ∧ w2 ≤ 6 * mc9) (hpx : ∀ En σ9, PX En σ9 → PX0 En σ9) (kk : ∀ r9 σ9, P r9 σ9 → SW X E Q u2 w2 (pc + 3) ls (vR r9 :: rest) σ9) : SW X E Q u w pc ls (v1 :: vR a :: rest) σ := by
  obtain ⟨rfl, rfl⟩ := h2
  exact sx_cV (as9 := [v1]) (rest := rest) C hd hl ho hv hM ha hc rfl hk hrest hb9 hQ htb hb8 hpx (fun o9 σ9 h9 => by
    obtain ⟨r9, rfl, h9⟩ := h9
    exact kk r9 σ9 h9)
theorem sx_cV3r {X : sx_T} {E : sv_E} {D : sd_T} {Q : State → Prop} {u w pc : Nat} {ls : List (Option sv_V)} {σ : sv_G} {M : md_T} {idx k9 a c9 u2 w2 : Nat} {v1 v2 v3 : sv_V} {rest : List sv_V} {P : Nat → sv_G → Prop} {PX PX0 : String → sv_G → Prop} {mc9 : Nat} (C : sx_ok X E D) (hd : decode D.2.1 pc = .ok (.invokevirtual idx, 3)) (hl : Cond.methodLink D.1 idx M.1 ∈ LW) (ho : mo M 3) (hv : mov M) (hM : CX E M k9 [vR a, v1, v2, v3] σ (PR P) PX) (ha : shp a = (c9, 0)) (hc : ∃ T N, vwCl[c9]? = some (M.1.cls, T, N)) (hk : k9 + 1 ≤ dK D) (hrest : rw8 rest ≤ 8) (h2 : u + mdM M = u2 ∧ w + 6 * mdM M = w2) (hb9 : u2 ≤ dMc D ∧ w2 ≤ dMs D) (hQ : QT X E Q mc9 PX0) (htb : dTb D = []) (hb8 : u2 ≤ mc9 ∧ w2 ≤ 6 * mc9) (hpx : ∀ En σ9, PX En σ9 → PX0 En σ9) (kk : ∀ r9 σ9, P r9 σ9 → SW X E Q u2 w2 (pc + 3) ls (vR r9 :: rest) σ9) : SW X E Q u w pc ls (v3 :: v2 :: v1 :: vR a :: rest) σ := by
  obtain ⟨rfl, rfl⟩ := h2
  exact sx_cV (as9 := [v1, v2, v3]) (rest := rest) C hd hl ho hv hM ha hc rfl hk hrest hb9 hQ htb hb8 hpx (fun o9 σ9 h9 => by
    obtain ⟨r9, rfl, h9⟩ := h9
    exact kk r9 σ9 h9)
