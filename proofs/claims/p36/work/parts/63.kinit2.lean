/-! The constructors that make others. -/
def St (a : Nat) (v : Int → Int) (L ex : List Nat) (Cm : List (Nat × Nat)) (σ0 : sv_G) (As0 : Nat → Nat → Bool) (σ : sv_G) (As : Nat → Nat → Bool) (n : Nat) : Prop :=
  (∀ b, b < a → σ b = σ0 b ∧ As b = As0 b) ∧ (∀ k, σ a k = v k) ∧ (∀ k ∈ L, As a k = true) ∧ (∀ b, a < b → b < n → b ∉ ex → (∀ k, σ b k = g0 b k) ∧ ∀ k, isRb b k = true → As b k = true) ∧ (∀ b ∈ ex, a < b ∧ b < n ∧ ∀ k, σ b k = 0) ∧ (∀ q ∈ Cm, a < q.1 ∧ q.1 < n ∧ ∀ k, k < q.2 → As q.1 k = true) ∧ Fr σ As n ∧ a < n
theorem St.init {a : Nat} {σ : sv_G} {As : Nat → Nat → Bool} (h : Fr σ As a) : St a (fun _ => 0) [] [] [] σ As σ As (a + 1) := ⟨fun _ _ => ⟨rfl, rfl⟩, (h a (Nat.le_refl _)).1, fun _ q => absurd q List.not_mem_nil, fun b h1 h2 => by omega, fun _ q => absurd q List.not_mem_nil, fun _ q => absurd q List.not_mem_nil, h.le (Nat.le_succ a), Nat.lt_succ_self a⟩
theorem St.i {a n l : Nat} {v : Int → Int} {L ex : List Nat} {Cm : List (Nat × Nat)} {σ0 σ : sv_G} {As0 As : Nat → Nat → Bool} (h : St a v L ex Cm σ0 As0 σ As n) (hs : shp n = (10, l)) (h2 : n ≠ 21 ∧ n ≠ 225 ∧ n ≠ 211) : St a v L ex Cm σ0 As0 σ As (n + 1) := by
  obtain ⟨s1, s2, s3, s4, s5, s6, s7, s8⟩ := h
  refine ⟨s1, s2, s3, fun b b1 b2 b3 => ?_, fun b hb => ⟨(s5 b hb).1, Nat.lt_succ_of_lt (s5 b hb).2.1, (s5 b hb).2.2⟩, fun q hq => ⟨(s6 q hq).1, Nat.lt_succ_of_lt (s6 q hq).2.1, (s6 q hq).2.2⟩, s7.le (Nat.le_succ n), Nat.lt_succ_of_lt s8⟩
  by_cases c : b = n
  · rw [c]
    exact ⟨fun k => by rw [(s7 n (Nat.le_refl _)).1, g0_z (by rw [hs]; show (10 : Nat) ≠ 1; decide) (by rw [hs]; show (10 : Nat) ≠ 4; decide) h2.1 h2.2.1 h2.2.2], fun k hk => (isR_i hs hk).elim⟩
  · exact s4 b b1 (by omega) b3
theorem St.q {a n : Nat} {v : Int → Int} {L ex : List Nat} {Cm : List (Nat × Nat)} {σ0 σ : sv_G} {As0 As : Nat → Nat → Bool} (h : St a v L ex Cm σ0 As0 σ As n) : St a v L (n :: ex) Cm σ0 As0 σ As (n + 1) := by
  obtain ⟨s1, s2, s3, s4, s5, s6, s7, s8⟩ := h
  refine ⟨s1, s2, s3, fun b b1 b2 b3 => ?_, fun b hb => ?_, fun q hq => ⟨(s6 q hq).1, Nat.lt_succ_of_lt (s6 q hq).2.1, (s6 q hq).2.2⟩, s7.le (Nat.le_succ n), Nat.lt_succ_of_lt s8⟩
  · have c : b ≠ n := fun z => b3 (by rw [z]; exact List.mem_cons_self)
    exact s4 b b1 (by omega) fun z => b3 (List.mem_cons_of_mem _ z)
  · rcases List.mem_cons.mp hb with c | c
    · rw [c]; exact ⟨s8, Nat.lt_succ_self n, (s7 n (Nat.le_refl _)).1⟩
    · exact ⟨(s5 b c).1, Nat.lt_succ_of_lt (s5 b c).2.1, (s5 b c).2.2⟩
theorem St.o {a n sz : Nat} {v : Int → Int} {L ex : List Nat} {Cm : List (Nat × Nat)} {σ0 σ σ' : sv_G} {As0 As As' : Nat → Nat → Bool} (h : St a v L ex Cm σ0 As0 σ As n) (c : CP n sz σ As σ' As') : St a v L ex Cm σ0 As0 σ' As' (n + sz) := by
  obtain ⟨s1, s2, s3, s4, s5, s6, s7, s8⟩ := h
  obtain ⟨c1, c2, c3⟩ := c
  refine ⟨fun b hb => ?_, fun k => by rw [(c1 a s8).1]; exact s2 k, fun k hk => by rw [(c1 a s8).2]; exact s3 k hk, fun b b1 b2 b3 => ?_, fun b hb => ?_, fun q hq => ?_, c3, by omega⟩
  · rw [(c1 b (by omega)).1, (c1 b (by omega)).2]; exact s1 b hb
  · by_cases z : b < n
    · rw [(c1 b z).1, (c1 b z).2]; exact s4 b b1 z b3
    · exact c2 b (by omega) b2
  · have z := s5 b hb
    exact ⟨z.1, by omega, fun k => by rw [(c1 b z.2.1).1]; exact z.2.2 k⟩
  · have z := s6 q hq
    exact ⟨z.1, by omega, fun k hk => by rw [(c1 q.1 z.2.1).2]; exact z.2.2 k hk⟩
theorem St.as {a n k9 : Nat} {v : Int → Int} {L ex : List Nat} {Cm : List (Nat × Nat)} {σ0 σ : sv_G} {As0 As : Nat → Nat → Bool} (h : St a v L ex Cm σ0 As0 σ As n) : St a v (k9 :: L) ex Cm σ0 As0 σ (asS As a k9) n := by
  obtain ⟨s1, s2, s3, s4, s5, s6, s7, s8⟩ := h
  refine ⟨fun b hb => ⟨(s1 b hb).1, by rw [asS_a (by omega)]; exact (s1 b hb).2⟩, s2, fun k hk => ?_, fun b b1 b2 b3 => by rw [asS_a (by omega)]; exact s4 b b1 b2 b3, s5, fun q hq => ⟨(s6 q hq).1, (s6 q hq).2.1, fun k hk => by rw [asS_a (by have z := (s6 q hq).1; omega)]; exact (s6 q hq).2.2 k hk⟩, s7.as s8, s8⟩
  by_cases c : k = k9
  · rw [c]; exact asS_s
  · rw [asS_k c]
    rcases List.mem_cons.mp hk with z | z
    · exact absurd z c
    · exact s3 k z
theorem St.up {a n : Nat} {k9 z9 : Int} {v : Int → Int} {L ex : List Nat} {Cm : List (Nat × Nat)} {σ0 σ : sv_G} {As0 As : Nat → Nat → Bool} (h : St a v L ex Cm σ0 As0 σ As n) : St a (fun k => if k = k9 then z9 else v k) L ex Cm σ0 As0 (up σ a k9 z9) As n := by
  obtain ⟨s1, s2, s3, s4, s5, s6, s7, s8⟩ := h
  refine ⟨fun b hb => ⟨by funext j; rw [up_a (by omega), (s1 b hb).1], (s1 b hb).2⟩, fun k => by rw [up_i, s2], s3, fun b b1 b2 b3 => ⟨fun k => by rw [up_a (by omega)]; exact (s4 b b1 b2 b3).1 k, (s4 b b1 b2 b3).2⟩, fun b hb => ⟨(s5 b hb).1, (s5 b hb).2.1, fun k => by rw [up_a (by have z := (s5 b hb).1; omega)]; exact (s5 b hb).2.2 k⟩, s6, s7.up s8, s8⟩
theorem St.c0 {a n r : Nat} {v : Int → Int} {L ex : List Nat} {Cm : List (Nat × Nat)} {σ0 σ : sv_G} {As0 As : Nat → Nat → Bool} (h : St a v L ex Cm σ0 As0 σ As n) (hr : a < r ∧ r < n) : St a v L ex ((r, 0) :: Cm) σ0 As0 σ As n := by
  obtain ⟨s1, s2, s3, s4, s5, s6, s7, s8⟩ := h
  refine ⟨s1, s2, s3, s4, s5, fun q hq => ?_, s7, s8⟩
  rcases List.mem_cons.mp hq with c | c
  · rw [c]; exact ⟨hr.1, hr.2, fun k hk => absurd hk (Nat.not_lt_zero k)⟩
  · exact s6 q c
theorem St.c1 {a n r m : Nat} {v : Int → Int} {L ex : List Nat} {Cm : List (Nat × Nat)} {σ0 σ : sv_G} {As0 As : Nat → Nat → Bool} (h : St a v L ex ((r, m) :: Cm) σ0 As0 σ As n) (he : r ∈ ex) : St a v L ex ((r, m + 1) :: Cm) σ0 As0 σ (asS As r m) n := by
  obtain ⟨s1, s2, s3, s4, s5, s6, s7, s8⟩ := h
  have hr := s5 r he
  have hmn : ∀ (b k : Nat), As b k = true → asS As r m b k = true := fun b k q => by
    unfold asS
    split
    · rfl
    · exact q
  refine ⟨fun b hb => ⟨(s1 b hb).1, by rw [asS_a (by omega)]; exact (s1 b hb).2⟩, s2, fun k hk => hmn _ _ (s3 k hk), fun b b1 b2 b3 => ⟨(s4 b b1 b2 b3).1, fun k hk => hmn _ _ ((s4 b b1 b2 b3).2 k hk)⟩, s5, fun q hq => ?_, s7.as hr.2.1, s8⟩
  rcases List.mem_cons.mp hq with c | c
  · rw [c]
    have z := s6 (r, m) List.mem_cons_self
    refine ⟨z.1, z.2.1, fun k hk => ?_⟩
    by_cases w : k = m
    · rw [w]; exact asS_s
    · exact hmn _ _ (z.2.2 k (by have hk2 : k < m + 1 := hk; show k < m; omega))
  · have z := s6 q (List.mem_cons_of_mem _ c)
    exact ⟨z.1, z.2.1, fun k hk => hmn _ _ (z.2.2 k hk)⟩
theorem St.fin {a n sz : Nat} {v : Int → Int} {L ex : List Nat} {Cm : List (Nat × Nat)} {σ0 σ : sv_G} {As0 As : Nat → Nat → Bool} (h : St a v L ex Cm σ0 As0 σ As n) (hv : ∀ k, v k = g0 a k) (hL : ∀ k, isRb a k = true → k ∈ L) (hex : ∀ b ∈ ex, (∀ k, g0 b k = 0) ∧ ∃ len, (b, len) ∈ Cm ∧ ∀ k, isRb b k = true → k < len) (hn : n = a + sz) : CP a sz σ0 As0 σ As := by
  obtain ⟨s1, s2, s3, s4, s5, s6, s7, s8⟩ := h
  subst hn
  refine ⟨s1, fun b b1 b2 => ?_, s7⟩
  by_cases c : b = a
  · rw [c]; exact ⟨fun k => (s2 k).trans (hv k), fun k hk => s3 k (hL k hk)⟩
  · by_cases d : b ∈ ex
    · obtain ⟨e1, len, e2, e3⟩ := hex b d
      exact ⟨fun k => by rw [(s5 b d).2.2, e1], fun k hk => (s6 _ e2).2.2 k (e3 k hk)⟩
    · exact s4 b (by omega) b2 d
theorem k_uw {X : sx_T} {E : sv_E} {Q : State → Prop} {u w u2 w2 pc : Nat} {ls : List (Option sv_V)} {st : List sv_V} {n n2 : Nat} {σ : sv_G} {As : Nat → Nat → Bool} (hu : u = u2) (hw : w = w2) (hn : n = n2) (kk : KW X E Q u2 w2 pc ls st (n2, σ, As)) : KW X E Q u w pc ls st (n, σ, As) := by rw [hu, hw, hn]; exact kk
