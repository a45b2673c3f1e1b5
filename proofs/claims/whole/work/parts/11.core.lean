/-! Abstract values: whole numbers in place of ints and longs, cells by their order; the world that they stand for; the judgement SW: from a frame over abstract locals, stack and cells the machine comes to its end. -/
abbrev sv_V : Type := Int ⊕ Int ⊕ Nat ⊕ Bool
abbrev vI (z : Int) : sv_V := Sum.inl z
abbrev vL (z : Int) : sv_V := Sum.inr (Sum.inl z)
abbrev vR (a : Nat) : sv_V := Sum.inr (Sum.inr (Sum.inl a))
abbrev vN : sv_V := Sum.inr (Sum.inr (Sum.inr false))
abbrev vS : sv_V := Sum.inr (Sum.inr (Sum.inr true))
abbrev sv_G : Type := Nat → Int → Int
/-- where the cells begin; the script; the classes of arrays; the classes and their slots -/
abbrev sv_E : Type := Nat × Nat × (Nat → ClassId) × va_G
def cv (E : sv_E) : sv_V → Value
  | .inl z => .int (Int32.ofInt z)
  | .inr (.inl z) => .long (Int64.ofInt z)
  | .inr (.inr (.inl a)) => .ref (E.1 + a)
  | .inr (.inr (.inr false)) => .null
  | .inr (.inr (.inr true)) => .ref E.2.1
def up (σ : sv_G) (a : Nat) (k v : Int) : sv_G := fun a' k' => if a' = a ∧ k' = k then v else σ a' k'
theorem up_s (σ : sv_G) (a : Nat) (k v : Int) : up σ a k v a k = v := by simp [up]
theorem up_a {σ : sv_G} {a a' : Nat} {k k' v : Int} (h : a' ≠ a) : up σ a k v a' k' = σ a' k' := by simp [up, h]
theorem up_k {σ : sv_G} {a a' : Nat} {k k' v : Int} (h : k' ≠ k) : up σ a k v a' k' = σ a' k' := by simp [up, h]
theorem up_n {σ : sv_G} {a a' : Nat} {k k' v : Int} (h : a' ≠ a ∨ k' ≠ k) : up σ a k v a' k' = σ a' k' := by
  rcases h with h | h <;> simp [up, h]
def fld (E : sv_E) (σ : sv_G) (a c k : Nat) : Value := match fkd c k with
  | 0 => .int (Int32.ofInt (σ a k))
  | 1 => .long (Int64.ofInt (σ a k))
  | _ => .ref (E.1 + rfs a k)
def celO (E : sv_E) (σ : sv_G) (a c : Nat) : va_E := .inr (c, (List.range (nfd c)).map (fld E σ a c))
def celI (E : sv_E) (σ : sv_G) (a n : Nat) : va_E := .inl (E.2.2.1 0, n, .inl fun k => Int32.ofInt (σ a k))
def celL (E : sv_E) (σ : sv_G) (a n : Nat) : va_E := .inl (E.2.2.1 1, n, .inr (.inl fun k => Int64.ofInt (σ a k)))
def celR (E : sv_E) (a t n : Nat) : va_E := .inl (E.2.2.1 t, n, .inr (.inr (.inr (.inr fun k => if k < n then some (E.1 + rfs a k) else none))))
def cel (E : sv_E) (σ : sv_G) (a : Nat) : va_E := match shp a with
  | (10, n) => celI E σ a n
  | (11, n) => celL E σ a n
  | (12, n) => celR E a 2 n
  | (13, n) => celR E a 3 n
  | (14, n) => celR E a 4 n
  | (c, _) => celO E σ a c
def sv_ws (E : sv_E) (σ : sv_G) : va_W := (List.range 229).map fun a => (E.1 + a, cel E σ a)
def sv_tys (E : sv_E) : List (ClassId × FieldType) := [(E.2.2.1 0, .int), (E.2.2.1 1, .long), (E.2.2.1 2, .object RX4), (E.2.2.1 3, .object RX6), (E.2.2.1 4, .object RX1)]
theorem sv_ws_at {E : sv_E} {σ : sv_G} {a : Nat} (h : a < 229) : (sv_ws E σ)[a]? = some (E.1 + a, cel E σ a) := by
  simp [sv_ws, h]
theorem cel_O {E : sv_E} {σ : sv_G} {a c : Nat} (h : shp a = (c, 0)) (hc : c < 10) : cel E σ a = celO E σ a c := by
  unfold cel
  rw [h]
  match c, hc with
  | 0, _ | 1, _ | 2, _ | 3, _ | 4, _ | 5, _ | 6, _ | 7, _ | 8, _ | 9, _ => rfl
theorem cel_I {E : sv_E} {σ : sv_G} {a n : Nat} (h : shp a = (10, n)) : cel E σ a = celI E σ a n := by unfold cel; rw [h]
theorem cel_L {E : sv_E} {σ : sv_G} {a n : Nat} (h : shp a = (11, n)) : cel E σ a = celL E σ a n := by unfold cel; rw [h]
theorem cel_R {E : sv_E} {σ : sv_G} {a n t : Nat} (h : shp a = (10 + t, n)) (h1 : 2 ≤ t) (h2 : t ≤ 4) : cel E σ a = celR E a t n := by
  unfold cel
  rw [h]
  match t, h1, h2 with
  | 2, _, _ | 3, _, _ | 4, _, _ => rfl
/-- which cells' parts are longs -/
def isLg (a : Nat) (k : Int) : Bool := if (shp a).1 < 10 then fkd (shp a).1 k.toNat == 1 else (shp a).1 == 11
def RG (σ : sv_G) : Prop := ∀ (a : Nat) (k : Int), (isLg a k = false → -2147483648 ≤ σ a k ∧ σ a k ≤ 2147483647) ∧ (-9223372036854775808 ≤ σ a k ∧ σ a k ≤ 9223372036854775807)
theorem RG.i {σ : sv_G} (h : RG σ) {a : Nat} {k : Int} (hk : isLg a k = false) : -2147483648 ≤ σ a k ∧ σ a k ≤ 2147483647 := (h a k).1 hk
theorem RG.upI {σ : sv_G} (h : RG σ) {a : Nat} {k v : Int} (hv : -2147483648 ≤ v ∧ v ≤ 2147483647) : RG (up σ a k v) := by
  intro a' k'
  unfold up
  by_cases q : a' = a ∧ k' = k
  · rw [if_pos q]; exact ⟨fun _ => hv, by omega, by omega⟩
  · rw [if_neg q]; exact h a' k'
theorem RG.upL {σ : sv_G} (h : RG σ) {a : Nat} {k v : Int} (hk : isLg a k = true) (hv : -9223372036854775808 ≤ v ∧ v ≤ 9223372036854775807) : RG (up σ a k v) := by
  intro a' k'
  unfold up
  by_cases q : a' = a ∧ k' = k
  · rw [if_pos q]
    refine ⟨fun z => ?_, hv⟩
    rw [q.1, q.2, hk] at z
    cases z
  · rw [if_neg q]; exact h a' k'
theorem isLg_O {a c k : Nat} (h : shp a = (c, 0)) (hc : c < 10) : isLg a (k : Int) = (fkd c k == 1) := by
  unfold isLg
  rw [h]
  simp [hc]
theorem isLg_A {a n : Nat} {k : Int} (h : shp a = (10, n)) : isLg a k = false := by unfold isLg; rw [h]; rfl
theorem isLg_J {a n : Nat} {k : Int} (h : shp a = (11, n)) : isLg a k = true := by unfold isLg; rw [h]; rfl
-- words
def LW : List Cond := lw_tbl.filter goodWord
def isNw : Cond → Bool
  | .fieldLinkNest .. => true
  | .methodLinkNest .. => true
  | .castable .. => true
  | _ => false
def NW : List Cond := lw_tbl.filter isNw
theorem LW_in {w : Cond} (i : Nat) (h : lw_tbl[i]? = some w) (g : goodWord w = true) : w ∈ LW := List.mem_filter.mpr ⟨List.mem_of_getElem? h, g⟩
theorem NW_in {w : Cond} (i : Nat) (h : lw_tbl[i]? = some w) (g : isNw w = true) : w ∈ NW := List.mem_filter.mpr ⟨List.mem_of_getElem? h, g⟩
theorem LW_sub {ws : List Cond} (is : List Nat) (h : ws = is.filterMap (fun i => lw_tbl[i]?)) (g : ws.all goodWord = true) : ∀ w ∈ ws, w ∈ LW := by
  intro w hw
  have g1 := List.all_eq_true.mp g w hw
  rw [h] at hw
  obtain ⟨i, -, hi⟩ := List.mem_filterMap.mp hw
  exact LW_in i hi g1
theorem LW_good : ∀ w ∈ LW, goodWord w = true := fun _ h => (List.mem_filter.mp h).2
theorem GoodLW {y : MethodName} {b b' : ByteArray} {n n' : Nat} {y' : MethodName} {r r' : Option FieldType} (h : Cond.code y' b' n' r' ∈ LW) : GoodIn (Cond.code y b n r :: LW) (Cond.code y' b' n' r' :: LW) := by
  intro w hw
  rcases List.mem_cons.mp hw with rfl | hw
  · exact ⟨List.mem_cons_of_mem _ h, good_of_word (LW_good _ h)⟩
  · exact ⟨List.mem_cons_of_mem _ hw, good_of_word (LW_good _ hw)⟩
theorem GoodLW0 {y' : MethodName} {b' : ByteArray} {n' : Nat} {r' : Option FieldType} (h : Cond.code y' b' n' r' ∈ LW) : GoodIn LW (Cond.code y' b' n' r' :: LW) := by
  intro w hw
  rcases List.mem_cons.mp hw with rfl | hw
  · exact ⟨h, good_of_word (LW_good _ h)⟩
  · exact ⟨hw, good_of_word (LW_good _ hw)⟩
def AO_l : List String := [RX4, RX6, RX1]
/-- what the machine gives of its tables that isn't among the good words, and the two statics that a throw reads -/
def MW (SR : List (String × Nat × String)) (NC : List (String × String)) (E : sv_E) (U : State) : Prop :=
  (∀ w ∈ NW, w.before #[] U = true) ∧ (∀ C ∈ AO_l, va_AO C U) ∧ vx_Zq Bundle.tN "UNASSIGNED_STACK" Bundle.steD (fun q => E.1 ≤ q) U U.heap ∧ vx_Zq Bundle.tN "SUPPRESSED_SENTINEL" Bundle.listD (fun q => E.1 ≤ q) U U.heap ∧
  (∀ q ∈ SR, ∃ a, vk_R q.1 q.2.1 q.2.2 a U) ∧ (∀ q ∈ NC, va_Nc q.1 q.2 U)
theorem NW_mv {w : Cond} (h : isNw w = true) {u U : State} (hW : u.WarmedH U.vm) (hw : w.before #[] u = true) : w.before #[] U = true := by
  cases w <;> first
    | exact va_Nw.warmF hW hw
    | exact va_Nw.warmM hW hw
    | exact va_Nw.warmC hW hw
    | (simp [isNw] at h; done)
theorem MW.mv {SR : List (String × Nat × String)} {NC : List (String × String)} {E : sv_E} {u U : State} (hW : u.WarmedH U.vm) (hh : ∀ q : Nat, q < u.heap.size → ¬ E.1 ≤ q → U.heap[q]? = u.heap[q]?) (h : MW SR NC E u) : MW SR NC E U := by
  obtain ⟨h1, h2, h3, h4, h5, h6⟩ := h
  exact ⟨fun w hw => NW_mv (List.mem_filter.mp hw).2 hW (h1 w hw), fun C hC => (h2 C hC).moved hW.alike, (h3.kept hh).moved hW.alike, (h4.kept hh).moved hW.alike, fun q hq => (h5 q hq).imp fun a ha => vk_R.warm hW ha, fun q hq => (h6 q hq).moved hW.alike⟩
theorem sv_refl (U : State) : U.WarmedH U.vm := State.WarmedH.refl U

