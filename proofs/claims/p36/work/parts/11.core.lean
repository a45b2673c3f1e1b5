/-! Abstract values: whole numbers in place of ints and longs, cells by their order; the world that they stand for; the judgement SW: from a frame over abstract locals, stack and cells the machine comes to its end. -/
abbrev sv_V : Type := Int ⊕ Int ⊕ Nat ⊕ Bool
abbrev vI (z : Int) : sv_V := Sum.inl z
abbrev vL (z : Int) : sv_V := Sum.inr (Sum.inl z)
abbrev vR (a : Nat) : sv_V := Sum.inr (Sum.inr (Sum.inl a))
abbrev vN : sv_V := Sum.inr (Sum.inr (Sum.inr false))
abbrev vS : sv_V := Sum.inr (Sum.inr (Sum.inr true))
abbrev sv_G : Type := Nat → Int → Int
/-- where the cells begin; the script, and rows of 20 ints that stand behind the object's cells; the classes of arrays; the classes and their slots -/
abbrev sv_E : Type := Nat × (Nat × List Nat) × (Nat → ClassId) × va_G
def cv (E : sv_E) : sv_V → Value
  | .inl z => .int (Int32.ofInt z)
  | .inr (.inl z) => .long (Int64.ofInt z)
  | .inr (.inr (.inl a)) => .ref (E.1 + a)
  | .inr (.inr (.inr false)) => .null
  | .inr (.inr (.inr true)) => .ref E.2.1.1
def up (σ : sv_G) (a : Nat) (k v : Int) : sv_G := fun a' k' => if a' = a ∧ k' = k then v else σ a' k'
theorem up_s (σ : sv_G) (a : Nat) (k v : Int) : up σ a k v a k = v := by simp [up]
theorem up_a {σ : sv_G} {a a' : Nat} {k k' v : Int} (h : a' ≠ a) : up σ a k v a' k' = σ a' k' := by simp [up, h]
theorem up_k {σ : sv_G} {a a' : Nat} {k k' v : Int} (h : k' ≠ k) : up σ a k v a' k' = σ a' k' := by simp [up, h]
theorem up_n {σ : sv_G} {a a' : Nat} {k k' v : Int} (h : a' ≠ a ∨ k' ≠ k) : up σ a k v a' k' = σ a' k' := by
  rcases h with h | h <;> simp [up, h]
def fld (E : sv_E) (σ : sv_G) (a c k : Nat) : Value := match fkd c k with
  | 0 => .int (Int32.ofInt (σ a k))
  | 1 => .long (Int64.ofInt (σ a k))
  | _ => .ref (E.1 + rfs a k)
def celO (E : sv_E) (σ : sv_G) (a c : Nat) : va_E := .inr (c, (List.range (nfd c)).map (fld E σ a c))
def celI (E : sv_E) (σ : sv_G) (a n : Nat) : va_E := .inl (E.2.2.1 0, n, .inl fun k => Int32.ofInt (σ a k))
def celL (E : sv_E) (σ : sv_G) (a n : Nat) : va_E := .inl (E.2.2.1 1, n, .inr (.inl fun k => Int64.ofInt (σ a k)))
def celR (E : sv_E) (a t n : Nat) : va_E := .inl (E.2.2.1 t, n, .inr (.inr (.inr (.inr fun k => if k < n then some (E.1 + rfs a k) else none))))
def cel (E : sv_E) (σ : sv_G) (a : Nat) : va_E := match shp a with
  | (10, n) => celI E σ a n
  | (11, n) => celL E σ a n
  | (12, n) => celR E a 2 n
  | (13, n) => celR E a 3 n
  | (14, n) => celR E a 4 n
  | (c, _) => celO E σ a c
def sv_wx (E : sv_E) (σ : sv_G) : va_W := E.2.1.2.map fun j => (E.1 + (195 + j), celI E σ (195 + j) 20)
def sv_ws (E : sv_E) (σ : sv_G) : va_W := ((List.range 195).map fun a => (E.1 + a, cel E σ a)) ++ sv_wx E σ
def sv_tys (E : sv_E) : List (ClassId × FieldType) := [(E.2.2.1 0, .int), (E.2.2.1 0, .int), (E.2.2.1 2, .object RX4), (E.2.2.1 3, .object RX6), (E.2.2.1 4, .object RX1)]
theorem sv_ws_at {E : sv_E} {σ : sv_G} {a : Nat} (h : a < 195) : (sv_ws E σ)[a]? = some (E.1 + a, cel E σ a) := by
  unfold sv_ws
  rw [List.getElem?_append_left (by simp [h])]
  simp [h]
theorem cel_O {E : sv_E} {σ : sv_G} {a c : Nat} (h : shp a = (c, 0)) (hc : c < 10) : cel E σ a = celO E σ a c := by
  unfold cel
  rw [h]
  match c, hc with
  | 0, _ | 1, _ | 2, _ | 3, _ | 4, _ | 5, _ | 6, _ | 7, _ | 8, _ | 9, _ => rfl
theorem cel_I {E : sv_E} {σ : sv_G} {a n : Nat} (h : shp a = (10, n)) : cel E σ a = celI E σ a n := by unfold cel; rw [h]; rfl
theorem cel_L {E : sv_E} {σ : sv_G} {a n : Nat} (h : shp a = (11, n)) : cel E σ a = celL E σ a n := by unfold cel; rw [h]; rfl
theorem cel_R {E : sv_E} {σ : sv_G} {a n t : Nat} (h : shp a = (10 + t, n)) (h1 : 2 ≤ t) (h2 : t ≤ 4) : cel E σ a = celR E a t n := by
  unfold cel
  rw [h]
  match t, h1, h2 with
  | 2, _, _ | 3, _, _ | 4, _, _ => rfl
/-- which cells' parts are longs -/
def isLg (a : Nat) (k : Int) : Bool := if (shp a).1 < 10 then fkd (shp a).1 k.toNat == 1 else (shp a).1 == 11
def RG (σ : sv_G) : Prop := ∀ (a : Nat) (k : Int), (isLg a k = false → -2147483648 ≤ σ a k ∧ σ a k ≤ 2147483647) ∧ (-9223372036854775808 ≤ σ a k ∧ σ a k ≤ 9223372036854775807)
theorem RG.i {σ : sv_G} (h : RG σ) {a : Nat} {k : Int} (hk : isLg a k = false) : -2147483648 ≤ σ a k ∧ σ a k ≤ 2147483647 := (h a k).1 hk
theorem RG.upI {σ : sv_G} (h : RG σ) {a : Nat} {k v : Int} (hv : -2147483648 ≤ v ∧ v ≤ 2147483647) : RG (up σ a k v) := by
  intro a' k'
  unfold up
  by_cases q : a' = a ∧ k' = k
  · rw [if_pos q]; exact ⟨fun _ => hv, by omega, by omega⟩
  · rw [if_neg q]; exact h a' k'
theorem RG.upL {σ : sv_G} (h : RG σ) {a : Nat} {k v : Int} (hk : isLg a k = true) (hv : -9223372036854775808 ≤ v ∧ v ≤ 9223372036854775807) : RG (up σ a k v) := by
  intro a' k'
  unfold up
  by_cases q : a' = a ∧ k' = k
  · rw [if_pos q]
    refine ⟨fun z => ?_, hv⟩
    rw [q.1, q.2, hk] at z
    cases z
  · rw [if_neg q]; exact h a' k'
theorem isLg_O {a c k : Nat} (h : shp a = (c, 0)) (hc : c < 10) : isLg a (k : Int) = (fkd c k == 1) := by
  unfold isLg
  rw [h]
  simp [hc]
theorem isLg_A {a n : Nat} {k : Int} (h : shp a = (10, n)) : isLg a k = false := by unfold isLg; rw [h]; rfl
theorem isLg_J {a n : Nat} {k : Int} (h : shp a = (11, n)) : isLg a k = true := by unfold isLg; rw [h]; rfl
-- words
def LW : List Cond := lw_tbl.filter goodWord
def isNw : Cond → Bool
  | .fieldLinkNest .. => true
  | .methodLinkNest .. => true
  | .castable .. => true
  | .declares _ => true
  | _ => false
def NW : List Cond := lw_tbl.filter isNw
theorem LW_in {w : Cond} (i : Nat) (h : lw_tbl[i]? = some w) (g : goodWord w = true) : w ∈ LW := List.mem_filter.mpr ⟨List.mem_of_getElem? h, g⟩
theorem NW_in {w : Cond} (i : Nat) (h : lw_tbl[i]? = some w) (g : isNw w = true) : w ∈ NW := List.mem_filter.mpr ⟨List.mem_of_getElem? h, g⟩
theorem LW_sub {ws : List Cond} (is : List Nat) (h : ws = is.filterMap (fun i => lw_tbl[i]?)) (g : ws.all goodWord = true) : ∀ w ∈ ws, w ∈ LW := by
  intro w hw
  have g1 := List.all_eq_true.mp g w hw
  rw [h] at hw
  obtain ⟨i, -, hi⟩ := List.mem_filterMap.mp hw
  exact LW_in i hi g1
theorem LW_good : ∀ w ∈ LW, goodWord w = true := fun _ h => (List.mem_filter.mp h).2
theorem GoodLW {y : MethodName} {b b' : ByteArray} {n n' : Nat} {y' : MethodName} {r r' : Option FieldType} (h : Cond.code y' b' n' r' ∈ LW) : GoodIn (Cond.code y b n r :: LW) (Cond.code y' b' n' r' :: LW) := by
  intro w hw
  rcases List.mem_cons.mp hw with rfl | hw
  · exact ⟨List.mem_cons_of_mem _ h, good_of_word (LW_good _ h)⟩
  · exact ⟨List.mem_cons_of_mem _ hw, good_of_word (LW_good _ hw)⟩
theorem GoodLW0 {y' : MethodName} {b' : ByteArray} {n' : Nat} {r' : Option FieldType} (h : Cond.code y' b' n' r' ∈ LW) : GoodIn LW (Cond.code y' b' n' r' :: LW) := by
  intro w hw
  rcases List.mem_cons.mp hw with rfl | hw
  · exact ⟨h, good_of_word (LW_good _ h)⟩
  · exact ⟨hw, good_of_word (LW_good _ hw)⟩
def AO_l : List String := [RX4, RX6, RX1]
/-- what the machine gives of its tables that isn't among the good words, and the two statics that a throw reads -/
def SR_l : List (String × Nat × String) := [(RX7, 296, "no such grammar"), (RX7, 303, "no such word"), (RX7, 309, "out of range"), (RX7, 98, "there are 40 atoms"), (RX7, 117, "there are 5 bases, or it is there"), (RX7, 298, "no such base"), (RX7, 152, "there are 30 forms"), (RX7, 162, "there are 6 seams"), (RX7, 305, "no such class"), (RX7, 187, "the latest saying has not so many words"), (RX7, 196, "20 words were heard"), (RX7, 213, "place below 0"), (RX7, 240, "there are 20 examples, or not all was heard"), (RX7, 246, "no setting fits"), (RX7, 270, "what is out of range"), (RX7, 307, "no such cord")]
def xI : String := "java/lang/IndexOutOfBoundsException"
def xA : String := "java/lang/IllegalArgumentException"
def xS : String := "java/lang/IllegalStateException"
def NC_l : List (String × String) := [(xA, xI), (xS, xI), (xI, xA), (xS, xA), (xI, xS), (xA, xS)]
/-- the script stands ahead of all cells -/
def sv_sc (E : sv_E) (U : State) : Prop := ∃ (L : Nat) (xs : Nat → Int32), L ≤ 260 ∧ va_X E.2.1.1 L xs U U.heap ∧ E.2.1.1 < U.heap.size ∧ ¬ E.1 ≤ E.2.1.1
theorem sv_sc.mv {E : sv_E} {u U : State} (hW : u.WarmedH U.vm) (hh : ∀ q : Nat, q < u.heap.size → ¬ E.1 ≤ q → U.heap[q]? = u.heap[q]?) (h : sv_sc E u) : sv_sc E U := by
  obtain ⟨L, xs, h1, h2, h3, h4⟩ := h
  have h5 := (va_X.moved hW.alike h2).kept (hh _ h3 h4)
  refine ⟨L, xs, h1, h5, ?_, h4⟩
  obtain ⟨scr, h6, -⟩ := h5
  exact (Array.getElem?_eq_some_iff.mp h6).1
def MW (E : sv_E) (U : State) : Prop :=
  (∀ w ∈ NW, w.before #[] U = true) ∧ (∀ C ∈ AO_l, va_AO C U) ∧ vx_Zq Bundle.tN "UNASSIGNED_STACK" Bundle.steD (fun q => E.1 ≤ q) U U.heap ∧ vx_Zq Bundle.tN "SUPPRESSED_SENTINEL" Bundle.listD (fun q => E.1 ≤ q) U U.heap ∧
  (∀ q ∈ SR_l, ∃ a, vk_R q.1 q.2.1 q.2.2 a U) ∧ (∀ q ∈ NC_l, va_Nc q.1 q.2 U) ∧ sv_sc E U
theorem NW_mv {w : Cond} (h : isNw w = true) {u U : State} (hW : u.WarmedH U.vm) (hw : w.before #[] u = true) : w.before #[] U = true := by
  cases w <;> first
    | exact va_Nw.warmF hW hw
    | exact va_Nw.warmM hW hw
    | exact va_Nw.warmC hW hw
    | exact va_Nw.warmD hW hw
    | (simp [isNw] at h; done)
theorem MW.mv {E : sv_E} {u U : State} (hW : u.WarmedH U.vm) (hh : ∀ q : Nat, q < u.heap.size → ¬ E.1 ≤ q → U.heap[q]? = u.heap[q]?) (h : MW E u) : MW E U := by
  obtain ⟨h1, h2, h3, h4, h5, h6, h7⟩ := h
  exact ⟨fun w hw => NW_mv (List.mem_filter.mp hw).2 hW (h1 w hw), fun C hC => (h2 C hC).moved hW.alike, (h3.kept hh).moved hW.alike, (h4.kept hh).moved hW.alike, fun q hq => (h5 q hq).imp fun a ha => vk_R.warm hW ha, fun q hq => (h6 q hq).moved hW.alike, h7.mv hW hh⟩
-- the judgement
abbrev sx_T : Type := Program × Launch × Env × Room × State × MethodId × Array Value × List Frame × Method × Code
/-- a method's own: its class, code, locals, what it returns, its handlers; how deep it calls; cells and slots that it may make -/
abbrev sd_T : Type := String × ByteArray × Nat × Option FieldType × List ExceptionTableEntry × Nat × Nat × Nat
def sx_ok (X : sx_T) (E : sv_E) (D : sd_T) : Prop := match X, D with
  | (p, l, e, R, s, m, args, below, meth, c), (own, cc, nL, rt, tb, k, mc, ms) =>
    p.tables.exec = Jvm.exec ∧ c.code = cc ∧ c.maxLocals = nL ∧ s.vm.findClass own = some m.cls ∧ (∀ w ∈ LW, w.before args s = true) ∧ MW E s ∧ va_K E.2.2.2 vwCl (sv_tys E) s ∧
    meth.sig.returnType = rt ∧ meth.locks = false ∧ c.exceptionTable.toList = tb ∧ l.stackTraces = false ∧ k ≤ R.frames ∧ 40 * k ≤ R.locals ∧ mc ≤ R.cells ∧ ms ≤ R.slots
def sv_R (E : sv_E) (H0 : Heap) (σ : sv_G) (H : Heap) (locs : List Loc) : Prop :=
  va_P E.2.2.2 vwCl (sv_ws E σ) H ∧ va_D (fun q => E.1 ≤ q) (sv_ws E σ) ∧ va_S (fun q => E.1 ≤ q) H0 H locs ∧ RG σ
def sv_L (E : sv_E) (lsA : Array Slot) (nL : Nat) (ls : List (Option sv_V)) : Prop := lsA.size = nL ∧ lv_wf lsA ∧ ∀ (i : Nat) (v : sv_V), ls[i]? = some (some v) → lsA[i]? = some (.val (cv E v))
def SW (X : sx_T) (E : sv_E) (Q : State → Prop) (u w : Nat) (pc : Nat) (ls : List (Option sv_V)) (st : List sv_V) (σ : sv_G) : Prop := match X with
  | (p, l, e, R, s, m, args, below, meth, c) => ∀ (H : Heap) (locs : List Loc) (lsA : Array Slot), sv_R E s.heap σ H locs → sv_L E lsA c.maxLocals ls → W p l e R s m args below meth c H locs u w Q (F0 m pc lsA (st.map (cv E)))
-- locals
def sv_cl (ls : List (Option sv_V)) (i : Nat) : List (Option sv_V) := match i with
  | 0 => ls
  | j + 1 => match ls[j]? with
    | some (some (.inr (.inl _))) => ls.set j none
    | _ => ls
def sv_st1 (ls : List (Option sv_V)) (i : Nat) (v : Option sv_V) : List (Option sv_V) := (sv_cl ls i).set i v
def sv_st2 (ls : List (Option sv_V)) (i : Nat) (v : Option sv_V) : List (Option sv_V) := ((sv_cl ls i).set i v).set (i + 1) none
def sv_pr (E : sv_E) (ls : List (Option sv_V)) : List (Nat × Value) := ls.zipIdx.filterMap fun q => q.1.map fun v => (q.2, cv E v)
theorem sv_pr_in {E : sv_E} {ls : List (Option sv_V)} {i : Nat} {x : Value} : (i, x) ∈ sv_pr E ls ↔ ∃ v, ls[i]? = some (some v) ∧ x = cv E v := by
  unfold sv_pr
  rw [List.mem_filterMap]
  constructor
  · rintro ⟨⟨o, j⟩, h1, h2⟩
    cases o with
    | none => simp at h2
    | some v =>
      simp only [Option.map_some, Option.some.injEq, Prod.mk.injEq] at h2
      obtain ⟨rfl, rfl⟩ := h2
      exact ⟨v, List.mem_zipIdx_iff_getElem?.mp h1, rfl⟩
  · rintro ⟨v, h1, rfl⟩
    exact ⟨(some v, i), List.mem_zipIdx_iff_getElem?.mpr h1, rfl⟩
theorem sv_L.has {E : sv_E} {lsA : Array Slot} {nL : Nat} {ls : List (Option sv_V)} (h : sv_L E lsA nL ls) : lv_has lsA nL (sv_pr E ls) := by
  refine ⟨h.1, h.2.1, fun q hq => ?_⟩
  obtain ⟨v, h1, h2⟩ := sv_pr_in.mp (show (q.1, q.2) ∈ sv_pr E ls from hq)
  rw [h2]
  exact h.2.2 _ _ h1
theorem sv_cl_get {ls : List (Option sv_V)} {i j : Nat} {v : sv_V} (h : (sv_cl ls i)[j]? = some (some v)) : ls[j]? = some (some v) ∧ ¬ (j + 1 = i ∧ ∃ z, v = vL z) := by
  unfold sv_cl at h
  split at h
  · exact ⟨h, fun q => by omega⟩
  · rename_i k
    split at h
    · rename_i z hz
      by_cases q : j = k
      · subst q
        rw [List.getElem?_set_self (List.getElem?_eq_some_iff.mp hz).1] at h
        cases h
      · rw [List.getElem?_set_ne (Ne.symm q)] at h
        exact ⟨h, fun q2 => by omega⟩
    · rename_i hn
      refine ⟨h, fun q2 => ?_⟩
      obtain ⟨q3, z, rfl⟩ := q2
      have q4 : j = k := by omega
      subst q4
      exact hn z h
theorem cv_cat2 {E : sv_E} {v : sv_V} (h : (cv E v).category = 2) : ∃ z, v = vL z := by
  match v with
  | .inl z => simp [cv, Value.category] at h
  | .inr (.inl z) => exact ⟨z, rfl⟩
  | .inr (.inr (.inl a)) => simp [cv, Value.category] at h
  | .inr (.inr (.inr false)) => simp [cv, Value.category] at h
  | .inr (.inr (.inr true)) => simp [cv, Value.category] at h
theorem sv_L.st1 {E : sv_E} {lsA : Array Slot} {nL : Nat} {ls : List (Option sv_V)} {i : Nat} {x : Value} {o : Option sv_V} (ho : ∀ v, o = some v → x = cv E v)
    (h : lv_has lsA nL ((i, x) :: (sv_pr E ls).filter (fun q => !(q.1 == i) && !(q.1 + 1 == i && q.2.category == 2)))) : sv_L E lsA nL (sv_st1 ls i o) := by
  refine ⟨h.1, h.2.1, fun j v hj => ?_⟩
  unfold sv_st1 at hj
  by_cases q : j = i
  · subst q
    by_cases q2 : j < (sv_cl ls j).length
    · rw [List.getElem?_set_self q2] at hj
      rw [← ho v (Option.some.inj hj)]
      exact h.2.2 (j, x) List.mem_cons_self
    · rw [List.getElem?_eq_none (by rw [List.length_set]; omega)] at hj
      cases hj
  · rw [List.getElem?_set_ne (Ne.symm q)] at hj
    obtain ⟨g1, g2⟩ := sv_cl_get hj
    refine h.2.2 (j, cv E v) (List.mem_cons_of_mem _ (List.mem_filter.mpr ⟨sv_pr_in.mpr ⟨v, g1, rfl⟩, ?_⟩))
    simp only [Bool.and_eq_true, Bool.not_eq_true', beq_eq_false_iff_ne, ne_eq, Bool.and_eq_false_iff]
    refine ⟨q, ?_⟩
    by_cases q3 : j + 1 = i
    · right
      intro q4
      exact g2 ⟨q3, cv_cat2 q4⟩
    · exact Or.inl q3
theorem sv_L.st2 {E : sv_E} {lsA : Array Slot} {nL : Nat} {ls : List (Option sv_V)} {i : Nat} {x : Value} {o : Option sv_V} (ho : ∀ v, o = some v → x = cv E v)
    (h : lv_has lsA nL ((i, x) :: (sv_pr E ls).filter (fun q => !(q.1 == i) && (!(q.1 == i + 1) && !(q.1 + 1 == i && q.2.category == 2))))) : sv_L E lsA nL (sv_st2 ls i o) := by
  refine ⟨h.1, h.2.1, fun j v hj => ?_⟩
  unfold sv_st2 at hj
  by_cases q0 : j = i + 1
  · subst q0
    by_cases q2 : i + 1 < ((sv_cl ls i).set i o).length
    · rw [List.getElem?_set_self q2] at hj
      cases hj
    · rw [List.getElem?_eq_none (by rw [List.length_set]; omega)] at hj
      cases hj
  rw [List.getElem?_set_ne (Ne.symm q0)] at hj
  by_cases q : j = i
  · subst q
    by_cases q2 : j < (sv_cl ls j).length
    · rw [List.getElem?_set_self q2] at hj
      rw [← ho v (Option.some.inj hj)]
      exact h.2.2 (j, x) List.mem_cons_self
    · rw [List.getElem?_eq_none (by rw [List.length_set]; omega)] at hj
      cases hj
  · rw [List.getElem?_set_ne (Ne.symm q)] at hj
    obtain ⟨g1, g2⟩ := sv_cl_get hj
    refine h.2.2 (j, cv E v) (List.mem_cons_of_mem _ (List.mem_filter.mpr ⟨sv_pr_in.mpr ⟨v, g1, rfl⟩, ?_⟩))
    simp only [Bool.and_eq_true, Bool.not_eq_true', beq_eq_false_iff_ne, ne_eq, Bool.and_eq_false_iff]
    refine ⟨q, q0, ?_⟩
    by_cases q3 : j + 1 = i
    · right
      intro q4
      exact g2 ⟨q3, cv_cat2 q4⟩
    · exact Or.inl q3
theorem sv_refl (U : State) : U.WarmedH U.vm := State.WarmedH.refl U

