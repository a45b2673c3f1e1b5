theorem take_c {ws : List Int} {i : Nat} (h : i < ws.length) : ws.take (i + 1) = ws.take i ++ [ws.getD i 0] := by
  rw [List.take_succ, List.getD_eq_getElem?_getD, List.getElem?_eq_getElem h]
  rfl
theorem m_no {x y z : Int} {ws : List Int} {i : Nat} (h : i + 1 < ws.length) (q : ¬ (ws.getD i 0 = x ∧ ws.getD (i + 1) 0 = y)) : ws.take (i + 1) ++ meltL x y z (ws.drop (i + 1)) = ws.take i ++ meltL x y z (ws.drop i) := by
  rw [take_c (by omega), drop_c (show i < ws.length by omega), drop_c h, List.append_assoc]
  conv => rhs; unfold meltL
  rw [if_neg q]
  rfl
theorem m_yes {x y z : Int} {ws : List Int} {i : Nat} (h : i + 1 < ws.length) (q : ws.getD i 0 = x ∧ ws.getD (i + 1) 0 = y) : (ws.take i ++ [z]) ++ meltL x y z (ws.drop (i + 2)) = ws.take i ++ meltL x y z (ws.drop i) := by
  rw [drop_c (show i < ws.length by omega), drop_c h, List.append_assoc]
  conv => rhs; unfold meltL
  rw [if_pos q]
  rfl
theorem m_end {x y z : Int} {ws : List Int} {i : Nat} (h : ws.length ≤ i + 1) : ws.take i ++ meltL x y z (ws.drop i) = ws := by
  have e : meltL x y z (ws.drop i) = ws.drop i := by
    have hl : (ws.drop i).length ≤ 1 := by rw [List.length_drop]; omega
    match h9 : ws.drop i, hl with
    | [], _ => rfl
    | [a], _ => rfl
    | a :: b :: t, hl => simp at hl
  rw [e, List.take_append_drop]
def cutL (z : Int) (ws : List Int) (i : Nat) : List Int := (ws.take i ++ [z]) ++ ws.drop (i + 2)
theorem cutL_len {z : Int} {ws : List Int} {i : Nat} (h : i + 1 < ws.length) : (cutL z ws i).length = ws.length - 1 := by
  unfold cutL
  rw [List.length_append, List.length_append, List.length_take, List.length_drop]
  show min i ws.length + 1 + (ws.length - (i + 2)) = ws.length - 1
  omega
theorem cutL_at {z : Int} {ws : List Int} {i : Nat} (h : i + 1 < ws.length) {k : Nat} (hk : k < ws.length - 1) : (cutL z ws i).getD k 0 = if k < i then ws.getD k 0 else if k = i then z else ws.getD (k + 1) 0 := by
  have hl : (ws.take i).length = i := by rw [List.length_take]; omega
  unfold cutL
  rw [List.getD_eq_getElem?_getD, List.getD_eq_getElem?_getD, List.getD_eq_getElem?_getD]
  by_cases q : k < i
  · rw [if_pos q, List.getElem?_append_left (by rw [List.length_append, hl]; simp; omega), List.getElem?_append_left (by omega), List.getElem?_take, if_pos q]
  · rw [if_neg q]
    by_cases q2 : k = i
    · rw [if_pos q2, List.getElem?_append_left (by rw [List.length_append, hl]; simp; omega), List.getElem?_append_right (by omega), hl, q2, Nat.sub_self]; rfl
    · rw [if_neg q2, List.getElem?_append_right (by rw [List.length_append, hl]; simp; omega), List.length_append, hl, List.getElem?_drop]
      rw [show i + 2 + (k - (i + [z].length)) = k + 1 by simp; omega]
theorem cutL_eq {x y z : Int} {ws : List Int} {i : Nat} (h : i + 1 < ws.length) (q : ws.getD i 0 = x ∧ ws.getD (i + 1) 0 = y) : (cutL z ws i).take (i + 1) ++ meltL x y z ((cutL z ws i).drop (i + 1)) = ws.take i ++ meltL x y z (ws.drop i) := by
  have hl : (ws.take i ++ [z]).length = i + 1 := by rw [List.length_append, List.length_take]; simp; omega
  rw [← m_yes h q]
  unfold cutL
  rw [List.take_append_of_le_length (by omega), List.drop_append_of_le_length (by omega), List.take_of_length_le (by omega), List.drop_of_length_le (by omega)]
  rfl
