/-! printed by gen_rows.py -/
theorem elem_c (a b : Nat) (l : List Nat) : List.elem a (b :: l) = (a == b || List.elem a l) := by
  show (match a == b with | true => true | false => List.elem a l) = _
  cases (a == b) <;> rfl
theorem elem_0 (a : Nat) : List.elem a [] = false := rfl
