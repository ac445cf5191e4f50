def idd {α : Type} (x : α) : α := x
theorem idd_eq {α : Type} (x : α) : idd x = x := rfl
