def ktN : nTb := ((ktK, ktB), (fun _ _ => true), fun _ => True)
def ktX (_ : nMl) : Nat → Nat → nS → nX := fun _ _ _ => none
