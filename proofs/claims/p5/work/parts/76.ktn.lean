def ktN : nTb := ((ktK, ktB), (fun _ _ => true), fun _ => True)
def ktS (y pc : Nat) : Option ((Nat × Nat × Nat) × List Int) := bif Nat.beq pc 0 && (Nat.ble 332 y && Nat.ble y 334) then some ((0, 2, 0), [1, 21]) else none
def ktX (_ : nMl) : Nat → Nat → nS → nX := ncut ktS
theorem ktN_cl : nCl ktN := ⟨fun _ _ _ _ _ h => h, rfl⟩
