def nw41 : nOr := (ktX nc41.2.1, ngH, ngF, fun _ _ _ => none)
set_option maxRecDepth 1000000 in
theorem nq41 : ncheck kt0 [nc21, nc39, nc40] nw41 3000 nc41 = true := by decide +kernel
-- LP.scene, steps 232
def nw43 : nOr := (ktX rc43.1.2.1, ngH, ngF, fun y pc x => bif Nat.beq y 222 && Nat.beq pc 0 then some ([((2, 185, 14), 0, 900)], [([(1, 4, 1, 0), ((-1), 2, 185, 14)], 0)], (0, true), [], [], 36) else bif Nat.beq y 222 && Nat.beq pc 81 then some ([((2, 185, 14), 1, 900)], [([(1, 4, 1, 0), ((-1), 2, 185, 14)], (-1))], (0, true), [], [(185, 11, 11), (185, 13, 13), (185, 15, 15)], 105) else bif Nat.beq y 222 && Nat.beq pc 128 then some ([((2, 185, 14), 1, 900)], [([(1, 4, 1, 0), ((-1), 2, 185, 14)], (-1))], (0, true), [], [(185, 11, 11), (185, 13, 13)], 180) else none)
set_option maxRecDepth 1000000 in
theorem nq43 : nrchk kt0 [] nw43 3000 rc43 = true := by decide +kernel
set_option maxRecDepth 1000000 in
theorem nq43l : nrchk kt0 [] nw43 3000 rc43l = true := by decide +kernel
-- LPModel.ahead, steps 3063
