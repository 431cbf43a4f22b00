def nw180 : nOr := (ktX nc180.2.1, ngH, ngF, fun y pc x => bif Nat.beq y 97 && Nat.beq pc 5 then some ([((0, 3, 0), (-2147483648), 2147483647), ((0, 4, 0), 0, 4)], [], (1, true), [], [], 18) else bif Nat.beq y 97 && Nat.beq pc 27 then some ([((0, 4, 0), (-2147483648), 2147483647), ((0, 5, 0), 0, 2147483647)], [], (1, true), [], [], 74) else none)
set_option maxRecDepth 1000000 in
theorem nq180 : ncheck ktN [nc177, nc179] nw180 3000 nc180 = true := by decide +kernel
-- LP$Tracks.countRows, steps 55
def nw181 : nOr := (ktX nc181.2.1, ngH, ngF, fun _ _ _ => none)
set_option maxRecDepth 1000000 in
theorem nq181 : ncheck ktN [nc173, nc174, nc175, nc176, nc180] nw181 3000 nc181 = true := by decide +kernel
-- LP.steps, steps 383
def nw182 : nOr := (ktX nc182.2.1, ngH, ngF, fun _ _ _ => none)
set_option maxRecDepth 1000000 in
theorem nq182 : ncheck ktN [] nw182 3000 nc182 = true := by decide +kernel
-- LPModel.wrongCells, steps 39
def nw183 : nOr := (ktX nc183.2.1, ngH, ngF, fun y pc x => bif Nat.beq y 328 && Nat.beq pc 47 then some ([((0, 3, 0), 0, 20)], [], (0, true), [], [(189, 0, 3)], 161) else none)
set_option maxRecDepth 1000000 in
theorem nq183 : ncheck ktN [] nw183 3000 nc183 = true := by decide +kernel
-- LPModel.wrongCells, steps 34179
