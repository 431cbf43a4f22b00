def nw78 : nOr := (ktX nc78.2.1, ngH, ngF, fun _ _ _ => none)
set_option maxRecDepth 1000000 in
theorem nq78 : ncheck ktN [] nw78 3000 nc78 = true := by decide +kernel
-- LP.coins, steps 62
def nw79 : nOr := (ktX nc79.2.1, ngH, ngF, fun _ _ _ => none)
set_option maxRecDepth 1000000 in
theorem nq79 : ncheck ktN [] nw79 3000 nc79 = true := by decide +kernel
-- LPModel.coins, steps 54
def nw80 : nOr := (ktX nc80.2.1, ngH, ngF, fun _ _ _ => none)
set_option maxRecDepth 1000000 in
theorem nq80 : ncheck ktN [] nw80 3000 nc80 = true := by decide +kernel
-- LP.owner, steps 120
def nw81 : nOr := (ktX nc81.2.1, ngH, ngF, fun _ _ _ => none)
set_option maxRecDepth 1000000 in
theorem nq81 : ncheck ktN [] nw81 3000 nc81 = true := by decide +kernel
-- LPModel.owner, steps 102
def nw82 : nOr := (ktX nc82.2.1, ngH, ngF, fun _ _ _ => none)
set_option maxRecDepth 1000000 in
theorem nq82 : ncheck ktN [nc54] nw82 3000 nc82 = true := by decide +kernel
-- LP.prints, steps 61
def nw83 : nOr := (ktX nc83.2.1, ngH, ngF, fun _ _ _ => none)
set_option maxRecDepth 1000000 in
theorem nq83 : ncheck ktN [nc64] nw83 3000 nc83 = true := by decide +kernel
-- LPModel.prints, steps 51
def nw84 : nOr := (ktX nc84.2.1, ngH, ngF, fun y pc x => bif Nat.beq y 14 && Nat.beq pc 17 then some ([((0, 3, 0), 0, 5)], [], (0, true), [], [], 50) else none)
set_option maxRecDepth 1000000 in
theorem nq84 : ncheck ktN [] nw84 3000 nc84 = true := by decide +kernel
-- LP$Folk.isFree, steps 44
def nw85 : nOr := (ktX nc85.2.1, ngH, ngF, fun _ _ _ => none)
set_option maxRecDepth 1000000 in
theorem nq85 : ncheck ktN [nc84] nw85 3000 nc85 = true := by decide +kernel
-- LP$Folk.enter, steps 91
def nw86 : nOr := (ktX nc86.2.1, ngH, ngF, fun _ _ _ => none)
set_option maxRecDepth 1000000 in
theorem nq86 : ncheck ktN [] nw86 3000 nc86 = true := by decide +kernel
-- LP$Room.beside, steps 2376
def nw87 : nOr := (ktX nc87.2.1, ngH, ngF, fun _ _ _ => none)
set_option maxRecDepth 1000000 in
theorem nq87 : ncheck ktN [nc84, nc86] nw87 3000 nc87 = true := by decide +kernel
-- LP$Folk.walk, steps 368
def nw88 : nOr := (ktX nc88.2.1, ngH, ngF, fun y pc x => bif Nat.beq y 18 && Nat.beq pc 2 then some ([((0, 2, 0), 0, 5)], [], (0, true), [], [(10, 4, 6), (12, 1, 1), (32, 0, 3), (33, 1, 120)], 47) else bif Nat.beq y 156 && Nat.beq pc 26 then some ([((0, 3, 0), 0, 99)], [], (0, true), [], [(10, 6, 6)], 54) else none)
set_option maxRecDepth 1000000 in
theorem nq88 : ncheck ktN [nc85, nc87] nw88 3000 nc88 = true := by decide +kernel
-- LP.buy, steps 4381
