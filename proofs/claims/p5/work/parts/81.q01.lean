def nw18 : nOr := (ktX nc18.2.1, ngH, ngF, fun y pc x => bif Nat.beq y 142 && Nat.beq pc 3 then some ([((0, 2, 0), (-8), 24)], [], (0, false), [], [], 46) else none)
set_option maxRecDepth 1000000 in
theorem nq18 : ncheck kt0 [] nw18 3000 nc18 = true := by decide +kernel
-- LP.putOnTape, steps 32
def nw19 : nOr := (ktX nc19.2.1, ngH, ngF, fun _ _ _ => none)
set_option maxRecDepth 1000000 in
theorem nq19 : ncheck kt0 [nc18] nw19 3000 nc19 = true := by decide +kernel
-- LP.feed, steps 26
def nw20 : nOr := (ktX nc20.2.1, ngH, ngF, fun _ _ _ => none)
set_option maxRecDepth 1000000 in
theorem nq20 : ncheck kt0 [] nw20 3000 nc20 = true := by decide +kernel
-- LPModel.feed, steps 431
def nw22 : nOr := (ktX nc22.2.1, ngH, ngF, fun y pc x => bif Nat.beq y 11 && Nat.beq pc 7 then some ([((0, 1, 0), 0, 5)], [], (0, true), [], [(38, 1, 1)], 50) else none)
set_option maxRecDepth 1000000 in
theorem nq22 : ncheck kt0 [] nw22 3000 nc22 = true := by decide +kernel
-- LP$Folk.begin, steps 46
def nw23 : nOr := (ktX nc23.2.1, ngH, ngF, fun y pc x => bif Nat.beq y 15 && Nat.beq pc 2 then some ([((0, 2, 0), 0, 5)], [], (0, true), [], [], 25) else none)
set_option maxRecDepth 1000000 in
theorem nq23 : ncheck kt0 [] nw23 3000 nc23 = true := by decide +kernel
-- LP$Folk.isHome, steps 20
def nw24 : nOr := (ktX nc24.2.1, ngH, ngF, fun y pc x => bif Nat.beq y 28 && Nat.beq pc 5 then some ([((2, 8, 4), 0, 900)], [], (0, true), [], [(8, 2, 2)], 79) else none)
set_option maxRecDepth 1000000 in
theorem nq24 : ncheck kt0 [] nw24 3000 nc24 = true := by decide +kernel
-- LP$Reader.scanWord, steps 86
def nw25 : nOr := (ktX nc25.2.1, ngH, ngF, fun y pc x => bif Nat.beq y 29 && Nat.beq pc 0 then some ([((2, 8, 4), 0, 900)], [], (0, true), [], [], 69) else none)
set_option maxRecDepth 1000000 in
theorem nq25 : ncheck kt0 [] nw25 3000 nc25 = true := by decide +kernel
-- LP$Reader.scanNumber, steps 136
def nw26 : nOr := (ktX nc26.2.1, ngH, ngF, fun y pc x => bif Nat.beq y 31 && Nat.beq pc 12 then some ([((0, 1, 0), (-2147483648), 2147483647), ((0, 2, 0), 0, 1101), ((0, 3, 0), 0, 1), ((0, 4, 0), 0, 162)], [([(1, 0, 2, 0), ((-1), 0, 4, 0)], 900)], (3, true), [], [(8, 3, 3)], 100) else none)
set_option maxRecDepth 1000000 in
theorem nq26 : ncheck kt0 [] nw26 3000 nc26 = true := by decide +kernel
-- LP$Reader.wordNumber, steps 90
def nw27 : nOr := (ktX nc27.2.1, ngH, ngF, fun y pc x => bif Nat.beq y 25 && Nat.beq pc 8 then some ([((2, 8, 3), 0, 900)], [], (0, true), [], [(8, 4, 4)], 57) else none)
set_option maxRecDepth 1000000 in
theorem nq27 : ncheck kt0 [nc24, nc25, nc26] nw27 3000 nc27 = true := by decide +kernel
-- LP$Reader.advance, steps 1830
