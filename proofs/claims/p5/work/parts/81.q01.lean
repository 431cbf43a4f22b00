def nw22 : nOr := (ktX nc22.2.1, ngH, ngF, fun y pc x => bif Nat.beq y 11 && Nat.beq pc 7 then some ([((0, 1, 0), 0, 5)], [], (0, true), [], [(38, 1, 1)], 50) else none)
set_option maxRecDepth 1000000 in
theorem nq22 : ncheck kt0 [] nw22 3000 nc22 = true := by decide +kernel
-- LP$Folk.begin, steps 46
def nw23 : nOr := (ktX nc23.2.1, ngH, ngF, fun y pc x => bif Nat.beq y 15 && Nat.beq pc 2 then some ([((0, 2, 0), 0, 5)], [], (0, true), [], [], 25) else none)
set_option maxRecDepth 1000000 in
theorem nq23 : ncheck kt0 [] nw23 3000 nc23 = true := by decide +kernel
-- LP$Folk.isHome, steps 20
def nw24 : nOr := (ktX nc24.2.1, ngH, ngF, fun y pc x => bif Nat.beq y 28 && Nat.beq pc 5 then some ([((2, 8, 4), 0, 900)], [], (0, true), [], [(8, 2, 2)], 79) else none)
set_option maxRecDepth 1000000 in
theorem nq24 : ncheck kt0 [] nw24 3000 nc24 = true := by decide +kernel
-- LP$Reader.scanWord, steps 86
def nw25 : nOr := (ktX nc25.2.1, ngH, ngF, fun y pc x => bif Nat.beq y 29 && Nat.beq pc 0 then some ([((2, 8, 4), 0, 900)], [], (0, true), [], [], 69) else none)
set_option maxRecDepth 1000000 in
theorem nq25 : ncheck kt0 [] nw25 3000 nc25 = true := by decide +kernel
-- LP$Reader.scanNumber, steps 136
def nw26 : nOr := (ktX nc26.2.1, ngH, ngF, fun y pc x => bif Nat.beq y 31 && Nat.beq pc 12 then some ([((0, 1, 0), (-2147483648), 2147483647), ((0, 2, 0), 0, 1101), ((0, 3, 0), 0, 1), ((0, 4, 0), 0, 162)], [([(1, 0, 2, 0), ((-1), 0, 4, 0)], 900)], (3, true), [], [(8, 3, 3)], 100) else none)
set_option maxRecDepth 1000000 in
theorem nq26 : ncheck kt0 [] nw26 3000 nc26 = true := by decide +kernel
-- LP$Reader.wordNumber, steps 90
def nw27 : nOr := (ktX nc27.2.1, ngH, ngF, fun y pc x => bif Nat.beq y 25 && Nat.beq pc 8 then some ([((2, 8, 3), 0, 900)], [], (0, true), [], [(8, 4, 4)], 57) else none)
set_option maxRecDepth 1000000 in
theorem nq27 : ncheck kt0 [nc24, nc25, nc26] nw27 3000 nc27 = true := by decide +kernel
-- LP$Reader.advance, steps 1830
def nw28 : nOr := (ktX nc28.2.1, ngH, ngF, fun y pc x => bif Nat.beq y 355 && Nat.beq pc 5 then some ([((0, 2, 0), 0, 121)], [], (0, true), [], [], 17) else none)
set_option maxRecDepth 1000000 in
theorem nq28 : ncheck kt0 [] nw28 3000 nc28 = true := by decide +kernel
-- Arrays.fill, steps 17
def nw29 : nOr := (ktX nc29.2.1, ngH, ngF, fun y pc x => bif Nat.beq y 40 && Nat.beq pc 3 then some ([((0, 4, 0), 0, 5)], [], (0, true), [], [], 31) else none)
set_option maxRecDepth 1000000 in
theorem nq29 : ncheck kt0 [] nw29 3000 nc29 = true := by decide +kernel
-- LP$Reader.indexOf, steps 28
def nw30 : nOr := (ktX nc30.2.1, ngH, ngF, fun y pc x => bif Nat.beq y 40 && Nat.beq pc 3 then some ([((0, 4, 0), 0, 6)], [], (0, true), [], [], 31) else none)
set_option maxRecDepth 1000000 in
theorem nq30 : ncheck kt0 [] nw30 3000 nc30 = true := by decide +kernel
-- LP$Reader.indexOf, steps 28
def nw31 : nOr := (ktX nc31.2.1, ngH, ngF, fun y pc x => bif Nat.beq y 40 && Nat.beq pc 3 then some ([((0, 4, 0), 0, 4)], [], (0, true), [], [], 31) else none)
set_option maxRecDepth 1000000 in
theorem nq31 : ncheck kt0 [] nw31 3000 nc31 = true := by decide +kernel
-- LP$Reader.indexOf, steps 28
def nw32 : nOr := (ktX nc32.2.1, ngH, ngF, fun _ _ _ => none)
set_option maxRecDepth 1000000 in
theorem nq32 : ncheck kt0 [nc29, nc30, nc31] nw32 3000 nc32 = true := by decide +kernel
-- LP$SceneReader.isNewName, steps 225
def nw33 : nOr := (ktX nc33.2.1, ngH, ngF, fun _ _ _ => none)
set_option maxRecDepth 1000000 in
theorem nq33 : ncheck kt0 [nc27] nw33 3000 nc33 = true := by decide +kernel
-- LP$SceneReader.readTimes, steps 409
def nw34 : nOr := (ktX nc34.2.1, ngH, ngF, fun y pc x => bif Nat.beq y 86 && Nat.beq pc 2 then some ([((0, 2, 0), 0, 8)], [], (0, true), [], [], 52) else none)
set_option maxRecDepth 1000000 in
theorem nq34 : ncheck kt0 [nc27] nw34 3000 nc34 = true := by decide +kernel
-- LP$SceneReader.readSteps, steps 303
def nw35 : nOr := (ktX nc35.2.1, ngH, ngF, fun _ _ _ => none)
set_option maxRecDepth 1000000 in
theorem nq35 : ncheck kt0 [nc23, nc27, nc32, nc33, nc34] nw35 3000 nc35 = true := by decide +kernel
-- LP$SceneReader.readPerson, steps 1665
