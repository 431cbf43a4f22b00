def nw26 : nOr := (ktX nc26.2.1, ngH, ngF, fun y pc x => bif Nat.beq y 31 && Nat.beq pc 12 then some ([((0, 1, 0), (-2147483648), 2147483647), ((0, 2, 0), 0, 1101), ((0, 3, 0), 0, 1), ((0, 4, 0), 0, 162)], [([(1, 0, 2, 0), ((-1), 0, 4, 0)], 900)], (3, true), [], [(8, 3, 3)], 100) else none)
set_option maxRecDepth 1000000 in
theorem nq26 : ncheck kt0 [] nw26 3000 nc26 = true := by decide +kernel
-- LP$Reader.wordNumber, steps 90
def nw27 : nOr := (ktX nc27.2.1, ngH, ngF, fun y pc x => bif Nat.beq y 25 && Nat.beq pc 8 then some ([((2, 8, 3), 0, 900)], [], (0, true), [], [(8, 4, 4)], 57) else none)
set_option maxRecDepth 1000000 in
theorem nq27 : ncheck kt0 [nc24, nc25, nc26] nw27 3000 nc27 = true := by decide +kernel
-- LP$Reader.advance, steps 1830
def nw28 : nOr := (ktX nc28.2.1, ngH, ngF, fun _ _ _ => none)
set_option maxRecDepth 1000000 in
theorem nq28 : ncheck kt0 [] nw28 3000 nc28 = true := by decide +kernel
-- LP$Reader.wrong, steps 22
def nw29 : nOr := (ktX nc29.2.1, ngH, ngF, fun _ _ _ => none)
set_option maxRecDepth 1000000 in
theorem nq29 : ncheck kt0 [nc27, nc28] nw29 3000 nc29 = true := by decide +kernel
-- LP$Reader.passClose, steps 20
def nw30 : nOr := (ktX nc30.2.1, ngH, ngF, fun y pc x => bif Nat.beq y 355 && Nat.beq pc 5 then some ([((0, 2, 0), 0, 121)], [], (0, true), [], [], 17) else none)
set_option maxRecDepth 1000000 in
theorem nq30 : ncheck kt0 [] nw30 3000 nc30 = true := by decide +kernel
-- Arrays.fill, steps 17
def nw31 : nOr := (ktX nc31.2.1, ngH, ngF, fun _ _ _ => none)
set_option maxRecDepth 1000000 in
theorem nq31 : ncheck kt0 [nc28] nw31 3000 nc31 = true := by decide +kernel
-- LP$Reader.isName, steps 36
def nw32 : nOr := (ktX nc32.2.1, ngH, ngF, fun y pc x => bif Nat.beq y 40 && Nat.beq pc 3 then some ([((0, 4, 0), 0, 5)], [], (0, true), [], [], 31) else none)
set_option maxRecDepth 1000000 in
theorem nq32 : ncheck kt0 [] nw32 3000 nc32 = true := by decide +kernel
-- LP$Reader.indexOf, steps 28
def nw33 : nOr := (ktX nc33.2.1, ngH, ngF, fun y pc x => bif Nat.beq y 40 && Nat.beq pc 3 then some ([((0, 4, 0), 0, 6)], [], (0, true), [], [], 31) else none)
set_option maxRecDepth 1000000 in
theorem nq33 : ncheck kt0 [] nw33 3000 nc33 = true := by decide +kernel
-- LP$Reader.indexOf, steps 28
def nw34 : nOr := (ktX nc34.2.1, ngH, ngF, fun y pc x => bif Nat.beq y 40 && Nat.beq pc 3 then some ([((0, 4, 0), 0, 4)], [], (0, true), [], [], 31) else none)
set_option maxRecDepth 1000000 in
theorem nq34 : ncheck kt0 [] nw34 3000 nc34 = true := by decide +kernel
-- LP$Reader.indexOf, steps 28
def nw35 : nOr := (ktX nc35.2.1, ngH, ngF, fun _ _ _ => none)
set_option maxRecDepth 1000000 in
theorem nq35 : ncheck kt0 [nc28, nc31, nc32, nc33, nc34] nw35 3000 nc35 = true := by decide +kernel
-- LP$SceneReader.isNewName, steps 89
def nw36 : nOr := (ktX nc36.2.1, ngH, ngF, fun _ _ _ => none)
set_option maxRecDepth 1000000 in
theorem nq36 : ncheck kt0 [nc27, nc28] nw36 3000 nc36 = true := by decide +kernel
-- LP$SceneReader.readTimes, steps 253
def nw37 : nOr := (ktX nc37.2.1, ngH, ngF, fun y pc x => bif Nat.beq y 86 && Nat.beq pc 2 then some ([((0, 2, 0), 0, 8)], [], (0, true), [], [], 52) else none)
set_option maxRecDepth 1000000 in
theorem nq37 : ncheck kt0 [nc27, nc28] nw37 3000 nc37 = true := by decide +kernel
-- LP$SceneReader.readSteps, steps 230
def nw38 : nOr := (ktX nc38.2.1, ngH, ngF, fun _ _ _ => none)
set_option maxRecDepth 1000000 in
theorem nq38 : ncheck kt0 [nc23, nc27, nc28, nc29, nc35, nc36, nc37] nw38 3000 nc38 = true := by decide +kernel
-- LP$SceneReader.readPerson, steps 857
def nw39 : nOr := (ktX nc39.2.1, ngH, ngF, fun _ _ _ => none)
set_option maxRecDepth 1000000 in
theorem nq39 : ncheck kt0 [nc27, nc28, nc31, nc32] nw39 3000 nc39 = true := by decide +kernel
-- LP$SceneReader.readSeen, steps 435
