def nw27 : nOr := (ktX nc27.2.1, ngH, ngF, fun y pc x => bif Nat.beq y 355 && Nat.beq pc 5 then some ([((0, 2, 0), 0, 121)], [], (0, true), [], [], 17) else none)
set_option maxRecDepth 1000000 in
theorem nq27 : ncheck ktN [] nw27 3000 nc27 = true := by decide +kernel
-- Arrays.fill, steps 17
def nw28 : nOr := (ktX nc28.2.1, ngH, ngF, fun y pc x => bif Nat.beq y 40 && Nat.beq pc 3 then some ([((0, 4, 0), 0, 5)], [], (0, true), [], [], 31) else none)
set_option maxRecDepth 1000000 in
theorem nq28 : ncheck ktN [] nw28 3000 nc28 = true := by decide +kernel
-- LP$Reader.indexOf, steps 28
def nw29 : nOr := (ktX nc29.2.1, ngH, ngF, fun y pc x => bif Nat.beq y 40 && Nat.beq pc 3 then some ([((0, 4, 0), 0, 6)], [], (0, true), [], [], 31) else none)
set_option maxRecDepth 1000000 in
theorem nq29 : ncheck ktN [] nw29 3000 nc29 = true := by decide +kernel
-- LP$Reader.indexOf, steps 28
def nw30 : nOr := (ktX nc30.2.1, ngH, ngF, fun y pc x => bif Nat.beq y 40 && Nat.beq pc 3 then some ([((0, 4, 0), 0, 4)], [], (0, true), [], [], 31) else none)
set_option maxRecDepth 1000000 in
theorem nq30 : ncheck ktN [] nw30 3000 nc30 = true := by decide +kernel
-- LP$Reader.indexOf, steps 28
def nw31 : nOr := (ktX nc31.2.1, ngH, ngF, fun _ _ _ => none)
set_option maxRecDepth 1000000 in
theorem nq31 : ncheck ktN [nc28, nc29, nc30] nw31 3000 nc31 = true := by decide +kernel
-- LP$SceneReader.isNewName, steps 225
def nw32 : nOr := (ktX nc32.2.1, ngH, ngF, fun _ _ _ => none)
set_option maxRecDepth 1000000 in
theorem nq32 : ncheck ktN [nc26] nw32 3000 nc32 = true := by decide +kernel
-- LP$SceneReader.readTimes, steps 409
def nw33 : nOr := (ktX nc33.2.1, ngH, ngF, fun y pc x => bif Nat.beq y 86 && Nat.beq pc 2 then some ([((0, 2, 0), 0, 8)], [], (0, true), [], [], 52) else none)
set_option maxRecDepth 1000000 in
theorem nq33 : ncheck ktN [nc26] nw33 3000 nc33 = true := by decide +kernel
-- LP$SceneReader.readSteps, steps 303
def nw34 : nOr := (ktX nc34.2.1, ngH, ngF, fun _ _ _ => none)
set_option maxRecDepth 1000000 in
theorem nq34 : ncheck ktN [nc22, nc26, nc31, nc32, nc33] nw34 3000 nc34 = true := by decide +kernel
-- LP$SceneReader.readPerson, steps 1665
def nw35 : nOr := (ktX nc35.2.1, ngH, ngF, fun _ _ _ => none)
set_option maxRecDepth 1000000 in
theorem nq35 : ncheck ktN [nc26, nc28] nw35 3000 nc35 = true := by decide +kernel
-- LP$SceneReader.readSeen, steps 829
def nw36 : nOr := (ktX nc36.2.1, ngH, ngF, fun _ _ _ => none)
set_option maxRecDepth 1000000 in
theorem nq36 : ncheck ktN [nc26, nc31, nc35] nw36 3000 nc36 = true := by decide +kernel
-- LP$SceneReader.readSight, steps 313
def nw37 : nOr := (ktX nc37.2.1, ngH, ngF, fun _ _ _ => none)
set_option maxRecDepth 1000000 in
theorem nq37 : ncheck ktN [nc26, nc31] nw37 3000 nc37 = true := by decide +kernel
-- LP$SceneReader.readBuyer, steps 332
def nw38 : nOr := (ktX nc38.2.1, ngH, ngF, fun y pc x => bif Nat.beq y 75 && Nat.beq pc 24 then some ([((0, 2, 0), 0, 1), ((0, 3, 0), 0, 900)], [], (1, true), [], [(8, 1, 1), (38, 1, 1), (52, 0, 2)], 188) else none)
set_option maxRecDepth 1000000 in
theorem nq38 : ncheck ktN [nc21, nc22, nc26, nc27, nc34, nc36, nc37] nw38 3000 nc38 = true := by decide +kernel
-- LP$SceneReader.reads, steps 4324
