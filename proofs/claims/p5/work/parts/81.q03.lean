def nw39 : nOr := (ktX nc39.2.1, ngH, ngF, fun _ _ _ => none)
set_option maxRecDepth 1000000 in
theorem nq39 : ncheck ktN [nc38] nw39 3000 nc39 = true := by decide +kernel
-- LP.scene, steps 314
def nw41 : nOr := (ktX nc41.2.1, ngH, ngF, fun y pc x => bif Nat.beq y 222 && Nat.beq pc 0 then some ([((2, 185, 14), 0, 900)], [], (0, true), [], [], 36) else bif Nat.beq y 222 && Nat.beq pc 81 then some ([((2, 185, 14), 0, 900)], [], (0, true), [], [(185, 11, 11), (185, 13, 13), (185, 15, 15)], 105) else bif Nat.beq y 222 && Nat.beq pc 128 then some ([((2, 185, 14), 0, 900)], [], (0, true), [], [(185, 11, 11), (185, 13, 13)], 180) else none)
set_option maxRecDepth 1000000 in
theorem nq41 : ncheck ktN [] nw41 3000 nc41 = true := by decide +kernel
-- LPModel.ahead, steps 2195
def nw42 : nOr := (ktX nc42.2.1, ngH, ngF, fun y pc x => bif Nat.beq y 226 && Nat.beq pc 26 then some ([((0, 3, 0), 0, 900)], [], (0, true), [], [(185, 10, 11)], 46) else none)
set_option maxRecDepth 1000000 in
theorem nq42 : ncheck ktN [nc41] nw42 3000 nc42 = true := by decide +kernel
-- LPModel.begins, steps 54
def nw44 : nOr := (ktX nc44.2.1, ngH, ngF, fun y pc x => bif Nat.beq y 40 && Nat.beq pc 3 then some ([((0, 4, 0), 0, 4)], [], (0, true), [], [], 31) else none)
set_option maxRecDepth 1000000 in
theorem nq44 : ncheck ktN [] nw44 3000 nc44 = true := by decide +kernel
-- LP$Reader.indexOf, steps 28
def nw45 : nOr := (ktX nc45.2.1, ngH, ngF, fun y pc x => bif Nat.beq y 40 && Nat.beq pc 3 then some ([((0, 4, 0), 0, 5)], [], (0, true), [], [], 31) else none)
set_option maxRecDepth 1000000 in
theorem nq45 : ncheck ktN [] nw45 3000 nc45 = true := by decide +kernel
-- LP$Reader.indexOf, steps 28
def nw46 : nOr := (ktX nc46.2.1, ngH, ngF, fun y pc x => bif Nat.beq y 40 && Nat.beq pc 3 then some ([((0, 4, 0), 0, 6)], [], (0, true), [], [], 31) else none)
set_option maxRecDepth 1000000 in
theorem nq46 : ncheck ktN [] nw46 3000 nc46 = true := by decide +kernel
-- LP$Reader.indexOf, steps 28
def nw47 : nOr := (ktX nc47.2.1, ngH, ngF, fun _ _ _ => none)
set_option maxRecDepth 1000000 in
theorem nq47 : ncheck ktN [nc26, nc44] nw47 3000 nc47 = true := by decide +kernel
-- LP$RunReader.readCoinTest, steps 764
def nw48 : nOr := (ktX nc48.2.1, ngH, ngF, fun _ _ _ => none)
set_option maxRecDepth 1000000 in
theorem nq48 : ncheck ktN [nc26, nc45, nc46, nc47] nw48 3000 nc48 = true := by decide +kernel
-- LP$RunReader.readTest, steps 527
