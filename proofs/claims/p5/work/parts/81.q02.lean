def nw39 : nOr := (ktX nc39.2.1, ngH, ngF, fun _ _ _ => none)
set_option maxRecDepth 1000000 in
theorem nq39 : ncheck ktN [nc38] nw39 3000 nc39 = true := by decide +kernel
-- LP.scene, steps 314
def nw41 : nOr := (ktX nc41.2.1, ngH, ngF, fun y pc x => bif Nat.beq y 222 && Nat.beq pc 0 then some ([((2, 185, 14), 0, 900)], [], (0, true), [], [], 36) else bif Nat.beq y 222 && Nat.beq pc 81 then some ([((2, 185, 14), 0, 900)], [], (0, true), [], [(185, 11, 11), (185, 13, 13), (185, 15, 15)], 105) else bif Nat.beq y 222 && Nat.beq pc 128 then some ([((2, 185, 14), 0, 900)], [], (0, true), [], [(185, 11, 11), (185, 13, 13)], 180) else none)
set_option maxRecDepth 1000000 in
theorem nq41 : ncheck ktN [] nw41 3000 nc41 = true := by decide +kernel
-- LPModel.ahead, steps 2195
def nw42 : nOr := (ktX nc42.2.1, ngH, ngF, fun y pc x => bif Nat.beq y 226 && Nat.beq pc 26 then some ([((0, 3, 0), 0, 900)], [], (0, true), [], [(185, 10, 11)], 46) else none)
set_option maxRecDepth 1000000 in
theorem nq42 : ncheck ktN [nc41] nw42 3000 nc42 = true := by decide +kernel
-- LPModel.begins, steps 54
def nw44 : nOr := (ktX nc44.2.1, ngH, ngF, fun y pc x => bif Nat.beq y 40 && Nat.beq pc 3 then some ([((0, 4, 0), 0, 4)], [], (0, true), [], [], 31) else none)
set_option maxRecDepth 1000000 in
theorem nq44 : ncheck ktN [] nw44 3000 nc44 = true := by decide +kernel
-- LP$Reader.indexOf, steps 28
def nw45 : nOr := (ktX nc45.2.1, ngH, ngF, fun y pc x => bif Nat.beq y 40 && Nat.beq pc 3 then some ([((0, 4, 0), 0, 5)], [], (0, true), [], [], 31) else none)
set_option maxRecDepth 1000000 in
theorem nq45 : ncheck ktN [] nw45 3000 nc45 = true := by decide +kernel
-- LP$Reader.indexOf, steps 28
def nw46 : nOr := (ktX nc46.2.1, ngH, ngF, fun y pc x => bif Nat.beq y 40 && Nat.beq pc 3 then some ([((0, 4, 0), 0, 6)], [], (0, true), [], [], 31) else none)
set_option maxRecDepth 1000000 in
theorem nq46 : ncheck ktN [] nw46 3000 nc46 = true := by decide +kernel
-- LP$Reader.indexOf, steps 28
def nw47 : nOr := (ktX nc47.2.1, ngH, ngF, fun _ _ _ => none)
set_option maxRecDepth 1000000 in
theorem nq47 : ncheck ktN [nc26, nc44] nw47 3000 nc47 = true := by decide +kernel
-- LP$RunReader.readCoinTest, steps 764
def nw48 : nOr := (ktX nc48.2.1, ngH, ngF, fun _ _ _ => none)
set_option maxRecDepth 1000000 in
theorem nq48 : ncheck ktN [nc26, nc45, nc46, nc47] nw48 3000 nc48 = true := by decide +kernel
-- LP$RunReader.readTest, steps 527
def nw52 : nOr := (ktX nc52.2.1, ngH, ngF, fun _ _ _ => none)
set_option maxRecDepth 1000000 in
theorem nq52 : ncheck ktN [] nw52 3000 nc52 = true := by decide +kernel
-- LP.fault, steps 14
def nw53 : nOr := (ktX nc53.2.1, ngH, ngF, fun _ _ _ => none)
set_option maxRecDepth 1000000 in
theorem nq53 : ncheck ktN [] nw53 3000 nc53 = true := by decide +kernel
-- LPModel.fault, steps 15
def nw54 : nOr := (ktX nc54.2.1, ngH, ngF, fun y pc x => bif Nat.beq y 113 && Nat.beq pc 4 then some ([((0, 2, 0), (-2147483648), 2147483647), ((0, 3, 0), 1, 121)], [], (1, true), [], [], 26) else none)
set_option maxRecDepth 1000000 in
theorem nq54 : ncheck ktN [] nw54 3000 nc54 = true := by decide +kernel
-- LP$World.printsOf, steps 23
def nw55 : nOr := (ktX nc55.2.1, ngH, ngF, fun y pc x => bif Nat.beq y 116 && Nat.beq pc 4 then some ([((0, 1, 0), (-2147483648), 2147483647), ((0, 2, 0), 0, 4)], [], (1, true), [], [], 24) else none)
set_option maxRecDepth 1000000 in
theorem nq55 : ncheck ktN [] nw55 3000 nc55 = true := by decide +kernel
-- LP$World.allCoins, steps 21
def nw56 : nOr := (ktX nc56.2.1, ngH, ngF, fun y pc x => bif Nat.beq y 16 && Nat.beq pc 4 then some ([((0, 2, 0), (-2147483648), 2147483647), ((0, 3, 0), 0, 5)], [], (1, true), [], [], 31) else none)
set_option maxRecDepth 1000000 in
theorem nq56 : ncheck ktN [] nw56 3000 nc56 = true := by decide +kernel
-- LP$Folk.setIn, steps 29
def nw59 : nOr := (ktX nc59.2.1, ngH, ngF, fun y pc x => bif Nat.beq y 265 && Nat.beq pc 17 then some ([((0, 3, 0), 0, 5)], [], (0, true), [], [(186, 110, 110), (186, 113, 113), (186, 116, 116), (186, 119, 119), (186, 122, 122), (186, 125, 125)], 40) else none)
set_option maxRecDepth 1000000 in
theorem nq59 : ncheck ktN [] nw59 3000 nc59 = true := by decide +kernel
-- LPModel.doesShow, steps 79235
