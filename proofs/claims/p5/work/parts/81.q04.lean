def nw52 : nOr := (ktX nc52.2.1, ngH, ngF, fun _ _ _ => none)
set_option maxRecDepth 1000000 in
theorem nq52 : ncheck ktN [] nw52 3000 nc52 = true := by decide +kernel
-- LP.fault, steps 14
def nw53 : nOr := (ktX nc53.2.1, ngH, ngF, fun _ _ _ => none)
set_option maxRecDepth 1000000 in
theorem nq53 : ncheck ktN [] nw53 3000 nc53 = true := by decide +kernel
-- LPModel.fault, steps 15
def nw54 : nOr := (ktX nc54.2.1, ngH, ngF, fun y pc x => bif Nat.beq y 113 && Nat.beq pc 4 then some ([((0, 2, 0), (-2147483648), 2147483647), ((0, 3, 0), 1, 121)], [], (1, true), [], [], 26) else none)
set_option maxRecDepth 1000000 in
theorem nq54 : ncheck ktN [] nw54 3000 nc54 = true := by decide +kernel
-- LP$World.printsOf, steps 23
def nw55 : nOr := (ktX nc55.2.1, ngH, ngF, fun y pc x => bif Nat.beq y 116 && Nat.beq pc 4 then some ([((0, 1, 0), (-2147483648), 2147483647), ((0, 2, 0), 0, 4)], [], (1, true), [], [], 24) else none)
set_option maxRecDepth 1000000 in
theorem nq55 : ncheck ktN [] nw55 3000 nc55 = true := by decide +kernel
-- LP$World.allCoins, steps 21
def nw56 : nOr := (ktX nc56.2.1, ngH, ngF, fun y pc x => bif Nat.beq y 16 && Nat.beq pc 4 then some ([((0, 2, 0), (-2147483648), 2147483647), ((0, 3, 0), 0, 5)], [], (1, true), [], [], 31) else none)
set_option maxRecDepth 1000000 in
theorem nq56 : ncheck ktN [] nw56 3000 nc56 = true := by decide +kernel
-- LP$Folk.setIn, steps 29
def nw60 : nOr := (ktX nc60.2.1, ngH, ngF, fun y pc x => bif Nat.beq y 266 && Nat.beq pc 4 then some ([((0, 1, 0), 0, 63), ((0, 2, 0), 0, 6)], [], (1, true), [], [], 35) else none)
set_option maxRecDepth 1000000 in
theorem nq60 : ncheck ktN [nc59] nw60 3000 nc60 = true := by decide +kernel
-- LPModel.shown, steps 63
def nw61 : nOr := (ktX nc61.2.1, ngH, ngF, fun y pc x => bif Nat.beq y 267 && Nat.beq pc 4 then some ([((0, 2, 0), 0, 31), ((0, 3, 0), 0, 5)], [], (1, true), [], [], 37) else none)
set_option maxRecDepth 1000000 in
theorem nq61 : ncheck ktN [] nw61 3000 nc61 = true := by decide +kernel
-- LPModel.inState, steps 141
def nw62 : nOr := (ktX nc62.2.1, ngH, ngF, fun _ _ _ => none)
set_option maxRecDepth 1000000 in
theorem nq62 : ncheck ktN [] nw62 3000 nc62 = true := by decide +kernel
-- LPModel.sumOf, steps 429
def nw63 : nOr := (ktX nc63.2.1, ngH, ngF, fun _ _ _ => none)
set_option maxRecDepth 1000000 in
theorem nq63 : ncheck ktN [] nw63 3000 nc63 = true := by decide +kernel
-- LPModel.sumOf, steps 73
def nw64 : nOr := (ktX nc64.2.1, ngH, ngF, fun y pc x => bif Nat.beq y 269 && Nat.beq pc 4 then some ([((0, 2, 0), (-2147483648), 2147483647), ((0, 3, 0), 0, 120)], [], (1, true), [], [], 62) else none)
set_option maxRecDepth 1000000 in
theorem nq64 : ncheck ktN [] nw64 3000 nc64 = true := by decide +kernel
-- LPModel.printsOf, steps 57
def nw65 : nOr := (ktX nc65.2.1, ngH, ngF, fun _ _ _ => none)
set_option maxRecDepth 1000000 in
theorem nq65 : ncheck ktN [nc60, nc61, nc62, nc63, nc64] nw65 3000 nc65 = true := by decide +kernel
-- LPModel.told, steps 156
def nw66 : nOr := (ktX nc66.2.1, ngH, ngF, fun y pc x => bif Nat.beq y 13 && Nat.beq pc 2 then some ([((0, 2, 0), 0, 5)], [], (0, true), [], [], 24) else none)
set_option maxRecDepth 1000000 in
theorem nq66 : ncheck ktN [] nw66 3000 nc66 = true := by decide +kernel
-- LP$Folk.standing, steps 38
def nw67 : nOr := (ktX nc67.2.1, ngH, ngF, fun _ _ _ => none)
set_option maxRecDepth 1000000 in
theorem nq67 : ncheck ktN [nc66] nw67 3000 nc67 = true := by decide +kernel
-- LP.who, steps 225
def nw68 : nOr := (ktX nc68.2.1, ngH, ngF, fun y pc x => bif Nat.beq y 264 && Nat.beq pc 2 then some ([((0, 2, 0), 0, 5)], [], (0, true), [], [], 35) else none)
set_option maxRecDepth 1000000 in
theorem nq68 : ncheck ktN [] nw68 3000 nc68 = true := by decide +kernel
-- LPModel.whoAt, steps 241
def nw69 : nOr := (ktX nc69.2.1, ngH, ngF, fun _ _ _ => none)
set_option maxRecDepth 1000000 in
theorem nq69 : ncheck ktN [nc68] nw69 3000 nc69 = true := by decide +kernel
-- LPModel.who, steps 227
def nw70 : nOr := (ktX nc70.2.1, ngH, ngF, fun _ _ _ => none)
set_option maxRecDepth 1000000 in
theorem nq70 : ncheck ktN [] nw70 3000 nc70 = true := by decide +kernel
-- LP.wall, steps 340
def nw71 : nOr := (ktX nc71.2.1, ngH, ngF, fun _ _ _ => none)
set_option maxRecDepth 1000000 in
theorem nq71 : ncheck ktN [] nw71 3000 nc71 = true := by decide +kernel
-- LPModel.wall, steps 139
def nw72 : nOr := (ktX nc72.2.1, ngH, ngF, fun _ _ _ => none)
set_option maxRecDepth 1000000 in
theorem nq72 : ncheck ktN [] nw72 3000 nc72 = true := by decide +kernel
-- LP.person, steps 312
def nw73 : nOr := (ktX nc73.2.1, ngH, ngF, fun _ _ _ => none)
set_option maxRecDepth 1000000 in
theorem nq73 : ncheck ktN [] nw73 3000 nc73 = true := by decide +kernel
-- LPModel.person, steps 1512
