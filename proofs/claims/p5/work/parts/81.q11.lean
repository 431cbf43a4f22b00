def nw97 : nOr := (ktX nc97.2.1, ngH, ngF, fun _ _ _ => none)
set_option maxRecDepth 1000000 in
theorem nq97 : ncheck kt0 [] nw97 3000 nc97 = true := by decide +kernel
-- LPModel.sumOf, steps 73
def nw98 : nOr := (ktX nc98.2.1, ngH, ngF, fun y pc x => bif Nat.beq y 269 && Nat.beq pc 4 then some ([((0, 2, 0), (-2147483648), 2147483647), ((0, 3, 0), 0, 120)], [], (1, true), [], [], 62) else none)
set_option maxRecDepth 1000000 in
theorem nq98 : ncheck kt0 [] nw98 3000 nc98 = true := by decide +kernel
-- LPModel.printsOf, steps 57
def nw99 : nOr := (ktX nc99.2.1, ngH, ngF, fun _ _ _ => none)
set_option maxRecDepth 1000000 in
theorem nq99 : ncheck kt0 [nc94, nc95, nc96, nc97, nc98] nw99 3000 nc99 = true := by decide +kernel
-- LPModel.told, steps 156
def nw100 : nOr := (ktX nc100.2.1, ngH, ngF, fun y pc x => bif Nat.beq y 13 && Nat.beq pc 2 then some ([((0, 2, 0), 0, 5)], [], (0, true), [], [], 24) else none)
set_option maxRecDepth 1000000 in
theorem nq100 : ncheck kt0 [] nw100 3000 nc100 = true := by decide +kernel
-- LP$Folk.standing, steps 38
def nw101 : nOr := (ktX nc101.2.1, ngH, ngF, fun _ _ _ => none)
set_option maxRecDepth 1000000 in
theorem nq101 : ncheck kt0 [nc100] nw101 3000 nc101 = true := by decide +kernel
-- LP.who, steps 225
def nw102 : nOr := (ktX nc102.2.1, ngH, ngF, fun _ _ _ => none)
set_option maxRecDepth 1000000 in
theorem nq102 : ncheck kt0 [] nw102 3000 nc102 = true := by decide +kernel
-- LPModel.personOf, steps 38
def nw103 : nOr := (ktX nc103.2.1, ngH, ngF, fun y pc x => bif Nat.beq y 264 && Nat.beq pc 2 then some ([((0, 2, 0), 0, 5)], [], (0, true), [], [], 35) else none)
set_option maxRecDepth 1000000 in
theorem nq103 : ncheck kt0 [nc92, nc102] nw103 3000 nc103 = true := by decide +kernel
-- LPModel.whoAt, steps 29
def nw104 : nOr := (ktX nc104.2.1, ngH, ngF, fun _ _ _ => none)
set_option maxRecDepth 1000000 in
theorem nq104 : ncheck kt0 [nc103] nw104 3000 nc104 = true := by decide +kernel
-- LPModel.who, steps 227
def nw105 : nOr := (ktX nc105.2.1, ngH, ngF, fun _ _ _ => none)
set_option maxRecDepth 1000000 in
theorem nq105 : ncheck kt0 [] nw105 3000 nc105 = true := by decide +kernel
-- LP.wall, steps 340
def nw106 : nOr := (ktX nc106.2.1, ngH, ngF, fun _ _ _ => none)
set_option maxRecDepth 1000000 in
theorem nq106 : ncheck kt0 [] nw106 3000 nc106 = true := by decide +kernel
-- LPModel.wall, steps 139
def nw107 : nOr := (ktX nc107.2.1, ngH, ngF, fun _ _ _ => none)
set_option maxRecDepth 1000000 in
theorem nq107 : ncheck kt0 [] nw107 3000 nc107 = true := by decide +kernel
-- LP.person, steps 312
def nw108 : nOr := (ktX nc108.2.1, ngH, ngF, fun _ _ _ => none)
set_option maxRecDepth 1000000 in
theorem nq108 : ncheck kt0 [] nw108 3000 nc108 = true := by decide +kernel
-- LPModel.personOf, steps 38
def nw109 : nOr := (ktX nc109.2.1, ngH, ngF, fun _ _ _ => none)
set_option maxRecDepth 1000000 in
theorem nq109 : ncheck kt0 [] nw109 3000 nc109 = true := by decide +kernel
-- LPModel.personOf, steps 38
def nw110 : nOr := (ktX nc110.2.1, ngH, ngF, fun _ _ _ => none)
set_option maxRecDepth 1000000 in
theorem nq110 : ncheck kt0 [] nw110 3000 nc110 = true := by decide +kernel
-- LPModel.personOf, steps 38
def nw111 : nOr := (ktX nc111.2.1, ngH, ngF, fun _ _ _ => none)
set_option maxRecDepth 1000000 in
theorem nq111 : ncheck kt0 [nc92, nc102, nc108, nc109, nc110] nw111 3000 nc111 = true := by decide +kernel
-- LPModel.person, steps 240
def nw112 : nOr := (ktX nc112.2.1, ngH, ngF, fun _ _ _ => none)
set_option maxRecDepth 1000000 in
theorem nq112 : ncheck kt0 [] nw112 3000 nc112 = true := by decide +kernel
-- LP.stepOf, steps 152
def nw113 : nOr := (ktX nc113.2.1, ngH, ngF, fun _ _ _ => none)
set_option maxRecDepth 1000000 in
theorem nq113 : ncheck kt0 [] nw113 3000 nc113 = true := by decide +kernel
-- LPModel.personOf, steps 38
