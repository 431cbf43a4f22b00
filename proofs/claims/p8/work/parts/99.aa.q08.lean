def nw80 : nOr := (nXor (nrcX (ktT nc80.2.1) nc80.2.1 rc79 ksi249) (ktX nc80.2.1), ngH, ngF, fun y pc x => bif Nat.beq y 250 && Nat.beq pc 38 then some ([((0, 2, 0), 1, 1), ((2, 186, 2488), 0, 60), ((2, 185, 22), 0, 3), ((2, 185, 23), 0, 30), ((2, 185, 14), 0, 900), ((2, 186, 5), 0, 999)], [([(1, 2, 186, 2488), (1, 2, 185, 22), ((-2), 2, 185, 23)], 0)], (4, true), [], [], 54) else none)
set_option maxRecDepth 1000000 in
theorem nq80 : ncheck kt0 [nc47, nc49] nw80 3000 nc80 = true := by decide +kernel
-- LPModel.runs, steps 284
def nw81 : nOr := (ktX nc81.2.1, ngH, ngF, fun _ _ _ => none)
set_option maxRecDepth 1000000 in
theorem nq81 : ncheck kt0 [] nw81 3000 nc81 = true := by decide +kernel
-- LP.fault, steps 14
def nw82 : nOr := (ktX nc82.2.1, ngH, ngF, fun _ _ _ => none)
set_option maxRecDepth 1000000 in
theorem nq82 : ncheck kt0 [] nw82 3000 nc82 = true := by decide +kernel
-- LPModel.fault, steps 15
def nw83 : nOr := (ktX nc83.2.1, ngH, ngF, fun y pc x => bif Nat.beq y 113 && Nat.beq pc 4 then some ([((0, 2, 0), (-2147483648), 2147483647), ((0, 3, 0), 1, 121)], [], (1, true), [], [], 26) else none)
set_option maxRecDepth 1000000 in
theorem nq83 : ncheck kt0 [] nw83 3000 nc83 = true := by decide +kernel
-- LP$World.printsOf, steps 23
def nw84 : nOr := (ktX nc84.2.1, ngH, ngF, fun y pc x => bif Nat.beq y 116 && Nat.beq pc 4 then some ([((0, 1, 0), (-2147483648), 2147483647), ((0, 2, 0), 0, 4)], [], (1, true), [], [], 24) else none)
set_option maxRecDepth 1000000 in
theorem nq84 : ncheck kt0 [] nw84 3000 nc84 = true := by decide +kernel
-- LP$World.allCoins, steps 21
def nw85 : nOr := (ktX nc85.2.1, ngH, ngF, fun y pc x => bif Nat.beq y 16 && Nat.beq pc 4 then some ([((0, 2, 0), (-2147483648), 2147483647), ((0, 3, 0), 0, 5)], [], (1, true), [], [], 31) else none)
set_option maxRecDepth 1000000 in
theorem nq85 : ncheck kt0 [] nw85 3000 nc85 = true := by decide +kernel
-- LP$Folk.setIn, steps 29
def nw86 : nOr := (ktX nc86.2.1, ngH, ngF, fun y pc x => bif Nat.beq y 92 && Nat.beq pc 4 then some ([((0, 2, 0), 0, 63), ((0, 3, 0), 0, 6)], [], (1, true), [], [], 30) else none)
set_option maxRecDepth 1000000 in
theorem nq86 : ncheck kt0 [nc85] nw86 3000 nc86 = true := by decide +kernel
-- LP$Sights.shownBy, steps 283
def nw87 : nOr := (ktX nc87.2.1, ngH, ngF, fun _ _ _ => none)
set_option maxRecDepth 1000000 in
theorem nq87 : ncheck kt0 [nc83, nc84, nc85, nc86] nw87 3000 nc87 = true := by decide +kernel
-- LP.told, steps 252
def nw88 : nOr := (ktX nc88.2.1, ngH, ngF, fun _ _ _ => none)
set_option maxRecDepth 1000000 in
theorem nq88 : ncheck kt0 [] nw88 3000 nc88 = true := by decide +kernel
-- LPModel.personOf, steps 29
def nw89 : nOr := (ktX nc89.2.1, ngH, ngF, fun _ _ _ => none)
set_option maxRecDepth 1000000 in
theorem nq89 : ncheck kt0 [] nw89 3000 nc89 = true := by decide +kernel
-- LPModel.personOf, steps 29
def nw90 : nOr := (ktX nc90.2.1, ngH, ngF, fun _ _ _ => none)
set_option maxRecDepth 1000000 in
theorem nq90 : ncheck kt0 [nc89] nw90 3000 nc90 = true := by decide +kernel
-- LPModel.isHere, steps 11
def nw91 : nOr := (ktX nc91.2.1, ngH, ngF, fun _ _ _ => none)
set_option maxRecDepth 1000000 in
theorem nq91 : ncheck kt0 [] nw91 3000 nc91 = true := by decide +kernel
-- LPModel.personOf, steps 38
def nw92 : nOr := (ktX nc92.2.1, ngH, ngF, fun _ _ _ => none)
set_option maxRecDepth 1000000 in
theorem nq92 : ncheck kt0 [nc91] nw92 3000 nc92 = true := by decide +kernel
-- LPModel.isHere, steps 11
def nw93 : nOr := (ktX nc93.2.1, ngH, ngF, fun y pc x => bif Nat.beq y 265 && Nat.beq pc 17 then some ([((0, 3, 0), 0, 5)], [], (0, true), [], [(186, 107, 107), (186, 110, 110), (186, 113, 113), (186, 116, 116), (186, 119, 119), (186, 122, 122), (186, 125, 125)], 40) else none)
set_option maxRecDepth 1000000 in
theorem nq93 : ncheck kt0 [nc88, nc90, nc92] nw93 3000 nc93 = true := by decide +kernel
-- LPModel.doesShow, steps 797
def nw94 : nOr := (ktX nc94.2.1, ngH, ngF, fun y pc x => bif Nat.beq y 266 && Nat.beq pc 4 then some ([((0, 1, 0), 0, 63), ((0, 2, 0), 0, 6)], [], (1, true), [], [], 35) else none)
set_option maxRecDepth 1000000 in
theorem nq94 : ncheck kt0 [nc93] nw94 3000 nc94 = true := by decide +kernel
-- LPModel.shown, steps 63
def nw95 : nOr := (ktX nc95.2.1, ngH, ngF, fun y pc x => bif Nat.beq y 267 && Nat.beq pc 4 then some ([((0, 2, 0), (-2147483648), 2147483647), ((0, 3, 0), 0, 5)], [], (1, true), [], [], 37) else none)
set_option maxRecDepth 1000000 in
theorem nq95 : ncheck kt0 [nc91] nw95 3000 nc95 = true := by decide +kernel
-- LPModel.inState, steps 35
def nw96 : nOr := (ktX nc96.2.1, ngH, ngF, fun _ _ _ => none)
set_option maxRecDepth 1000000 in
theorem nq96 : ncheck kt0 [] nw96 3000 nc96 = true := by decide +kernel
-- LPModel.sumOf, steps 429
def nw97 : nOr := (ktX nc97.2.1, ngH, ngF, fun _ _ _ => none)
set_option maxRecDepth 1000000 in
theorem nq97 : ncheck kt0 [] nw97 3000 nc97 = true := by decide +kernel
-- LPModel.sumOf, steps 73
def nw98 : nOr := (ktX nc98.2.1, ngH, ngF, fun y pc x => bif Nat.beq y 269 && Nat.beq pc 4 then some ([((0, 2, 0), (-2147483648), 2147483647), ((0, 3, 0), 0, 120)], [], (1, true), [], [], 62) else none)
set_option maxRecDepth 1000000 in
theorem nq98 : ncheck kt0 [] nw98 3000 nc98 = true := by decide +kernel
-- LPModel.printsOf, steps 57
def nw99 : nOr := (ktX nc99.2.1, ngH, ngF, fun _ _ _ => none)
set_option maxRecDepth 1000000 in
theorem nq99 : ncheck kt0 [nc94, nc95, nc96, nc97, nc98] nw99 3000 nc99 = true := by decide +kernel
-- LPModel.told, steps 156
def nw100 : nOr := (ktX nc100.2.1, ngH, ngF, fun y pc x => bif Nat.beq y 13 && Nat.beq pc 2 then some ([((0, 2, 0), 0, 5)], [], (0, true), [], [], 24) else none)
set_option maxRecDepth 1000000 in
theorem nq100 : ncheck kt0 [] nw100 3000 nc100 = true := by decide +kernel
-- LP$Folk.standing, steps 38
def nw101 : nOr := (ktX nc101.2.1, ngH, ngF, fun _ _ _ => none)
set_option maxRecDepth 1000000 in
theorem nq101 : ncheck kt0 [nc100] nw101 3000 nc101 = true := by decide +kernel
-- LP.who, steps 225
def nw102 : nOr := (ktX nc102.2.1, ngH, ngF, fun _ _ _ => none)
set_option maxRecDepth 1000000 in
theorem nq102 : ncheck kt0 [] nw102 3000 nc102 = true := by decide +kernel
-- LPModel.personOf, steps 38
def nw103 : nOr := (ktX nc103.2.1, ngH, ngF, fun y pc x => bif Nat.beq y 264 && Nat.beq pc 2 then some ([((0, 2, 0), 0, 5)], [], (0, true), [], [], 35) else none)
set_option maxRecDepth 1000000 in
theorem nq103 : ncheck kt0 [nc92, nc102] nw103 3000 nc103 = true := by decide +kernel
-- LPModel.whoAt, steps 29
def nw104 : nOr := (ktX nc104.2.1, ngH, ngF, fun _ _ _ => none)
set_option maxRecDepth 1000000 in
theorem nq104 : ncheck kt0 [nc103] nw104 3000 nc104 = true := by decide +kernel
-- LPModel.who, steps 227
def nw105 : nOr := (ktX nc105.2.1, ngH, ngF, fun _ _ _ => none)
set_option maxRecDepth 1000000 in
theorem nq105 : ncheck kt0 [] nw105 3000 nc105 = true := by decide +kernel
-- LP.wall, steps 340
