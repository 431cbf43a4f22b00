def nw71 : nOr := (nXor (nrcX (ktT nc71.2.1) nc71.2.1 rc70 ksi249) (ktX nc71.2.1), ngH, ngF, fun y pc x => bif Nat.beq y 250 && Nat.beq pc 38 then some ([((0, 2, 0), 1, 1), ((2, 186, 2488), 0, 60), ((2, 185, 22), 0, 3), ((2, 185, 23), 0, 30), ((2, 185, 14), 0, 900), ((2, 186, 5), 0, 999)], [([(1, 2, 186, 2488), (1, 2, 185, 22), ((-2), 2, 185, 23)], 0)], (4, true), [], [], 54) else none)
set_option maxRecDepth 1000000 in
theorem nq71 : ncheck kt0 [nc44] nw71 3000 nc71 = true := by decide +kernel
-- LPModel.runs, steps 291
def nw72 : nOr := (ktX nc72.2.1, ngH, ngF, fun _ _ _ => none)
set_option maxRecDepth 1000000 in
theorem nq72 : ncheck kt0 [] nw72 3000 nc72 = true := by decide +kernel
-- LP.fault, steps 14
def nw73 : nOr := (ktX nc73.2.1, ngH, ngF, fun _ _ _ => none)
set_option maxRecDepth 1000000 in
theorem nq73 : ncheck kt0 [] nw73 3000 nc73 = true := by decide +kernel
-- LPModel.fault, steps 15
def nw74 : nOr := (ktX nc74.2.1, ngH, ngF, fun y pc x => bif Nat.beq y 113 && Nat.beq pc 4 then some ([((0, 2, 0), (-2147483648), 2147483647), ((0, 3, 0), 1, 121)], [], (1, true), [], [], 26) else none)
set_option maxRecDepth 1000000 in
theorem nq74 : ncheck kt0 [] nw74 3000 nc74 = true := by decide +kernel
-- LP$World.printsOf, steps 23
def nw75 : nOr := (ktX nc75.2.1, ngH, ngF, fun y pc x => bif Nat.beq y 116 && Nat.beq pc 4 then some ([((0, 1, 0), (-2147483648), 2147483647), ((0, 2, 0), 0, 4)], [], (1, true), [], [], 24) else none)
set_option maxRecDepth 1000000 in
theorem nq75 : ncheck kt0 [] nw75 3000 nc75 = true := by decide +kernel
-- LP$World.allCoins, steps 21
def nw76 : nOr := (ktX nc76.2.1, ngH, ngF, fun y pc x => bif Nat.beq y 16 && Nat.beq pc 4 then some ([((0, 2, 0), (-2147483648), 2147483647), ((0, 3, 0), 0, 5)], [], (1, true), [], [], 31) else none)
set_option maxRecDepth 1000000 in
theorem nq76 : ncheck kt0 [] nw76 3000 nc76 = true := by decide +kernel
-- LP$Folk.setIn, steps 29
def nw77 : nOr := (ktX nc77.2.1, ngH, ngF, fun y pc x => bif Nat.beq y 92 && Nat.beq pc 4 then some ([((0, 2, 0), 0, 63), ((0, 3, 0), 0, 6)], [], (1, true), [], [], 30) else none)
set_option maxRecDepth 1000000 in
theorem nq77 : ncheck kt0 [nc76] nw77 3000 nc77 = true := by decide +kernel
-- LP$Sights.shownBy, steps 283
def nw78 : nOr := (ktX nc78.2.1, ngH, ngF, fun _ _ _ => none)
set_option maxRecDepth 1000000 in
theorem nq78 : ncheck kt0 [nc74, nc75, nc76, nc77] nw78 3000 nc78 = true := by decide +kernel
-- LP.told, steps 252
def nw79 : nOr := (ktX nc79.2.1, ngH, ngF, fun _ _ _ => none)
set_option maxRecDepth 1000000 in
theorem nq79 : ncheck kt0 [] nw79 3000 nc79 = true := by decide +kernel
-- LPModel.personOf, steps 29
def nw80 : nOr := (ktX nc80.2.1, ngH, ngF, fun _ _ _ => none)
set_option maxRecDepth 1000000 in
theorem nq80 : ncheck kt0 [] nw80 3000 nc80 = true := by decide +kernel
-- LPModel.personOf, steps 29
def nw81 : nOr := (ktX nc81.2.1, ngH, ngF, fun _ _ _ => none)
set_option maxRecDepth 1000000 in
theorem nq81 : ncheck kt0 [nc80] nw81 3000 nc81 = true := by decide +kernel
-- LPModel.isHere, steps 11
def nw82 : nOr := (ktX nc82.2.1, ngH, ngF, fun _ _ _ => none)
set_option maxRecDepth 1000000 in
theorem nq82 : ncheck kt0 [] nw82 3000 nc82 = true := by decide +kernel
-- LPModel.personOf, steps 38
def nw83 : nOr := (ktX nc83.2.1, ngH, ngF, fun _ _ _ => none)
set_option maxRecDepth 1000000 in
theorem nq83 : ncheck kt0 [nc82] nw83 3000 nc83 = true := by decide +kernel
-- LPModel.isHere, steps 11
def nw84 : nOr := (ktX nc84.2.1, ngH, ngF, fun y pc x => bif Nat.beq y 265 && Nat.beq pc 17 then some ([((0, 3, 0), 0, 5)], [], (0, true), [], [(186, 107, 107), (186, 110, 110), (186, 113, 113), (186, 116, 116), (186, 119, 119), (186, 122, 122), (186, 125, 125)], 40) else none)
set_option maxRecDepth 1000000 in
theorem nq84 : ncheck kt0 [nc79, nc81, nc83] nw84 3000 nc84 = true := by decide +kernel
-- LPModel.doesShow, steps 797
def nw85 : nOr := (ktX nc85.2.1, ngH, ngF, fun y pc x => bif Nat.beq y 266 && Nat.beq pc 4 then some ([((0, 1, 0), 0, 63), ((0, 2, 0), 0, 6)], [], (1, true), [], [], 35) else none)
set_option maxRecDepth 1000000 in
theorem nq85 : ncheck kt0 [nc84] nw85 3000 nc85 = true := by decide +kernel
-- LPModel.shown, steps 63
def nw86 : nOr := (ktX nc86.2.1, ngH, ngF, fun y pc x => bif Nat.beq y 267 && Nat.beq pc 4 then some ([((0, 2, 0), (-2147483648), 2147483647), ((0, 3, 0), 0, 5)], [], (1, true), [], [], 37) else none)
set_option maxRecDepth 1000000 in
theorem nq86 : ncheck kt0 [nc82] nw86 3000 nc86 = true := by decide +kernel
-- LPModel.inState, steps 35
def nw87 : nOr := (ktX nc87.2.1, ngH, ngF, fun _ _ _ => none)
set_option maxRecDepth 1000000 in
theorem nq87 : ncheck kt0 [] nw87 3000 nc87 = true := by decide +kernel
-- LPModel.sumOf, steps 429
def nw88 : nOr := (ktX nc88.2.1, ngH, ngF, fun _ _ _ => none)
set_option maxRecDepth 1000000 in
theorem nq88 : ncheck kt0 [] nw88 3000 nc88 = true := by decide +kernel
-- LPModel.sumOf, steps 73
def nw89 : nOr := (ktX nc89.2.1, ngH, ngF, fun y pc x => bif Nat.beq y 269 && Nat.beq pc 4 then some ([((0, 2, 0), (-2147483648), 2147483647), ((0, 3, 0), 0, 120)], [], (1, true), [], [], 62) else none)
set_option maxRecDepth 1000000 in
theorem nq89 : ncheck kt0 [] nw89 3000 nc89 = true := by decide +kernel
-- LPModel.printsOf, steps 57
def nw90 : nOr := (ktX nc90.2.1, ngH, ngF, fun _ _ _ => none)
set_option maxRecDepth 1000000 in
theorem nq90 : ncheck kt0 [nc85, nc86, nc87, nc88, nc89] nw90 3000 nc90 = true := by decide +kernel
-- LPModel.told, steps 156
def nw91 : nOr := (ktX nc91.2.1, ngH, ngF, fun y pc x => bif Nat.beq y 13 && Nat.beq pc 2 then some ([((0, 2, 0), 0, 5)], [], (0, true), [], [], 24) else none)
set_option maxRecDepth 1000000 in
theorem nq91 : ncheck kt0 [] nw91 3000 nc91 = true := by decide +kernel
-- LP$Folk.standing, steps 38
def nw92 : nOr := (ktX nc92.2.1, ngH, ngF, fun _ _ _ => none)
set_option maxRecDepth 1000000 in
theorem nq92 : ncheck kt0 [nc91] nw92 3000 nc92 = true := by decide +kernel
-- LP.who, steps 225
