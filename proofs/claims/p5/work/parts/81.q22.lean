def nw203 : nOr := (ktX nc203.2.1, ngH, ngF, fun y pc x => bif Nat.beq y 186 && Nat.beq pc 2 then some ([((0, 2, 0), 0, 200)], [], (0, true), [], [], 34) else none)
set_option maxRecDepth 1000000 in
theorem nq203 : ncheck kt0 [] nw203 3000 nc203 = true := by decide +kernel
-- LP.mostAffordable, steps 56
def nw204 : nOr := (ktX nc204.2.1, ngH, ngF, fun _ _ _ => none)
set_option maxRecDepth 1000000 in
theorem nq204 : ncheck kt0 [nc203] nw204 3000 nc204 = true := by decide +kernel
-- LP.afford, steps 60
def nw205 : nOr := (ktX nc205.2.1, ngH, ngF, fun y pc x => bif Nat.beq y 325 && Nat.beq pc 2 then some ([((0, 2, 0), 0, 200)], [], (0, true), [], [], 32) else none)
set_option maxRecDepth 1000000 in
theorem nq205 : ncheck kt0 [nc145] nw205 3000 nc205 = true := by decide +kernel
-- LPModel.affordOf, steps 25
def nw206 : nOr := (ktX nc206.2.1, ngH, ngF, fun _ _ _ => none)
set_option maxRecDepth 1000000 in
theorem nq206 : ncheck kt0 [nc205] nw206 3000 nc206 = true := by decide +kernel
-- LPModel.afford, steps 51
def nw207 : nOr := (ktX nc207.2.1, ngH, ngF, fun y pc x => bif Nat.beq y 185 && Nat.beq pc 37 then some ([((0, 3, 0), 0, 63), ((0, 4, 0), 1, 201)], [], (1, true), [], [(10, 6, 6)], 59) else none)
set_option maxRecDepth 1000000 in
theorem nq207 : ncheck kt0 [nc169, nc203] nw207 3000 nc207 = true := by decide +kernel
-- LP.sees, steps 86
def nw208 : nOr := (ktX nc208.2.1, ngH, ngF, fun y pc x => bif Nat.beq y 327 && Nat.beq pc 30 then some ([((0, 3, 0), 0, 63), ((0, 4, 0), 1, 201), ((2, 186, 5), 0, 999)], [], (1, true), [], [], 49) else none)
set_option maxRecDepth 1000000 in
theorem nq208 : ncheck kt0 [nc164, nc205] nw208 3000 nc208 = true := by decide +kernel
-- LPModel.sees, steps 73
def nw209 : nOr := (ktX nc209.2.1, ngH, ngF, fun y pc x => bif Nat.beq y 96 && Nat.beq pc 13 then some ([((0, 4, 0), 0, 20)], [], (0, true), [], [(107, 3, 3)], 106) else none)
set_option maxRecDepth 1000000 in
theorem nq209 : ncheck kt0 [] nw209 3000 nc209 = true := by decide +kernel
-- LP$Tracks.load, steps 2864
def nw210 : nOr := (ktX nc210.2.1, ngH, ngF, fun y pc x => bif Nat.beq y 96 && Nat.beq pc 13 then some ([((0, 4, 0), 0, 20)], [], (0, true), [], [(107, 3, 3)], 106) else none)
set_option maxRecDepth 1000000 in
theorem nq210 : ncheck kt0 [] nw210 3000 nc210 = true := by decide +kernel
-- LP$Tracks.load, steps 2864
