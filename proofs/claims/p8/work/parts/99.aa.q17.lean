def nw210 : nOr := (ktX nc210.2.1, ngH, ngF, fun y pc x => bif Nat.beq y 208 && Nat.beq pc 6 then (match kfind x.1.2.1 5 with | some v => (match kiv x.1.1 v with | some b => bif decide (1 ≤ b.1) then some ([((1, 5, 0), 1, 281474976710656), ((1, 7, 0), 0, 281474976710655), ((1, 9, 0), 0, 281474976710655)], [], (1, false), [], [], 28) else none | none => none) | none => none) else none)
set_option maxRecDepth 1000000 in
theorem nq210 : ncheck kt0 [] nw210 3000 nc210 = true := by decide +kernel
-- LPModel.tellsBy, steps 55
def nw211 : nOr := (ktX nc211.2.1, ngH, ngF, fun _ _ _ => none)
set_option maxRecDepth 1000000 in
theorem nq211 : ncheck kt0 [nc210] nw211 3000 nc211 = true := by decide +kernel
-- LPModel.comesBack, steps 1702
def nw212 : nOr := (ktX nc212.2.1, ngH, ngF, fun y pc x => bif Nat.beq y 186 && Nat.beq pc 2 then some ([((0, 2, 0), 0, 200)], [], (0, true), [], [], 34) else none)
set_option maxRecDepth 1000000 in
theorem nq212 : ncheck kt0 [] nw212 3000 nc212 = true := by decide +kernel
-- LP.mostAffordable, steps 56
def nw213 : nOr := (ktX nc213.2.1, ngH, ngF, fun _ _ _ => none)
set_option maxRecDepth 1000000 in
theorem nq213 : ncheck kt0 [nc212] nw213 3000 nc213 = true := by decide +kernel
-- LP.afford, steps 60
def nw214 : nOr := (ktX nc214.2.1, ngH, ngF, fun y pc x => bif Nat.beq y 325 && Nat.beq pc 2 then some ([((0, 2, 0), 0, 200)], [], (0, true), [], [], 32) else none)
set_option maxRecDepth 1000000 in
theorem nq214 : ncheck kt0 [nc154] nw214 3000 nc214 = true := by decide +kernel
-- LPModel.affordOf, steps 25
def nw215 : nOr := (ktX nc215.2.1, ngH, ngF, fun _ _ _ => none)
set_option maxRecDepth 1000000 in
theorem nq215 : ncheck kt0 [nc214] nw215 3000 nc215 = true := by decide +kernel
-- LPModel.afford, steps 51
def nw216 : nOr := (ktX nc216.2.1, ngH, ngF, fun y pc x => bif Nat.beq y 185 && Nat.beq pc 37 then some ([((0, 3, 0), 0, 63), ((0, 4, 0), 1, 201)], [], (1, true), [], [(10, 6, 6)], 59) else none)
set_option maxRecDepth 1000000 in
theorem nq216 : ncheck kt0 [nc178, nc212] nw216 3000 nc216 = true := by decide +kernel
-- LP.sees, steps 86
def nw217 : nOr := (ktX nc217.2.1, ngH, ngF, fun y pc x => bif Nat.beq y 327 && Nat.beq pc 30 then some ([((0, 3, 0), 0, 63), ((0, 4, 0), 1, 201), ((2, 186, 5), 0, 999)], [], (1, true), [], [], 49) else none)
set_option maxRecDepth 1000000 in
theorem nq217 : ncheck kt0 [nc173, nc214] nw217 3000 nc217 = true := by decide +kernel
-- LPModel.sees, steps 73
def nw218 : nOr := (ktX nc218.2.1, ngH, ngF, fun y pc x => bif Nat.beq y 96 && Nat.beq pc 13 then some ([((0, 4, 0), 0, 20)], [], (0, true), [], [(107, 3, 3)], 106) else none)
set_option maxRecDepth 1000000 in
theorem nq218 : ncheck kt0 [] nw218 3000 nc218 = true := by decide +kernel
-- LP$Tracks.load, steps 2864
