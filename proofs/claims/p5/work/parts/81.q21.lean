def nw199 : nOr := (ktX nc199.2.1, ngH, ngF, fun _ _ _ => none)
set_option maxRecDepth 1000000 in
theorem nq199 : ncheck kt0 [nc196, nc198] nw199 3000 nc199 = true := by decide +kernel
-- LPModel.cover, steps 743
def nw200 : nOr := (ktX nc200.2.1, ngH, ngF, fun _ _ _ => none)
set_option maxRecDepth 1000000 in
theorem nq200 : ncheck kt0 [nc194] nw200 3000 nc200 = true := by decide +kernel
-- LP.coverSet, steps 935
def nw201 : nOr := (ktX nc201.2.1, ngH, ngF, fun _ _ _ => none)
set_option maxRecDepth 1000000 in
theorem nq201 : ncheck kt0 [nc198] nw201 3000 nc201 = true := by decide +kernel
-- LPModel.coverSet, steps 779
def nw202 : nOr := (ktX nc202.2.1, ngH, ngF, fun y pc x => bif Nat.beq y 179 && Nat.beq pc 44 then some ([((0, 3, 0), 0, 63), ((0, 4, 0), 1, 62)], [], (1, true), [], [], 66) else none)
set_option maxRecDepth 1000000 in
theorem nq202 : ncheck kt0 [nc178] nw202 3000 nc202 = true := by decide +kernel
-- LP.share, steps 155
def nw203 : nOr := (ktX nc203.2.1, ngH, ngF, fun y pc x => bif Nat.beq y 320 && Nat.beq pc 39 then some ([((0, 3, 0), 0, 63), ((0, 4, 0), 1, 62), ((2, 186, 5), 0, 999)], [], (1, true), [], [], 58) else none)
set_option maxRecDepth 1000000 in
theorem nq203 : ncheck kt0 [nc173, nc197] nw203 3000 nc203 = true := by decide +kernel
-- LPModel.share, steps 225
