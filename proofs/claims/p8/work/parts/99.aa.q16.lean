def nw199 : nOr := (ktX nc199.2.1, ngH, ngF, fun _ _ _ => none)
set_option maxRecDepth 1000000 in
theorem nq199 : ncheck kt0 [nc196, nc198] nw199 3000 nc199 = true := by decide +kernel
-- LPModel.cover, steps 743
def nw200 : nOr := (ktX nc200.2.1, ngH, ngF, fun _ _ _ => none)
set_option maxRecDepth 1000000 in
theorem nq200 : ncheck kt0 [nc194] nw200 3000 nc200 = true := by decide +kernel
-- LP.coverSet, steps 935
def nw201 : nOr := (ktX nc201.2.1, ngH, ngF, fun _ _ _ => none)
set_option maxRecDepth 1000000 in
theorem nq201 : ncheck kt0 [nc198] nw201 3000 nc201 = true := by decide +kernel
-- LPModel.coverSet, steps 779
def nw202 : nOr := (ktX nc202.2.1, ngH, ngF, fun y pc x => bif Nat.beq y 179 && Nat.beq pc 44 then some ([((0, 3, 0), 0, 63), ((0, 4, 0), 1, 62)], [], (1, true), [], [], 66) else none)
set_option maxRecDepth 1000000 in
theorem nq202 : ncheck kt0 [nc178] nw202 3000 nc202 = true := by decide +kernel
-- LP.share, steps 155
def nw203 : nOr := (ktX nc203.2.1, ngH, ngF, fun y pc x => bif Nat.beq y 320 && Nat.beq pc 39 then some ([((0, 3, 0), 0, 63), ((0, 4, 0), 1, 62), ((2, 186, 5), 0, 999)], [], (1, true), [], [], 58) else none)
set_option maxRecDepth 1000000 in
theorem nq203 : ncheck kt0 [nc173, nc197] nw203 3000 nc203 = true := by decide +kernel
-- LPModel.share, steps 225
def nw204 : nOr := (ktX nc204.2.1, ngH, ngF, fun _ _ _ => none)
set_option maxRecDepth 1000000 in
theorem nq204 : ncheck kt0 [nc171] nw204 3000 nc204 = true := by decide +kernel
-- LP.turns, steps 138
def nw205 : nOr := (ktX nc205.2.1, ngH, ngF, fun _ _ _ => none)
set_option maxRecDepth 1000000 in
theorem nq205 : ncheck kt0 [nc174] nw205 3000 nc205 = true := by decide +kernel
-- LPModel.turns, steps 247
def nw206 : nOr := (ktX nc206.2.1, ngH, ngF, fun _ _ _ => none)
set_option maxRecDepth 1000000 in
theorem nq206 : ncheck kt0 [nc171] nw206 3000 nc206 = true := by decide +kernel
-- LP.turnsFirst, steps 148
def nw207 : nOr := (ktX nc207.2.1, ngH, ngF, fun _ _ _ => none)
set_option maxRecDepth 1000000 in
theorem nq207 : ncheck kt0 [nc174] nw207 3000 nc207 = true := by decide +kernel
-- LPModel.turnsFirst, steps 262
def nw208 : nOr := (ktX nc208.2.1, ngH, ngF, fun y pc x => bif Nat.beq y 126 && Nat.beq pc 9 then some ([((1, 5, 0), (-9223372036854775808), 9223372036854775807), ((1, 7, 0), (-9223372036854775808), 9223372036854775807), ((0, 9, 0), 0, 128)], [], (2, true), [], [], 42) else none)
set_option maxRecDepth 1000000 in
theorem nq208 : ncheck kt0 [] nw208 3000 nc208 = true := by decide +kernel
-- LP.tellFraction, steps 130
def nw209 : nOr := (ktX nc209.2.1, ngH, ngF, fun _ _ _ => none)
set_option maxRecDepth 1000000 in
theorem nq209 : ncheck kt0 [nc208] nw209 3000 nc209 = true := by decide +kernel
-- LP.comesBack, steps 459
