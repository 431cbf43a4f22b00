def nw204 : nOr := (ktX nc204.2.1, ngH, ngF, fun _ _ _ => none)
set_option maxRecDepth 1000000 in
theorem nq204 : ncheck kt0 [nc171] nw204 3000 nc204 = true := by decide +kernel
-- LP.turns, steps 138
def nw205 : nOr := (ktX nc205.2.1, ngH, ngF, fun _ _ _ => none)
set_option maxRecDepth 1000000 in
theorem nq205 : ncheck kt0 [nc174] nw205 3000 nc205 = true := by decide +kernel
-- LPModel.turns, steps 247
def nw206 : nOr := (ktX nc206.2.1, ngH, ngF, fun _ _ _ => none)
set_option maxRecDepth 1000000 in
theorem nq206 : ncheck kt0 [nc171] nw206 3000 nc206 = true := by decide +kernel
-- LP.turnsFirst, steps 148
def nw207 : nOr := (ktX nc207.2.1, ngH, ngF, fun _ _ _ => none)
set_option maxRecDepth 1000000 in
theorem nq207 : ncheck kt0 [nc174] nw207 3000 nc207 = true := by decide +kernel
-- LPModel.turnsFirst, steps 262
def nw208 : nOr := (ktX nc208.2.1, ngH, ngF, fun y pc x => bif Nat.beq y 126 && Nat.beq pc 9 then some ([((1, 5, 0), (-9223372036854775808), 9223372036854775807), ((1, 7, 0), (-9223372036854775808), 9223372036854775807), ((0, 9, 0), 0, 128)], [], (2, true), [], [], 42) else none)
set_option maxRecDepth 1000000 in
theorem nq208 : ncheck kt0 [] nw208 3000 nc208 = true := by decide +kernel
-- LP.tellFraction, steps 130
def nw209 : nOr := (ktX nc209.2.1, ngH, ngF, fun _ _ _ => none)
set_option maxRecDepth 1000000 in
theorem nq209 : ncheck kt0 [nc208] nw209 3000 nc209 = true := by decide +kernel
-- LP.comesBack, steps 459
def nw210 : nOr := (ktX nc210.2.1, ngH, ngF, fun y pc x => bif Nat.beq y 208 && Nat.beq pc 6 then (match kfind x.1.2.1 5 with | some v => (match kiv x.1.1 v with | some b => bif decide (1 ≤ b.1) then some ([((1, 5, 0), 1, 281474976710656), ((1, 7, 0), 0, 281474976710655), ((1, 9, 0), 0, 281474976710655)], [], (1, false), [], [], 28) else none | none => none) | none => none) else none)
set_option maxRecDepth 1000000 in
theorem nq210 : ncheck kt0 [] nw210 3000 nc210 = true := by decide +kernel
-- LPModel.tellsBy, steps 55
def nw211 : nOr := (ktX nc211.2.1, ngH, ngF, fun _ _ _ => none)
set_option maxRecDepth 1000000 in
theorem nq211 : ncheck kt0 [nc210] nw211 3000 nc211 = true := by decide +kernel
-- LPModel.comesBack, steps 1702
