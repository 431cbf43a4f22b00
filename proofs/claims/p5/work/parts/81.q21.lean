def nw193 : nOr := (ktX nc193.2.1, ngH, ngF, fun y pc x => bif Nat.beq y 179 && Nat.beq pc 44 then some ([((0, 3, 0), 0, 63), ((0, 4, 0), 1, 62)], [], (1, true), [], [], 66) else none)
set_option maxRecDepth 1000000 in
theorem nq193 : ncheck kt0 [nc169] nw193 3000 nc193 = true := by decide +kernel
-- LP.share, steps 155
def nw194 : nOr := (ktX nc194.2.1, ngH, ngF, fun y pc x => bif Nat.beq y 320 && Nat.beq pc 39 then some ([((0, 3, 0), 0, 63), ((0, 4, 0), 1, 62), ((2, 186, 5), 0, 999)], [], (1, true), [], [], 58) else none)
set_option maxRecDepth 1000000 in
theorem nq194 : ncheck kt0 [nc164, nc188] nw194 3000 nc194 = true := by decide +kernel
-- LPModel.share, steps 225
def nw195 : nOr := (ktX nc195.2.1, ngH, ngF, fun _ _ _ => none)
set_option maxRecDepth 1000000 in
theorem nq195 : ncheck kt0 [nc162] nw195 3000 nc195 = true := by decide +kernel
-- LP.turns, steps 138
def nw196 : nOr := (ktX nc196.2.1, ngH, ngF, fun _ _ _ => none)
set_option maxRecDepth 1000000 in
theorem nq196 : ncheck kt0 [nc165] nw196 3000 nc196 = true := by decide +kernel
-- LPModel.turns, steps 247
def nw197 : nOr := (ktX nc197.2.1, ngH, ngF, fun _ _ _ => none)
set_option maxRecDepth 1000000 in
theorem nq197 : ncheck kt0 [nc162] nw197 3000 nc197 = true := by decide +kernel
-- LP.turnsFirst, steps 148
def nw198 : nOr := (ktX nc198.2.1, ngH, ngF, fun _ _ _ => none)
set_option maxRecDepth 1000000 in
theorem nq198 : ncheck kt0 [nc165] nw198 3000 nc198 = true := by decide +kernel
-- LPModel.turnsFirst, steps 262
def nw199 : nOr := (ktX nc199.2.1, ngH, ngF, fun y pc x => bif Nat.beq y 126 && Nat.beq pc 9 then some ([((1, 5, 0), (-9223372036854775808), 9223372036854775807), ((1, 7, 0), (-9223372036854775808), 9223372036854775807), ((0, 9, 0), 0, 128)], [], (2, true), [], [], 42) else none)
set_option maxRecDepth 1000000 in
theorem nq199 : ncheck kt0 [] nw199 3000 nc199 = true := by decide +kernel
-- LP.tellFraction, steps 130
def nw200 : nOr := (ktX nc200.2.1, ngH, ngF, fun _ _ _ => none)
set_option maxRecDepth 1000000 in
theorem nq200 : ncheck kt0 [nc199] nw200 3000 nc200 = true := by decide +kernel
-- LP.comesBack, steps 459
def nw201 : nOr := (ktX nc201.2.1, ngH, ngF, fun y pc x => bif Nat.beq y 208 && Nat.beq pc 6 then (match kfind x.1.2.1 5 with | some v => (match kiv x.1.1 v with | some b => bif decide (1 ≤ b.1) then some ([((1, 5, 0), 1, 281474976710656), ((1, 7, 0), 0, 281474976710655), ((1, 9, 0), 0, 281474976710655)], [], (1, false), [], [], 28) else none | none => none) | none => none) else none)
set_option maxRecDepth 1000000 in
theorem nq201 : ncheck kt0 [] nw201 3000 nc201 = true := by decide +kernel
-- LPModel.tellsBy, steps 55
def nw202 : nOr := (ktX nc202.2.1, ngH, ngF, fun _ _ _ => none)
set_option maxRecDepth 1000000 in
theorem nq202 : ncheck kt0 [nc201] nw202 3000 nc202 = true := by decide +kernel
-- LPModel.comesBack, steps 1702
