def nw188 : nOr := (ktX nc188.2.1, ngH, ngF, fun y pc x => bif Nat.beq y 259 && Nat.beq pc 4 then some ([((0, 1, 0), (-2147483648), 2147483647), ((0, 2, 0), 0, 2147483647)], [], (1, false), [], [], 17) else none)
set_option maxRecDepth 1000000 in
theorem nq188 : ncheck kt0 [] nw188 3000 nc188 = true := by decide +kernel
-- LPModel.bits, steps 18
def nw189 : nOr := (ktX nc189.2.1, ngH, ngF, fun y pc x => bif Nat.beq y 317 && Nat.beq pc 10 then some ([((0, 3, 0), (-1), 2147483646), ((0, 4, 0), 0, 4096), ((2, 186, 5), 0, 999)], [], (1, true), [], [], 138) else bif Nat.beq y 317 && Nat.beq pc 24 then some ([((0, 5, 0), 0, 63), ((0, 6, 0), 0, 12), ((2, 186, 5), 0, 999)], [], (1, true), [], [], 62) else none)
set_option maxRecDepth 1000000 in
theorem nq189 : ncheck kt0 [nc164, nc187, nc188] nw189 3000 nc189 = true := by decide +kernel
-- LPModel.covering, steps 1489
def nw190 : nOr := (ktX nc190.2.1, ngH, ngF, fun _ _ _ => none)
set_option maxRecDepth 1000000 in
theorem nq190 : ncheck kt0 [nc187, nc189] nw190 3000 nc190 = true := by decide +kernel
-- LPModel.cover, steps 743
def nw191 : nOr := (ktX nc191.2.1, ngH, ngF, fun _ _ _ => none)
set_option maxRecDepth 1000000 in
theorem nq191 : ncheck kt0 [nc185] nw191 3000 nc191 = true := by decide +kernel
-- LP.coverSet, steps 935
def nw192 : nOr := (ktX nc192.2.1, ngH, ngF, fun _ _ _ => none)
set_option maxRecDepth 1000000 in
theorem nq192 : ncheck kt0 [nc189] nw192 3000 nc192 = true := by decide +kernel
-- LPModel.coverSet, steps 779
