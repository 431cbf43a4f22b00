def nw151 : nOr := (ktX nc151.2.1, ngH, ngF, fun y pc x => bif Nat.beq y 316 && Nat.beq pc 4 then some ([((0, 2, 0), (-2147483648), 2147483647), ((0, 3, 0), 0, 31)], [], (1, true), [], [], 43) else none)
set_option maxRecDepth 1000000 in
theorem nq151 : ncheck ktN [] nw151 3000 nc151 = true := by decide +kernel
-- LPModel.costOfSet, steps 1809
def nw152 : nOr := (ktX nc152.2.1, ngH, ngF, fun y pc x => bif Nat.beq y 259 && Nat.beq pc 4 then some ([((0, 1, 0), (-2147483648), 2147483647), ((0, 2, 0), 0, 2147483647)], [], (1, false), [], [], 17) else none)
set_option maxRecDepth 1000000 in
theorem nq152 : ncheck ktN [] nw152 3000 nc152 = true := by decide +kernel
-- LPModel.bits, steps 18
def nw163 : nOr := (ktX nc163.2.1, ngH, ngF, fun y pc x => bif Nat.beq y 126 && Nat.beq pc 9 then some ([((1, 5, 0), (-9223372036854775808), 9223372036854775807), ((1, 7, 0), (-9223372036854775808), 9223372036854775807), ((0, 9, 0), 0, 128)], [], (2, true), [], [], 42) else none)
set_option maxRecDepth 1000000 in
theorem nq163 : ncheck ktN [] nw163 3000 nc163 = true := by decide +kernel
-- LP.tellFraction, steps 130
def nw164 : nOr := (ktX nc164.2.1, ngH, ngF, fun _ _ _ => none)
set_option maxRecDepth 1000000 in
theorem nq164 : ncheck ktN [nc163] nw164 3000 nc164 = true := by decide +kernel
-- LP.comesBack, steps 459
def nw165 : nOr := (ktX nc165.2.1, ngH, ngF, fun y pc x => bif Nat.beq y 208 && Nat.beq pc 6 then (match kfind x.1.2.1 5 with | some v => (match kiv x.1.1 v with | some b => bif decide (1 ≤ b.1) then some ([((1, 5, 0), 1, 281474976710656), ((1, 7, 0), 0, 281474976710655), ((1, 9, 0), 0, 281474976710655)], [], (1, false), [], [], 28) else none | none => none) | none => none) else none)
set_option maxRecDepth 1000000 in
theorem nq165 : ncheck ktN [] nw165 3000 nc165 = true := by decide +kernel
-- LPModel.tellsBy, steps 55
def nw166 : nOr := (ktX nc166.2.1, ngH, ngF, fun _ _ _ => none)
set_option maxRecDepth 1000000 in
theorem nq166 : ncheck ktN [nc165] nw166 3000 nc166 = true := by decide +kernel
-- LPModel.comesBack, steps 1702
