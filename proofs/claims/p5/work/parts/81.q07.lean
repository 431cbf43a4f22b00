def nw141 : nOr := (ktX nc141.2.1, ngH, ngF, fun y pc x => bif Nat.beq y 17 && Nat.beq pc 2 then some ([((0, 2, 0), 0, 5)], [], (0, true), [], [], 43) else none)
set_option maxRecDepth 1000000 in
theorem nq141 : ncheck ktN [] nw141 3000 nc141 = true := by decide +kernel
-- LP$Folk.isAs, steps 87
def nw142 : nOr := (ktX nc142.2.1, ngH, ngF, fun y pc x => bif Nat.beq y 18 && Nat.beq pc 2 then some ([((0, 2, 0), 0, 5)], [], (0, true), [], [(12, 0, 1), (95, 0, 1)], 47) else bif Nat.beq y 175 && Nat.beq pc 19 then some ([((0, 1, 0), 1, 201), ((2, 95, 1), 0, 1199)], [([(1, 2, 95, 1), ((-1), 0, 1, 0)], 998)], (0, true), [], [(12, 0, 1), (95, 0, 0)], 72) else none)
set_option maxRecDepth 1000000 in
theorem nq142 : ncheck ktN [nc113, nc114, nc141] nw142 3000 nc142 = true := by decide +kernel
-- LP.again, steps 165
def nw143 : nOr := (ktX nc143.2.1, ngH, ngF, fun y pc x => bif Nat.beq y 312 && Nat.beq pc 2 then some ([((0, 2, 0), 0, 5)], [], (0, true), [], [], 72) else none)
set_option maxRecDepth 1000000 in
theorem nq143 : ncheck ktN [] nw143 3000 nc143 = true := by decide +kernel
-- LPModel.isAsIn, steps 382
def nw145 : nOr := (ktX nc145.2.1, ngH, ngF, fun y pc x => bif Nat.beq y 176 && Nat.beq pc 43 then some ([((0, 3, 0), (-2147483648), 2147483647), ((0, 4, 0), 1, 201)], [], (1, true), [], [(12, 0, 0)], 94) else none)
set_option maxRecDepth 1000000 in
theorem nq145 : ncheck ktN [nc138] nw145 3000 nc145 = true := by decide +kernel
-- LP.stays, steps 141
def nw147 : nOr := (ktX nc147.2.1, ngH, ngF, fun y pc x => bif Nat.beq y 354 && Nat.beq pc 6 then some ([((0, 3, 0), 0, 64)], [], (0, true), [], [], 19) else none)
set_option maxRecDepth 1000000 in
theorem nq147 : ncheck ktN [] nw147 3000 nc147 = true := by decide +kernel
-- Arrays.fill, steps 17
def nw148 : nOr := (ktX nc148.2.1, ngH, ngF, fun y pc x => bif Nat.beq y 6 && Nat.beq pc 4 then some ([((0, 4, 0), (-1), 63)], [], (0, false), [], [], 94) else none)
set_option maxRecDepth 1000000 in
theorem nq148 : ncheck ktN [] nw148 3000 nc148 = true := by decide +kernel
-- LP$Ahead.addPrint, steps 264
def nw151 : nOr := (ktX nc151.2.1, ngH, ngF, fun y pc x => bif Nat.beq y 316 && Nat.beq pc 4 then some ([((0, 2, 0), (-2147483648), 2147483647), ((0, 3, 0), 0, 31)], [], (1, true), [], [], 43) else none)
set_option maxRecDepth 1000000 in
theorem nq151 : ncheck ktN [] nw151 3000 nc151 = true := by decide +kernel
-- LPModel.costOfSet, steps 1809
def nw152 : nOr := (ktX nc152.2.1, ngH, ngF, fun y pc x => bif Nat.beq y 259 && Nat.beq pc 4 then some ([((0, 1, 0), (-2147483648), 2147483647), ((0, 2, 0), 0, 2147483647)], [], (1, false), [], [], 17) else none)
set_option maxRecDepth 1000000 in
theorem nq152 : ncheck ktN [] nw152 3000 nc152 = true := by decide +kernel
-- LPModel.bits, steps 18
def nw163 : nOr := (ktX nc163.2.1, ngH, ngF, fun y pc x => bif Nat.beq y 126 && Nat.beq pc 9 then some ([((1, 5, 0), (-9223372036854775808), 9223372036854775807), ((1, 7, 0), (-9223372036854775808), 9223372036854775807), ((0, 9, 0), 0, 128)], [], (2, true), [], [], 42) else none)
set_option maxRecDepth 1000000 in
theorem nq163 : ncheck ktN [] nw163 3000 nc163 = true := by decide +kernel
-- LP.tellFraction, steps 130
def nw164 : nOr := (ktX nc164.2.1, ngH, ngF, fun _ _ _ => none)
set_option maxRecDepth 1000000 in
theorem nq164 : ncheck ktN [nc163] nw164 3000 nc164 = true := by decide +kernel
-- LP.comesBack, steps 459
def nw165 : nOr := (ktX nc165.2.1, ngH, ngF, fun y pc x => bif Nat.beq y 208 && Nat.beq pc 6 then (match kfind x.1.2.1 5 with | some v => (match kiv x.1.1 v with | some b => bif decide (1 ≤ b.1) then some ([((1, 5, 0), 1, 281474976710656), ((1, 7, 0), 0, 281474976710655), ((1, 9, 0), 0, 281474976710655)], [], (1, false), [], [], 28) else none | none => none) | none => none) else none)
set_option maxRecDepth 1000000 in
theorem nq165 : ncheck ktN [] nw165 3000 nc165 = true := by decide +kernel
-- LPModel.tellsBy, steps 55
def nw166 : nOr := (ktX nc166.2.1, ngH, ngF, fun _ _ _ => none)
set_option maxRecDepth 1000000 in
theorem nq166 : ncheck ktN [nc165] nw166 3000 nc166 = true := by decide +kernel
-- LPModel.comesBack, steps 1702
def nw167 : nOr := (ktX nc167.2.1, ngH, ngF, fun y pc x => bif Nat.beq y 186 && Nat.beq pc 2 then some ([((0, 2, 0), 0, 200)], [], (0, true), [], [], 34) else none)
set_option maxRecDepth 1000000 in
theorem nq167 : ncheck ktN [] nw167 3000 nc167 = true := by decide +kernel
-- LP.mostAffordable, steps 56
def nw168 : nOr := (ktX nc168.2.1, ngH, ngF, fun _ _ _ => none)
set_option maxRecDepth 1000000 in
theorem nq168 : ncheck ktN [nc167] nw168 3000 nc168 = true := by decide +kernel
-- LP.afford, steps 60
