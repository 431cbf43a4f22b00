def nw107 : nOr := (ktX nc107.2.1, ngH, ngF, fun _ _ _ => none)
set_option maxRecDepth 1000000 in
theorem nq107 : ncheck ktN [] nw107 3000 nc107 = true := by decide +kernel
-- LP.priceOf, steps 61
def nw108 : nOr := (ktX nc108.2.1, ngH, ngF, fun _ _ _ => none)
set_option maxRecDepth 1000000 in
theorem nq108 : ncheck ktN [] nw108 3000 nc108 = true := by decide +kernel
-- LPModel.priceOf, steps 135
def nw109 : nOr := (ktX nc109.2.1, ngH, ngF, fun _ _ _ => none)
set_option maxRecDepth 1000000 in
theorem nq109 : ncheck ktN [] nw109 3000 nc109 = true := by decide +kernel
-- LP.costOf, steps 82
def nw110 : nOr := (ktX nc110.2.1, ngH, ngF, fun y pc x => bif Nat.beq y 300 && Nat.beq pc 4 then some ([((0, 2, 0), (-2147483648), 2147483647), ((0, 3, 0), 1, 10000)], [], (1, true), [], [], 27) else none)
set_option maxRecDepth 1000000 in
theorem nq110 : ncheck ktN [] nw110 3000 nc110 = true := by decide +kernel
-- LPModel.costBy, steps 38
def nw111 : nOr := (ktX nc111.2.1, ngH, ngF, fun _ _ _ => none)
set_option maxRecDepth 1000000 in
theorem nq111 : ncheck ktN [nc110] nw111 3000 nc111 = true := by decide +kernel
-- LPModel.costOf, steps 102
def nw112 : nOr := (ktX nc112.2.1, ngH, ngF, fun y pc x => bif Nat.beq y 14 && Nat.beq pc 17 then some ([((0, 3, 0), 0, 5)], [], (0, true), [], [], 50) else none)
set_option maxRecDepth 1000000 in
theorem nq112 : ncheck ktN [] nw112 3000 nc112 = true := by decide +kernel
-- LP$Folk.isFree, steps 44
def nw113 : nOr := (ktX nc113.2.1, ngH, ngF, fun _ _ _ => none)
set_option maxRecDepth 1000000 in
theorem nq113 : ncheck ktN [nc112] nw113 3000 nc113 = true := by decide +kernel
-- LP$Folk.enter, steps 91
def nw114 : nOr := (ktX nc114.2.1, ngH, ngF, fun _ _ _ => none)
set_option maxRecDepth 1000000 in
theorem nq114 : ncheck ktN [nc86, nc112] nw114 3000 nc114 = true := by decide +kernel
-- LP$Folk.walk, steps 368
def nw115 : nOr := (ktX nc115.2.1, ngH, ngF, fun y pc x => bif Nat.beq y 1 && Nat.beq pc 13 then some ([((0, 3, 0), 0, 200), ((2, 95, 1), 0, 1199)], [([(1, 2, 95, 1), ((-1), 0, 3, 0)], 999)], (0, true), [], [(12, 0, 1), (95, 0, 0)], 32) else bif Nat.beq y 18 && Nat.beq pc 2 then some ([((0, 2, 0), 0, 5)], [], (0, true), [], [(12, 0, 1), (95, 0, 1)], 47) else none)
set_option maxRecDepth 1000000 in
theorem nq115 : ncheck ktN [nc113, nc114] nw115 3000 nc115 = true := by decide +kernel
-- LP$Ahead.goTo, steps 136
def nw116 : nOr := (ktX nc116.2.1, ngH, ngF, fun _ _ _ => none)
set_option maxRecDepth 1000000 in
theorem nq116 : ncheck ktN [nc115] nw116 3000 nc116 = true := by decide +kernel
-- LP.placeIn, steps 142
def nw120 : nOr := (ktX nc120.2.1, ngH, ngF, fun y pc x => bif Nat.beq y 13 && Nat.beq pc 2 then some ([((0, 2, 0), 0, 5)], [], (0, true), [], [], 24) else none)
set_option maxRecDepth 1000000 in
theorem nq120 : ncheck ktN [] nw120 3000 nc120 = true := by decide +kernel
-- LP$Folk.standing, steps 38
def nw121 : nOr := (ktX nc121.2.1, ngH, ngF, fun _ _ _ => none)
set_option maxRecDepth 1000000 in
theorem nq121 : ncheck ktN [nc115, nc120] nw121 3000 nc121 = true := by decide +kernel
-- LP.whoIn, steps 269
def nw138 : nOr := (ktX nc138.2.1, ngH, ngF, fun y pc x => bif Nat.beq y 3 && Nat.beq pc 28 then some ([((0, 4, 0), 1, 201), ((2, 95, 1), 0, 1199)], [([(1, 2, 95, 1), ((-1), 0, 4, 0)], 998)], (0, true), [], [(12, 0, 1), (95, 0, 0), (105, 0, 0)], 71) else bif Nat.beq y 18 && Nat.beq pc 2 then some ([((0, 2, 0), 0, 5)], [], (0, true), [], [(12, 0, 1), (95, 0, 1), (105, 0, 0)], 47) else none)
set_option maxRecDepth 1000000 in
theorem nq138 : ncheck ktN [nc113, nc114] nw138 3000 nc138 = true := by decide +kernel
-- LP$Ahead.lookAtPerson, steps 523
def nw139 : nOr := (ktX nc139.2.1, ngH, ngF, fun y pc x => bif Nat.beq y 174 && Nat.beq pc 33 then some ([((0, 2, 0), 1, 201)], [], (0, false), [], [(12, 0, 0)], 56) else none)
set_option maxRecDepth 1000000 in
theorem nq139 : ncheck ktN [nc138] nw139 3000 nc139 = true := by decide +kernel
-- LP.gone, steps 108
def nw141 : nOr := (ktX nc141.2.1, ngH, ngF, fun y pc x => bif Nat.beq y 17 && Nat.beq pc 2 then some ([((0, 2, 0), 0, 5)], [], (0, true), [], [], 43) else none)
set_option maxRecDepth 1000000 in
theorem nq141 : ncheck ktN [] nw141 3000 nc141 = true := by decide +kernel
-- LP$Folk.isAs, steps 87
def nw142 : nOr := (ktX nc142.2.1, ngH, ngF, fun y pc x => bif Nat.beq y 18 && Nat.beq pc 2 then some ([((0, 2, 0), 0, 5)], [], (0, true), [], [(12, 0, 1), (95, 0, 1)], 47) else bif Nat.beq y 175 && Nat.beq pc 19 then some ([((0, 1, 0), 1, 201), ((2, 95, 1), 0, 1199)], [([(1, 2, 95, 1), ((-1), 0, 1, 0)], 998)], (0, true), [], [(12, 0, 1), (95, 0, 0)], 72) else none)
set_option maxRecDepth 1000000 in
theorem nq142 : ncheck ktN [nc113, nc114, nc141] nw142 3000 nc142 = true := by decide +kernel
-- LP.again, steps 165
def nw143 : nOr := (ktX nc143.2.1, ngH, ngF, fun y pc x => bif Nat.beq y 312 && Nat.beq pc 2 then some ([((0, 2, 0), 0, 5)], [], (0, true), [], [], 72) else none)
set_option maxRecDepth 1000000 in
theorem nq143 : ncheck ktN [] nw143 3000 nc143 = true := by decide +kernel
-- LPModel.isAsIn, steps 382
def nw145 : nOr := (ktX nc145.2.1, ngH, ngF, fun y pc x => bif Nat.beq y 176 && Nat.beq pc 43 then some ([((0, 3, 0), (-2147483648), 2147483647), ((0, 4, 0), 1, 201)], [], (1, true), [], [(12, 0, 0)], 94) else none)
set_option maxRecDepth 1000000 in
theorem nq145 : ncheck ktN [nc138] nw145 3000 nc145 = true := by decide +kernel
-- LP.stays, steps 141
def nw147 : nOr := (ktX nc147.2.1, ngH, ngF, fun y pc x => bif Nat.beq y 354 && Nat.beq pc 6 then some ([((0, 3, 0), 0, 64)], [], (0, true), [], [], 19) else none)
set_option maxRecDepth 1000000 in
theorem nq147 : ncheck ktN [] nw147 3000 nc147 = true := by decide +kernel
-- Arrays.fill, steps 17
def nw148 : nOr := (ktX nc148.2.1, ngH, ngF, fun y pc x => bif Nat.beq y 6 && Nat.beq pc 4 then some ([((0, 4, 0), (-1), 63)], [], (0, false), [], [], 94) else none)
set_option maxRecDepth 1000000 in
theorem nq148 : ncheck ktN [] nw148 3000 nc148 = true := by decide +kernel
-- LP$Ahead.addPrint, steps 264
