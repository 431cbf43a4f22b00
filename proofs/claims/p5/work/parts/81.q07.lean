def nw91 : nOr := (ktX nc91.2.1, ngH, ngF, fun y pc x => bif Nat.beq y 18 && Nat.beq pc 2 then some ([((0, 2, 0), 0, 5)], [], (0, true), [], [(12, 1, 1)], 47) else bif Nat.beq y 157 && Nat.beq pc 35 then some ([((0, 2, 0), 0, 99), ((2, 12, 1), 0, 999)], [([(1, 2, 12, 1), (1, 0, 1, 0), ((-1), 0, 2, 0)], 999)], (0, true), [], [], 51) else none)
set_option maxRecDepth 1000000 in
theorem nq91 : ncheck ktN [nc85, nc87] nw91 3000 nc91 = true := by decide +kernel
-- LP.skip, steps 148
def nw93 : nOr := (ktX nc93.2.1, ngH, ngF, fun _ _ _ => none)
set_option maxRecDepth 1000000 in
theorem nq93 : ncheck ktN [] nw93 3000 nc93 = true := by decide +kernel
-- LP.give, steps 196
def nw94 : nOr := (ktX nc94.2.1, ngH, ngF, fun _ _ _ => none)
set_option maxRecDepth 1000000 in
theorem nq94 : ncheck ktN [] nw94 3000 nc94 = true := by decide +kernel
-- LPModel.give, steps 153
def nw95 : nOr := (ktX nc95.2.1, ngH, ngF, fun _ _ _ => none)
set_option maxRecDepth 1000000 in
theorem nq95 : ncheck ktN [] nw95 3000 nc95 = true := by decide +kernel
-- LP.back, steps 215
def nw96 : nOr := (ktX nc96.2.1, ngH, ngF, fun _ _ _ => none)
set_option maxRecDepth 1000000 in
theorem nq96 : ncheck ktN [] nw96 3000 nc96 = true := by decide +kernel
-- LPModel.back, steps 176
def nw97 : nOr := (ktX nc97.2.1, ngH, ngF, fun _ _ _ => none)
set_option maxRecDepth 1000000 in
theorem nq97 : ncheck ktN [] nw97 3000 nc97 = true := by decide +kernel
-- LP.earn, steps 126
def nw98 : nOr := (ktX nc98.2.1, ngH, ngF, fun _ _ _ => none)
set_option maxRecDepth 1000000 in
theorem nq98 : ncheck ktN [] nw98 3000 nc98 = true := by decide +kernel
-- LPModel.earn, steps 225
def nw99 : nOr := (ktX nc99.2.1, ngH, ngF, fun _ _ _ => none)
set_option maxRecDepth 1000000 in
theorem nq99 : ncheck ktN [] nw99 3000 nc99 = true := by decide +kernel
-- LP.price, steps 92
def nw100 : nOr := (ktX nc100.2.1, ngH, ngF, fun _ _ _ => none)
set_option maxRecDepth 1000000 in
theorem nq100 : ncheck ktN [] nw100 3000 nc100 = true := by decide +kernel
-- LPModel.price, steps 442
def nw101 : nOr := (ktX nc101.2.1, ngH, ngF, fun _ _ _ => none)
set_option maxRecDepth 1000000 in
theorem nq101 : ncheck ktN [nc66] nw101 3000 nc101 = true := by decide +kernel
-- LP.build, steps 891
def nw102 : nOr := (ktX nc102.2.1, ngH, ngF, fun _ _ _ => none)
set_option maxRecDepth 1000000 in
theorem nq102 : ncheck ktN [nc68] nw102 3000 nc102 = true := by decide +kernel
-- LPModel.build, steps 603
def nw103 : nOr := (ktX nc103.2.1, ngH, ngF, fun _ _ _ => none)
set_option maxRecDepth 1000000 in
theorem nq103 : ncheck ktN [] nw103 3000 nc103 = true := by decide +kernel
-- LP.teach, steps 199
