def nw228 : nOr := (ktX nc228.2.1, ngH, ngF, fun _ _ _ => none)
set_option maxRecDepth 1000000 in
theorem nq228 : ncheck ktN [nc225, nc227] nw228 3000 nc228 = true := by decide +kernel
-- LP$Folk.walk, steps 368
def nw229 : nOr := (ktX nc229.2.1, ngH, ngF, fun y pc x => bif Nat.beq y 18 && Nat.beq pc 2 then some ([((0, 2, 0), 0, 5)], [], (0, true), [], [(67, 2, 2), (70, 1, 1)], 47) else bif Nat.beq y 67 && Nat.beq pc 31 then some ([((0, 3, 0), 0, 99), ((2, 70, 1), 0, 999)], [([(1, 2, 70, 1), (1, 0, 2, 0), ((-1), 0, 3, 0)], 999)], (0, true), [], [(67, 2, 2)], 44) else none)
set_option maxRecDepth 1000000 in
theorem nq229 : ncheck ktN [nc226, nc228] nw229 3000 nc229 = true := by decide +kernel
-- LP$Runner.skipAll, steps 101
def nw236 : nOr := (ktX nc236.2.1, ngH, ngF, fun _ _ _ => none)
set_option maxRecDepth 1000000 in
theorem nq236 : ncheck ktN [] nw236 3000 nc236 = true := by decide +kernel
-- LP.mark, steps 750
def nw238 : nOr := (ktX nc238.2.1, ngH, ngF, fun _ _ _ => none)
set_option maxRecDepth 1000000 in
theorem nq238 : ncheck ktN [nc237] nw238 3000 nc238 = true := by decide +kernel
-- LPModel.mark, steps 34
def nw239 : nOr := (ktX nc239.2.1, ngH, ngF, fun _ _ _ => none)
set_option maxRecDepth 1000000 in
theorem nq239 : ncheck ktN [] nw239 3000 nc239 = true := by decide +kernel
-- LP.undo, steps 734
def nw241 : nOr := (ktX nc241.2.1, ngH, ngF, fun _ _ _ => none)
set_option maxRecDepth 1000000 in
theorem nq241 : ncheck ktN [nc240] nw241 3000 nc241 = true := by decide +kernel
-- LPModel.undo, steps 33
