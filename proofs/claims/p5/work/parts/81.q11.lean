def nw167 : nOr := (ktX nc167.2.1, ngH, ngF, fun y pc x => bif Nat.beq y 186 && Nat.beq pc 2 then some ([((0, 2, 0), 0, 200)], [], (0, true), [], [], 34) else none)
set_option maxRecDepth 1000000 in
theorem nq167 : ncheck ktN [] nw167 3000 nc167 = true := by decide +kernel
-- LP.mostAffordable, steps 56
def nw168 : nOr := (ktX nc168.2.1, ngH, ngF, fun _ _ _ => none)
set_option maxRecDepth 1000000 in
theorem nq168 : ncheck ktN [nc167] nw168 3000 nc168 = true := by decide +kernel
-- LP.afford, steps 60
def nw169 : nOr := (ktX nc169.2.1, ngH, ngF, fun y pc x => bif Nat.beq y 325 && Nat.beq pc 2 then some ([((0, 2, 0), 0, 200)], [], (0, true), [], [], 32) else none)
set_option maxRecDepth 1000000 in
theorem nq169 : ncheck ktN [nc110] nw169 3000 nc169 = true := by decide +kernel
-- LPModel.affordOf, steps 25
def nw170 : nOr := (ktX nc170.2.1, ngH, ngF, fun _ _ _ => none)
set_option maxRecDepth 1000000 in
theorem nq170 : ncheck ktN [nc169] nw170 3000 nc170 = true := by decide +kernel
-- LPModel.afford, steps 51
def nw173 : nOr := (ktX nc173.2.1, ngH, ngF, fun y pc x => bif Nat.beq y 96 && Nat.beq pc 13 then some ([((0, 4, 0), 0, 20)], [], (0, true), [], [(107, 3, 3)], 106) else none)
set_option maxRecDepth 1000000 in
theorem nq173 : ncheck ktN [] nw173 3000 nc173 = true := by decide +kernel
-- LP$Tracks.load, steps 2864
def nw174 : nOr := (ktX nc174.2.1, ngH, ngF, fun y pc x => bif Nat.beq y 96 && Nat.beq pc 13 then some ([((0, 4, 0), 0, 20)], [], (0, true), [], [(107, 3, 3)], 106) else none)
set_option maxRecDepth 1000000 in
theorem nq174 : ncheck ktN [] nw174 3000 nc174 = true := by decide +kernel
-- LP$Tracks.load, steps 2864
