def nw69 : nOr := (nXor (nrcX (ktT nc69.2.1) nc69.2.1 rc68 ksi243) (ktX nc69.2.1), ngH, ngF, fun y pc x => bif Nat.beq y 244 && Nat.beq pc 31 then some ([((0, 2, 0), 1, 1), ((2, 185, 14), 0, 900), ((2, 186, 5), 0, 999)], [], (1, true), [], [], 47) else bif Nat.beq y 244 && Nat.beq pc 90 then some ([((0, 3, 0), 0, 15), ((2, 186, 5), 0, 999)], [], (0, true), [], [(185, 12, 12), (185, 14, 14), (185, 18, 18), (185, 20, 20)], 114) else none)
set_option maxRecDepth 1000000 in
theorem nq69 : ncheck kt0 [nc45, nc47] nw69 3000 nc69 = true := by decide +kernel
-- LPModel.scene, steps 323
def nw70 : nOr := (ktX nc70.2.1, ngH, ngF, fun y pc x => bif Nat.beq y 40 && Nat.beq pc 3 then some ([((0, 4, 0), 0, 5)], [], (0, true), [], [], 31) else none)
set_option maxRecDepth 1000000 in
theorem nq70 : ncheck kt0 [] nw70 3000 nc70 = true := by decide +kernel
-- LP$Reader.indexOf, steps 28
def nw71 : nOr := (ktX nc71.2.1, ngH, ngF, fun y pc x => bif Nat.beq y 40 && Nat.beq pc 3 then some ([((0, 4, 0), 0, 6)], [], (0, true), [], [], 31) else none)
set_option maxRecDepth 1000000 in
theorem nq71 : ncheck kt0 [] nw71 3000 nc71 = true := by decide +kernel
-- LP$Reader.indexOf, steps 28
def nw72 : nOr := (ktX nc72.2.1, ngH, ngF, fun y pc x => bif Nat.beq y 40 && Nat.beq pc 3 then some ([((0, 4, 0), 0, 4)], [], (0, true), [], [], 31) else none)
set_option maxRecDepth 1000000 in
theorem nq72 : ncheck kt0 [] nw72 3000 nc72 = true := by decide +kernel
-- LP$Reader.indexOf, steps 28
def nw73 : nOr := (ktX nc73.2.1, ngH, ngF, fun y pc x => bif Nat.beq y 51 && Nat.beq pc 25 then some ([((0, 3, 0), 0, 1), ((0, 4, 0), 0, 300), ((2, 60, 3), 0, 3), ((2, 61, 1), 0, 30), ((2, 61, 2), 0, 60)], [([(1, 2, 61, 2), (1, 2, 60, 3), ((-2), 2, 61, 1)], 0)], (1, true), [], [(8, 1, 1), (61, 0, 0)], 110) else none)
set_option maxRecDepth 1000000 in
theorem nq73 : ncheck kt0 [nc27, nc28, nc29, nc31, nc70, nc71, nc72] nw73 3000 nc73 = true := by decide +kernel
-- LP$RunReader.reads, steps 5008
