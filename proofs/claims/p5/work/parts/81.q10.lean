def nw60 : nOr := (nXor (nrcX (ktT nc60.2.1) nc60.2.1 rc59 ksi243) (ktX nc60.2.1), ngH, ngF, fun y pc x => bif Nat.beq y 244 && Nat.beq pc 31 then some ([((0, 2, 0), 1, 1), ((2, 185, 14), 0, 900), ((2, 186, 5), 0, 999)], [], (1, true), [], [], 47) else bif Nat.beq y 244 && Nat.beq pc 90 then some ([((0, 3, 0), 0, 15), ((2, 186, 5), 0, 999)], [], (0, true), [], [(185, 12, 12), (185, 14, 14), (185, 18, 18), (185, 20, 20)], 114) else none)
set_option maxRecDepth 1000000 in
theorem nq60 : ncheck kt0 [nc42, nc44] nw60 3000 nc60 = true := by decide +kernel
-- LPModel.scene, steps 323
def nw61 : nOr := (ktX nc61.2.1, ngH, ngF, fun y pc x => bif Nat.beq y 40 && Nat.beq pc 3 then some ([((0, 4, 0), 0, 5)], [], (0, true), [], [], 31) else none)
set_option maxRecDepth 1000000 in
theorem nq61 : ncheck kt0 [] nw61 3000 nc61 = true := by decide +kernel
-- LP$Reader.indexOf, steps 28
def nw62 : nOr := (ktX nc62.2.1, ngH, ngF, fun y pc x => bif Nat.beq y 40 && Nat.beq pc 3 then some ([((0, 4, 0), 0, 6)], [], (0, true), [], [], 31) else none)
set_option maxRecDepth 1000000 in
theorem nq62 : ncheck kt0 [] nw62 3000 nc62 = true := by decide +kernel
-- LP$Reader.indexOf, steps 28
def nw63 : nOr := (ktX nc63.2.1, ngH, ngF, fun y pc x => bif Nat.beq y 40 && Nat.beq pc 3 then some ([((0, 4, 0), 0, 4)], [], (0, true), [], [], 31) else none)
set_option maxRecDepth 1000000 in
theorem nq63 : ncheck kt0 [] nw63 3000 nc63 = true := by decide +kernel
-- LP$Reader.indexOf, steps 28
def nw64 : nOr := (ktX nc64.2.1, ngH, ngF, fun y pc x => bif Nat.beq y 51 && Nat.beq pc 25 then some ([((0, 3, 0), 0, 1), ((0, 4, 0), 0, 300), ((2, 60, 3), 0, 3), ((2, 61, 1), 0, 30), ((2, 61, 2), 0, 60)], [([(1, 2, 61, 2), (1, 2, 60, 3), ((-2), 2, 61, 1)], 0)], (1, true), [], [(8, 1, 1), (61, 0, 0)], 110) else none)
set_option maxRecDepth 1000000 in
theorem nq64 : ncheck kt0 [nc27, nc61, nc62, nc63] nw64 3000 nc64 = true := by decide +kernel
-- LP$RunReader.reads, steps 10826
