def nw231 : nOr := (ktX nc231.2.1, ngH, ngF, fun y pc x => bif Nat.beq y 354 && Nat.beq pc 6 then some ([((0, 3, 0), 0, 50)], [], (0, true), [], [], 19) else none)
set_option maxRecDepth 1000000 in
theorem nq231 : ncheck kt0 [] nw231 3000 nc231 = true := by decide +kernel
-- Arrays.fill, steps 17
def nw232 : nOr := (ktX nc232.2.1, ngH, ngF, fun y pc x => bif Nat.beq y 354 && Nat.beq pc 6 then some ([((0, 3, 0), 0, 50)], [], (0, true), [], [], 19) else none)
set_option maxRecDepth 1000000 in
theorem nq232 : ncheck kt0 [] nw232 3000 nc232 = true := by decide +kernel
-- Arrays.fill, steps 17
def nw233 : nOr := (ktX nc233.2.1, ngH, ngF, fun _ _ _ => none)
set_option maxRecDepth 1000000 in
theorem nq233 : ncheck kt0 [nc116] nw233 3000 nc233 = true := by decide +kernel
-- LP$Room.goneAlone, steps 44
def nw234 : nOr := (ktX nc234.2.1, ngH, ngF, fun y pc x => bif Nat.beq y 101 && Nat.beq pc 10 then some ([((0, 2, 0), 0, 50)], [], (0, true), [], [], 63) else bif Nat.beq y 101 && Nat.beq pc 18 then some ([((0, 3, 0), 0, 5)], [], (0, true), [], [], 57) else none)
set_option maxRecDepth 1000000 in
theorem nq234 : ncheck kt0 [nc231, nc232, nc233] nw234 3000 nc234 = true := by decide +kernel
-- LP$Tracks.goAllWays, steps 278
def nw235 : nOr := (ktX nc235.2.1, ngH, ngF, fun y pc x => bif Nat.beq y 100 && Nat.beq pc 18 then some ([((0, 5, 0), 0, 12)], [], (0, true), [], [], 53) else none)
set_option maxRecDepth 1000000 in
theorem nq235 : ncheck kt0 [nc231, nc232, nc234] nw235 3000 nc235 = true := by decide +kernel
-- LP$Tracks.countWays, steps 242
def nw236 : nOr := (ktX nc236.2.1, ngH, ngF, fun _ _ _ => none)
set_option maxRecDepth 1000000 in
theorem nq236 : ncheck kt0 [nc235] nw236 3000 nc236 = true := by decide +kernel
-- LP.between, steps 2869
def nw237 : nOr := (ktX nc237.2.1, ngH, ngF, fun y pc x => bif Nat.beq y 336 && Nat.beq pc 85 then some ([((0, 8, 0), 0, 30), ((2, 186, 5), 0, 999)], [], (0, true), [], [(186, 0, 1), (186, 10, 39)], 114) else bif Nat.beq y 336 && Nat.beq pc 120 then some ([((0, 8, 0), 0, 12), ((2, 186, 5), 0, 999)], [], (0, true), [], [(186, 0, 1), (186, 10, 39)], 250) else bif Nat.beq y 336 && Nat.beq pc 130 then some ([((0, 9, 0), 0, 30), ((2, 186, 5), 0, 999)], [], (0, true), [], [(186, 0, 1), (186, 10, 39)], 148) else bif Nat.beq y 336 && Nat.beq pc 154 then some ([((0, 9, 0), 0, 30), ((2, 186, 5), 0, 999)], [], (0, true), [], [(186, 0, 1), (186, 10, 39)], 214) else bif Nat.beq y 336 && Nat.beq pc 164 then some ([((0, 10, 0), 0, 5), ((2, 186, 5), 0, 999)], [], (0, true), [], [(186, 0, 1), (186, 10, 39)], 208) else bif Nat.beq y 336 && Nat.beq pc 220 then some ([((0, 9, 0), 0, 30), ((2, 186, 5), 0, 999)], [], (0, true), [], [(186, 0, 1), (186, 10, 39)], 244) else none)
set_option maxRecDepth 1000000 in
theorem nq237 : ncheck kt0 [nc119] nw237 3000 nc237 = true := by decide +kernel
-- LPModel.between, steps 715
