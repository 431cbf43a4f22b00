def nw240 : nOr := (ktX nc240.2.1, ngH, ngF, fun y pc x => bif Nat.beq y 354 && Nat.beq pc 6 then some ([((0, 3, 0), 0, 50)], [], (0, true), [], [], 19) else none)
set_option maxRecDepth 1000000 in
theorem nq240 : ncheck kt0 [] nw240 3000 nc240 = true := by decide +kernel
-- Arrays.fill, steps 17
def nw241 : nOr := (ktX nc241.2.1, ngH, ngF, fun y pc x => bif Nat.beq y 354 && Nat.beq pc 6 then some ([((0, 3, 0), 0, 50)], [], (0, true), [], [], 19) else none)
set_option maxRecDepth 1000000 in
theorem nq241 : ncheck kt0 [] nw241 3000 nc241 = true := by decide +kernel
-- Arrays.fill, steps 17
def nw242 : nOr := (ktX nc242.2.1, ngH, ngF, fun _ _ _ => none)
set_option maxRecDepth 1000000 in
theorem nq242 : ncheck kt0 [nc125] nw242 3000 nc242 = true := by decide +kernel
-- LP$Room.goneAlone, steps 44
def nw243 : nOr := (ktX nc243.2.1, ngH, ngF, fun y pc x => bif Nat.beq y 101 && Nat.beq pc 10 then some ([((0, 2, 0), 0, 50)], [], (0, true), [], [], 63) else bif Nat.beq y 101 && Nat.beq pc 18 then some ([((0, 3, 0), 0, 5)], [], (0, true), [], [], 57) else none)
set_option maxRecDepth 1000000 in
theorem nq243 : ncheck kt0 [nc240, nc241, nc242] nw243 3000 nc243 = true := by decide +kernel
-- LP$Tracks.goAllWays, steps 278
def nw244 : nOr := (ktX nc244.2.1, ngH, ngF, fun y pc x => bif Nat.beq y 100 && Nat.beq pc 18 then some ([((0, 5, 0), 0, 12)], [], (0, true), [], [], 53) else none)
set_option maxRecDepth 1000000 in
theorem nq244 : ncheck kt0 [nc240, nc241, nc243] nw244 3000 nc244 = true := by decide +kernel
-- LP$Tracks.countWays, steps 242
def nw245 : nOr := (ktX nc245.2.1, ngH, ngF, fun _ _ _ => none)
set_option maxRecDepth 1000000 in
theorem nq245 : ncheck kt0 [nc244] nw245 3000 nc245 = true := by decide +kernel
-- LP.between, steps 2869
def nw246 : nOr := (ktX nc246.2.1, ngH, ngF, fun y pc x => bif Nat.beq y 336 && Nat.beq pc 85 then some ([((0, 8, 0), 0, 30), ((2, 186, 5), 0, 999)], [], (0, true), [], [(186, 0, 1), (186, 10, 39)], 114) else bif Nat.beq y 336 && Nat.beq pc 120 then some ([((0, 8, 0), 0, 12), ((2, 186, 5), 0, 999)], [], (0, true), [], [(186, 0, 1), (186, 10, 39)], 250) else bif Nat.beq y 336 && Nat.beq pc 130 then some ([((0, 9, 0), 0, 30), ((2, 186, 5), 0, 999)], [], (0, true), [], [(186, 0, 1), (186, 10, 39)], 148) else bif Nat.beq y 336 && Nat.beq pc 154 then some ([((0, 9, 0), 0, 30), ((2, 186, 5), 0, 999)], [], (0, true), [], [(186, 0, 1), (186, 10, 39)], 214) else bif Nat.beq y 336 && Nat.beq pc 164 then some ([((0, 10, 0), 0, 5), ((2, 186, 5), 0, 999)], [], (0, true), [], [(186, 0, 1), (186, 10, 39)], 208) else bif Nat.beq y 336 && Nat.beq pc 220 then some ([((0, 9, 0), 0, 30), ((2, 186, 5), 0, 999)], [], (0, true), [], [(186, 0, 1), (186, 10, 39)], 244) else none)
set_option maxRecDepth 1000000 in
theorem nq246 : ncheck kt0 [nc128] nw246 3000 nc246 = true := by decide +kernel
-- LPModel.between, steps 715
