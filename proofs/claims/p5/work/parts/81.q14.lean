def nw186 : nOr := (ktX nc186.2.1, ngH, ngF, fun y pc x => bif Nat.beq y 329 && Nat.beq pc 10 then some ([((0, 3, 0), (-1), 29), ((0, 4, 0), 1, 20)], [], (1, true), [], [(195, 0, 0)], 60) else none)
set_option maxRecDepth 1000000 in
theorem nq186 : ncheck ktN [nc185] nw186 3000 nc186 = true := by decide +kernel
-- LPModel.doesFit, steps 45
def nw187 : nOr := (ktX nc187.2.1, ngH, ngF, fun y pc x => bif Nat.beq y 330 && Nat.beq pc 5 then some ([((0, 3, 0), (-2147483648), 2147483647), ((0, 4, 0), 0, 4)], [], (1, true), [], [], 18) else bif Nat.beq y 330 && Nat.beq pc 27 then some ([((0, 4, 0), (-2147483648), 2147483647), ((0, 5, 0), 0, 2147483647)], [], (1, true), [], [], 122) else bif Nat.beq y 330 && Nat.beq pc 42 then some ([((0, 6, 0), 0, 2147483646), ((0, 7, 0), (-1), 3)], [], (1, false), [], [], 67) else bif Nat.beq y 330 && Nat.beq pc 85 then some ([((0, 7, 0), 0, 4)], [], (0, true), [], [], 113) else none)
set_option maxRecDepth 1000000 in
theorem nq187 : ncheck ktN [nc186] nw187 3000 nc187 = true := by decide +kernel
-- LPModel.rowsOf, steps 84
def nw188 : nOr := (ktX nc188.2.1, ngH, ngF, fun _ _ _ => none)
set_option maxRecDepth 1000000 in
theorem nq188 : ncheck ktN [nc182, nc183, nc184, nc187] nw188 3000 nc188 = true := by decide +kernel
-- LPModel.steps, steps 205
def nw189 : nOr := (ktX nc189.2.1, ngH, ngF, fun _ _ _ => none)
set_option maxRecDepth 1000000 in
theorem nq189 : ncheck ktN [nc173, nc174, nc175, nc176, nc180] nw189 3000 nc189 = true := by decide +kernel
-- LP.stepsAt, steps 473
def nw190 : nOr := (ktX nc190.2.1, ngH, ngF, fun _ _ _ => none)
set_option maxRecDepth 1000000 in
theorem nq190 : ncheck ktN [nc182, nc183, nc184, nc187] nw190 3000 nc190 = true := by decide +kernel
-- LPModel.stepsAt, steps 664
def nw191 : nOr := (ktX nc191.2.1, ngH, ngF, fun y pc x => bif Nat.beq y 189 && Nat.beq pc 20 then some ([((0, 4, 0), 1, 5)], [], (0, true), [], [(6, 0, 3), (7, 0, 3)], 55) else none)
set_option maxRecDepth 1000000 in
theorem nq191 : ncheck ktN [nc173, nc174, nc175, nc176, nc180] nw191 3000 nc191 = true := by decide +kernel
-- LP.period, steps 415
def nw192 : nOr := (ktX nc192.2.1, ngH, ngF, fun y pc x => bif Nat.beq y 334 && Nat.beq pc 20 then some ([((0, 4, 0), 1, 5), ((2, 186, 5), 0, 999)], [], (0, true), [], [], 46) else none)
set_option maxRecDepth 1000000 in
theorem nq192 : ncheck ktN [nc182, nc183, nc184, nc187] nw192 3000 nc192 = true := by decide +kernel
-- LPModel.period, steps 81
def nw193 : nOr := (ktX nc193.2.1, ngH, ngF, fun y pc x => bif Nat.beq y 191 && Nat.beq pc 69 then some ([((0, 5, 0), 0, 20)], [], (0, true), [], [(6, 0, 3), (7, 0, 3), (12, 0, 0)], 98) else none)
set_option maxRecDepth 1000000 in
theorem nq193 : ncheck ktN [nc138] nw193 3000 nc193 = true := by decide +kernel
-- LP.copyWay, steps 252
def nw195 : nOr := (ktX nc195.2.1, ngH, ngF, fun y pc x => bif Nat.beq y 354 && Nat.beq pc 6 then some ([((0, 3, 0), 0, 50)], [], (0, true), [], [], 19) else none)
set_option maxRecDepth 1000000 in
theorem nq195 : ncheck ktN [] nw195 3000 nc195 = true := by decide +kernel
-- Arrays.fill, steps 17
def nw196 : nOr := (ktX nc196.2.1, ngH, ngF, fun y pc x => bif Nat.beq y 354 && Nat.beq pc 6 then some ([((0, 3, 0), 0, 50)], [], (0, true), [], [], 19) else none)
set_option maxRecDepth 1000000 in
theorem nq196 : ncheck ktN [] nw196 3000 nc196 = true := by decide +kernel
-- Arrays.fill, steps 17
def nw197 : nOr := (ktX nc197.2.1, ngH, ngF, fun _ _ _ => none)
set_option maxRecDepth 1000000 in
theorem nq197 : ncheck ktN [nc86] nw197 3000 nc197 = true := by decide +kernel
-- LP$Room.goneAlone, steps 44
def nw198 : nOr := (ktX nc198.2.1, ngH, ngF, fun y pc x => bif Nat.beq y 101 && Nat.beq pc 10 then some ([((0, 2, 0), 0, 50)], [], (0, true), [], [], 63) else bif Nat.beq y 101 && Nat.beq pc 18 then some ([((0, 3, 0), 0, 5)], [], (0, true), [], [], 57) else none)
set_option maxRecDepth 1000000 in
theorem nq198 : ncheck ktN [nc195, nc196, nc197] nw198 3000 nc198 = true := by decide +kernel
-- LP$Tracks.goAllWays, steps 278
def nw199 : nOr := (ktX nc199.2.1, ngH, ngF, fun y pc x => bif Nat.beq y 100 && Nat.beq pc 18 then some ([((0, 5, 0), 0, 12)], [], (0, true), [], [], 53) else none)
set_option maxRecDepth 1000000 in
theorem nq199 : ncheck ktN [nc195, nc196, nc198] nw199 3000 nc199 = true := by decide +kernel
-- LP$Tracks.countWays, steps 242
def nw200 : nOr := (ktX nc200.2.1, ngH, ngF, fun _ _ _ => none)
set_option maxRecDepth 1000000 in
theorem nq200 : ncheck ktN [nc199] nw200 3000 nc200 = true := by decide +kernel
-- LP.between, steps 2869
