def nw0 : nOr := (ktX nc0.2.1, ngH, ngF, fun _ _ _ => none)
set_option maxRecDepth 1000000 in
theorem nq0 : ncheck kt0 [] nw0 3000 nc0 = true := by decide +kernel
-- LP.status, steps 3
def nw1 : nOr := (ktX nc1.2.1, ngH, ngF, fun _ _ _ => none)
set_option maxRecDepth 1000000 in
theorem nq1 : ncheck kt0 [] nw1 3000 nc1 = true := by decide +kernel
-- LPModel.status, steps 3
def nw2 : nOr := (ktX nc2.2.1, ngH, ngF, fun _ _ _ => none)
set_option maxRecDepth 1000000 in
theorem nq2 : ncheck kt0 [] nw2 3000 nc2 = true := by decide +kernel
-- LP.top, steps 3
def nw3 : nOr := (ktX nc3.2.1, ngH, ngF, fun _ _ _ => none)
set_option maxRecDepth 1000000 in
theorem nq3 : ncheck kt0 [] nw3 3000 nc3 = true := by decide +kernel
-- LPModel.top, steps 3
def nw4 : nOr := (ktX nc4.2.1, ngH, ngF, fun _ _ _ => none)
set_option maxRecDepth 1000000 in
theorem nq4 : ncheck kt0 [] nw4 3000 nc4 = true := by decide +kernel
-- LP.bottom, steps 3
def nw5 : nOr := (ktX nc5.2.1, ngH, ngF, fun _ _ _ => none)
set_option maxRecDepth 1000000 in
theorem nq5 : ncheck kt0 [] nw5 3000 nc5 = true := by decide +kernel
-- LPModel.bottom, steps 3
def nw6 : nOr := (ktX nc6.2.1, ngH, ngF, fun y pc x => bif Nat.beq y 354 && Nat.beq pc 6 then some ([((0, 3, 0), 0, 60)], [], (0, true), [], [], 19) else none)
set_option maxRecDepth 1000000 in
theorem nq6 : ncheck kt0 [] nw6 3000 nc6 = true := by decide +kernel
-- Arrays.fill, steps 17
def nw7 : nOr := (ktX nc7.2.1, ngH, ngF, fun y pc x => bif Nat.beq y 354 && Nat.beq pc 6 then some ([((0, 3, 0), 0, 60)], [], (0, true), [], [], 19) else none)
set_option maxRecDepth 1000000 in
theorem nq7 : ncheck kt0 [] nw7 3000 nc7 = true := by decide +kernel
-- Arrays.fill, steps 17
def nw8 : nOr := (ktX nc8.2.1, ngH, ngF, fun y pc x => bif Nat.beq y 354 && Nat.beq pc 6 then some ([((0, 3, 0), 0, 60)], [], (0, true), [], [], 19) else none)
set_option maxRecDepth 1000000 in
theorem nq8 : ncheck kt0 [] nw8 3000 nc8 = true := by decide +kernel
-- Arrays.fill, steps 17
def nw9 : nOr := (ktX nc9.2.1, ngH, ngF, fun y pc x => bif Nat.beq y 354 && Nat.beq pc 6 then some ([((0, 3, 0), 0, 60)], [], (0, true), [], [], 19) else none)
set_option maxRecDepth 1000000 in
theorem nq9 : ncheck kt0 [] nw9 3000 nc9 = true := by decide +kernel
-- Arrays.fill, steps 17
def nw10 : nOr := (ktX nc10.2.1, ngH, ngF, fun _ _ _ => none)
set_option maxRecDepth 1000000 in
theorem nq10 : ncheck kt0 [nc6, nc7, nc8, nc9] nw10 3000 nc10 = true := by decide +kernel
-- LP.tray, steps 173
def nw11 : nOr := (ktX nc11.2.1, ngH, ngF, fun y pc x => bif Nat.beq y 211 && Nat.beq pc 49 then some ([((0, 4, 0), 0, 60), ((2, 186, 5), 0, 999)], [], (0, true), [], [(188, 0, 3), (189, 0, 3)], 71) else none)
set_option maxRecDepth 1000000 in
theorem nq11 : ncheck kt0 [] nw11 3000 nc11 = true := by decide +kernel
-- LPModel.tray, steps 154
def nw12 : nOr := (ktX nc12.2.1, ngH, ngF, fun _ _ _ => none)
set_option maxRecDepth 1000000 in
theorem nq12 : ncheck kt0 [] nw12 3000 nc12 = true := by decide +kernel
-- LP.write, steps 384
def nw13 : nOr := (ktX nc13.2.1, ngH, ngF, fun _ _ _ => none)
set_option maxRecDepth 1000000 in
theorem nq13 : ncheck kt0 [] nw13 3000 nc13 = true := by decide +kernel
-- LPModel.write, steps 478
def nw14 : nOr := (ktX nc14.2.1, ngH, ngF, fun _ _ _ => none)
set_option maxRecDepth 1000000 in
theorem nq14 : ncheck kt0 [] nw14 3000 nc14 = true := by decide +kernel
-- LP.read, steps 160
def nw15 : nOr := (ktX nc15.2.1, ngH, ngF, fun _ _ _ => none)
set_option maxRecDepth 1000000 in
theorem nq15 : ncheck kt0 [] nw15 3000 nc15 = true := by decide +kernel
-- LPModel.read, steps 113
def nw16 : nOr := (ktX nc16.2.1, ngH, ngF, fun _ _ _ => none)
set_option maxRecDepth 1000000 in
theorem nq16 : ncheck kt0 [] nw16 3000 nc16 = true := by decide +kernel
-- LP.pour, steps 401
def nw17 : nOr := (ktX nc17.2.1, ngH, ngF, fun y pc x => bif Nat.beq y 215 && Nat.beq pc 118 then some ([((0, 6, 0), 0, 60), ((2, 186, 5), 0, 999)], [], (0, true), [], [(188, 0, 3), (189, 0, 3)], 177) else none)
set_option maxRecDepth 1000000 in
theorem nq17 : ncheck kt0 [] nw17 3000 nc17 = true := by decide +kernel
-- LPModel.pour, steps 609
