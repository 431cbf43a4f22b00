def nw0 : nOr := (ktX nc0.2.1, ngH, ngF, fun _ _ _ => none)
set_option maxRecDepth 1000000 in
theorem nq0 : ncheck kt0 [] nw0 3000 nc0 = true := by decide +kernel
-- LP.status, steps 3
def nw1 : nOr := (ktX nc1.2.1, ngH, ngF, fun _ _ _ => none)
set_option maxRecDepth 1000000 in
theorem nq1 : ncheck kt0 [] nw1 3000 nc1 = true := by decide +kernel
-- LPModel.status, steps 3
def nw2 : nOr := (ktX nc2.2.1, ngH, ngF, fun _ _ _ => none)
set_option maxRecDepth 1000000 in
theorem nq2 : ncheck kt0 [] nw2 3000 nc2 = true := by decide +kernel
-- LP.top, steps 3
def nw3 : nOr := (ktX nc3.2.1, ngH, ngF, fun _ _ _ => none)
set_option maxRecDepth 1000000 in
theorem nq3 : ncheck kt0 [] nw3 3000 nc3 = true := by decide +kernel
-- LPModel.top, steps 3
def nw4 : nOr := (ktX nc4.2.1, ngH, ngF, fun _ _ _ => none)
set_option maxRecDepth 1000000 in
theorem nq4 : ncheck kt0 [] nw4 3000 nc4 = true := by decide +kernel
-- LP.bottom, steps 3
def nw5 : nOr := (ktX nc5.2.1, ngH, ngF, fun _ _ _ => none)
set_option maxRecDepth 1000000 in
theorem nq5 : ncheck kt0 [] nw5 3000 nc5 = true := by decide +kernel
-- LPModel.bottom, steps 3
def nw6 : nOr := (ktX nc6.2.1, ngH, ngF, fun y pc x => bif Nat.beq y 354 && Nat.beq pc 6 then some ([((0, 3, 0), 0, 60)], [], (0, true), [], [], 19) else none)
set_option maxRecDepth 1000000 in
theorem nq6 : ncheck kt0 [] nw6 3000 nc6 = true := by decide +kernel
-- Arrays.fill, steps 17
def nw7 : nOr := (ktX nc7.2.1, ngH, ngF, fun y pc x => bif Nat.beq y 354 && Nat.beq pc 6 then some ([((0, 3, 0), 0, 60)], [], (0, true), [], [], 19) else none)
set_option maxRecDepth 1000000 in
theorem nq7 : ncheck kt0 [] nw7 3000 nc7 = true := by decide +kernel
-- Arrays.fill, steps 17
def nw8 : nOr := (ktX nc8.2.1, ngH, ngF, fun y pc x => bif Nat.beq y 354 && Nat.beq pc 6 then some ([((0, 3, 0), 0, 60)], [], (0, true), [], [], 19) else none)
set_option maxRecDepth 1000000 in
theorem nq8 : ncheck kt0 [] nw8 3000 nc8 = true := by decide +kernel
-- Arrays.fill, steps 17
def nw9 : nOr := (ktX nc9.2.1, ngH, ngF, fun y pc x => bif Nat.beq y 354 && Nat.beq pc 6 then some ([((0, 3, 0), 0, 60)], [], (0, true), [], [], 19) else none)
set_option maxRecDepth 1000000 in
theorem nq9 : ncheck kt0 [] nw9 3000 nc9 = true := by decide +kernel
-- Arrays.fill, steps 17
def nw10 : nOr := (ktX nc10.2.1, ngH, ngF, fun _ _ _ => none)
set_option maxRecDepth 1000000 in
theorem nq10 : ncheck kt0 [nc6, nc7, nc8, nc9] nw10 3000 nc10 = true := by decide +kernel
-- LP.tray, steps 173
def nw11 : nOr := (ktX nc11.2.1, ngH, ngF, fun y pc x => bif Nat.beq y 211 && Nat.beq pc 49 then some ([((0, 4, 0), 0, 60), ((2, 186, 5), 0, 999)], [], (0, true), [], [(188, 0, 3), (189, 0, 3)], 71) else none)
set_option maxRecDepth 1000000 in
theorem nq11 : ncheck kt0 [] nw11 3000 nc11 = true := by decide +kernel
-- LPModel.tray, steps 154
def nw12 : nOr := (ktX nc12.2.1, ngH, ngF, fun _ _ _ => none)
set_option maxRecDepth 1000000 in
theorem nq12 : ncheck kt0 [] nw12 3000 nc12 = true := by decide +kernel
-- LP.write, steps 384
def nw13 : nOr := (ktX nc13.2.1, ngH, ngF, fun _ _ _ => none)
set_option maxRecDepth 1000000 in
theorem nq13 : ncheck kt0 [] nw13 3000 nc13 = true := by decide +kernel
-- LPModel.write, steps 478
def nw14 : nOr := (ktX nc14.2.1, ngH, ngF, fun _ _ _ => none)
set_option maxRecDepth 1000000 in
theorem nq14 : ncheck kt0 [] nw14 3000 nc14 = true := by decide +kernel
-- LP.read, steps 160
def nw15 : nOr := (ktX nc15.2.1, ngH, ngF, fun _ _ _ => none)
set_option maxRecDepth 1000000 in
theorem nq15 : ncheck kt0 [] nw15 3000 nc15 = true := by decide +kernel
-- LPModel.read, steps 113
def nw16 : nOr := (ktX nc16.2.1, ngH, ngF, fun _ _ _ => none)
set_option maxRecDepth 1000000 in
theorem nq16 : ncheck kt0 [] nw16 3000 nc16 = true := by decide +kernel
-- LP.pour, steps 401
def nw17 : nOr := (ktX nc17.2.1, ngH, ngF, fun y pc x => bif Nat.beq y 215 && Nat.beq pc 118 then some ([((0, 6, 0), 0, 60), ((2, 186, 5), 0, 999)], [], (0, true), [], [(188, 0, 3), (189, 0, 3)], 177) else none)
set_option maxRecDepth 1000000 in
theorem nq17 : ncheck kt0 [] nw17 3000 nc17 = true := by decide +kernel
-- LPModel.pour, steps 609
def nw18 : nOr := (ktX nc18.2.1, ngH, ngF, fun y pc x => bif Nat.beq y 142 && Nat.beq pc 3 then some ([((0, 2, 0), (-8), 24)], [], (0, false), [], [], 46) else none)
set_option maxRecDepth 1000000 in
theorem nq18 : ncheck kt0 [] nw18 3000 nc18 = true := by decide +kernel
-- LP.putOnTape, steps 32
def nw19 : nOr := (ktX nc19.2.1, ngH, ngF, fun _ _ _ => none)
set_option maxRecDepth 1000000 in
theorem nq19 : ncheck kt0 [nc18] nw19 3000 nc19 = true := by decide +kernel
-- LP.feed, steps 26
def nw20 : nOr := (ktX nc20.2.1, ngH, ngF, fun _ _ _ => none)
set_option maxRecDepth 1000000 in
theorem nq20 : ncheck kt0 [] nw20 3000 nc20 = true := by decide +kernel
-- LPModel.feed, steps 431
def nw22 : nOr := (ktX nc22.2.1, ngH, ngF, fun y pc x => bif Nat.beq y 11 && Nat.beq pc 7 then some ([((0, 1, 0), 0, 5)], [], (0, true), [], [(38, 1, 1)], 50) else none)
set_option maxRecDepth 1000000 in
theorem nq22 : ncheck kt0 [] nw22 3000 nc22 = true := by decide +kernel
-- LP$Folk.begin, steps 46
def nw23 : nOr := (ktX nc23.2.1, ngH, ngF, fun y pc x => bif Nat.beq y 15 && Nat.beq pc 2 then some ([((0, 2, 0), 0, 5)], [], (0, true), [], [], 25) else none)
set_option maxRecDepth 1000000 in
theorem nq23 : ncheck kt0 [] nw23 3000 nc23 = true := by decide +kernel
-- LP$Folk.isHome, steps 20
def nw24 : nOr := (ktX nc24.2.1, ngH, ngF, fun y pc x => bif Nat.beq y 28 && Nat.beq pc 5 then some ([((2, 8, 4), 0, 900)], [], (0, true), [], [(8, 2, 2)], 79) else none)
set_option maxRecDepth 1000000 in
theorem nq24 : ncheck kt0 [] nw24 3000 nc24 = true := by decide +kernel
-- LP$Reader.scanWord, steps 86
def nw25 : nOr := (ktX nc25.2.1, ngH, ngF, fun y pc x => bif Nat.beq y 29 && Nat.beq pc 0 then some ([((2, 8, 4), 0, 900)], [], (0, true), [], [], 69) else none)
set_option maxRecDepth 1000000 in
theorem nq25 : ncheck kt0 [] nw25 3000 nc25 = true := by decide +kernel
-- LP$Reader.scanNumber, steps 136
