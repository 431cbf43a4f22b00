def nw40 : nOr := (ktX nc40.2.1, ngH, ngF, fun _ _ _ => none)
set_option maxRecDepth 1000000 in
theorem nq40 : ncheck kt0 [nc27, nc28, nc29, nc35, nc39] nw40 3000 nc40 = true := by decide +kernel
-- LP$SceneReader.readSight, steps 123
def nw41 : nOr := (ktX nc41.2.1, ngH, ngF, fun _ _ _ => none)
set_option maxRecDepth 1000000 in
theorem nq41 : ncheck kt0 [nc27, nc28, nc29, nc35] nw41 3000 nc41 = true := by decide +kernel
-- LP$SceneReader.readBuyer, steps 139
def nw42 : nOr := (ktX nc42.2.1, ngH, ngF, fun y pc x => bif Nat.beq y 75 && Nat.beq pc 24 then some ([((0, 2, 0), 0, 1), ((0, 3, 0), 0, 900)], [], (1, true), [], [(8, 1, 1), (38, 1, 1), (52, 0, 2)], 188) else none)
set_option maxRecDepth 1000000 in
theorem nq42 : ncheck kt0 [nc22, nc23, nc27, nc28, nc29, nc30, nc38, nc40, nc41] nw42 3000 nc42 = true := by decide +kernel
-- LP$SceneReader.reads, steps 2073
def nw44 : nOr := (ktX nc44.2.1, ngH, ngF, fun _ _ _ => none)
set_option maxRecDepth 1000000 in
theorem nq44 : ncheck kt0 [nc21, nc42, nc43] nw44 3000 nc44 = true := by decide +kernel
-- LP.scene, steps 232
def nw46 : nOr := (ktX rc46.1.2.1, ngH, ngF, fun y pc x => bif Nat.beq y 222 && Nat.beq pc 0 then some ([((2, 185, 14), 0, 900)], [([(1, 4, 1, 0), ((-1), 2, 185, 14)], 0)], (0, true), [], [], 36) else bif Nat.beq y 222 && Nat.beq pc 81 then some ([((2, 185, 14), 1, 900)], [([(1, 4, 1, 0), ((-1), 2, 185, 14)], (-1))], (0, true), [], [(185, 11, 11), (185, 13, 13), (185, 15, 15)], 105) else bif Nat.beq y 222 && Nat.beq pc 128 then some ([((2, 185, 14), 1, 900)], [([(1, 4, 1, 0), ((-1), 2, 185, 14)], (-1))], (0, true), [], [(185, 11, 11), (185, 13, 13)], 180) else none)
set_option maxRecDepth 1000000 in
theorem nq46 : nrchk kt0 [] nw46 3000 rc46 = true := by decide +kernel
set_option maxRecDepth 1000000 in
theorem nq46l : nrchk kt0 [] nw46 3000 rc46l = true := by decide +kernel
-- LPModel.ahead, steps 3063
