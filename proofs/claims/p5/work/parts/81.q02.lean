def nw36 : nOr := (ktX nc36.2.1, ngH, ngF, fun _ _ _ => none)
set_option maxRecDepth 1000000 in
theorem nq36 : ncheck kt0 [nc27, nc29] nw36 3000 nc36 = true := by decide +kernel
-- LP$SceneReader.readSeen, steps 822
def nw37 : nOr := (ktX nc37.2.1, ngH, ngF, fun _ _ _ => none)
set_option maxRecDepth 1000000 in
theorem nq37 : ncheck kt0 [nc27, nc32, nc36] nw37 3000 nc37 = true := by decide +kernel
-- LP$SceneReader.readSight, steps 313
def nw38 : nOr := (ktX nc38.2.1, ngH, ngF, fun _ _ _ => none)
set_option maxRecDepth 1000000 in
theorem nq38 : ncheck kt0 [nc27, nc32] nw38 3000 nc38 = true := by decide +kernel
-- LP$SceneReader.readBuyer, steps 332
def nw39 : nOr := (ktX nc39.2.1, ngH, ngF, fun y pc x => bif Nat.beq y 75 && Nat.beq pc 24 then some ([((0, 2, 0), 0, 1), ((0, 3, 0), 0, 900)], [], (1, true), [], [(8, 1, 1), (38, 1, 1), (52, 0, 2)], 188) else none)
set_option maxRecDepth 1000000 in
theorem nq39 : ncheck kt0 [nc22, nc23, nc27, nc28, nc35, nc37, nc38] nw39 3000 nc39 = true := by decide +kernel
-- LP$SceneReader.reads, steps 4324
