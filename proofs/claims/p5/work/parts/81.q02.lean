def nw35 : nOr := (ktX nc35.2.1, ngH, ngF, fun _ _ _ => none)
set_option maxRecDepth 1000000 in
theorem nq35 : ncheck ktN [nc26, nc28] nw35 3000 nc35 = true := by decide +kernel
-- LP$SceneReader.readSeen, steps 829
def nw36 : nOr := (ktX nc36.2.1, ngH, ngF, fun _ _ _ => none)
set_option maxRecDepth 1000000 in
theorem nq36 : ncheck ktN [nc26, nc31, nc35] nw36 3000 nc36 = true := by decide +kernel
-- LP$SceneReader.readSight, steps 313
def nw37 : nOr := (ktX nc37.2.1, ngH, ngF, fun _ _ _ => none)
set_option maxRecDepth 1000000 in
theorem nq37 : ncheck ktN [nc26, nc31] nw37 3000 nc37 = true := by decide +kernel
-- LP$SceneReader.readBuyer, steps 332
def nw38 : nOr := (ktX nc38.2.1, ngH, ngF, fun y pc x => bif Nat.beq y 75 && Nat.beq pc 24 then some ([((0, 2, 0), 0, 1), ((0, 3, 0), 0, 900)], [], (1, true), [], [(8, 1, 1), (38, 1, 1), (52, 0, 2)], 188) else none)
set_option maxRecDepth 1000000 in
theorem nq38 : ncheck ktN [nc21, nc22, nc26, nc27, nc34, nc36, nc37] nw38 3000 nc38 = true := by decide +kernel
-- LP$SceneReader.reads, steps 4324
