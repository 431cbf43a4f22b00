def nw106 : nOr := (ktX nc106.2.1, ngH, ngF, fun _ _ _ => none)
set_option maxRecDepth 1000000 in
theorem nq106 : ncheck kt0 [] nw106 3000 nc106 = true := by decide +kernel
-- LPModel.wall, steps 139
def nw107 : nOr := (ktX nc107.2.1, ngH, ngF, fun _ _ _ => none)
set_option maxRecDepth 1000000 in
theorem nq107 : ncheck kt0 [] nw107 3000 nc107 = true := by decide +kernel
-- LP.person, steps 312
def nw108 : nOr := (ktX nc108.2.1, ngH, ngF, fun _ _ _ => none)
set_option maxRecDepth 1000000 in
theorem nq108 : ncheck kt0 [] nw108 3000 nc108 = true := by decide +kernel
-- LPModel.personOf, steps 38
def nw109 : nOr := (ktX nc109.2.1, ngH, ngF, fun _ _ _ => none)
set_option maxRecDepth 1000000 in
theorem nq109 : ncheck kt0 [] nw109 3000 nc109 = true := by decide +kernel
-- LPModel.personOf, steps 38
def nw110 : nOr := (ktX nc110.2.1, ngH, ngF, fun _ _ _ => none)
set_option maxRecDepth 1000000 in
theorem nq110 : ncheck kt0 [] nw110 3000 nc110 = true := by decide +kernel
-- LPModel.personOf, steps 38
def nw111 : nOr := (ktX nc111.2.1, ngH, ngF, fun _ _ _ => none)
set_option maxRecDepth 1000000 in
theorem nq111 : ncheck kt0 [nc92, nc102, nc108, nc109, nc110] nw111 3000 nc111 = true := by decide +kernel
-- LPModel.person, steps 240
def nw112 : nOr := (ktX nc112.2.1, ngH, ngF, fun _ _ _ => none)
set_option maxRecDepth 1000000 in
theorem nq112 : ncheck kt0 [] nw112 3000 nc112 = true := by decide +kernel
-- LP.stepOf, steps 152
def nw113 : nOr := (ktX nc113.2.1, ngH, ngF, fun _ _ _ => none)
set_option maxRecDepth 1000000 in
theorem nq113 : ncheck kt0 [] nw113 3000 nc113 = true := by decide +kernel
-- LPModel.personOf, steps 38
def nw114 : nOr := (ktX nc114.2.1, ngH, ngF, fun _ _ _ => none)
set_option maxRecDepth 1000000 in
theorem nq114 : ncheck kt0 [nc110, nc113] nw114 3000 nc114 = true := by decide +kernel
-- LPModel.stepOf, steps 83
def nw115 : nOr := (ktX nc115.2.1, ngH, ngF, fun _ _ _ => none)
set_option maxRecDepth 1000000 in
theorem nq115 : ncheck kt0 [] nw115 3000 nc115 = true := by decide +kernel
-- LP.sight, steps 168
def nw116 : nOr := (ktX nc116.2.1, ngH, ngF, fun _ _ _ => none)
set_option maxRecDepth 1000000 in
theorem nq116 : ncheck kt0 [] nw116 3000 nc116 = true := by decide +kernel
-- LPModel.sight, steps 626
def nw117 : nOr := (ktX nc117.2.1, ngH, ngF, fun _ _ _ => none)
set_option maxRecDepth 1000000 in
theorem nq117 : ncheck kt0 [] nw117 3000 nc117 = true := by decide +kernel
-- LP.coins, steps 62
def nw118 : nOr := (ktX nc118.2.1, ngH, ngF, fun _ _ _ => none)
set_option maxRecDepth 1000000 in
theorem nq118 : ncheck kt0 [] nw118 3000 nc118 = true := by decide +kernel
-- LPModel.coins, steps 54
def nw119 : nOr := (ktX nc119.2.1, ngH, ngF, fun _ _ _ => none)
set_option maxRecDepth 1000000 in
theorem nq119 : ncheck kt0 [] nw119 3000 nc119 = true := by decide +kernel
-- LP.owner, steps 120
def nw120 : nOr := (ktX nc120.2.1, ngH, ngF, fun _ _ _ => none)
set_option maxRecDepth 1000000 in
theorem nq120 : ncheck kt0 [] nw120 3000 nc120 = true := by decide +kernel
-- LPModel.owner, steps 102
def nw121 : nOr := (ktX nc121.2.1, ngH, ngF, fun _ _ _ => none)
set_option maxRecDepth 1000000 in
theorem nq121 : ncheck kt0 [nc83] nw121 3000 nc121 = true := by decide +kernel
-- LP.prints, steps 61
def nw122 : nOr := (ktX nc122.2.1, ngH, ngF, fun _ _ _ => none)
set_option maxRecDepth 1000000 in
theorem nq122 : ncheck kt0 [nc98] nw122 3000 nc122 = true := by decide +kernel
-- LPModel.prints, steps 51
def nw123 : nOr := (ktX nc123.2.1, ngH, ngF, fun y pc x => bif Nat.beq y 14 && Nat.beq pc 17 then some ([((0, 3, 0), 0, 5)], [], (0, true), [], [], 50) else none)
set_option maxRecDepth 1000000 in
theorem nq123 : ncheck kt0 [] nw123 3000 nc123 = true := by decide +kernel
-- LP$Folk.isFree, steps 44
def nw124 : nOr := (ktX nc124.2.1, ngH, ngF, fun _ _ _ => none)
set_option maxRecDepth 1000000 in
theorem nq124 : ncheck kt0 [nc123] nw124 3000 nc124 = true := by decide +kernel
-- LP$Folk.enter, steps 91
def nw125 : nOr := (ktX nc125.2.1, ngH, ngF, fun _ _ _ => none)
set_option maxRecDepth 1000000 in
theorem nq125 : ncheck kt0 [] nw125 3000 nc125 = true := by decide +kernel
-- LP$Room.beside, steps 2376
