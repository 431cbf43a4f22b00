def nw137 : nOr := (ktX nc137.2.1, ngH, ngF, fun _ _ _ => none)
set_option maxRecDepth 1000000 in
theorem nq137 : ncheck kt0 [] nw137 3000 nc137 = true := by decide +kernel
-- LP.give, steps 196
def nw138 : nOr := (ktX nc138.2.1, ngH, ngF, fun _ _ _ => none)
set_option maxRecDepth 1000000 in
theorem nq138 : ncheck kt0 [] nw138 3000 nc138 = true := by decide +kernel
-- LPModel.give, steps 153
def nw139 : nOr := (ktX nc139.2.1, ngH, ngF, fun _ _ _ => none)
set_option maxRecDepth 1000000 in
theorem nq139 : ncheck kt0 [] nw139 3000 nc139 = true := by decide +kernel
-- LP.back, steps 215
def nw140 : nOr := (ktX nc140.2.1, ngH, ngF, fun _ _ _ => none)
set_option maxRecDepth 1000000 in
theorem nq140 : ncheck kt0 [] nw140 3000 nc140 = true := by decide +kernel
-- LPModel.back, steps 176
def nw141 : nOr := (ktX nc141.2.1, ngH, ngF, fun _ _ _ => none)
set_option maxRecDepth 1000000 in
theorem nq141 : ncheck kt0 [] nw141 3000 nc141 = true := by decide +kernel
-- LP.earn, steps 126
def nw142 : nOr := (ktX nc142.2.1, ngH, ngF, fun _ _ _ => none)
set_option maxRecDepth 1000000 in
theorem nq142 : ncheck kt0 [] nw142 3000 nc142 = true := by decide +kernel
-- LPModel.earn, steps 225
def nw143 : nOr := (ktX nc143.2.1, ngH, ngF, fun _ _ _ => none)
set_option maxRecDepth 1000000 in
theorem nq143 : ncheck kt0 [] nw143 3000 nc143 = true := by decide +kernel
-- LP.price, steps 92
def nw144 : nOr := (ktX nc144.2.1, ngH, ngF, fun _ _ _ => none)
set_option maxRecDepth 1000000 in
theorem nq144 : ncheck kt0 [] nw144 3000 nc144 = true := by decide +kernel
-- LPModel.price, steps 442
def nw145 : nOr := (ktX nc145.2.1, ngH, ngF, fun _ _ _ => none)
set_option maxRecDepth 1000000 in
theorem nq145 : ncheck kt0 [nc100] nw145 3000 nc145 = true := by decide +kernel
-- LP.build, steps 891
def nw146 : nOr := (ktX nc146.2.1, ngH, ngF, fun _ _ _ => none)
set_option maxRecDepth 1000000 in
theorem nq146 : ncheck kt0 [nc103] nw146 3000 nc146 = true := by decide +kernel
-- LPModel.build, steps 603
