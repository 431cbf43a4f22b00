def nw132 : nOr := (ktX nc132.2.1, ngH, ngF, fun _ _ _ => none)
set_option maxRecDepth 1000000 in
theorem nq132 : ncheck kt0 [] nw132 3000 nc132 = true := by decide +kernel
-- LP.earn, steps 126
def nw133 : nOr := (ktX nc133.2.1, ngH, ngF, fun _ _ _ => none)
set_option maxRecDepth 1000000 in
theorem nq133 : ncheck kt0 [] nw133 3000 nc133 = true := by decide +kernel
-- LPModel.earn, steps 225
def nw134 : nOr := (ktX nc134.2.1, ngH, ngF, fun _ _ _ => none)
set_option maxRecDepth 1000000 in
theorem nq134 : ncheck kt0 [] nw134 3000 nc134 = true := by decide +kernel
-- LP.price, steps 92
def nw135 : nOr := (ktX nc135.2.1, ngH, ngF, fun _ _ _ => none)
set_option maxRecDepth 1000000 in
theorem nq135 : ncheck kt0 [] nw135 3000 nc135 = true := by decide +kernel
-- LPModel.price, steps 442
def nw136 : nOr := (ktX nc136.2.1, ngH, ngF, fun _ _ _ => none)
set_option maxRecDepth 1000000 in
theorem nq136 : ncheck kt0 [nc91] nw136 3000 nc136 = true := by decide +kernel
-- LP.build, steps 891
def nw137 : nOr := (ktX nc137.2.1, ngH, ngF, fun _ _ _ => none)
set_option maxRecDepth 1000000 in
theorem nq137 : ncheck kt0 [nc94] nw137 3000 nc137 = true := by decide +kernel
-- LPModel.build, steps 603
def nw138 : nOr := (ktX nc138.2.1, ngH, ngF, fun _ _ _ => none)
set_option maxRecDepth 1000000 in
theorem nq138 : ncheck kt0 [] nw138 3000 nc138 = true := by decide +kernel
-- LP.teach, steps 199
def nw139 : nOr := (ktX nc139.2.1, ngH, ngF, fun _ _ _ => none)
set_option maxRecDepth 1000000 in
theorem nq139 : ncheck kt0 [nc101] nw139 3000 nc139 = true := by decide +kernel
-- LPModel.teach, steps 1670
