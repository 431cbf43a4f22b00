def nw74 : nOr := (ktX nc74.2.1, ngH, ngF, fun _ _ _ => none)
set_option maxRecDepth 1000000 in
theorem nq74 : ncheck ktN [] nw74 3000 nc74 = true := by decide +kernel
-- LP.stepOf, steps 152
def nw75 : nOr := (ktX nc75.2.1, ngH, ngF, fun _ _ _ => none)
set_option maxRecDepth 1000000 in
theorem nq75 : ncheck ktN [] nw75 3000 nc75 = true := by decide +kernel
-- LPModel.stepOf, steps 291
def nw76 : nOr := (ktX nc76.2.1, ngH, ngF, fun _ _ _ => none)
set_option maxRecDepth 1000000 in
theorem nq76 : ncheck ktN [] nw76 3000 nc76 = true := by decide +kernel
-- LP.sight, steps 168
def nw77 : nOr := (ktX nc77.2.1, ngH, ngF, fun _ _ _ => none)
set_option maxRecDepth 1000000 in
theorem nq77 : ncheck ktN [] nw77 3000 nc77 = true := by decide +kernel
-- LPModel.sight, steps 5150
