def nw184 : nOr := (ktX nc184.2.1, ngH, ngF, fun _ _ _ => none)
set_option maxRecDepth 1000000 in
theorem nq184 : ncheck ktN [] nw184 3000 nc184 = true := by decide +kernel
-- LPModel.wrongCells, steps 35
def nw185 : nOr := (ktX nc185.2.1, ngH, ngF, fun _ _ _ => none)
set_option maxRecDepth 1000000 in
theorem nq185 : ncheck ktN [] nw185 3000 nc185 = true := by decide +kernel
-- LPModel.stepFrom, steps 10816
