def nw201 : nOr := (ktX nc201.2.1, ngH, ngF, fun _ _ _ => none)
set_option maxRecDepth 1000000 in
theorem nq201 : ncheck ktN [] nw201 3000 nc201 = true := by decide +kernel
-- LPModel.stepFrom, steps 10645
