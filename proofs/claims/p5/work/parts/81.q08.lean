def nw104 : nOr := (ktX nc104.2.1, ngH, ngF, fun _ _ _ => none)
set_option maxRecDepth 1000000 in
theorem nq104 : ncheck ktN [] nw104 3000 nc104 = true := by decide +kernel
-- LPModel.teach, steps 3388
def nw105 : nOr := (ktX nc105.2.1, ngH, ngF, fun _ _ _ => none)
set_option maxRecDepth 1000000 in
theorem nq105 : ncheck ktN [nc84] nw105 3000 nc105 = true := by decide +kernel
-- LP.place, steps 470
def nw106 : nOr := (ktX nc106.2.1, ngH, ngF, fun _ _ _ => none)
set_option maxRecDepth 1000000 in
theorem nq106 : ncheck ktN [nc68] nw106 3000 nc106 = true := by decide +kernel
-- LPModel.place, steps 2641
