def nw56 : nOr := (ktX rc56.1.2.1, ngH, ngF, fun _ _ _ => none)
set_option maxRecDepth 1000000 in
theorem nq56 : nrchk kt0 [] nw56 3000 rc56 = true := by decide +kernel
-- LPModel.aPerson, steps 64
def nw58 : nOr := (nXor (nrcX (ktT rc58.1.2.1) rc58.1.2.1 rc43 ksi222s) (nXor (nrcX (ktT rc58.1.2.1) rc58.1.2.1 rc43l ksi222l) (ktX rc58.1.2.1)), ngH, ngF, fun _ _ _ => none)
set_option maxRecDepth 1000000 in
theorem nq58 : nrchk kt0 [nc45, nc46, nc47, nc48, nc49] nw58 3000 rc58 = true := by decide +kernel
-- LPModel.aSight, steps 3493
def nw59 : nOr := (nXor (nrcX (ktT rc59.1.2.1) rc59.1.2.1 rc43 ksi222s) (nXor (nrcX (ktT rc59.1.2.1) rc59.1.2.1 rc43l ksi222l) (nXor (nrcX (ktT rc59.1.2.1) rc59.1.2.1 rc57 ksi240) (nXor (nrcX (ktT rc59.1.2.1) rc59.1.2.1 rc58 ksi241) (ktX rc59.1.2.1)))), ngH, ngF, fun _ _ _ => none)
set_option maxRecDepth 1000000 in
theorem nq59 : nrchk kt0 [nc45, nc46, nc47, nc48, nc49, nc50] nw59 3000 rc59 = true := by decide +kernel
-- LPModel.scenePart, steps 3546
