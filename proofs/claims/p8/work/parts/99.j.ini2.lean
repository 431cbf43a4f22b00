/-- what a constructor leaves -/
noncomputable def iniB (f : Nat) (o : Option zR) (a : Nat) (M N : xM) : Bool := match o with
  | some r => (match zq zms [(0, 0), (0, 1), (-1, 0)] [.null] f r 0 [(0, .ref a)] [] M with
    | some (none, M1) => meq M1 N
    | _ => false)
  | none => false
set_option maxRecDepth 100000 in
theorem ini_b1 : iniB 100000 (zmeth 117) 0 [(11, xdf 11)] (mOne.take 185) = true := by decide +kernel
set_option maxRecDepth 100000 in
theorem ini_b2 : iniB 100000 (zmeth 199) 185 (mOne.take 185 ++ [(12, xdf 12)]) mOne = true := by decide +kernel
