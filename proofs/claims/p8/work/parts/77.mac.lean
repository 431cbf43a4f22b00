/-! MACROS: pieces of methods as one step -/
def mgV (x : kV) (t o : Nat) : Bool := Nat.beq x.1 t && Nat.beq x.2.1 o
def mgE (x y : kV) : Bool := Nat.beq x.1 y.1 && (Nat.beq x.2.1 y.2.1 && decide (x.2.2 = y.2.2))
/-- Runs.add: kind and one of an entry -/
def mq1 (ml : nMl) (x : nS) : nX := match x.1.2.2.1 with
  | [u, j, v] => bif (Nat.beq u.1 0 && Nat.beq j.1 0) && mgV v 2 62 then (match kfind x.1.2.1 0 with
    | some l0 => (match kfind x.1.2.1 2 with
      | some w => (match kol x.1.2.2.2 61 0 2 with
        | some n => (match kiv x.1.1 j with
          | some b => (match kiv x.1.1 u with
            | some bu => (match kiv x.1.1 w with
              | some bw => bif ((mgV l0 2 61 && Nat.beq w.1 0) && (mgE n j && kz x.1.1)) && (((nwi b (0, 59) && nwi bu (0, 11)) && (nwi bw (0, 99) && nsub [(62, b.1.toNat, b.2.toNat), (63, b.1.toNat, b.2.toNat)] ml)) && nmchk x.1.1 x.1.2.2.2 (kkill x.1.1 63 j.2.1 j.2.2 b.1 b.2 (kkill x.1.1 62 j.2.1 j.2.2 b.1 b.2 x.1.2.2.2)) x.2 ngA [((62, j.2.1, j.2.2), b, bu), ((63, j.2.1, j.2.2), b, bw)]) then
                some [(29, ((x.1.1, x.1.2.1, [], ((63, j.2.1, j.2.2), w) :: ((62, j.2.1, j.2.2), u) :: kkill x.1.1 63 j.2.1 j.2.2 b.1 b.2 (kkill x.1.1 62 j.2.1 j.2.2 b.1 b.2 x.1.2.2.2)), x.2))] else none
              | none => none)
            | none => none)
          | none => none)
        | none => none)
      | none => none)
    | none => none) else none
  | _ => none
/-- SceneReader.readSeen: kind and other of a sight -/
def mq2 (ml : nMl) (x : nS) : nX := match x.1.2.2.1 with
  | [u, j, v] => bif (Nat.beq u.1 0 && Nat.beq j.1 0) && mgV v 2 49 then (match kfind x.1.2.1 0 with
    | some l0 => (match kfind x.1.2.1 1 with
      | some l1 => (match kfind x.1.2.1 2 with
        | some l2 => (match kol x.1.2.2.2 8 0 8 with
          | some w => (match kiv x.1.1 j with
            | some b => (match kiv x.1.1 u with
              | some bu => (match kiv x.1.1 w with
                | some bw => bif ((mgV l0 2 35 && (mgV l2 2 47 && Nat.beq w.1 0)) && (mgE l1 j && kz x.1.1)) && (((nwi b (0, 5) && nwi bu (0, 2)) && (nwi bw (-1, 45) && nsub [(49, b.1.toNat, b.2.toNat), (51, b.1.toNat, b.2.toNat)] ml)) && nmchk x.1.1 x.1.2.2.2 (kkill x.1.1 51 j.2.1 j.2.2 b.1 b.2 (kkill x.1.1 49 j.2.1 j.2.2 b.1 b.2 x.1.2.2.2)) x.2 ngA [((49, j.2.1, j.2.2), b, bu), ((51, j.2.1, j.2.2), b, bw)]) then
                  some [(197, ((x.1.1, x.1.2.1, [], ((51, j.2.1, j.2.2), w) :: ((49, j.2.1, j.2.2), u) :: kkill x.1.1 51 j.2.1 j.2.2 b.1 b.2 (kkill x.1.1 49 j.2.1 j.2.2 b.1 b.2 x.1.2.2.2)), x.2))] else none
                | none => none)
              | none => none)
            | none => none)
          | none => none)
        | none => none)
      | none => none)
    | none => none) else none
  | _ => none
/-- runStep: the word of an act, and the 0 behind it -/
def mq3 (ml : nMl) (x : nS) : nX := match x.1.2.2.1 with
  | [u, j, v] => bif (Nat.beq u.1 0 && Nat.beq j.1 0) && mgV v 2 186 then (match kfind x.1.2.1 0 with
    | some l0 => (match kfind x.1.2.1 3 with
      | some l3 => (match kiv x.1.1 j with
        | some b => (match kiv x.1.1 u with
          | some bu => bif (mgV l0 2 185 && (mgE l3 j && kz x.1.1)) && (((nwi b (2732, 3086) && nwi bu (0, 2530)) && ((match ncgf x.2 j.2.1 x.2 with
              | some m => Nat.beq m.1 6 && decide ((m.2 + j.2.2 - 2732) % 6 = 0)
              | none => decide (b.1 = b.2) && decide ((b.1 - 2732) % 6 = 0)) && nsub [(186, b.1.toNat, b.2.toNat + 1)] ml)) && nmchk x.1.1 x.1.2.2.2 (kkill x.1.1 186 j.2.1 (j.2.2 + 1) (b.1 + 1) (b.2 + 1) (kkill x.1.1 186 j.2.1 j.2.2 b.1 b.2 x.1.2.2.2)) x.2 ngA [((186, j.2.1, j.2.2), b, bu), ((186, j.2.1, j.2.2 + 1), (b.1 + 1, b.2 + 1), (0, 0))]) then
            some [(164, ((x.1.1, kset false x.1.2.1 5 (0, 0, 1), [], ((186, j.2.1, j.2.2 + 1), (0, 0, 0)) :: ((186, j.2.1, j.2.2), u) :: kkill x.1.1 186 j.2.1 (j.2.2 + 1) (b.1 + 1) (b.2 + 1) (kkill x.1.1 186 j.2.1 j.2.2 b.1 b.2 x.1.2.2.2)), x.2))] else none
          | none => none)
        | none => none)
      | none => none)
    | none => none) else none
  | _ => none
/-- runStep: the end is told to its beginning -/
def mq4 (ml : nMl) (x : nS) : nX := match x.1.2.2.1 with
  | [v, s, a, o] => bif (Nat.beq v.1 0 && mgE s (0, 0, 6)) && (mgE a (0, 0, 2732) && mgV o 2 186) then (match kfind x.1.2.1 2 with
    | some n => (match kiv x.1.1 v with
      | some bv => (match kiv x.1.1 n with
        | some bn => bif ((Nat.beq n.1 0 && kz x.1.1) && (nwi bv (0, 59) && nwi bn (0, 59))) && nsub [(186, 2736, 3090)] ml then some [(279, ((x.1.1, x.1.2.1, [], nkeep x.1.1 [(186, 2736, 3090)] x.1.2.2.2), x.2))] else none
        | none => none)
      | none => none)
    | none => none) else none
  | _ => none
/-- scene, runs: what was read comes to the front -/
def mq5 (ml : nMl) (x : nS) : nX := match x.1.2.2.1 with
  | [] => (match kfind x.1.2.1 0 with
    | some l0 => bif (mgV l0 2 185 && kz x.1.1) && nsub [(186, 0, 619)] ml then some [(88, ((x.1.1 ++ [(0, 999)], [(0, l0)], [], nkeep x.1.1 [(186, 0, 619)] x.1.2.2.2 ++ [((186, 0, 5), (0, x.1.1.length, 0))]), x.2))] else none
    | none => none)
  | _ => none
def mq6 (ml : nMl) (x : nS) : nX := match x.1.2.2.1 with
  | [] => (match kfind x.1.2.1 0 with
    | some l0 => bif mgV l0 2 185 && nsub [(186, 252, 611)] ml then some [(132, ((x.1.1, [(0, l0)], [], nkeep x.1.1 [(186, 252, 611)] x.1.2.2.2), x.2))] else none
    | none => none)
  | _ => none
/-- aPerson: the word asked for twice is the same -/
def mq7 (x : nS) : nX := match x.1.2.2.1 with
  | [] => (match kfind x.1.2.1 0 with
    | some l0 => bif mgV l0 2 185 then some [(134, x), (159, x)] else none
    | none => none)
  | _ => none
/-- ahead: what begins here, its first byte taken -/
def mq8 (ml : nMl) (x : nS) : nX := match x.1.2.2.1 with
  | [] => (match kfind x.1.2.1 0 with
    | some l0 => (match kol x.1.2.2.2 185 0 14 with
      | some v => (match kiv x.1.1 v with
        | some b => bif (mgV l0 2 185 && Nat.beq v.1 0) && (kz x.1.1 && nsub [(185, 15, 15)] ml) then
          some ((66, ((x.1.1, kset false x.1.2.1 1 (0, 0, -1), [], ((185, 0, 15), (0, 0, -1)) :: kkill x.1.1 185 0 15 15 15 x.1.2.2.2), x.2)) :: (match kref x.1.1 v b.1 899 with
            | some E2 => [(95, ((E2 ++ [(97, 122)], kset false x.1.2.1 1 (0, E2.length, 0), [], ((185, 0, 15), (0, E2.length, 0)) :: kkill x.1.1 185 0 15 15 15 x.1.2.2.2), x.2)),
                (142, ((E2 ++ [(48, 57)], kset false x.1.2.1 1 (0, E2.length, 0), [], ((185, 0, 15), (0, 0, 0)) :: kkill x.1.1 185 0 15 15 15 x.1.2.2.2), x.2)),
                (208, ((E2 ++ [(0, 255)], kset false x.1.2.1 1 (0, E2.length, 0), [], ((185, 0, 15), (0, E2.length, 0)) :: kkill x.1.1 185 0 15 15 15 x.1.2.2.2), x.2))]
            | none => [])) else none
        | none => none)
      | none => none)
    | none => none)
  | _ => none
def ktQ (ml : nMl) : Nat → Nat → nS → nX := fun y pc x => bif Nat.beq y 222 && Nat.beq pc 47 then mq8 ml x else bif Nat.beq y 73 && Nat.beq pc 18 then mq1 ml x else bif Nat.beq y 88 && Nat.beq pc 183 then mq2 ml x else bif Nat.beq y 249 && Nat.beq pc 143 then mq3 ml x else bif Nat.beq y 249 && Nat.beq pc 273 then mq4 ml x else bif Nat.beq y 244 && Nat.beq pc 57 then mq5 ml x else bif Nat.beq y 250 && Nat.beq pc 99 then mq6 ml x else bif Nat.beq y 240 && Nat.beq pc 115 then mq7 x else none
def nXif (p : Nat → Nat → Bool) (X : Nat → Nat → nS → nX) : Nat → Nat → nS → nX := fun y pc x => bif p y pc then X y pc x else none
def ktX (ml : nMl) : Nat → Nat → nS → nX := nXor (nXif ktV (ktQ ml)) (nXif ktU (nXor (ncut ktS) (nXor (nrfX ktR) (nXor (nstX (ktT ml) ngc ml ngA ktP) (nXor (nldX (ktT ml) ktLd) (nXor (nmulX ktM) (nXor (nchX ktC) (nthX (ktT ml) ktH))))))))
