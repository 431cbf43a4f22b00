/-! THE INTERPRETER WITH THE TWO STRINGS: '.retAddr (k + 1)' is the string k -/
def xslen (pc : Nat) (L : xL) (st : List Value) (M : xM) : Option xC := match st with
  | .retAddr (k + 1) :: r => bif xcat8 r && Nat.blt k 2 then some (pc + 3, L, .int (Int32.ofNat (xsN.getD k 0)) :: r, M) else none
  | _ => none
def xschar (pc : Nat) (L : xL) (st : List Value) (M : xM) : Option xC := match st with
  | .int j :: .retAddr (k + 1) :: r => bif xcat8 r && Nat.blt k 2 then (match xix j (xsN.getD k 0) with
    | some i => some (pc + 3, L, .int ((xsB.getD k []).getD i 0) :: r, M)
    | none => none) else none
  | _ => none
def xsA1 (n pc i : Nat) (L : xL) (st : List Value) (M : xM) : Option xC := match xfind L i with
  | some (.retAddr (k + 1)) => some (pc + n, L, .retAddr (k + 1) :: st, M)
  | _ => none
def s0 (e : xE) (pc : Nat) (L : xL) (st : List Value) (M : xM) : Option xC := match e.1 with
  | .ldc _ => bif Nat.beq e.2.1 0 then none else (bif Nat.blt e.2.2.1 2 then some (pc + 2, L, .retAddr (e.2.2.1 + 1) :: st, M) else none)
  | .aload i => xsA1 2 pc i L st M
  | .pop2 => (match st with
    | .long _ :: r => some (pc + 1, L, r, M)
    | _ => none)
  | .aload_n i => xsA1 1 pc i L st M
  | .invokevirtual _ => bif Nat.beq e.2.1 5005 then xslen pc L st M else bif Nat.beq e.2.1 5006 then xschar pc L st M else none
  | _ => none
def s1 (ty : Nat → Nat → FieldType) (df : Nat → List Value) (sc : List Int32) (e : xE) (pc : Nat) (L : xL) (st : List Value) (M : xM) : Option xC := match x1 ty df sc e pc L st M with
  | some q => some q
  | none => s0 e pc L st M
def srun (ms : Nat → Option xR) (ty : Nat → Nat → FieldType) (df : Nat → List Value) (sc : List Int32) : Nat → xR → Nat → xL → List Value → xM → Option (Option Value × xM)
  | 0, _, _, _, _, _ => none
  | f + 1, r, pc, L, st, M => match xat r.1 pc with
    | none => none
    | some e => match xkind e with
      | 0 => match s1 ty df sc e pc L st M with
        | none => none
        | some q => srun ms ty df sc f r q.1 q.2.1 q.2.2.1 q.2.2.2
      | 1 => match xpop e.2.2.1 [] st with
        | none => none
        | some (as, rest) => bif xcat8 rest && xrecv e as M then (match ms e.2.1 with
          | none => none
          | some r' => bif Nat.ble (xcats as) r'.2.1 then (match srun ms ty df sc f r' 0 (lv_args 0 as) [] M with
            | none => none
            | some q => srun ms ty df sc f r (pc + 3) L (xpush q.1 rest) q.2) else none) else none
      | _ => match xend r.2.2 e st with
        | none => none
        | some v => some (v, M)
theorem s1_of {ty : Nat → Nat → FieldType} {df : Nat → List Value} {sc : List Int32} {e : xE} {pc : Nat} {L : xL} {st : List Value} {M : xM} {q : xC} (h : x1 ty df sc e pc L st M = some q) : s1 ty df sc e pc L st M = some q := by
  unfold s1
  rw [h]
theorem s1_cases {ty : Nat → Nat → FieldType} {df : Nat → List Value} {sc : List Int32} {e : xE} {pc : Nat} {L : xL} {st : List Value} {M : xM} {q : xC} (h : s1 ty df sc e pc L st M = some q) : x1 ty df sc e pc L st M = some q ∨ s0 e pc L st M = some q := by
  unfold s1 at h
  split at h
  · rename_i q' hq
    cases h
    exact Or.inl hq
  · exact Or.inr h
theorem srun_of {ms : Nat → Option xR} {ty : Nat → Nat → FieldType} {df : Nat → List Value} {sc : List Int32} : ∀ (f : Nat) {r : xR} {pc : Nat} {L : xL} {st : List Value} {M : xM} {q : Option Value × xM}, xrun ms ty df sc f r pc L st M = some q → srun ms ty df sc f r pc L st M = some q
  | 0, _, _, _, _, _, _, h => by simp [xrun] at h
  | f + 1, r, pc, L, st, M, q, h => by
    simp only [xrun] at h
    simp only [srun]
    cases he : xat r.1 pc with
    | none => rw [he] at h; cases h
    | some e =>
      rw [he] at h
      try dsimp only at h
      try dsimp only
      by_cases hk0 : xkind e = 0
      · rw [hk0] at h ⊢
        try dsimp only at h
        try dsimp only
        cases hx : x1 ty df sc e pc L st M with
        | none => rw [hx] at h; cases h
        | some q0 =>
          rw [hx] at h
          rw [s1_of hx]
          exact srun_of f h
      · by_cases hk1 : xkind e = 1
        · rw [hk1] at h ⊢
          try dsimp only at h
          try dsimp only
          cases hp : xpop e.2.2.1 [] st with
          | none => rw [hp] at h; cases h
          | some ar =>
            obtain ⟨ar, rest⟩ := ar
            rw [hp] at h
            try dsimp only at h
            try dsimp only
            cases hc : (xcat8 rest && xrecv e ar M) with
            | false => rw [hc] at h; cases h
            | true =>
              rw [hc] at h
              simp only [cond_true] at h ⊢
              cases hm : ms e.2.1 with
              | none => rw [hm] at h; cases h
              | some r' =>
                rw [hm] at h
                try dsimp only at h
                try dsimp only
                cases hcc : Nat.ble (xcats ar) r'.2.1 with
                | false => rw [hcc] at h; cases h
                | true =>
                  rw [hcc] at h
                  simp only [cond_true] at h ⊢
                  cases hq : xrun ms ty df sc f r' 0 (lv_args 0 ar) [] M with
                  | none => rw [hq] at h; cases h
                  | some q1 =>
                    rw [hq] at h
                    rw [srun_of f hq]
                    exact srun_of f h
        · split
          · rename_i z; exact absurd z hk0
          · rename_i z; exact absurd z hk1
          · split at h
            · rename_i z; exact absurd z hk0
            · rename_i z; exact absurd z hk1
            · exact h
