/-! MORE FUEL CHANGES NOTHING -/
theorem xrun_le {ms : Nat → Option xR} {ty : Nat → Nat → FieldType} {df : Nat → List Value} {sc : List Int32} : ∀ (f g : Nat) {r : xR} {pc : Nat} {L : xL} {st : List Value} {M : xM} {q : Option Value × xM}, f ≤ g → xrun ms ty df sc f r pc L st M = some q → xrun ms ty df sc g r pc L st M = some q
  | 0, _, _, _, _, _, _, _, _, h => by simp [xrun] at h
  | f + 1, 0, _, _, _, _, _, _, hl, _ => by omega
  | f + 1, g + 1, r, pc, L, st, M, q, hl, h => by
    have hl2 : f ≤ g := by omega
    simp only [xrun] at h ⊢
    cases he : xat r.1 pc with
    | none => rw [he] at h; cases h
    | some e =>
      rw [he] at h
      try dsimp only at h
      try dsimp only
      by_cases hk0 : xkind e = 0
      · rw [hk0] at h ⊢
        try dsimp only at h
        try dsimp only
        cases hx : x1 ty df sc e pc L st M with
        | none => rw [hx] at h; cases h
        | some q0 =>
          rw [hx] at h
          exact xrun_le f g hl2 h
      · by_cases hk1 : xkind e = 1
        · rw [hk1] at h ⊢
          try dsimp only at h
          try dsimp only
          cases hp : xpop e.2.2.1 [] st with
          | none => rw [hp] at h; cases h
          | some ar =>
            obtain ⟨ar, rest⟩ := ar
            rw [hp] at h
            try dsimp only at h
            try dsimp only
            cases hc : (xcat8 rest && xrecv e ar M) with
            | false => rw [hc] at h; cases h
            | true =>
              rw [hc] at h
              simp only [cond_true] at h ⊢
              cases hm : ms e.2.1 with
              | none => rw [hm] at h; cases h
              | some r' =>
                rw [hm] at h
                try dsimp only at h
                try dsimp only
                cases hcc : Nat.ble (xcats ar) r'.2.1 with
                | false => rw [hcc] at h; cases h
                | true =>
                  rw [hcc] at h
                  simp only [cond_true] at h ⊢
                  cases hq : xrun ms ty df sc f r' 0 (lv_args 0 ar) [] M with
                  | none => rw [hq] at h; cases h
                  | some q1 =>
                    rw [hq] at h
                    rw [xrun_le f g hl2 hq]
                    exact xrun_le f g hl2 h
        · split
          · rename_i z; exact absurd z hk0
          · rename_i z; exact absurd z hk1
          · split at h
            · rename_i z; exact absurd z hk0
            · rename_i z; exact absurd z hk1
            · exact h
