/-! ROWS OF THE INTERPRETER WITH STRINGS; what a method comes to, whatever the fuel -/
section SR
variable {ms : Nat → Option xR} {ty : Nat → Nat → FieldType} {df : Nat → List Value} {sc : List Int32} {f : Nat} {r : xR} {pc : Nat} {L : xL} {st : List Value} {M : xM}
theorem sr_0 {e : xE} {pc' : Nat} {L' : xL} {st' : List Value} {M' : xM} (he : xat r.1 pc = some e) (hk : xkind e = 0) (hx : s1 ty df sc e pc L st M = some (pc', L', st', M')) : srun ms ty df sc (f + 1) r pc L st M = srun ms ty df sc f r pc' L' st' M' := by
  simp only [srun, he, hk, hx]
theorem sr_1 {e : xE} {as rest : List Value} {r' : xR} {a : Option Value × xM} (he : xat r.1 pc = some e) (hk : xkind e = 1) (hp : xpop e.2.2.1 [] st = some (as, rest)) (hc : (xcat8 rest && xrecv e as M) = true) (hm : ms e.2.1 = some r') (hn : Nat.ble (xcats as) r'.2.1 = true) (ha : srun ms ty df sc f r' 0 (lv_args 0 as) [] M = some a) : srun ms ty df sc (f + 1) r pc L st M = srun ms ty df sc f r (pc + 3) L (xpush a.1 rest) a.2 := by
  simp only [srun, he, hk, hp, hc, cond_true, hm, hn, ha]
theorem sr_2 {e : xE} {v : Option Value} (he : xat r.1 pc = some e) (hk : xkind e = 2) (hv : xend r.2.2 e st = some v) : srun ms ty df sc (f + 1) r pc L st M = some (v, M) := by
  simp only [srun, he, hk, hv]
end SR
theorem srun_le {ms : Nat → Option xR} {ty : Nat → Nat → FieldType} {df : Nat → List Value} {sc : List Int32} : ∀ (f g : Nat) {r : xR} {pc : Nat} {L : xL} {st : List Value} {M : xM} {q : Option Value × xM}, f ≤ g → srun ms ty df sc f r pc L st M = some q → srun ms ty df sc g r pc L st M = some q
  | 0, _, _, _, _, _, _, _, _, h => by simp [srun] at h
  | f + 1, 0, _, _, _, _, _, _, hl, _ => by omega
  | f + 1, g + 1, r, pc, L, st, M, q, hl, h => by
    have hl2 : f ≤ g := by omega
    simp only [srun] at h ⊢
    cases he : xat r.1 pc with
    | none => rw [he] at h; cases h
    | some e =>
      rw [he] at h
      try dsimp only at h
      try dsimp only
      by_cases hk0 : xkind e = 0
      · rw [hk0] at h ⊢
        try dsimp only at h
        try dsimp only
        cases hx : s1 ty df sc e pc L st M with
        | none => rw [hx] at h; cases h
        | some q0 =>
          rw [hx] at h
          exact srun_le f g hl2 h
      · by_cases hk1 : xkind e = 1
        · rw [hk1] at h ⊢
          try dsimp only at h
          try dsimp only
          cases hp : xpop e.2.2.1 [] st with
          | none => rw [hp] at h; cases h
          | some ar =>
            obtain ⟨ar, rest⟩ := ar
            rw [hp] at h
            try dsimp only at h
            try dsimp only
            cases hc : (xcat8 rest && xrecv e ar M) with
            | false => rw [hc] at h; cases h
            | true =>
              rw [hc] at h
              simp only [cond_true] at h ⊢
              cases hm : ms e.2.1 with
              | none => rw [hm] at h; cases h
              | some r' =>
                rw [hm] at h
                try dsimp only at h
                try dsimp only
                cases hcc : Nat.ble (xcats ar) r'.2.1 with
                | false => rw [hcc] at h; cases h
                | true =>
                  rw [hcc] at h
                  simp only [cond_true] at h ⊢
                  cases hq : srun ms ty df sc f r' 0 (lv_args 0 ar) [] M with
                  | none => rw [hq] at h; cases h
                  | some q1 =>
                    rw [hq] at h
                    rw [srun_le f g hl2 hq]
                    exact srun_le f g hl2 h
        · split
          · rename_i z; exact absurd z hk0
          · rename_i z; exact absurd z hk1
          · split at h
            · rename_i z; exact absurd z hk0
            · rename_i z; exact absurd z hk1
            · exact h

/-- from here the method comes to its end, and there Q holds of its answer and the memory -/
def sw (sc : List Int32) (r : xR) (pc : Nat) (L : xL) (st : List Value) (M : xM) (Q : Option Value → xM → Prop) : Prop := ∃ g v M', srun xmeth xty xdf sc g r pc L st M = some (v, M') ∧ Q v M'
section SW
variable {sc : List Int32} {r : xR} {pc : Nat} {L : xL} {st : List Value} {M : xM} {Q : Option Value → xM → Prop}
theorem sw_x {e : xE} {pc' : Nat} {L' : xL} {st' : List Value} {M' : xM} (he : xat r.1 pc = some e) (hk : xkind e = 0) (hx : s1 xty xdf sc e pc L st M = some (pc', L', st', M')) (h : sw sc r pc' L' st' M' Q) : sw sc r pc L st M Q := by
  obtain ⟨g, v, M1, hg, hq⟩ := h
  exact ⟨g + 1, v, M1, (sr_0 he hk hx).trans hg, hq⟩
theorem sw_0 {e : xE} {pc' : Nat} {L' : xL} {st' : List Value} {M' : xM} (he : xat r.1 pc = some e) (hk : xkind e = 0) (hx : x1 xty xdf sc e pc L st M = some (pc', L', st', M')) (h : sw sc r pc' L' st' M' Q) : sw sc r pc L st M Q := sw_x he hk (s1_of hx) h
theorem sw_s {e : xE} {pc' : Nat} {L' : xL} {st' : List Value} {M' : xM} (he : xat r.1 pc = some e) (hk : xkind e = 0) (h0 : x1 xty xdf sc e pc L st M = none) (hx : s0 e pc L st M = some (pc', L', st', M')) (h : sw sc r pc' L' st' M' Q) : sw sc r pc L st M Q := sw_x he hk (by unfold s1; rw [h0]; exact hx) h
theorem sw_1 {e : xE} {as rest : List Value} {r' : xR} {P : Option Value → xM → Prop} (he : xat r.1 pc = some e) (hk : xkind e = 1) (hp : xpop e.2.2.1 [] st = some (as, rest)) (hc : (xcat8 rest && xrecv e as M) = true) (hm : xmeth e.2.1 = some r') (hn : Nat.ble (xcats as) r'.2.1 = true) (ha : sw sc r' 0 (lv_args 0 as) [] M P) (h : ∀ v M1, P v M1 → sw sc r (pc + 3) L (xpush v rest) M1 Q) : sw sc r pc L st M Q := by
  obtain ⟨g1, v1, M1, h1, hp1⟩ := ha
  obtain ⟨g2, v, M2, h2, hq⟩ := h v1 M1 hp1
  have a1 := srun_le g1 (g1 + g2) (by omega) h1
  have a2 := srun_le g2 (g1 + g2) (by omega) h2
  exact ⟨g1 + g2 + 1, v, M2, (sr_1 he hk hp hc hm hn a1).trans a2, hq⟩
theorem sw_2 {e : xE} {v : Option Value} (he : xat r.1 pc = some e) (hk : xkind e = 2) (hv : xend r.2.2 e st = some v) (hq : Q v M) : sw sc r pc L st M Q := ⟨1, v, M, sr_2 he hk hv, hq⟩
theorem sw_mono {P : Option Value → xM → Prop} (h : sw sc r pc L st M P) (hpq : ∀ v M', P v M' → Q v M') : sw sc r pc L st M Q := by
  obtain ⟨g, v, M1, hg, hq⟩ := h
  exact ⟨g, v, M1, hg, hpq _ _ hq⟩
end SW
