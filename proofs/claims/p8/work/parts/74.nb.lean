/-! STEPS OF ONE'S OWN: a value cut at a number -/
def ncut (S : Nat → Nat → Option ((Nat × Nat × Nat) × List Int)) : Nat → Nat → nS → nX := fun y pc x => match S y pc with
  | some q => (match nsrc x.1 q.1 with
    | some v => (match kiv x.1.1 v with
      | some b => (match q.2.find? (fun p => decide (b.1 < p) && decide (p ≤ b.2)) with
        | some p => some (nopt (kref x.1.1 v b.1 (p - 1)) pc x.1.2.1 x.1.2.2.1 x.1.2.2.2 x.2 ++ nopt (kref x.1.1 v p b.2) pc x.1.2.1 x.1.2.2.1 x.1.2.2.2 x.2)
        | none => none)
      | none => none)
    | none => none)
  | none => none
theorem ncut_ok {T : kT} {C : kQ} {sc : List Int32} {S : Nat → Nat → Option ((Nat × Nat × Nat) × List Int)} : nXs T C sc (ncut S) := by
  intro y r pc x outs ρ0 Q _ h hg
  unfold ncut at h
  split at h
  · rename_i q hq
    split at h
    · rename_i v hv
      split at h
      · rename_i b hb
        split at h
        · rename_i p hp
          cases h
          intro σ L st B I J hs hD hB hI
          have hb' := hb
          unfold kiv at hb'
          split at hb'
          · rename_i c hc
            cases hb'
            obtain ⟨z, z1, z2, z3⟩ := kin_get hs.1 hc
            have hn : knum (ρ0 ++ σ) v (z + v.2.2) := ⟨z, z1, rfl⟩
            by_cases hlt : z + v.2.2 < p
            · obtain ⟨E', e1, e2⟩ := kref_ok (lo := c.1 + v.2.2) (hi := p - 1) hs.1 hn (by omega) (by omega)
              exact hg _ (List.mem_append_left _ (nopt_in e1)) σ L st B I J ⟨e2, hs.2⟩ hD hB hI
            · obtain ⟨E', e1, e2⟩ := kref_ok (lo := p) (hi := c.2 + v.2.2) hs.1 hn (by omega) (by omega)
              exact hg _ (List.mem_append_right _ (nopt_in e1)) σ L st B I J ⟨e2, hs.2⟩ hD hB hI
          · cases hb'
        · cases h
      · cases h
    · cases h
  · cases h
