def kstepA (T : kT) (e : xE) (pc : Nat) (s : kS) : kX := match kstep T e pc s with
  | some o => some o
  | none => (match kstep3 T e pc s with
    | some o => some o
    | none => (match kstep4 T e pc s with
      | some o => some o
      | none => (match kstep5 T e pc s with
        | some o => some o
        | none => (match kstep6 e pc s with
          | some o => some o
          | none => kstep2 T e pc s))))
theorem kstepA_ok {T : kT} {C : kQ} {sc : List Int32} {r : xR} {ρ0 : List Int} {pc : Nat} {s : kS} {Q : Option Value → xM → Prop} {outs : List (Nat × kS)} {e : xE} (he : xat r.1 pc = some e) (hk : xkind e = 0) (h : kstepA T e pc s = some outs) (hg : ∀ q ∈ outs, kG T C sc r ρ0 q.1 q.2 Q) : kG T C sc r ρ0 pc s Q := by
  unfold kstepA at h
  split at h
  · rename_i o ho
    cases h
    exact kstep_ok he hk ho hg
  · split at h
    · rename_i o ho
      cases h
      exact kstep3_ok he hk ho hg
    · split at h
      · rename_i o ho
        cases h
        exact kstep4_ok he hk ho hg
      · split at h
        · rename_i o ho
          cases h
          exact kstep5_ok he hk ho hg
        · split at h
          · rename_i o ho
            cases h
            exact kstep6_ok he hk ho hg
          · exact kstep2_ok he hk h hg
