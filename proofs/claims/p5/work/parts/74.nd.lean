/-! CONDITIONS BETWEEN SLOTS: where one is within bounds, another one is within its own -/
/-- slot, bounds of it; slot, bounds of that -/
abbrev nCd : Type := ((Nat × Nat) × Int × Int) × (Nat × Nat) × Int × Int
def ncOk (I : tI) (c : nCd) : Prop := (c.1.2.1 ≤ (I c.1.1.1 c.1.1.2).toInt ∧ (I c.1.1.1 c.1.1.2).toInt ≤ c.1.2.2) → (c.2.2.1 ≤ (I c.2.1.1 c.2.1.2).toInt ∧ (I c.2.1.1 c.2.1.2).toInt ≤ c.2.2.2)
/-- all conditions of all groups -/
def nCnd (gl : Nat → List nCd) (I : tI) : Prop := ∀ g, ∀ c ∈ gl g, ncOk I c
/-- bounds by conditions: both slots are known -/
def nrf (O : kO) : List nCd → kE → Option kE
  | [], E => some E
  | c :: l, E => match kol O c.2.1.1 0 (c.2.1.2 : Int) with
    | none => nrf O l E
    | some v => (match kol O c.1.1.1 0 (c.1.1.2 : Int) with
      | none => nrf O l E
      | some u => (match kiv E u with
        | none => nrf O l E
        | some b => bif decide (c.1.2.1 ≤ b.1) && decide (b.2 ≤ c.1.2.2) then (match kref E v c.2.2.1 c.2.2.2 with
          | some E' => nrf O l E'
          | none => none) else nrf O l E))
theorem nrf_ok {ρ : List Int} {O : kO} {I : tI} (hO : kov ρ I O) (h0 : xnth ρ 0 = some 0) : ∀ {l : List nCd} {E : kE}, kin ρ E → (∀ c ∈ l, ncOk I c) → ∃ E', nrf O l E = some E' ∧ kin ρ E'
  | [], E, h, _ => ⟨E, rfl, h⟩
  | c :: l, E, h, hc => by
    have idx : ∀ k : Nat, knum ρ (0, 0, (k : Int)) (k : Int) := fun k => ⟨0, h0, by dsimp only; omega⟩
    have hl : ∀ c ∈ l, ncOk I c := fun d hd => hc d (List.mem_cons_of_mem _ hd)
    simp only [nrf]
    split
    · exact nrf_ok hO h0 h hl
    · rename_i v hv
      split
      · exact nrf_ok hO h0 h hl
      · rename_i u hu
        split
        · exact nrf_ok hO h0 h hl
        · rename_i b hb
          have nu := kol_ok hO hu (idx c.1.1.2)
          have nv := kol_ok hO hv (idx c.2.1.2)
          have bu := kiv_in h nu hb
          cases hd : (decide (c.1.2.1 ≤ b.1) && decide (b.2 ≤ c.1.2.2)) with
          | false => exact nrf_ok hO h0 h hl
          | true =>
            simp only [cond_true]
            rw [Bool.and_eq_true, decide_eq_true_eq, decide_eq_true_eq] at hd
            have := hc c List.mem_cons_self ⟨by omega, by omega⟩
            obtain ⟨E2, e1, e2⟩ := kref_ok (lo := c.2.2.1) (hi := c.2.2.2) h nv this.1 this.2
            rw [e1]
            exact nrf_ok hO h0 e2 hl
/-- at some places: bounds by the conditions of some groups -/
def nrfX (gl : Nat → List nCd) (R : Nat → Nat → List Nat) : Nat → Nat → nS → nX := fun y pc x => match R y pc with
  | [] => none
  | g :: gs => bif kz x.1.1 then (match nrf x.1.2.2.2 ((g :: gs).flatMap gl) x.1.1 with
    | some E => bif decide (E = x.1.1) then none else some [(pc, ((E, x.1.2), x.2))]
    | none => some []) else none
theorem nrfX_ok {t : nTb} {ml : nMl} {Fr : kQ} {sc : List Int32} {gl : Nat → List nCd} {R : Nat → Nat → List Nat} (ht : t.2.2 = nCnd gl) : nXs (nTm t ml) (nQ t Fr) sc (nrfX gl R) := by
  intro y r pc x outs ρ0 Q _ h hg
  unfold nrfX at h
  split at h
  · cases h
  · rename_i g gs _
    cases hz : kz x.1.1 with
    | false => rw [hz] at h; cases h
    | true =>
      rw [hz] at h
      simp only [cond_true] at h
      intro σ L st B I J hs hD hB hI
      have h00 : xnth (ρ0 ++ σ) 0 = some 0 := by
        obtain ⟨z, z1, z2⟩ := kz_ok hs.1 hz 0 0
        dsimp only at z1 z2
        rw [z1, show z = 0 by omega]
      have hC : nCnd gl I := by rw [← ht]; exact hI.2.1.1
      obtain ⟨E', e1, e2⟩ := nrf_ok (l := (g :: gs).flatMap gl) hs.2.2.2 h00 hs.1 (fun c hc => by
        obtain ⟨g', _, h2⟩ := List.mem_flatMap.mp hc
        exact hC g' c h2)
      rw [e1] at h
      dsimp only at h
      cases hd : decide (E' = x.1.1) with
      | true => rw [hd] at h; cases h
      | false =>
        rw [hd] at h
        cases h
        exact hg _ List.mem_cons_self σ L st B I J ⟨e2, hs.2⟩ hD hB hI
def nXor (X Y : Nat → Nat → nS → nX) : Nat → Nat → nS → nX := fun y pc x => nel (X y pc x) (Y y pc x)
theorem nXor_ok {T : kT} {C : kQ} {sc : List Int32} {X Y : Nat → Nat → nS → nX} (hX : nXs T C sc X) (hY : nXs T C sc Y) : nXs T C sc (nXor X Y) := by
  intro y r pc x outs ρ0 Q hy h hg
  unfold nXor nel at h
  split at h
  · rename_i o ho
    cases h
    exact hX y r pc x _ ρ0 Q hy ho hg
  · exact hY y r pc x _ ρ0 Q hy h hg
