/-! ALL STEPS OF ONE'S OWN ARE SOUND -/
def ncI : nC := ((224, [(2, 185, 0), (3, 2, 0)], some (0, -1, 161)), [], [], [])
theorem nXif_ok {T : kT} {C : kQ} {sc : List Int32} {p : Nat → Nat → Bool} {X : Nat → Nat → nS → nX} (h : nXs T C sc X) : nXs T C sc (nXif p X) := by
  intro y r pc x outs ρ0 Q hy hx hg
  unfold nXif at hx
  cases hp : p y pc with
  | false => rw [hp] at hx; cases hx
  | true => rw [hp] at hx; exact h y r pc x outs ρ0 Q hy hx hg
theorem bif_e {α : Type} {c : Bool} {a b : Option α} {x : α} (h : (bif c then a else b) = some x) : (c = true ∧ a = some x) ∨ b = some x := by
  cases c
  · exact Or.inr h
  · exact Or.inl ⟨rfl, h⟩
theorem beq_2 {a b c d : Nat} (h : (Nat.beq a b && Nat.beq c d) = true) : a = b ∧ c = d := by
  rw [Bool.and_eq_true] at h
  exact ⟨Nat.eq_of_beq_eq_true h.1, Nat.eq_of_beq_eq_true h.2⟩
section KX
variable {sc : List Int32} {ml : nMl} {Fr : kQ}
theorem ktQ_at {y : Nat} (hF : nFr ml Fr) (h7 : y = 240 → nCon (ktN sc) sc ncI) {r : xR} {pc : Nat} {x : nS} {outs : List (Nat × nS)} {ρ0 : List Int} {Q : Option Value → xM → Prop} (hy : xmeth y = some r) (h : ktQ ml y pc x = some outs) (hg : ∀ q ∈ outs, nG (ktT ml) (nQ (ktN sc) Fr) sc r ρ0 q.1 q.2 Q) : nG (ktT ml) (nQ (ktN sc) Fr) sc r ρ0 pc x Q := by
  unfold ktQ at h
  rcases bif_e h with ⟨hc, h⟩ | h
  · obtain ⟨rfl, rfl⟩ := beq_2 hc
    exact mq8_ok hy h hg
  rcases bif_e h with ⟨hc, h⟩ | h
  · obtain ⟨rfl, rfl⟩ := beq_2 hc
    exact mq1_ok hF hy h hg
  rcases bif_e h with ⟨hc, h⟩ | h
  · obtain ⟨rfl, rfl⟩ := beq_2 hc
    exact mq2_ok hF hy h hg
  rcases bif_e h with ⟨hc, h⟩ | h
  · obtain ⟨rfl, rfl⟩ := beq_2 hc
    exact mq3_ok hF hy h hg
  rcases bif_e h with ⟨hc, h⟩ | h
  · obtain ⟨rfl, rfl⟩ := beq_2 hc
    exact mq4_ok hF hy h hg
  rcases bif_e h with ⟨hc, h⟩ | h
  · obtain ⟨rfl, rfl⟩ := beq_2 hc
    exact mq5_ok hF hy h hg
  rcases bif_e h with ⟨hc, h⟩ | h
  · obtain ⟨rfl, rfl⟩ := beq_2 hc
    exact mq6_ok hF hy h hg
  rcases bif_e h with ⟨hc, h⟩ | h
  · obtain ⟨rfl, rfl⟩ := beq_2 hc
    exact mq7_ok (h7 rfl) rfl hy h hg
  · cases h
theorem ktU_ok (hF : nFr ml Fr) : nXs (ktT ml) (nQ (ktN sc) Fr) sc (nXor (ncut ktS) (nXor (nrfX ktR) (nXor (nstX (ktT ml) ngc ml ngA ktP) (nXor (nldX (ktT ml) ktLd) (nXor (nmulX ktM) (nXor (nchX ktC) (nthX (ktT ml) ktH))))))) := by
  refine nXor_ok ncut_ok (nXor_ok ?_ (nXor_ok ?_ (nXor_ok nldX_ok (nXor_ok nmulX_ok (nXor_ok nchX_ok nthX_ok)))))
  · exact nrfX_ok (t := ktN sc) (fun I hI y pc c hc => hI.1 c (ktR_sub y pc c hc))
  · exact nstX_ok (t := ktN sc) (G := nScr sc) (fun I o k v h hC => nCnd_same hC (fun o' k' h' => tup_ne (fun e => by
      rw [e.1, e.2, h] at h'
      cases h'))) ktN_ht ktN_hG hF
theorem ktX_at {y : Nat} (hF : nFr ml Fr) (h7 : y = 240 → nCon (ktN sc) sc ncI) {r : xR} {pc : Nat} {x : nS} {outs : List (Nat × nS)} {ρ0 : List Int} {Q : Option Value → xM → Prop} (hy : xmeth y = some r) (h : ktX ml y pc x = some outs) (hg : ∀ q ∈ outs, nG (ktT ml) (nQ (ktN sc) Fr) sc r ρ0 q.1 q.2 Q) : nG (ktT ml) (nQ (ktN sc) Fr) sc r ρ0 pc x Q := by
  unfold ktX nXor nel at h
  split at h
  · rename_i o ho
    cases h
    unfold nXif at ho
    rcases bif_e ho with ⟨-, ho⟩ | ho
    · exact ktQ_at hF h7 hy ho hg
    · cases ho
  · exact nXif_ok (ktU_ok hF) y r pc x outs ρ0 Q hy h hg
theorem ktX_ok (hF : nFr ml Fr) (h7 : nCon (ktN sc) sc ncI) : nXs (ktT ml) (nQ (ktN sc) Fr) sc (ktX ml) := fun _ _ _ _ _ _ _ hy h hg => ktX_at hF (fun _ => h7) hy h hg
def ktX0 (ml : nMl) : Nat → Nat → nS → nX := nXif (fun y _ => !Nat.beq y 240) (ktX ml)
theorem ktX0_ok (hF : nFr ml Fr) : nXs (ktT ml) (nQ (ktN sc) Fr) sc (ktX0 ml) := by
  intro y r pc x outs ρ0 Q hy h hg
  unfold ktX0 nXif at h
  rcases bif_e h with ⟨hc, h⟩ | h
  · exact ktX_at hF (fun e => by
      rw [e] at hc
      cases hc) hy h hg
  · cases h
end KX
/-- the check looks at the tables alone -/
theorem ncheck_N {sc : List Int32} {K : List nC} {W : nOr} {f : Nat} {c : nC} (h : ncheck kt0 K W f c = true) : ncheck (ktN sc) K W f c = true := h
theorem nrchk_N {sc : List Int32} {K : List nC} {W : nOr} {f : Nat} {c : nRC} (h : nrchk kt0 K W f c = true) : nrchk (ktN sc) K W f c = true := h
