/-! MORE RULES: divisions, rows of rows, what a contract says beside -/
section PQ2
variable {sc : List Int32} {B : xM} {n : Nat} {r : xR} {pc : Nat} {L : xL} {st : List Value} {I : tI} {J : tJ} {Q : Option Value → tI → tJ → Prop} {a b : Nat} {z : Int}
theorem pq_st {e : xE} {stk : List Value} (he : xat r.1 pc = some e) (hk : xkind e = 0) (h : ∀ L' q, s1 xty xdf sc e pc L' stk (tMem B I J) = some q → ∃ pc1 st1, q = (pc1, L', st1, tMem B I J) ∧ pq sc B n r pc1 L st1 I J Q) : pq sc B n r pc L stk I J Q := by
  intro L' hL g hg v M' hr
  match g with
  | 0 => simp [srun] at hr
  | g + 1 =>
    simp only [srun, he, hk] at hr
    split at hr
    · cases hr
    · rename_i q1 hq1
      obtain ⟨pc1, st1, rfl, h2⟩ := h L' q1 hq1
      exact h2 L' hL g (by omega) v M' hr
theorem pq_irem {x y : Int32} (_ : kB pT B) (he : xat r.1 pc = some (.irem, a, b, z)) (k : y ≠ 0 → pq sc B n r (pc + 1) L (.int (x - x / y * y) :: st) I J Q) : pq sc B n r pc L (.int y :: .int x :: st) I J Q := pq_st he rfl (fun L' q hq => by
  rcases s1_cases hq with h | h
  · replace h : (bif decide (y = 0) then none else some (pc + 1, L', Value.int (x - x / y * y) :: st, tMem B I J)) = some q := h
    obtain ⟨hy, h⟩ := pbe h
    cases h
    exact ⟨_, _, rfl, k (of_decide_eq_false hy)⟩
  · cases h)
theorem pq_idiv {x y : Int32} (_ : kB pT B) (he : xat r.1 pc = some (.idiv, a, b, z)) (k : y ≠ 0 → pq sc B n r (pc + 1) L (.int (x / y) :: st) I J Q) : pq sc B n r pc L (.int y :: .int x :: st) I J Q := pq_st he rfl (fun L' q hq => by
  rcases s1_cases hq with h | h
  · replace h : (bif decide (y = 0) then none else some (pc + 1, L', Value.int (x / y) :: st, tMem B I J)) = some q := h
    obtain ⟨hy, h⟩ := pbe h
    cases h
    exact ⟨_, _, rfl, k (of_decide_eq_false hy)⟩
  · cases h)
theorem pq_lrem {x y : Int64} (_ : kB pT B) (he : xat r.1 pc = some (.lrem, a, b, z)) (k : y ≠ 0 → pq sc B n r (pc + 1) L (.long (x - x / y * y) :: st) I J Q) : pq sc B n r pc L (.long y :: .long x :: st) I J Q := pq_st he rfl (fun L' q hq => by
  rcases s1_cases hq with h | h
  · replace h : (bif decide (y = 0) then none else some (pc + 1, L', Value.long (x - x / y * y) :: st, tMem B I J)) = some q := h
    obtain ⟨hy, h⟩ := pbe h
    cases h
    exact ⟨_, _, rfl, k (of_decide_eq_false hy)⟩
  · cases h)
theorem pq_ldiv {x y : Int64} (_ : kB pT B) (he : xat r.1 pc = some (.ldiv, a, b, z)) (k : y ≠ 0 → pq sc B n r (pc + 1) L (.long (x / y) :: st) I J Q) : pq sc B n r pc L (.long y :: .long x :: st) I J Q := pq_st he rfl (fun L' q hq => by
  rcases s1_cases hq with h | h
  · replace h : (bif decide (y = 0) then none else some (pc + 1, L', Value.long (x / y) :: st, tMem B I J)) = some q := h
    obtain ⟨hy, h⟩ := pbe h
    cases h
    exact ⟨_, _, rfl, k (of_decide_eq_false hy)⟩
  · cases h)
/-- a row of references, all of them known -/
def pakd (o m : Nat) : Bool := match ktK o with
  | some kn => (Nat.beq kn.1 23 || Nat.beq kn.1 24) && Nat.beq kn.2 m && (List.range m).all (fun i => Nat.beq (ktB o i).1 2)
  | none => false
theorem pakd_in {o m : Nat} (h : pakd o m = true) : (∃ c, ktK o = some (c, m)) ∧ ∀ i, i < m → (ktB o i).1 = 2 := by
  unfold pakd at h
  split at h
  · rename_i kn hkn
    simp only [Bool.and_eq_true] at h
    obtain ⟨⟨-, h2⟩, h3⟩ := h
    have e := Nat.eq_of_beq_eq_true h2
    exact ⟨⟨kn.1, by rw [hkn, ← e]⟩, fun i hi => Nat.eq_of_beq_eq_true (List.all_eq_true.mp h3 i (List.mem_range.mpr hi))⟩
  · cases h
theorem pal_in {c o m pc : Nat} {j : Int32} {L' : xL} {q : xC} (hB : kB pT B) (ho : pakd o m = true) (h : xald c pc L' (.int j :: .ref o :: st) (tMem B I J) = some q) : ∃ i, i < m ∧ j = Int32.ofNat i ∧ q = (pc + 1, L', .ref (ktB o i).2.1.toNat :: st, tMem B I J) := by
  obtain ⟨⟨c0, hk⟩, hr⟩ := pakd_in ho
  unfold xald at h
  dsimp only at h
  split at h
  · rename_i sl hsl
    obtain ⟨hc, hl⟩ := pB_kind hB hk hsl
    split at h
    · rename_i i hi
      obtain ⟨g1, rfl, g3⟩ := xix_eq hi
      split at h
      · rename_i v hv
        cases h
        have hlt : j.toNatClampNeg < m := by
          have := hl
          dsimp only at this
          omega
        obtain ⟨sl', e1, e2⟩ := tget_r (I := I) (J := J) (kB_ref (T := pT) hB hk hlt (hr _ hlt))
        dsimp only at hc
        subst hc
        rw [hsl] at e1
        cases e1
        rw [hv] at e2
        cases e2
        refine ⟨j.toNatClampNeg, hlt, ?_, rfl⟩
        have hneg : ¬ j.toInt < 0 := by
          intro hn
          unfold xix at hi
          rw [decide_eq_true (Int32.lt_iff_toInt_lt.mpr hn), Bool.true_or] at hi
          cases hi
        apply Int32.toInt_inj.mp
        have hb := ti_bd j
        have e3 : j.toNatClampNeg = j.toInt.toNat := rfl
        have e4 : (Int32.ofNat j.toInt.toNat).toInt = (j.toInt.toNat : Int) := nI_toInt (by omega)
        rw [e3, e4]
        omega
      · cases h
    · cases h
  · cases h
theorem pq_aal {o m : Nat} {j : Int32} (hB : kB pT B) (he : xat r.1 pc = some (.aaload, a, b, z)) (ho : pakd o m = true) (k : ∀ i, i < m → j = Int32.ofNat i → pq sc B n r (pc + 1) L (.ref (ktB o i).2.1.toNat :: st) I J Q) : pq sc B n r pc L (.int j :: .ref o :: st) I J Q := pq_st he rfl (fun L' q hq => by
  rcases s1_cases hq with h | h
  · replace h : (match xald 23 pc L' (.int j :: .ref o :: st) (tMem B I J) with
      | some q => some q
      | none => xald 24 pc L' (.int j :: .ref o :: st) (tMem B I J)) = some q := h
    split at h
    · rename_i q' h'
      cases h
      obtain ⟨i, hi, hj, hq⟩ := pal_in hB ho h'
      exact ⟨_, _, hq, k i hi hj⟩
    · obtain ⟨i, hi, hj, hq⟩ := pal_in hB ho h
      exact ⟨_, _, hq, k i hi hj⟩
  · cases h)
theorem pq_aal4 {o : Nat} {j : Int32} (hB : kB pT B) (he : xat r.1 pc = some (.aaload, a, b, z)) (ho : pakd o 4 = true) (k0 : xcmp .eq j 0 = true → pq sc B n r (pc + 1) L (.ref (ktB o 0).2.1.toNat :: st) I J Q) (k1 : xcmp .eq j 0 = false → xcmp .eq j 1 = true → pq sc B n r (pc + 1) L (.ref (ktB o 1).2.1.toNat :: st) I J Q) (k2 : xcmp .eq j 0 = false → xcmp .eq j 1 = false → xcmp .eq j 2 = true → pq sc B n r (pc + 1) L (.ref (ktB o 2).2.1.toNat :: st) I J Q) (k3 : xcmp .eq j 0 = false → xcmp .eq j 1 = false → xcmp .eq j 2 = false → pq sc B n r (pc + 1) L (.ref (ktB o 3).2.1.toNat :: st) I J Q) : pq sc B n r pc L (.int j :: .ref o :: st) I J Q := pq_aal hB he ho (fun i hi hj => by
  subst hj
  rcases (by omega : i = 0 ∨ i = 1 ∨ i = 2 ∨ i = 3) with rfl | rfl | rfl | rfl
  · exact k0 rfl
  · exact k1 rfl rfl
  · exact k2 rfl rfl rfl
  · exact k3 rfl rfl rfl)
theorem pq_aal3 {o : Nat} {j : Int32} (hB : kB pT B) (he : xat r.1 pc = some (.aaload, a, b, z)) (ho : pakd o 3 = true) (k0 : xcmp .eq j 0 = true → pq sc B n r (pc + 1) L (.ref (ktB o 0).2.1.toNat :: st) I J Q) (k1 : xcmp .eq j 0 = false → xcmp .eq j 1 = true → pq sc B n r (pc + 1) L (.ref (ktB o 1).2.1.toNat :: st) I J Q) (k2 : xcmp .eq j 0 = false → xcmp .eq j 1 = false → pq sc B n r (pc + 1) L (.ref (ktB o 2).2.1.toNat :: st) I J Q) : pq sc B n r pc L (.int j :: .ref o :: st) I J Q := pq_aal hB he ho (fun i hi hj => by
  subst hj
  rcases (by omega : i = 0 ∨ i = 1 ∨ i = 2) with rfl | rfl | rfl
  · exact k0 rfl
  · exact k1 rfl rfl
  · exact k2 rfl rfl)
end PQ2
