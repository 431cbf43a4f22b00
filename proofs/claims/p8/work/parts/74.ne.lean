/-! CONDITIONS BETWEEN SLOTS, BY ROWS: (objects), (first place, last place, distance, stride), bounds of the one, of the other -/
abbrev nCd : Type := (Nat × Nat) × (Nat × Nat × Nat × Nat) × (Int × Int) × (Int × Int)
def ncOk (I : tI) (c : nCd) : Prop := ∀ k, c.2.1.1 ≤ k → k ≤ c.2.1.2.1 → (k - c.2.1.1) % c.2.1.2.2.2 = 0 → c.2.2.1.1 ≤ (I c.1.1 k).toInt → (I c.1.1 k).toInt ≤ c.2.2.1.2 → c.2.2.2.1 ≤ (I c.1.2 (k + c.2.1.2.2.1)).toInt ∧ (I c.1.2 (k + c.2.1.2.2.1)).toInt ≤ c.2.2.2.2
def nCnd (l : List nCd) (I : tI) : Prop := ∀ c ∈ l, ncOk I c
def nwi (b r : Int × Int) : Bool := decide (r.1 ≤ b.1) && decide (b.2 ≤ r.2)
def ndj (b r : Int × Int) : Bool := decide (b.2 < r.1) || decide (r.2 < b.1)
theorem nwi_ok {b r : Int × Int} (h : nwi b r = true) : r.1 ≤ b.1 ∧ b.2 ≤ r.2 := by
  unfold nwi at h
  rw [Bool.and_eq_true, decide_eq_true_eq, decide_eq_true_eq] at h
  exact h
theorem ndj_ok {b r : Int × Int} (h : ndj b r = true) : b.2 < r.1 ∨ r.2 < b.1 := by
  unfold ndj at h
  rw [Bool.or_eq_true, decide_eq_true_eq, decide_eq_true_eq] at h
  exact h
/-! WHAT AN ID IS MODULO A NUMBER, BY TWO FACTS -/
def ncg1 (i : Nat) (b : Int) (e : Int) (j : Nat) (g : kF) : Bool := match g.1 with
  | [p, q] => (decide (p.1 = -1) && Nat.beq p.2 i) && ((decide (q.1 = -b) && Nat.beq q.2 j) && decide (g.2 = -e))
  | _ => false
def ncgf (D0 : List kF) (i : Nat) : List kF → Option (Nat × Int)
  | [] => none
  | f :: D => match f.1 with
    | [p, q] => bif ((decide (p.1 = 1) && Nat.beq p.2 i) && decide (q.1 < -1)) && D0.any (ncg1 i q.1 f.2 q.2) then some ((-q.1).toNat, f.2) else ncgf D0 i D
    | _ => ncgf D0 i D
theorem kls_inv2 {ρ : List Int} {p q : Int × Nat} {a : Int} (h : kls ρ [p, q] = some a) : ∃ z w, xnth ρ p.2 = some z ∧ xnth ρ q.2 = some w ∧ a = p.1 * z + (q.1 * w + 0) := by
  simp only [kls] at h
  cases hz : xnth ρ p.2 with
  | none => rw [hz] at h; cases h
  | some z =>
    cases hw : xnth ρ q.2 with
    | none => rw [hz, hw] at h; cases h
    | some w =>
      rw [hz, hw] at h
      cases h
      exact ⟨z, w, rfl, rfl, rfl⟩
theorem ncgf_ok {ρ : List Int} {D0 : List kF} {i : Nat} (hD0 : kfs ρ D0) : ∀ {D : List kF} {m : Nat × Int}, (∀ f ∈ D, f ∈ D0) → ncgf D0 i D = some m → ∀ z, xnth ρ i = some z → ∃ q : Int, z = (m.1 : Int) * q + m.2
  | [], _, _, h, _, _ => by cases h
  | f :: D, m, hs, h, z, hz => by
    have hs' : ∀ g ∈ D, g ∈ D0 := fun g hg => hs g (List.mem_cons_of_mem _ hg)
    simp only [ncgf] at h
    split at h
    · rename_i p q hf
      cases hb : (((decide (p.1 = 1) && Nat.beq p.2 i) && decide (q.1 < -1)) && D0.any (ncg1 i q.1 f.2 q.2)) with
      | false => rw [hb] at h; exact ncgf_ok hD0 hs' h z hz
      | true =>
        rw [hb] at h
        cases h
        simp only [Bool.and_eq_true, decide_eq_true_eq] at hb
        obtain ⟨⟨⟨b1, b2⟩, b3⟩, b4⟩ := hb
        have b2 := Nat.eq_of_beq_eq_true b2
        obtain ⟨g, hg, hg1⟩ := List.any_eq_true.mp b4
        unfold ncg1 at hg1
        split at hg1
        · rename_i p' q' hg'
          simp only [Bool.and_eq_true, decide_eq_true_eq] at hg1
          obtain ⟨⟨c1, c2⟩, ⟨c3, c4⟩, c5⟩ := hg1
          have c2 := Nat.eq_of_beq_eq_true c2
          have c4 := Nat.eq_of_beq_eq_true c4
          obtain ⟨a, a1, a2⟩ := hD0 f (hs f List.mem_cons_self)
          obtain ⟨a', a1', a2'⟩ := hD0 g hg
          rw [hf] at a1
          rw [hg'] at a1'
          obtain ⟨x, w, x1, x2, x3⟩ := kls_inv2 a1
          obtain ⟨x', w', x1', x2', x3'⟩ := kls_inv2 a1'
          rw [b2, hz] at x1
          cases x1
          rw [c2, hz] at x1'
          cases x1'
          rw [c4, x2] at x2'
          cases x2'
          refine ⟨w, ?_⟩
          have e1 : ((-q.1).toNat : Int) = -q.1 := Int.toNat_of_nonneg (by omega)
          dsimp only
          rw [e1, Int.neg_mul]
          rw [b1, Int.one_mul] at x3
          rw [c1, c3, Int.neg_mul, Int.neg_mul, Int.one_mul] at x3'
          omega
        · cases hg1
    · exact ncgf_ok hD0 hs' h z hz
def nrs (cg : Option (Nat × Int)) (c : Int) (k : Nat) : Bool := match cg with
  | some m => decide (((k : Int) - m.2 - c) % (m.1 : Int) = 0)
  | none => true
theorem nrs_ok {ρ : List Int} {D : List kF} {t i : Nat} {c : Int} {k : Nat} (hD : kfs ρ D) (hk : knum ρ (t, i, c) (k : Int)) : nrs (ncgf D i D) c k = true := by
  unfold nrs
  split
  · rename_i m hm
    obtain ⟨z, z1, z2⟩ := hk
    dsimp only at z1 z2
    obtain ⟨q, hq⟩ := ncgf_ok hD (fun f hf => hf) hm z z1
    apply decide_eq_true
    have e : (k : Int) - m.2 - c = (m.1 : Int) * q := by omega
    rw [e]
    exact Int.mul_emod_right _ _
  · rfl
/-! A STORE KEEPS THE CONDITIONS: cells that are written (object, id, offset), bounds of the place, of the number -/
abbrev nCh : Type := (Nat × Nat × Int) × (Int × Int) × (Int × Int)
def nmt (D : List kF) (z : Nat × Nat × Nat × Nat) (d : Nat) (q : nCh) : Bool := (!decide (q.2.1.2 < (z.1 : Int) + d) && !decide ((z.2.1 : Int) + d < q.2.1.1)) && (Nat.ble z.2.2.2 1 || (bif decide (q.2.1.1 = q.2.1.2) then decide ((q.2.1.1 - d - z.1) % (z.2.2.2 : Int) = 0) else (match ncgf D q.1.2.1 D with
  | some m => !decide ((m.1 : Int) % (z.2.2.2 : Int) = 0) || decide ((m.2 + q.1.2.2 - d - z.1) % (z.2.2.2 : Int) = 0)
  | none => true)))
theorem nmt_ok {ρ : List Int} {D : List kF} {z : Nat × Nat × Nat × Nat} {d : Nat} {q : nCh} {k : Nat} (hD : kfs ρ D) (hk : knum ρ (0, q.1.2.1, q.1.2.2) ((k + d : Nat) : Int)) (h1 : q.2.1.1 ≤ ((k + d : Nat) : Int)) (h2 : ((k + d : Nat) : Int) ≤ q.2.1.2) (z1 : z.1 ≤ k) (z2 : k ≤ z.2.1) (z3 : (k - z.1) % z.2.2.2 = 0) : nmt D z d q = true := by
  obtain ⟨lo, hi, dd, s⟩ := z
  dsimp only at z1 z2 z3
  obtain ⟨m, hm⟩ : ∃ m : Nat, k - lo = s * m := Nat.dvd_of_mod_eq_zero z3
  have hm' : (k : Int) - lo = (s : Int) * m := by
    have : ((k - lo : Nat) : Int) = ((s * m : Nat) : Int) := by rw [hm]
    rw [Int.natCast_mul] at this
    omega
  unfold nmt
  dsimp only
  rw [decide_eq_false (by omega : ¬ q.2.1.2 < (lo : Int) + d), decide_eq_false (by omega : ¬ (hi : Int) + d < q.2.1.1)]
  simp only [Bool.not_false, Bool.true_and]
  rw [Bool.or_eq_true]
  right
  cases hc : decide (q.2.1.1 = q.2.1.2) with
  | true =>
    have hc := of_decide_eq_true hc
    simp only [cond_true]
    apply decide_eq_true
    have e : q.2.1.1 - d - lo = (s : Int) * m := by omega
    rw [e]
    exact Int.mul_emod_right _ _
  | false =>
    simp only [cond_false]
    split
    · rename_i g hg
      obtain ⟨z, y1, y2⟩ := hk
      dsimp only at y1 y2
      obtain ⟨u, hu⟩ := ncgf_ok hD (fun f hf => hf) hg z y1
      cases hd : decide ((g.1 : Int) % (s : Int) = 0) with
      | false => rfl
      | true =>
        obtain ⟨M, hM⟩ := Int.dvd_of_emod_eq_zero (of_decide_eq_true hd)
        simp only [Bool.not_true, Bool.false_or]
        apply decide_eq_true
        have e : g.2 + q.1.2.2 - d - lo = (s : Int) * (m - M * u) := by
          rw [Int.mul_sub, ← Int.mul_assoc, ← hM]
          omega
        rw [e]
        exact Int.mul_emod_right _ _
    · rfl
def nvl (E : kE) (O : kO) (chg : List nCh) (o i : Nat) (c : Int) : Option (Int × Int) := match chg.find? (fun q => Nat.beq q.1.1 o && (Nat.beq q.1.2.1 i && decide (q.1.2.2 = c))) with
  | some q => some q.2.2
  | none => (match kol O o i c with
    | some v => kiv E v
    | none => none)
theorem nvl_ok {ρ : List Int} {E : kE} {O : kO} {chg : List nCh} {o i : Nat} {c : Int} {w : Int × Int} {I : tI} {k : Nat} (h : kin ρ E) (hO : kov ρ I O) (h1 : ∀ q ∈ chg, ∀ k : Nat, knum ρ (0, q.1.2.1, q.1.2.2) (k : Int) → q.2.2.1 ≤ (I q.1.1 k).toInt ∧ (I q.1.1 k).toInt ≤ q.2.2.2) (hk : knum ρ (0, i, c) (k : Int)) (hv : nvl E O chg o i c = some w) : w.1 ≤ (I o k).toInt ∧ (I o k).toInt ≤ w.2 := by
  unfold nvl at hv
  split at hv
  · rename_i q hq
    cases hv
    have hm := List.mem_of_find?_eq_some hq
    have hp := List.find?_some hq
    simp only [Bool.and_eq_true, decide_eq_true_eq] at hp
    have e1 := Nat.eq_of_beq_eq_true hp.1
    have e2 := Nat.eq_of_beq_eq_true hp.2.1
    have e3 := hp.2.2
    have := h1 q hm k (by rw [e2, e3]; exact hk)
    rw [e1] at this
    exact this
  · split at hv
    · rename_i v hl
      exact kiv_in h (kol_ok hO hl hk) hv
    · cases hv
def nmc1 (E : kE) (O O2 : kO) (D : List kF) (chg : List nCh) (c : nCd) (q : nCh) : Bool :=
  (!(Nat.beq q.1.1 c.1.1 && nmt D c.2.1 0 q) || (ndj q.2.2 c.2.2.1 || ((match nvl E O2 chg c.1.2 q.1.2.1 (q.1.2.2 + (c.2.1.2.2.1 : Int)) with
    | some w => nwi w c.2.2.2
    | none => false) || ((Nat.beq chg.length 1 && (!Nat.beq c.1.1 c.1.2 || !Nat.beq c.2.1.2.2.1 0)) && (match kol O c.1.1 q.1.2.1 q.1.2.2 with
    | some u => (match kiv E u with
      | some w => nwi w c.2.2.1
      | none => false)
    | none => false))))) &&
  (!(Nat.beq q.1.1 c.1.2 && nmt D c.2.1 c.2.1.2.2.1 q) || (nwi q.2.2 c.2.2.2 || (match nvl E O2 chg c.1.1 q.1.2.1 (q.1.2.2 - (c.2.1.2.2.1 : Int)) with
    | some w => ndj w c.2.2.1
    | none => false)))
def nmchk (E : kE) (O O2 : kO) (D : List kF) (l : List nCd) (chg : List nCh) : Bool := l.all (fun c => chg.all (nmc1 E O O2 D chg c))
theorem nmchk_ok {ρ : List Int} {E : kE} {O O2 : kO} {D : List kF} {chg : List nCh} {l : List nCd} {I I' : tI} (h : kin ρ E) (hO : kov ρ I O) (hO2 : kov ρ I' O2) (hD : kfs ρ D) (hC : nCnd l I)
    (h1 : ∀ q ∈ chg, ∀ k : Nat, knum ρ (0, q.1.2.1, q.1.2.2) (k : Int) → (q.2.1.1 ≤ (k : Int) ∧ (k : Int) ≤ q.2.1.2) ∧ (q.2.2.1 ≤ (I' q.1.1 k).toInt ∧ (I' q.1.1 k).toInt ≤ q.2.2.2))
    (h2 : ∀ o k, I' o k = I o k ∨ ∃ q ∈ chg, q.1.1 = o ∧ knum ρ (0, q.1.2.1, q.1.2.2) (k : Int))
    (hc : nmchk E O O2 D l chg = true) : nCnd l I' := by
  intro c hcl k k1 k2 k3 l1 l2
  have h1' : ∀ q ∈ chg, ∀ k : Nat, knum ρ (0, q.1.2.1, q.1.2.2) (k : Int) → q.2.2.1 ≤ (I' q.1.1 k).toInt ∧ (I' q.1.1 k).toInt ≤ q.2.2.2 := fun q hq k hk => (h1 q hq k hk).2
  have hall := List.all_eq_true.mp (List.all_eq_true.mp hc c hcl)
  obtain ⟨⟨o1, o2⟩, ⟨lo, hi, d, s⟩, le, de⟩ := c
  dsimp only at k1 k2 k3 l1 l2 ⊢
  rcases h2 o1 k with e | ⟨q, hq, qo, qk⟩
  · rcases h2 o2 (k + d) with e' | ⟨q, hq, qo, qk⟩
    · rw [e] at l1 l2
      rw [e']
      exact hC _ hcl k k1 k2 k3 l1 l2
    · have hq1 := hall q hq
      unfold nmc1 at hq1
      dsimp only at hq1
      rw [Bool.and_eq_true] at hq1
      have hq2 := hq1.2
      obtain ⟨⟨b1, b2⟩, b3, b4⟩ := h1 q hq (k + d) qk
      rw [qo, Nat.beq_refl, nmt_ok hD qk b1 b2 k1 k2 k3] at hq2
      simp only [Bool.and_self, Bool.not_true, Bool.false_or, Bool.or_eq_true] at hq2
      rcases hq2 with hq2 | hq2
      · have := nwi_ok hq2
        rw [qo] at b3 b4
        omega
      · split at hq2
        · rename_i w hw
          have hn : knum ρ (0, q.1.2.1, q.1.2.2 - (d : Int)) (k : Int) := by
            obtain ⟨z, z1, z2⟩ := qk
            exact ⟨z, z1, by dsimp only at z2 ⊢; omega⟩
          have := nvl_ok h hO2 h1' hn hw
          have := ndj_ok hq2
          omega
        · cases hq2
  · have hq1 := hall q hq
    unfold nmc1 at hq1
    dsimp only at hq1
    rw [Bool.and_eq_true] at hq1
    have hq2 := hq1.1
    obtain ⟨⟨b1, b2⟩, b3, b4⟩ := h1 q hq k qk
    rw [qo, Nat.beq_refl, nmt_ok (d := 0) (z := (lo, hi, d, s)) hD qk b1 b2 k1 k2 k3] at hq2
    simp only [Bool.and_self, Bool.not_true, Bool.false_or, Bool.or_eq_true] at hq2
    have hn : knum ρ (0, q.1.2.1, q.1.2.2 + (d : Int)) ((k + d : Nat) : Int) := by
      obtain ⟨z, z1, z2⟩ := qk
      exact ⟨z, z1, by dsimp only at z2 ⊢; omega⟩
    rcases hq2 with hq2 | hq2 | hq2
    · have := ndj_ok hq2
      rw [qo] at b3 b4
      omega
    · split at hq2
      · rename_i w hw
        have := nvl_ok h hO2 h1' hn hw
        have := nwi_ok hq2
        omega
      · cases hq2
    · rw [Bool.and_eq_true, Bool.and_eq_true] at hq2
      obtain ⟨⟨g1, g2⟩, g3⟩ := hq2
      split at g3
      · rename_i u hu
        split at g3
        · rename_i w hw
          have nu := kiv_in h (kol_ok hO hu qk) hw
          have g3 := nwi_ok g3
          have old := hC _ hcl k k1 k2 k3 (show le.1 ≤ (I o1 k).toInt by omega) (show (I o1 k).toInt ≤ le.2 by omega)
          dsimp only at old
          rcases h2 o2 (k + d) with e' | ⟨q', hq', qo', qk'⟩
          · rw [e']
            exact old
          · exfalso
            have hlen := Nat.eq_of_beq_eq_true g1
            obtain ⟨p, hp⟩ := List.length_eq_one_iff.mp hlen
            rw [hp] at hq hq'
            rw [List.mem_singleton] at hq hq'
            subst hq hq'
            rw [← qo, ← qo', Nat.beq_refl] at g2
            simp only [Bool.not_true, Bool.false_or, Bool.not_eq_true'] at g2
            obtain ⟨z, z1, z2⟩ := qk
            obtain ⟨z', z1', z2'⟩ := qk'
            rw [z1] at z1'
            cases z1'
            have e0 : d = 0 := by dsimp only at z2 z2'; omega
            rw [e0] at g2
            cases g2
        · cases g3
      · cases g3
/-! BOUNDS BY CONDITIONS -/
def nrfg (D : List kF) (c : nCd) (q : (Nat × Nat × Int) × kV) (b w : Int × Int) : Bool := ((decide ((c.2.1.1 : Int) ≤ b.1) && decide (b.2 ≤ (c.2.1.2.1 : Int))) && nwi w c.2.2.1) && (Nat.beq c.2.1.2.2.2 1 || (bif decide (b.1 = b.2) then decide ((b.1 - c.2.1.1) % (c.2.1.2.2.2 : Int) = 0) else (match ncgf D q.1.2.1 D with
  | some m => decide ((m.1 : Int) % (c.2.1.2.2.2 : Int) = 0) && decide ((m.2 + q.1.2.2 - c.2.1.1) % (c.2.1.2.2.2 : Int) = 0)
  | none => false)))
theorem nat_emod {a lo s : Nat} (h : lo ≤ a) (h2 : ((a : Int) - lo) % (s : Int) = 0) : (a - lo) % s = 0 := by
  have e : ((a - lo : Nat) : Int) = (a : Int) - lo := by omega
  rw [← e, ← Int.natCast_emod] at h2
  exact_mod_cast h2
theorem nrfg_ok {ρ : List Int} {D : List kF} {c : nCd} {q : (Nat × Nat × Int) × kV} {b w : Int × Int} {k : Nat} (hD : kfs ρ D) (hk : knum ρ (0, q.1.2.1, q.1.2.2) (k : Int)) (b1 : b.1 ≤ (k : Int)) (b2 : (k : Int) ≤ b.2) (hg : nrfg D c q b w = true) : c.2.1.1 ≤ k ∧ k ≤ c.2.1.2.1 ∧ (k - c.2.1.1) % c.2.1.2.2.2 = 0 ∧ c.2.2.1.1 ≤ w.1 ∧ w.2 ≤ c.2.2.1.2 := by
  obtain ⟨⟨o1, o2⟩, ⟨lo, hi, d, s⟩, le, de⟩ := c
  unfold nrfg at hg
  dsimp only at hg ⊢
  rw [Bool.and_eq_true, Bool.and_eq_true, Bool.and_eq_true, decide_eq_true_eq, decide_eq_true_eq, Bool.or_eq_true] at hg
  obtain ⟨⟨⟨g1, g2⟩, g3⟩, g4⟩ := hg
  have g3 := nwi_ok g3
  refine ⟨by omega, by omega, ?_, g3.1, g3.2⟩
  rcases g4 with g4 | g4
  · rw [Nat.eq_of_beq_eq_true g4]
    exact Nat.mod_one _
  · cases hc : decide (b.1 = b.2) with
    | true =>
      rw [hc] at g4
      have hc := of_decide_eq_true hc
      have g4 := of_decide_eq_true g4
      exact nat_emod (by omega) (by rw [show (k : Int) = b.1 by omega]; exact g4)
    | false =>
      rw [hc] at g4
      simp only [cond_false] at g4
      split at g4
      · rename_i m hm
        rw [Bool.and_eq_true, decide_eq_true_eq, decide_eq_true_eq] at g4
        obtain ⟨z, z1, z2⟩ := hk
        dsimp only at z1 z2
        obtain ⟨u, hu⟩ := ncgf_ok hD (fun f hf => hf) hm z z1
        obtain ⟨M, hM⟩ := Int.dvd_of_emod_eq_zero g4.1
        obtain ⟨N, hN⟩ := Int.dvd_of_emod_eq_zero g4.2
        refine nat_emod (by omega) ?_
        have e : (k : Int) - lo = (s : Int) * (M * u + N) := by
          rw [Int.mul_add, ← Int.mul_assoc, ← hM, ← hN]
          omega
        rw [e]
        exact Int.mul_emod_right _ _
      · cases g4
def nrfq (O : kO) (D : List kF) (c : nCd) (q : (Nat × Nat × Int) × kV) (E : kE) : Option kE := bif Nat.beq q.1.1 c.1.1 then (match kiv E (0, q.1.2.1, q.1.2.2) with
  | some b => (match kiv E q.2 with
    | some w => bif nrfg D c q b w then (match kol O c.1.2 q.1.2.1 (q.1.2.2 + (c.2.1.2.2.1 : Int)) with
        | some u => kref E u c.2.2.2.1 c.2.2.2.2
        | none => some E) else some E
    | none => some E)
  | none => some E) else some E
def nrf1 (O : kO) (D : List kF) (c : nCd) : kO → kE → Option kE
  | [], E => some E
  | q :: l, E => match nrfq O D c q E with
    | some E' => nrf1 O D c l E'
    | none => none
def nrf (O : kO) (D : List kF) : List nCd → kE → Option kE
  | [], E => some E
  | c :: l, E => match nrf1 O D c O E with
    | some E' => nrf O D l E'
    | none => none
theorem nrfq_ok {ρ : List Int} {E : kE} {O : kO} {D : List kF} {I : tI} {c : nCd} {q : (Nat × Nat × Int) × kV} (h : kin ρ E) (hO : kov ρ I O) (hD : kfs ρ D) (hc : ncOk I c) (hq : q ∈ O) : ∃ E', nrfq O D c q E = some E' ∧ kin ρ E' := by
  obtain ⟨k, hk, hv⟩ := hO q hq
  unfold nrfq
  cases ho : Nat.beq q.1.1 c.1.1 with
  | false => exact ⟨E, rfl, h⟩
  | true =>
    have ho := Nat.eq_of_beq_eq_true ho
    simp only [cond_true]
    cases hb : kiv E (0, q.1.2.1, q.1.2.2) with
    | none => exact ⟨E, rfl, h⟩
    | some b =>
      dsimp only
      cases hw : kiv E q.2 with
      | none => exact ⟨E, rfl, h⟩
      | some w =>
        dsimp only
        cases hg : nrfg D c q b w with
        | false => exact ⟨E, rfl, h⟩
        | true =>
          simp only [cond_true]
          cases hu : kol O c.1.2 q.1.2.1 (q.1.2.2 + (c.2.1.2.2.1 : Int)) with
          | none => exact ⟨E, rfl, h⟩
          | some u =>
            dsimp only
            have bk := kiv_in h hk hb
            have bw := kiv_in h hv hw
            obtain ⟨g1, g2, g3, g4, g5⟩ := nrfg_ok hD hk bk.1 bk.2 hg
            rw [ho] at bw
            have := hc k g1 g2 g3 (by omega) (by omega)
            have hn : knum ρ (0, q.1.2.1, q.1.2.2 + (c.2.1.2.2.1 : Int)) ((k + c.2.1.2.2.1 : Nat) : Int) := by
              obtain ⟨z, z1, z2⟩ := hk
              exact ⟨z, z1, by dsimp only at z2 ⊢; omega⟩
            exact kref_ok h (kol_ok hO hu hn) this.1 this.2
theorem nrf1_ok {ρ : List Int} {O : kO} {D : List kF} {I : tI} {c : nCd} (hO : kov ρ I O) (hD : kfs ρ D) (hc : ncOk I c) : ∀ {l : kO} {E : kE}, kin ρ E → (∀ q ∈ l, q ∈ O) → ∃ E', nrf1 O D c l E = some E' ∧ kin ρ E'
  | [], E, h, _ => ⟨E, rfl, h⟩
  | q :: l, E, h, hl => by
    obtain ⟨E1, e1, e2⟩ := nrfq_ok h hO hD hc (hl q List.mem_cons_self)
    simp only [nrf1]
    rw [e1]
    exact nrf1_ok hO hD hc e2 (fun p hp => hl p (List.mem_cons_of_mem _ hp))
theorem nrf_ok {ρ : List Int} {O : kO} {D : List kF} {I : tI} (hO : kov ρ I O) (hD : kfs ρ D) : ∀ {l : List nCd} {E : kE}, kin ρ E → (∀ c ∈ l, ncOk I c) → ∃ E', nrf O D l E = some E' ∧ kin ρ E'
  | [], E, h, _ => ⟨E, rfl, h⟩
  | c :: l, E, h, hl => by
    obtain ⟨E1, e1, e2⟩ := nrf1_ok hO hD (hl c List.mem_cons_self) h (fun p hp => hp)
    simp only [nrf]
    rw [e1]
    exact nrf_ok hO hD e2 (fun p hp => hl p (List.mem_cons_of_mem _ hp))
/-! STEPS OF ONE'S OWN BY CONDITIONS -/
def nXor (X Y : Nat → Nat → nS → nX) : Nat → Nat → nS → nX := fun y pc x => nel (X y pc x) (Y y pc x)
theorem nXor_ok {T : kT} {C : kQ} {sc : List Int32} {X Y : Nat → Nat → nS → nX} (hX : nXs T C sc X) (hY : nXs T C sc Y) : nXs T C sc (nXor X Y) := by
  intro y r pc x outs ρ0 Q hy h hg
  unfold nXor nel at h
  split at h
  · rename_i o ho
    cases h
    exact hX y r pc x _ ρ0 Q hy ho hg
  · exact hY y r pc x _ ρ0 Q hy h hg
def nrfX (R : Nat → Nat → List nCd) : Nat → Nat → nS → nX := fun y pc x => match R y pc with
  | [] => none
  | c :: l => (match nrf x.1.2.2.2 x.2 (c :: l) x.1.1 with
    | some E => bif decide (E = x.1.1) then none else some [(pc, ((E, x.1.2), x.2))]
    | none => some [])
theorem nrfX_ok {t : nTb} {ml : nMl} {Fr : kQ} {sc : List Int32} {R : Nat → Nat → List nCd} (ht : ∀ I, t.2.2 I → ∀ y pc, ∀ c ∈ R y pc, ncOk I c) : nXs (nTm t ml) (nQ t Fr) sc (nrfX R) := by
  intro y r pc x outs ρ0 Q _ h hg
  unfold nrfX at h
  split at h
  · cases h
  · rename_i c l hR
    intro σ L st B I J hs hD hB hI
    have hC := ht I hI.2.1.1 y pc
    rw [hR] at hC
    obtain ⟨E', e1, e2⟩ := nrf_ok (l := c :: l) hs.2.2.2 hD hs.1 hC
    rw [e1] at h
    dsimp only at h
    cases hd : decide (E' = x.1.1) with
    | true => rw [hd] at h; cases h
    | false =>
      rw [hd] at h
      cases h
      exact hg _ List.mem_cons_self σ L st B I J ⟨e2, hs.2⟩ hD hB hI
/-- all slots from a on, n + 1 of them, that may be meant take what is between lo and hi, and may be changed -/
def nmk (T : kT) (ml : nMl) (p : Nat → Bool) (o : Nat) (lo hi : Int) : Nat → Nat → Bool
  | a, 0 => !p a || (Nat.beq (T.b o a).1 0 && (decide ((T.b o a).2.1 ≤ lo) && (decide (hi ≤ (T.b o a).2.2) && nmod ml o a)))
  | a, n + 1 => (!p a || (Nat.beq (T.b o a).1 0 && (decide ((T.b o a).2.1 ≤ lo) && (decide (hi ≤ (T.b o a).2.2) && nmod ml o a)))) && nmk T ml p o lo hi (a + 1) n
theorem nmk_ok {T : kT} {ml : nMl} {p : Nat → Bool} {o : Nat} {lo hi : Int} : ∀ (n a : Nat), nmk T ml p o lo hi a n = true → ∀ k, a ≤ k → k ≤ a + n → p k = true → (T.b o k).1 = 0 ∧ (T.b o k).2.1 ≤ lo ∧ hi ≤ (T.b o k).2.2 ∧ nmod ml o k = true
  | 0, a, h, k, h1, h2, hp => by
    have e : k = a := by omega
    subst e
    simp only [nmk, hp, Bool.not_true, Bool.false_or, Bool.and_eq_true, decide_eq_true_eq] at h
    exact ⟨Nat.eq_of_beq_eq_true h.1, h.2.1, h.2.2.1, h.2.2.2⟩
  | n + 1, a, h, k, h1, h2, hp => by
    simp only [nmk] at h
    rw [Bool.and_eq_true] at h
    by_cases e : k = a
    · subst e
      have g := h.1
      simp only [hp, Bool.not_true, Bool.false_or, Bool.and_eq_true, decide_eq_true_eq] at g
      exact ⟨Nat.eq_of_beq_eq_true g.1, g.2.1, g.2.2.1, g.2.2.2⟩
    · exact nmk_ok n (a + 1) h.2 k (by omega) (by omega) hp
/-- numbers worked out at once -/
def fz {α : Type} (c : Int) (k : Int → α) : α := match c with
  | .ofNat 0 => k (.ofNat 0)
  | .ofNat (Nat.succ n) => k (.ofNat (Nat.succ n))
  | .negSucc 0 => k (.negSucc 0)
  | .negSucc (Nat.succ n) => k (.negSucc (Nat.succ n))
theorem fz_eq {α : Type} {c : Int} {k : Int → α} : fz c k = k c := by
  unfold fz
  split <;> rfl
def fzp {α : Type} (b : Int × Int) (k : Int × Int → α) : α := fz b.1 (fun x => fz b.2 (fun y => k (x, y)))
theorem fzp_eq {α : Type} {b : Int × Int} {k : Int × Int → α} : fzp b k = k b := by
  unfold fzp
  rw [fz_eq, fz_eq]
def nisI (e : xE) : Bool := match e.1 with
  | .iastore => kz4 e
  | _ => false
theorem nisI_ok {e : xE} (h : nisI e = true) : e = (.iastore, 0, 0, 0) := by
  obtain ⟨i, a, b, z⟩ := e
  cases i <;> first | (cases h; done) | skip
  obtain ⟨rfl, rfl, rfl⟩ := kz4_ok h
  rfl
def nstX (T : kT) (nfr : Nat → Nat → Bool) (ml : nMl) (l : List nCd) (P : Nat → Nat → Bool) : Nat → Nat → nS → nX := fun y pc x => bif P y pc then (match xmeth y with
  | some r => (match xat r.1 pc with
    | some e => (match x.1.2.2.1 with
      | u :: j :: v :: S => bif nisI e && (Nat.beq u.1 0 && (Nat.beq j.1 0 && Nat.beq v.1 2)) then (match T.k v.2.1 with
        | some cm => (match kiv x.1.1 j with
          | some b => (match kiv x.1.1 u with
            | some w => fzp b (fun b => fzp w (fun w => bif ((Nat.beq cm.1 20 && decide (0 ≤ b.1)) && decide (b.2 < (cm.2 : Int))) && (nmk T ml (nrs (ncgf x.2 j.2.1 x.2) j.2.2) v.2.1 w.1 w.2 b.1.toNat (b.2 - b.1).toNat && ((decide (b.1 = b.2) && nfr v.2.1 b.1.toNat) || nmchk x.1.1 x.1.2.2.2 (kkill x.1.1 v.2.1 j.2.1 j.2.2 b.1 b.2 x.1.2.2.2) x.2 l [((v.2.1, j.2.1, j.2.2), b, w)])) then some [(pc + 1, ((x.1.1, x.1.2.1, S, ((v.2.1, j.2.1, j.2.2), u) :: kkill x.1.1 v.2.1 j.2.1 j.2.2 b.1 b.2 x.1.2.2.2), x.2))] else none))
            | none => none)
          | none => none)
        | none => none) else none
      | _ => none)
    | none => none)
  | none => none) else none
/-- a cell that is written: bounds and conditions hold again -/
theorem nI_put {t : nTb} {ml : nMl} {Fr : kQ} {G : tI → Prop} {l : List nCd} {B : xM} {I : tI} {J : tJ} {o k m : Nat} {v : Int32} (ht : ∀ I, t.2.2 I ↔ nCnd l I ∧ G I) (hG : ∀ I o k v, t.1.1 o ≠ none → G I → G (tup I o k v)) (hF : nFr ml Fr) (hI : kI (nTm t ml) (nQ t Fr) B I J) (ho : t.1.1 o = some (20, m)) (hm : nmod ml o k = true) (hv : (t.1.2 o k).2.1 ≤ v.toInt ∧ v.toInt ≤ (t.1.2 o k).2.2) (hC : nCnd l (tup I o k v)) : kI (nTm t ml) (nQ t Fr) B (tup I o k v) J := by
  have hne : ∀ o' k', nmod ml o' k' = false → ¬ (o' = o ∧ k' = k) := fun o' k' h e => by
    rw [e.1, e.2, hm] at h
    cases h
  refine ⟨?_, ⟨(ht _).mpr ⟨hC, hG I o k v (by rw [ho]; simp) ((ht I).mp hI.2.1.1).2⟩, hF _ _ _ _ _ _ hI.2.1.2 ⟨fun o' k' h => ⟨tup_ne (hne o' k' h), rfl⟩, fun _ => rfl, rfl, rfl⟩⟩, hI.2.2⟩
  intro o' kn k' h1 h2 h3
  by_cases e : o' = o ∧ k' = k
  · obtain ⟨rfl, rfl⟩ := e
    rw [tup_eq]
    exact hv
  · rw [tup_ne e]
    exact hI.1 o' kn k' h1 h2 h3
theorem nstX_ok {t : nTb} {nfr : Nat → Nat → Bool} {ml : nMl} {Fr : kQ} {sc : List Int32} {G : tI → Prop} {l : List nCd} {P : Nat → Nat → Bool} (hn : ∀ I o k v, nfr o k = true → nCnd l I → nCnd l (tup I o k v)) (ht : ∀ I, t.2.2 I ↔ nCnd l I ∧ G I) (hG : ∀ I o k v, t.1.1 o ≠ none → G I → G (tup I o k v)) (hF : nFr ml Fr) : nXs (nTm t ml) (nQ t Fr) sc (nstX (nTm t ml) nfr ml l P) := by
  intro y r pc x outs ρ0 Q hy h hg
  obtain ⟨⟨E, L, S, O⟩, D⟩ := x
  unfold nstX at h
  cases hP : P y pc with
  | false => rw [hP] at h; cases h
  | true =>
    rw [hP, hy] at h
    simp only [cond_true] at h
    cases he : xat r.1 pc with
    | none => rw [he] at h; cases h
    | some e =>
      rw [he] at h
      dsimp only at h
      split at h
      · rename_i u j v S'
        cases hb : (nisI e && (Nat.beq u.1 0 && (Nat.beq j.1 0 && Nat.beq v.1 2))) with
        | false => rw [hb] at h; cases h
        | true =>
          rw [hb] at h
          simp only [cond_true] at h
          simp only [Bool.and_eq_true] at hb
          obtain ⟨b1, b2, b3, b4⟩ := hb
          have e0 := nisI_ok b1
          subst e0
          obtain ⟨tu, ui, uc⟩ := u
          obtain ⟨tj, ji, jc⟩ := j
          obtain ⟨tv, o, d⟩ := v
          have e1 := Nat.eq_of_beq_eq_true b2
          have e2 := Nat.eq_of_beq_eq_true b3
          have e3 := Nat.eq_of_beq_eq_true b4
          dsimp only at e1 e2 e3 h
          subst e1 e2 e3
          split at h
          · rename_i cm hcm
            split at h
            · rename_i b hbj
              split at h
              · rename_i w hw
                rw [fzp_eq, fzp_eq] at h
                cases hc : (((Nat.beq cm.1 20 && decide (0 ≤ b.1)) && decide (b.2 < (cm.2 : Int))) && (nmk (nTm t ml) ml (nrs (ncgf D ji D) jc) o w.1 w.2 b.1.toNat (b.2 - b.1).toNat && ((decide (b.1 = b.2) && nfr o b.1.toNat) || nmchk E O (kkill E o ji jc b.1 b.2 O) D l [((o, ji, jc), b, w)]))) with
                | false => rw [hc] at h; cases h
                | true =>
                  rw [hc] at h
                  cases h
                  rw [Bool.and_eq_true, Bool.and_eq_true, Bool.and_eq_true, Bool.and_eq_true, decide_eq_true_eq, decide_eq_true_eq, Bool.or_eq_true] at hc
                  obtain ⟨⟨⟨c1, c2⟩, c3⟩, c4, c5⟩ := hc
                  obtain ⟨c0, m⟩ := cm
                  have c1 := Nat.eq_of_beq_eq_true c1
                  dsimp only at c1 c3
                  subst c1
                  intro σ L' st B I J ⟨k1, k2, k3, k4⟩ hD hB hI
                  obtain ⟨wv, stv, rfl, gv, w0, st0, rfl, g0, w1, st', rfl, g1, k3⟩ := k3
                  have e : w1 = .ref o := g1
                  subst e
                  obtain ⟨q, rfl, hq⟩ := id g0
                  obtain ⟨p, rfl, hp⟩ := id gv
                  obtain ⟨q1, q2, q3⟩ := kk_idx k1 hq hbj c2
                  have hxb := kiv_in k1 hq hbj
                  have hyb := kiv_in k1 hp hw
                  have hlt : q.toNatClampNeg < m := by omega
                  have hkn : knum (ρ0 ++ σ) (0, ji, jc) (q.toNatClampNeg : Int) := by rw [q1]; exact hq
                  obtain ⟨m1, m2, m3, m4⟩ := nmk_ok _ _ c4 q.toNatClampNeg q2 q3 (nrs_ok hD hkn)
                  have hO2 : kov (ρ0 ++ σ) (tup I o q.toNatClampNeg p) (kkill E o ji jc b.1 b.2 O) := kkill_ok k1 hkn (by omega) (by omega) k4
                  have hC : nCnd l (tup I o q.toNatClampNeg p) := by
                    rcases c5 with c5 | c5
                    · rw [Bool.and_eq_true, decide_eq_true_eq] at c5
                      have ek : b.1.toNat = q.toNatClampNeg := by omega
                      rw [ek] at c5
                      exact hn I o _ p c5.2 ((ht I).mp hI.2.1.1).1
                    refine nmchk_ok (I := I) k1 k4 hO2 hD ((ht I).mp hI.2.1.1).1 (fun q' hq' k hk => ?_) (fun o' k' => ?_) c5
                    · rw [List.mem_singleton] at hq'
                      subst hq'
                      dsimp only at hk ⊢
                      have ek : k = q.toNatClampNeg := by
                        have := knum_eq (x := (0, ji, jc)) (y := (0, ji, jc)) rfl hk hkn
                        omega
                      subst ek
                      rw [tup_eq]
                      omega
                    · by_cases e : o' = o ∧ k' = q.toNatClampNeg
                      · obtain ⟨rfl, rfl⟩ := e
                        exact Or.inr ⟨_, List.mem_cons_self, rfl, hkn⟩
                      · exact Or.inl (tup_ne e)
                  refine tx_iast he (kB_slot hB hcm hlt m1) (by omega) (hg _ List.mem_cons_self σ L' st' B (tup I o q.toNatClampNeg p) J ⟨k1, k2, k3, ?_⟩ hD hB (nI_put ht hG hF hI hcm m4 ⟨Int.le_trans m2 hyb.1, Int.le_trans hyb.2 m3⟩ hC))
                  intro q' hq'
                  rcases List.mem_cons.mp hq' with rfl | hq'
                  · refine ⟨q.toNatClampNeg, hkn, ?_⟩
                    dsimp only
                    rw [tup_eq]
                    exact hp
                  · exact hO2 q' hq'
              · cases h
            · cases h
          · cases h
      · cases h
