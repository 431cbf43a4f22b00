/-! LINEAR FACTS OF IDS: sum of c * z at most d -/
abbrev kF : Type := List (Int × Nat) × Int
def kls (ρ : List Int) : List (Int × Nat) → Option Int
  | [] => some 0
  | q :: l => match xnth ρ q.2 with
    | some z => (match kls ρ l with
      | some s => some (q.1 * z + s)
      | none => none)
    | none => none
def kfo (ρ : List Int) (f : kF) : Prop := ∃ s, kls ρ f.1 = some s ∧ s ≤ f.2
def kfs (ρ : List Int) (D : List kF) : Prop := ∀ f ∈ D, kfo ρ f
theorem kls_ap {ρ σ : List Int} : ∀ {l : List (Int × Nat)} {s : Int}, kls ρ l = some s → kls (ρ ++ σ) l = some s
  | [], _, h => h
  | q :: l, s, h => by
    simp only [kls] at h ⊢
    cases hz : xnth ρ q.2 with
    | none => rw [hz] at h; cases h
    | some z =>
      rw [hz] at h
      rw [xnth_ap hz]
      dsimp only at h ⊢
      cases hs : kls ρ l with
      | none => rw [hs] at h; cases h
      | some t =>
        rw [hs] at h
        rw [kls_ap hs]
        exact h
theorem kfo_ap {ρ σ : List Int} {f : kF} (h : kfo ρ f) : kfo (ρ ++ σ) f := by
  obtain ⟨s, h1, h2⟩ := h
  exact ⟨s, kls_ap h1, h2⟩
theorem kfs_ap {ρ σ : List Int} {D : List kF} (h : kfs ρ D) : kfs (ρ ++ σ) D := fun f hf => kfo_ap (h f hf)
theorem kfs_cons {ρ : List Int} {f : kF} {D : List kF} (h : kfo ρ f) (hD : kfs ρ D) : kfs ρ (f :: D) := fun g hg => by
  rcases List.mem_cons.mp hg with rfl | hg
  · exact h
  · exact hD g hg
theorem kls_two {ρ : List Int} {a b : Int} {i j : Nat} {p q : Int} (h1 : xnth ρ i = some p) (h2 : xnth ρ j = some q) : kls ρ [(a, i), (b, j)] = some (a * p + (b * q + 0)) := by
  simp only [kls, h1, h2]
theorem kls_three {ρ : List Int} {a b c : Int} {i j k : Nat} {p q u : Int} (h1 : xnth ρ i = some p) (h2 : xnth ρ j = some q) (h3 : xnth ρ k = some u) : kls ρ [(a, i), (b, j), (c, k)] = some (a * p + (b * q + (c * u + 0))) := by
  simp only [kls, h1, h2, h3]
/-- a term put among others, added where its id is there -/
def kins (q : Int × Nat) : List (Int × Nat) → List (Int × Nat)
  | [] => [q]
  | p :: l => bif Nat.beq p.2 q.2 then (p.1 + q.1, p.2) :: l else p :: kins q l
theorem kins_ok {ρ : List Int} {q : Int × Nat} : ∀ (l : List (Int × Nat)), kls ρ (kins q l) = kls ρ (q :: l)
  | [] => rfl
  | p :: l => by
    simp only [kins]
    cases hb : Nat.beq p.2 q.2 with
    | true =>
      have e := Nat.eq_of_beq_eq_true hb
      simp only [cond_true, kls, e]
      cases xnth ρ q.2 with
      | none => rfl
      | some z =>
        cases kls ρ l with
        | none => rfl
        | some s =>
          dsimp only
          rw [Int.add_mul]
          congr 1
          omega
    | false =>
      simp only [cond_false]
      have ih := kins_ok (ρ := ρ) (q := q) l
      simp only [kls] at ih ⊢
      rw [ih]
      cases xnth ρ q.2 with
      | none => cases xnth ρ p.2 with
        | none => rfl
        | some _ => rfl
      | some z =>
        cases xnth ρ p.2 with
        | none => cases kls ρ l with
          | none => rfl
          | some _ => rfl
        | some w =>
          cases kls ρ l with
          | none => rfl
          | some s =>
            dsimp only
            congr 1
            omega
def kmgs : List (Int × Nat) → List (Int × Nat)
  | [] => []
  | q :: l => kins q (kmgs l)
theorem kmgs_ok {ρ : List Int} : ∀ (l : List (Int × Nat)), kls ρ (kmgs l) = kls ρ l
  | [] => rfl
  | q :: l => by
    simp only [kmgs]
    rw [kins_ok]
    simp only [kls, kmgs_ok l]
/-- the most that a sum can be -/
def kub (E : kE) : List (Int × Nat) → Option Int
  | [] => some 0
  | q :: l => match xnth E q.2 with
    | some b => (match kub E l with
      | some u => some ((bif decide (0 ≤ q.1) then q.1 * b.2 else q.1 * b.1) + u)
      | none => none)
    | none => none
theorem kin_get : ∀ {ρ : List Int} {E : kE} {i : Nat} {b : Int × Int}, kin ρ E → xnth E i = some b → ∃ z, xnth ρ i = some z ∧ b.1 ≤ z ∧ z ≤ b.2
  | [], [], _, _, _, h => by cases h
  | z :: _, b :: _, 0, _, h, h2 => by
    simp only [xnth, Option.some.injEq] at h2
    subst h2
    exact ⟨z, rfl, h.1⟩
  | _ :: _, _ :: _, i + 1, _, h, h2 => kin_get (i := i) h.2 h2
  | [], _ :: _, _, _, h, _ => h.elim
  | _ :: _, [], _, _, h, _ => h.elim
theorem kub_ok {ρ : List Int} {E : kE} (h : kin ρ E) : ∀ {l : List (Int × Nat)} {u : Int}, kub E l = some u → ∃ s, kls ρ l = some s ∧ s ≤ u
  | [], u, hu => by
    cases hu
    exact ⟨0, rfl, Int.le_refl _⟩
  | q :: l, u, hu => by
    simp only [kub] at hu
    cases hb : xnth E q.2 with
    | none => rw [hb] at hu; cases hu
    | some b =>
      rw [hb] at hu
      dsimp only at hu
      cases hv : kub E l with
      | none => rw [hv] at hu; cases hu
      | some v =>
        rw [hv] at hu
        dsimp only at hu
        obtain ⟨z, h1, h2, h3⟩ := kin_get h hb
        obtain ⟨s, g1, g2⟩ := kub_ok h hv
        refine ⟨q.1 * z + s, by simp only [kls, h1, g1], ?_⟩
        cases hd : decide (0 ≤ q.1) with
        | true =>
          rw [hd] at hu
          cases hu
          have := Int.mul_le_mul_of_nonneg_left h3 (of_decide_eq_true hd)
          simp only [cond_true]
          omega
        | false =>
          rw [hd] at hu
          cases hu
          have hn := of_decide_eq_false hd
          have := Int.mul_le_mul_of_nonpos_left (show q.1 ≤ 0 by omega) h2
          simp only [cond_false]
          omega
def kngl : List (Int × Nat) → List (Int × Nat)
  | [] => []
  | q :: l => (-q.1, q.2) :: kngl l
theorem kls_app {ρ : List Int} : ∀ {l m : List (Int × Nat)} {s : Int}, kls ρ (l ++ m) = some s → ∃ a b, kls ρ l = some a ∧ kls ρ m = some b ∧ s = a + b
  | [], m, s, h => ⟨0, s, rfl, h, by omega⟩
  | q :: l, m, s, h => by
    simp only [List.cons_append, kls] at h ⊢
    cases hz : xnth ρ q.2 with
    | none => rw [hz] at h; cases h
    | some z =>
      rw [hz] at h
      dsimp only at h ⊢
      cases ht : kls ρ (l ++ m) with
      | none => rw [ht] at h; cases h
      | some t =>
        rw [ht] at h
        cases h
        obtain ⟨a, b, h1, h2, h3⟩ := kls_app ht
        rw [h1]
        exact ⟨_, b, rfl, h2, by omega⟩
theorem kls_neg {ρ : List Int} : ∀ {l : List (Int × Nat)} {s : Int}, kls ρ (kngl l) = some s → kls ρ l = some (-s)
  | [], s, h => by cases h; rfl
  | q :: l, s, h => by
    simp only [kngl, kls] at h ⊢
    cases hz : xnth ρ q.2 with
    | none => rw [hz] at h; cases h
    | some z =>
      rw [hz] at h
      dsimp only at h ⊢
      cases ht : kls ρ (kngl l) with
      | none => rw [ht] at h; cases h
      | some t =>
        rw [ht] at h
        cases h
        rw [kls_neg ht, Int.neg_mul]
        dsimp only
        congr 1
        omega
def kdir (E : kE) (l : List (Int × Nat)) (d : Int) : Bool := match kub E (kmgs l) with
  | some u => decide (u ≤ d)
  | none => false
theorem kdir_ok {ρ : List Int} {E : kE} {l : List (Int × Nat)} {d : Int} (h : kin ρ E) (hd : kdir E l d = true) : ∃ s, kls ρ l = some s ∧ s ≤ d := by
  unfold kdir at hd
  split at hd
  · rename_i u hu
    obtain ⟨s, h1, h2⟩ := kub_ok h hu
    have := of_decide_eq_true hd
    rw [kmgs_ok] at h1
    exact ⟨s, h1, by omega⟩
  · cases hd
/-- what follows from bounds and at most two of the facts -/
def kent (E : kE) (D : List kF) (f : kF) : Bool := kdir E f.1 f.2 || (D.any (fun g => kdir E (f.1 ++ kngl g.1) (f.2 - g.2)) || D.any (fun g => D.any (fun h => kdir E (f.1 ++ (kngl g.1 ++ kngl h.1)) (f.2 - g.2 - h.2))))
theorem kent_ok {ρ : List Int} {E : kE} {D : List kF} {f : kF} (h : kin ρ E) (hD : kfs ρ D) (hf : kent E D f = true) : kfo ρ f := by
  unfold kent at hf
  rw [Bool.or_eq_true, Bool.or_eq_true] at hf
  rcases hf with hf | hf | hf
  · exact kdir_ok h hf
  · obtain ⟨g, hg, h1⟩ := List.any_eq_true.mp hf
    obtain ⟨s, h2, h3⟩ := kdir_ok h h1
    obtain ⟨a, b, h4, h5, h6⟩ := kls_app h2
    obtain ⟨t, h7, h8⟩ := hD g hg
    rw [kls_neg h5] at h7
    cases h7
    exact ⟨a, h4, by omega⟩
  · obtain ⟨g, hg, h1⟩ := List.any_eq_true.mp hf
    obtain ⟨g', hg', h1⟩ := List.any_eq_true.mp h1
    obtain ⟨s, h2, h3⟩ := kdir_ok h h1
    obtain ⟨a, b, h4, h5, h6⟩ := kls_app h2
    obtain ⟨c, d, k4, k5, k6⟩ := kls_app h5
    obtain ⟨t, h7, h8⟩ := hD g hg
    obtain ⟨t', h7', h8'⟩ := hD g' hg'
    rw [kls_neg k4] at h7
    cases h7
    rw [kls_neg k5] at h7'
    cases h7'
    exact ⟨a, h4, by omega⟩
