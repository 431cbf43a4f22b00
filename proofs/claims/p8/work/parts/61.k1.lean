/-! COMPARES, SUMS -/
def kcl (E : kE) (x y : kV) (d : Int) : Option kE := bif Nat.beq x.2.1 y.2.1 then (bif decide (x.2.2 + d ≤ y.2.2) then some E else none) else (match kiv E x with
  | some bx => (match kiv E y with
    | some b2 => (match kref E x bx.1 (b2.2 - d) with
      | some E1 => kref E1 y (bx.1 + d) b2.2
      | none => none)
    | none => none)
  | none => none)
theorem knum_eq {ρ : List Int} {x y : kV} {p q : Int} (he : x.2.1 = y.2.1) (hx : knum ρ x p) (hy : knum ρ y q) : p - x.2.2 = q - y.2.2 := by
  obtain ⟨z, h1, h2⟩ := hx
  obtain ⟨w, h3, h4⟩ := hy
  rw [he, h3] at h1
  cases h1
  omega
theorem kcl_ok {ρ : List Int} {E : kE} {x y : kV} {d p q : Int} (h : kin ρ E) (hx : knum ρ x p) (hy : knum ρ y q) (hd : p + d ≤ q) : ∃ E', kcl E x y d = some E' ∧ kin ρ E' := by
  unfold kcl
  cases hb : Nat.beq x.2.1 y.2.1 with
  | true =>
    have := knum_eq (Nat.eq_of_beq_eq_true hb) hx hy
    simp only [cond_true]
    rw [decide_eq_true (by omega : x.2.2 + d ≤ y.2.2)]
    exact ⟨E, rfl, h⟩
  | false =>
    simp only [cond_false]
    obtain ⟨bx, h1, h2, h3⟩ := kiv_ok h hx
    obtain ⟨b2, h4, h5, h6⟩ := kiv_ok h hy
    rw [h1]
    dsimp only
    rw [h4]
    dsimp only
    obtain ⟨E1, g1, g2⟩ := kref_ok (lo := bx.1) (hi := b2.2 - d) h hx h2 (by omega)
    rw [g1]
    exact kref_ok g2 hy (by omega) h6
def kce (E : kE) (x y : kV) : Option kE := bif Nat.beq x.2.1 y.2.1 then (bif decide (x.2.2 = y.2.2) then some E else none) else (match kiv E x with
  | some bx => (match kiv E y with
    | some b2 => (match kref E x b2.1 b2.2 with
      | some E1 => kref E1 y bx.1 bx.2
      | none => none)
    | none => none)
  | none => none)
theorem kce_ok {ρ : List Int} {E : kE} {x y : kV} {p q : Int} (h : kin ρ E) (hx : knum ρ x p) (hy : knum ρ y q) (hd : p = q) : ∃ E', kce E x y = some E' ∧ kin ρ E' := by
  unfold kce
  cases hb : Nat.beq x.2.1 y.2.1 with
  | true =>
    have := knum_eq (Nat.eq_of_beq_eq_true hb) hx hy
    simp only [cond_true]
    rw [decide_eq_true (by omega : x.2.2 = y.2.2)]
    exact ⟨E, rfl, h⟩
  | false =>
    simp only [cond_false]
    obtain ⟨bx, h1, h2, h3⟩ := kiv_ok h hx
    obtain ⟨b2, h4, h5, h6⟩ := kiv_ok h hy
    rw [h1]
    dsimp only
    rw [h4]
    dsimp only
    obtain ⟨E1, g1, g2⟩ := kref_ok (lo := b2.1) (hi := b2.2) h hx (by omega) (by omega)
    rw [g1]
    exact kref_ok g2 hy (by omega) (by omega)
def kcn1 (E : kE) (x : kV) (bx : Int × Int) (c : Int) : Option kE := bif decide (bx.1 = c) then kref E x (c + 1) bx.2 else bif decide (bx.2 = c) then kref E x bx.1 (c - 1) else some E
theorem kcn1_ok {ρ : List Int} {E : kE} {x : kV} {bx : Int × Int} {c p : Int} (h : kin ρ E) (hx : knum ρ x p) (h1 : bx.1 ≤ p) (h2 : p ≤ bx.2) (hd : p ≠ c) : ∃ E', kcn1 E x bx c = some E' ∧ kin ρ E' := by
  unfold kcn1
  cases hb : decide (bx.1 = c) with
  | true =>
    have := of_decide_eq_true hb
    exact kref_ok h hx (by omega) h2
  | false =>
    simp only [cond_false]
    cases hb2 : decide (bx.2 = c) with
    | true =>
      have := of_decide_eq_true hb2
      exact kref_ok h hx h1 (by omega)
    | false => exact ⟨E, rfl, h⟩
def kcn (E : kE) (x y : kV) : Option kE := bif Nat.beq x.2.1 y.2.1 then (bif decide (x.2.2 = y.2.2) then none else some E) else (match kiv E x with
  | some bx => (match kiv E y with
    | some b2 => bif decide (b2.1 = b2.2) then kcn1 E x bx b2.1 else bif decide (bx.1 = bx.2) then kcn1 E y b2 bx.1 else some E
    | none => none)
  | none => none)
theorem kcn_ok {ρ : List Int} {E : kE} {x y : kV} {p q : Int} (h : kin ρ E) (hx : knum ρ x p) (hy : knum ρ y q) (hd : p ≠ q) : ∃ E', kcn E x y = some E' ∧ kin ρ E' := by
  unfold kcn
  cases hb : Nat.beq x.2.1 y.2.1 with
  | true =>
    have := knum_eq (Nat.eq_of_beq_eq_true hb) hx hy
    simp only [cond_true]
    rw [decide_eq_false (by omega : ¬ x.2.2 = y.2.2)]
    exact ⟨E, rfl, h⟩
  | false =>
    simp only [cond_false]
    obtain ⟨bx, h1, h2, h3⟩ := kiv_ok h hx
    obtain ⟨b2, h4, h5, h6⟩ := kiv_ok h hy
    rw [h1]
    dsimp only
    rw [h4]
    dsimp only
    cases hc : decide (b2.1 = b2.2) with
    | true =>
      have := of_decide_eq_true hc
      exact kcn1_ok h hx h2 h3 (by omega)
    | false =>
      simp only [cond_false]
      cases hc2 : decide (bx.1 = bx.2) with
      | true =>
        have := of_decide_eq_true hc2
        exact kcn1_ok h hy h5 h6 (by omega)
      | false => exact ⟨E, rfl, h⟩
/-- a compare that holds -/
def kcmp (c : ClassFile.Cond) (E : kE) (x y : kV) : Option kE := match c with
  | .eq => kce E x y
  | .ne => kcn E x y
  | .lt => kcl E x y 1
  | .ge => kcl E y x 0
  | .gt => kcl E y x 1
  | .le => kcl E x y 0
def kneg (c : ClassFile.Cond) : ClassFile.Cond := match c with
  | .eq => .ne
  | .ne => .eq
  | .lt => .ge
  | .ge => .lt
  | .gt => .le
  | .le => .gt
theorem xcmp_neg {c : ClassFile.Cond} {x y : Int32} (h : xcmp c x y = false) : xcmp (kneg c) x y = true := by
  cases c
  · rw [tc_eq] at h; show xcmp .ne x y = true; rw [tc_ne, h]; rfl
  · rw [tc_ne] at h; show xcmp .eq x y = true; rw [tc_eq]; simpa using h
  · rw [tc_lt] at h; show xcmp .ge x y = true; rw [tc_ge]; have := of_decide_eq_false h; exact decide_eq_true (by omega)
  · rw [tc_ge] at h; show xcmp .lt x y = true; rw [tc_lt]; have := of_decide_eq_false h; exact decide_eq_true (by omega)
  · rw [tc_gt] at h; show xcmp .le x y = true; rw [tc_le]; have := of_decide_eq_false h; exact decide_eq_true (by omega)
  · rw [tc_le] at h; show xcmp .gt x y = true; rw [tc_gt]; have := of_decide_eq_false h; exact decide_eq_true (by omega)
theorem kcmp_ok {c : ClassFile.Cond} {ρ : List Int} {E : kE} {x y : kV} {p q : Int32} (h : kin ρ E) (hx : knum ρ x p.toInt) (hy : knum ρ y q.toInt) (hc : xcmp c p q = true) : ∃ E', kcmp c E x y = some E' ∧ kin ρ E' := by
  cases c
  · rw [tc_eq] at hc; exact kce_ok h hx hy (of_decide_eq_true hc)
  · rw [tc_ne] at hc; exact kcn_ok h hx hy (by simpa using hc)
  · rw [tc_lt] at hc; have := of_decide_eq_true hc; exact kcl_ok h hx hy (by omega)
  · rw [tc_ge] at hc; have := of_decide_eq_true hc; exact kcl_ok h hy hx (by omega)
  · rw [tc_gt] at hc; have := of_decide_eq_true hc; exact kcl_ok h hy hx (by omega)
  · rw [tc_le] at hc; have := of_decide_eq_true hc; exact kcl_ok h hx hy (by omega)
/-- the first id is 0 -/
def kz (E : kE) : Bool := match E with
  | b :: _ => decide (b.1 = 0) && decide (b.2 = 0)
  | [] => false
theorem kz_ok {ρ : List Int} {E : kE} (h : kin ρ E) (hz : kz E = true) (c : Int) (t : Nat) : knum ρ (t, 0, c) c := by
  cases E with
  | nil => cases hz
  | cons b E =>
    cases ρ with
    | nil => exact h.elim
    | cons z ρ =>
      simp only [kz, Bool.and_eq_true, decide_eq_true_eq] at hz
      have hz' : z = 0 := by have := h.1; omega
      subst hz'
      exact ⟨0, rfl, by simp⟩
/-- x + s * y, s = 1 or -1, within lo and hi; else any number between lo and hi -/
def kadd (t : Nat) (lo hi s : Int) (E : kE) (x y : kV) : Option (kE × kV) := match kiv E x with
  | some bx => (match kiv E y with
    | some b2 => bif kz E && Nat.beq y.2.1 0 && (decide (lo ≤ bx.1 + s * y.2.2) && decide (bx.2 + s * y.2.2 ≤ hi)) then some (E, (t, x.2.1, x.2.2 + s * y.2.2)) else
        bif decide (s = 1) then (bif decide (lo ≤ bx.1 + b2.1) && decide (bx.2 + b2.2 ≤ hi) then some (E ++ [(bx.1 + b2.1, bx.2 + b2.2)], (t, E.length, 0)) else some (E ++ [(lo, hi)], (t, E.length, 0))) else
        bif decide (lo ≤ bx.1 - b2.2) && decide (bx.2 - b2.1 ≤ hi) then some (E ++ [(bx.1 - b2.2, bx.2 - b2.1)], (t, E.length, 0)) else some (E ++ [(lo, hi)], (t, E.length, 0))
    | none => none)
  | none => none
/-- a sum that is taken round at the type's ends: r is the sum where that is within the type -/
theorem kadd_ok {t : Nat} {lo hi s : Int} {ρ : List Int} {E E' : kE} {x y v : kV} {p q r : Int} (hs : s = 1 ∨ s = -1) (h : kin ρ E) (hx : knum ρ x p) (hy : knum ρ y q) (hr : lo ≤ p + s * q → p + s * q ≤ hi → r = p + s * q) (hl : lo ≤ r) (hh : r ≤ hi) (hk : kadd t lo hi s E x y = some (E', v)) : ∃ σ, kin (ρ ++ σ) E' ∧ knum (ρ ++ σ) v r ∧ v.1 = t := by
  unfold kadd at hk
  obtain ⟨bx, h1, h2, h3⟩ := kiv_ok h hx
  obtain ⟨b2, h4, h5, h6⟩ := kiv_ok h hy
  rw [h1] at hk
  dsimp only at hk
  rw [h4] at hk
  dsimp only at hk
  cases hb : (kz E && Nat.beq y.2.1 0 && (decide (lo ≤ bx.1 + s * y.2.2) && decide (bx.2 + s * y.2.2 ≤ hi))) with
  | true =>
    rw [hb] at hk
    cases hk
    simp only [Bool.and_eq_true, decide_eq_true_eq] at hb
    obtain ⟨⟨g1, g2⟩, g3, g4⟩ := hb
    have e0 : q = y.2.2 := by
      obtain ⟨z, k1, k2⟩ := hy
      obtain ⟨z', k3, k4⟩ := kz_ok h g1 0 0
      rw [Nat.eq_of_beq_eq_true g2] at k1
      have k3' : xnth ρ 0 = some z' := k3
      rw [k3'] at k1
      cases k1
      dsimp only at k4
      omega
    subst e0
    refine ⟨[], by simpa using h, ?_, rfl⟩
    obtain ⟨z, k1, k2⟩ := hx
    refine ⟨z, by simpa using k1, ?_⟩
    dsimp only
    have : r = p + s * y.2.2 := hr (by omega) (by omega)
    omega
  | false =>
    rw [hb] at hk
    simp only [cond_false] at hk
    have fresh : ∀ b : Int × Int, b.1 ≤ r → r ≤ b.2 → some (E ++ [b], (t, E.length, (0 : Int))) = some (E', v) → ∃ σ, kin (ρ ++ σ) E' ∧ knum (ρ ++ σ) v r ∧ v.1 = t := fun b k1 k2 e => by
      cases e
      exact ⟨[r], kin_app h k1 k2, ⟨r, kin_new h, by simp⟩, rfl⟩
    cases hb2 : decide (s = 1) with
    | true =>
      have e1 := of_decide_eq_true hb2
      subst e1
      rw [hb2] at hk
      simp only [cond_true] at hk
      cases hb3 : (decide (lo ≤ bx.1 + b2.1) && decide (bx.2 + b2.2 ≤ hi)) with
      | true =>
        rw [hb3] at hk
        simp only [Bool.and_eq_true, decide_eq_true_eq] at hb3
        have := hr (by omega) (by omega)
        exact fresh _ (by dsimp only; omega) (by dsimp only; omega) hk
      | false => rw [hb3] at hk; exact fresh _ hl hh hk
    | false =>
      have e1 : s = -1 := by
        rcases hs with q | q
        · exact absurd q (of_decide_eq_false hb2)
        · exact q
      subst e1
      rw [hb2] at hk
      simp only [cond_false] at hk
      cases hb3 : (decide (lo ≤ bx.1 - b2.2) && decide (bx.2 - b2.1 ≤ hi)) with
      | true =>
        rw [hb3] at hk
        simp only [Bool.and_eq_true, decide_eq_true_eq] at hb3
        have := hr (by omega) (by omega)
        exact fresh _ (by dsimp only; omega) (by dsimp only; omega) hk
      | false => rw [hb3] at hk; exact fresh _ hl hh hk
