/-! BOTH READ THE SAME TOKEN -/
def RT (t : Nat → Int32) (n : Nat) (Ic : tI) (Jc : tJ) (Ir : tI) : Prop := n ≤ 900 ∧ byt t n ∧ (Ic 8 1 = Int32.ofNat n ∧ Ir 185 11 = Int32.ofNat n) ∧ ((∀ i, i < n → Ic 9 i = t i) ∧ (∀ i, i < n → Ir 192 i = t i)) ∧ ∃ s, s ≤ n ∧ Ic 8 3 = Int32.ofNat s ∧ Ir 185 13 = Int32.ofNat s ∧ tokC t n s Ic Jc ∧ tokR t n s Ir
/-- what both are, by cases: the end, a word, a number, a sign, nothing -/
theorem RT_cases {t : Nat → Int32} {n : Nat} {Ic Ir : tI} {Jc : tJ} (h : RT t n Ic Jc Ir) : ∃ s e, s ≤ e ∧ e ≤ n ∧ Ic 8 3 = Int32.ofNat s ∧ Ir 185 13 = Int32.ofNat s ∧ Ic 8 4 = Int32.ofNat e ∧ Ir 185 14 = Int32.ofNat e ∧
    ((Ic 8 2 = 0 ∧ Ir 185 12 = 0 ∧ Ic 8 5 = -1) ∨
     (Ic 8 2 = 1 ∧ Ir 185 12 = 2 ∧ Ic 8 5 = scC t s e (flW wsC) 0 s true ∧ Jc 8 6 = lxN t n s (n - s) s 0 ∧ s < e ∧ e = lxW t n (n - s) s) ∨
     (Ic 8 2 = 2 ∧ Ir 185 12 = 3 ∧ Ic 8 5 = -1 ∧ Ic 8 7 = Ir 185 15) ∨
     (Ic 8 2 = 3 ∧ Ir 185 12 = 4 ∧ Ic 8 5 = -1 ∧ Ic 8 7 = Ir 185 15) ∨
     (Ic 8 2 = 4 ∧ Ir 185 12 = 1 ∧ Ic 8 5 = -1)) := by
  obtain ⟨hn9, hb, -, -, s, hs, h3, h13, hc, hr⟩ := h
  rcases hc with ⟨c0, c2, c4, c5⟩ | ⟨c0, c2, c4, c5, c6⟩ | ⟨c0, c2, c4, c5, c7⟩ | ⟨c0, c2, c4, c5, c7⟩
  · rcases hr with ⟨r0, r2, r4⟩ | ⟨r0, -⟩ | ⟨r0, -⟩ | ⟨r0, -⟩
    · exact ⟨s, s, Nat.le_refl _, hs, h3, h13, c4, r4, Or.inl ⟨c2, r2, c5⟩⟩
    all_goals exact absurd r0.1 (by omega)
  · rcases hr with ⟨r0, -⟩ | ⟨r0, r2, r4⟩ | ⟨r0, -⟩ | ⟨r0, -⟩
    · exact absurd c0.1 (by omega)
    · have hl := lxW_le (t := t) (n - s) s hs
      refine ⟨s, lxW t n (n - s) s, hl.1, hl.2, h3, h13, c4, r4, Or.inr (Or.inl ⟨c2, r2, c5, c6, ?_, rfl⟩)⟩
      have e : n - s = (n - (s + 1)) + 1 := by omega
      rw [e]
      simp only [lxW]
      rw [if_pos c0]
      have := lxW_le (t := t) (n := n) (n - (s + 1)) (s + 1) (by omega)
      omega
    · exact absurd c0.2 (by omega)
    · exact absurd c0.2 r0.2.1
  · rcases hr with ⟨r0, -⟩ | ⟨r0, -⟩ | ⟨r0, r2, r4, r5⟩ | ⟨r0, -⟩
    · exact absurd c0.1 (by omega)
    · exact absurd c0.2 (by omega)
    · have hl := lxG_ge (t := t) (n := n) (n - s) s
      have hl2 := lxG_le (t := t) (n := n) (n - s) s hs
      refine ⟨s, lxG t n (n - s) s, hl, hl2, h3, h13, c4, r4, ?_⟩
      by_cases h4 : lxG t n (n - s) s - s ≤ 4
      · rw [if_pos h4] at c2 r2
        refine Or.inr (Or.inr (Or.inl ⟨c2, r2, c5, ?_⟩))
        rw [c7, r5]
        exact (lxR_V (n - s) s 0 (Nat.le_refl _) (Int.le_refl _) (by rw [Nat.sub_self]; decide) (by omega)).symm
      · rw [if_neg h4] at c2 r2
        exact Or.inr (Or.inr (Or.inr (Or.inr ⟨c2, r2, c5⟩)))
    · exact absurd c0.2 r0.2.2
  · rcases hr with ⟨r0, -⟩ | ⟨r0, -⟩ | ⟨r0, -⟩ | ⟨r0, r2, r4, r5⟩
    · exact absurd c0.1 (by omega)
    · exact absurd r0.2 c0.2.1
    · exact absurd r0.2 c0.2.2
    · refine ⟨s, s + 1, by omega, by have := c0.1; omega, h3, h13, c4, r4, ?_⟩
      by_cases hsg : t s = 59 ∨ t s = 60 ∨ t s = 62 ∨ t s = 61
      · rw [if_pos hsg] at c2 r2
        refine Or.inr (Or.inr (Or.inr (Or.inl ⟨c2, r2, c5, ?_⟩)))
        rw [c7, r5]
        rcases hsg with q | q | q | q <;> (rw [q]; rfl)
      · rw [if_neg hsg] at c2 r2
        exact Or.inr (Or.inr (Or.inr (Or.inr ⟨c2, r2, c5⟩)))
theorem RT_adv {t : Nat → Int32} {n N N' : Nat} {Ic Ir Ic' Ir' : tI} {Jc Jr Jc' Jr' : tJ} {u u' : Unit} (h : RT t n Ic Jc Ir) (hc : f25_8 N Ic Jc = some (u, Ic', Jc')) (hr : f222_185 N' Ir Jr = some (u', Ir', Jr')) : RT t n Ic' Jc' Ir' ∧ frC Ic Ic' ∧ (∀ o k, ¬ (o = 8 ∧ k = 6) → Jc' o k = Jc o k) ∧ frR Ir Ir' ∧ Jr' = Jr := by
  obtain ⟨s, e, -, hen, -, -, h4, h14, -⟩ := RT_cases h
  obtain ⟨hn9, hb, ⟨h1, h11⟩, ⟨ht, ht'⟩, -⟩ := h
  obtain ⟨a1, a2, a3, a4⟩ := adv_c hn9 hen h1 h4 ht hc
  obtain ⟨b1, b2, b3, b4⟩ := adv_r hn9 hb hen h11 h14 ht' hr
  have hl := lxS_le (t := t) (n - e) e hen
  exact ⟨⟨hn9, hb, ⟨by rw [a1 8 1 (by omega)]; exact h1, by rw [b1 185 11 (by omega)]; exact h11⟩, ⟨fun i hi => by rw [a1 9 i (by omega)]; exact ht i hi, fun i hi => by rw [b1 192 i (by omega)]; exact ht' i hi⟩, _, hl.2, a3, b3, a4, b4⟩, a1, a2, b1, b2⟩
/-- the number of a word, of both -/
def RW (w c : Int32) : Prop := (w = -1 ∧ c = -1) ∨ ∃ j, j < 31 ∧ w = Int32.ofNat j ∧ c = Int32.ofNat (wpi.getD j 0)
theorem RT_word {t : Nat → Int32} {n N : Nat} {Ic Ir : tI} {Jc Jr : tJ} {q : Int32 × tI × tJ} (h : RT t n Ic Jc Ir) (hr : f224_185_1002 N Ir Jr = some q) : ∃ w, q = (w, Ir, Jr) ∧ RW w (Ic 8 5) := by
  obtain ⟨s, e, hse, hen, h3, h13, h4, h14, hk⟩ := RT_cases h
  obtain ⟨hn9, hb, ⟨h1, h11⟩, ⟨ht, ht'⟩, -⟩ := h
  have hq := f224_is hn9 hb hse hen h11 h13 h14 ht' hr
  refine ⟨_, hq, ?_⟩
  rcases hk with ⟨a, b, c⟩ | ⟨a, b, c, -⟩ | ⟨a, b, c, -⟩ | ⟨a, b, c, -⟩ | ⟨a, b, c⟩
  · rw [b, if_neg (by decide), c]; exact Or.inl ⟨rfl, rfl⟩
  · rw [b, if_pos rfl, c]
    exact word_rel
  · rw [b, if_neg (by decide), c]; exact Or.inl ⟨rfl, rfl⟩
  · rw [b, if_neg (by decide), c]; exact Or.inl ⟨rfl, rfl⟩
  · rw [b, if_neg (by decide), c]; exact Or.inl ⟨rfl, rfl⟩
