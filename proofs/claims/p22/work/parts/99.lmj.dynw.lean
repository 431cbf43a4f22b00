/-! THE WORLD BUT FOR ITS RUNS -/
def WQ (b sl u : Nat) (Ic : tI) (Jc : tJ) (Ir : tI) (Jr : tJ) : Prop := ∃ P S B W D s, WKn b sl P S B W D s Ic Ir ∧ WKw b sl Jc Ir ∧ FKp (b + 2) (sl + 40) s W D P Ic Ir ∧ WKs b sl S P Ic Ir ∧ WKb b sl B Ic Ir ∧ WKo b sl Ic Ir ∧ WKt b u P S B Jc Jr
section WQC
variable {b sl u b' sl' u' : Nat} {Ic Ir Ic' Ir' : tI} {Jc Jr Jc' Jr' : tJ}
theorem WQ_of (h : WK b sl u Ic Jc Ir Jr) : WQ b sl u Ic Jc Ir Jr := by
  obtain ⟨P, S, B, W, D, s, h1, h2, h3, h4, h5, h6, h7, -⟩ := h
  exact ⟨P, S, B, W, D, s, h1, h2, h3, h4, h5, h6, h7⟩
theorem WQ_cp (h : WQ b sl u Ic Jc Ir Jr) (h1 : ∀ j k, cpI j k → Ic' (b' + j) k = Ic (b + j) k) (h2 : ∀ j k, cpJ j k → Jc' (b' + j) k = Jc (b + j) k) (h3 : ∀ k, k < 612 → Ir' 186 (sl' + k) = Ir 186 (sl + k)) (h4 : ∀ k, k < 15 → Jr' 187 (u' + k) = Jr 187 (u + k)) : WQ b' sl' u' Ic' Jc' Ir' Jr' := by
  obtain ⟨P, S, B, W, D, s, ⟨⟨⟨g1, g2, g3⟩, ⟨g4, g5⟩, g6⟩, ⟨a1, a2, a3, a4, a5, a6⟩, ⟨b1, b2, b3, b4, b5, b6⟩, b7, b8⟩, hw, hf, hs, hb, ho, ht⟩ := h
  have hc0 : ∀ k, 4 ≤ k → k ≤ 6 → Ic' b' k = Ic b k := fun k q1 q2 => h1 0 k (Or.inl ⟨rfl, q1, q2⟩)
  have hr0 : Ir' 186 sl' = Ir 186 sl := h3 0 (by omega)
  have h3' : ∀ k q, q = sl + k → k < 612 → Ir' 186 (sl' + k) = Ir 186 q := fun k q e hk => by rw [e]; exact h3 k hk
  refine ⟨P, S, B, W, D, s, ⟨⟨⟨g1, g2, g3⟩, ⟨g4, g5⟩, g6⟩, ⟨?_, ?_, ?_, ?_, ?_, ?_⟩, ⟨?_, ?_, ?_, ?_, ?_, ?_⟩, ?_, ?_⟩, fun r c hr' hc' => ?_, fun p hp => ?_, fun i hi => ?_, fun x hx => ?_, fun k hk => ?_, ⟨fun p hp => ?_, fun i hi => ?_, fun x hx => ?_⟩⟩
  · rw [h1 1 0 (by unfold cpI; omega)]; exact a1
  · rw [h1 1 1 (by unfold cpI; omega)]; exact a2
  · rw [h1 2 0 (by unfold cpI; omega)]; exact a3
  · rw [h1 2 1 (by unfold cpI; omega)]; exact a4
  · rw [h1 11 0 (by unfold cpI; omega)]; exact a5
  · rw [hc0 6 (by omega) (by omega)]; exact a6
  · rw [hr0]; exact b1
  · rw [h3 1 (by omega)]; exact b2
  · rw [h3 2 (by omega)]; exact b3
  · rw [h3 3 (by omega)]; exact b4
  · rw [h3 4 (by omega)]; exact b5
  · rw [h3 5 (by omega)]; exact b6
  · rw [hc0 4 (by omega) (by omega), h3 6 (by omega)]; exact b7
  · rw [hc0 5 (by omega) (by omega), h3 7 (by omega)]; exact b8
  · rw [h2 1 2 (by unfold cpJ; omega), show sl' + 10 + (6 * r + c) = sl' + (10 + (6 * r + c)) by omega, h3' _ (sl + 10 + (6 * r + c)) (by omega) (by omega)]
    exact hw r c hr' hc'
  · obtain ⟨p1, ⟨p2, p3⟩, ⟨m, m1, m8, p4, p5, p6⟩, p7, p8⟩ := hf p hp
    have e : ∀ k, k < 14 → Ir' 186 (sl' + 40 + 14 * p + k) = Ir 186 (sl + 40 + 14 * p + k) := fun k hk => by
      rw [show sl' + 40 + 14 * p + k = sl' + (40 + 14 * p + k) by omega]
      exact h3' _ _ (by omega) (by omega)
    have e0 : Ir' 186 (sl' + 40 + 14 * p) = Ir 186 (sl + 40 + 14 * p) := e 0 (by omega)
    have f : ∀ j, 4 ≤ j → j ≤ 10 → j ≠ 8 → Ic' (b' + j) p = Ic (b + j) p := fun j q1 q2 q3 => h1 j p (by unfold cpI; omega)
    have f2 : Ic' (b' + 2 + 2) p = Ic (b + 2 + 2) p := f 4 (by omega) (by omega) (by omega)
    have f3 : Ic' (b' + 2 + 3) p = Ic (b + 2 + 3) p := f 5 (by omega) (by omega) (by omega)
    have f4 : Ic' (b' + 2 + 4) p = Ic (b + 2 + 4) p := f 6 (by omega) (by omega) (by omega)
    have f5 : Ic' (b' + 2 + 5) p = Ic (b + 2 + 5) p := f 7 (by omega) (by omega) (by omega)
    have f7 : Ic' (b' + 2 + 7) p = Ic (b + 2 + 7) p := f 9 (by omega) (by omega) (by omega)
    have f8 : Ic' (b' + 2 + 8) p = Ic (b + 2 + 8) p := f 10 (by omega) (by omega) (by omega)
    rw [f2, f3, f4, f5, f7, f8, e0, e 1 (by omega), e 2 (by omega), e 3 (by omega), e 4 (by omega), e 5 (by omega)]
    refine ⟨p1, ⟨p2, p3⟩, ⟨m, m1, m8, p4, p5, fun k hk => ?_⟩, p7, p8⟩
    have f6 : Ic' (b' + 2 + 6) (8 * p + k) = Ic (b + 2 + 6) (8 * p + k) := h1 8 (8 * p + k) (by unfold cpI; omega)
    rw [f6, show sl' + 40 + 14 * p + 6 + k = sl' + 40 + 14 * p + (6 + k) by omega, e _ (by omega), show sl + 40 + 14 * p + (6 + k) = sl + 40 + 14 * p + 6 + k by omega]
    exact p6 k hk
  · have e : ∀ k, k < 3 → Ir' 186 (sl' + 110 + 3 * i + k) = Ir 186 (sl + 110 + 3 * i + k) := fun k hk => by
      rw [show sl' + 110 + 3 * i + k = sl' + (110 + 3 * i + k) by omega]
      exact h3' _ _ (by omega) (by omega)
    have e0 : Ir' 186 (sl' + 110 + 3 * i) = Ir 186 (sl + 110 + 3 * i) := e 0 (by omega)
    rw [h1 13 i (by unfold cpI; omega), h1 14 i (by unfold cpI; omega), h1 15 i (by unfold cpI; omega), e0, e 1 (by omega), e 2 (by omega)]
    exact hs i hi
  · rw [h1 22 x (by unfold cpI; omega), show sl' + 128 + x = sl' + (128 + x) by omega, h3' _ (sl + 128 + x) (by omega) (by omega)]
    exact hb x hx
  · rw [h1 23 (k + 1) (by unfold cpI; omega), show sl' + 132 + k = sl' + (132 + k) by omega, h3' _ (sl + 132 + k) (by omega) (by omega)]
    exact ho k hk
  · rw [h2 3 p (by unfold cpJ; omega), h4 p (by omega)]
    exact ht.1 p hp
  · rw [h2 12 i (by unfold cpJ; omega), show u' + 5 + i = u' + (5 + i) by omega, h4 _ (by omega), show u + (5 + i) = u + 5 + i by omega]
    exact ht.2.1 i hi
  · rw [h2 21 x (by unfold cpJ; omega), show u' + 11 + x = u' + (11 + x) by omega, h4 _ (by omega), show u + (11 + x) = u + 11 + x by omega]
    exact ht.2.2 x hx
theorem CPQ : CPV WQ := fun b sl u b' sl' u' Ic Ir Ic' Ir' Jc Jr Jc' Jr' h h1 h2 h3 h4 => WQ_cp h h1 h2 h3 h4
end WQC
section WQE
variable {N N' : Nat} {Ic Ir Ic' Ir' I1 I2 I : tI} {Jc Jr Jc' Jr' J1 J2 J : tJ} {v w : Int32} {V : Nat → Nat → Nat → tI → tJ → tI → tJ → Prop}
theorem MV_cp (hV : CPV V) (h : MV V Ic Jc Ir Jr) (c : ∀ o k, 113 ≤ o → Ic' o k = Ic o k ∧ Jc' o k = Jc o k) (c12 : Ic' 0 12 = Ic 0 12) (g : ∀ k, 620 ≤ k → Ir' 186 k = Ir 186 k) (gJ : ∀ k, 15 ≤ k → Jr' 187 k = Jr 187 k) (g36 : Ir' 185 36 = Ir 185 36) : MV V Ic' Jc' Ir' Jr' := by
  obtain ⟨n, hn, ⟨h1, h2⟩, h3⟩ := h
  exact ⟨n, hn, ⟨c12.trans h1, g36.trans h2⟩, fun j hj => hV _ _ _ _ _ _ _ _ _ _ _ _ _ _ (h3 j hj) (fun i k _ => (c _ _ (by omega)).1) (fun i k _ => (c _ _ (by omega)).2) (fun k _ => g _ (by omega)) (fun k _ => gJ _ (by omega))⟩
/-- purses change, nothing else of the world -/
theorem WQ_b (h : WQ 10 0 0 Ic Jc Ir Jr) (c : ∀ o k, 10 ≤ o → o ≠ 32 → Ic' o k = Ic o k) (g : ∀ k, ¬ (128 ≤ k ∧ k < 132) → Ir' 186 k = Ir 186 k) (n : ∀ B, B ≤ 4 → Ic 10 6 = Int32.ofNat B → WKb 10 0 B Ic Ir → WKb 10 0 B Ic' Ir') : WQ 10 0 0 Ic' Jc Ir' Jr := by
  obtain ⟨P, S, B, W, D, s, ⟨⟨⟨g1, g2, g3⟩, ⟨g4, g5⟩, g6⟩, ⟨a1, a2, a3, a4, a5, a6⟩, ⟨b1, b2, b3, b4, b5, b6⟩, b7, b8⟩, hw, hf, hs, hb, ho, ht⟩ := h
  refine ⟨P, S, B, W, D, s, ⟨⟨⟨g1, g2, g3⟩, ⟨g4, g5⟩, g6⟩, ⟨?_, ?_, ?_, ?_, ?_, ?_⟩, ⟨?_, ?_, ?_, ?_, ?_, ?_⟩, ?_, ?_⟩, fun r c' hr hc' => ?_, fun p hp => ?_, fun i hi => ?_, n B g3 a6 hb, fun k hk => ?_, ht⟩
  · rw [c _ _ (by omega) (by omega)]; exact a1
  · rw [c _ _ (by omega) (by omega)]; exact a2
  · rw [c _ _ (by omega) (by omega)]; exact a3
  · rw [c _ _ (by omega) (by omega)]; exact a4
  · rw [c _ _ (by omega) (by omega)]; exact a5
  · rw [c _ _ (by omega) (by omega)]; exact a6
  · rw [g _ (by omega)]; exact b1
  · rw [g _ (by omega)]; exact b2
  · rw [g _ (by omega)]; exact b3
  · rw [g _ (by omega)]; exact b4
  · rw [g _ (by omega)]; exact b5
  · rw [g _ (by omega)]; exact b6
  · rw [c _ _ (by omega) (by omega), g _ (by omega)]; exact b7
  · rw [c _ _ (by omega) (by omega), g _ (by omega)]; exact b8
  · rw [g _ (by omega)]; exact hw r c' hr hc'
  · obtain ⟨p1, ⟨p2, p3⟩, ⟨m, m1, m8, p4, p5, p6⟩, p7, p8⟩ := hf p hp
    rw [c (10 + 2 + 2) p (by omega) (by omega), c (10 + 2 + 3) p (by omega) (by omega), c (10 + 2 + 4) p (by omega) (by omega), c (10 + 2 + 5) p (by omega) (by omega), c (10 + 2 + 7) p (by omega) (by omega), c (10 + 2 + 8) p (by omega) (by omega), g (0 + 40 + 14 * p) (by omega), g (0 + 40 + 14 * p + 1) (by omega), g (0 + 40 + 14 * p + 2) (by omega), g (0 + 40 + 14 * p + 3) (by omega), g (0 + 40 + 14 * p + 4) (by omega), g (0 + 40 + 14 * p + 5) (by omega)]
    exact ⟨p1, ⟨p2, p3⟩, ⟨m, m1, m8, p4, p5, fun k hk => by rw [c (10 + 2 + 6) _ (by omega) (by omega), g (0 + 40 + 14 * p + 6 + k) (by omega)]; exact p6 k hk⟩, p7, p8⟩
  · rw [c (10 + 13) i (by omega) (by omega), c (10 + 14) i (by omega) (by omega), c (10 + 15) i (by omega) (by omega), g (0 + 110 + 3 * i) (by omega), g (0 + 110 + 3 * i + 1) (by omega), g (0 + 110 + 3 * i + 2) (by omega)]
    exact hs i hi
  · rw [c (10 + 23) (k + 1) (by omega) (by omega), g (0 + 132 + k) (by omega)]
    exact ho k hk
/-- purses and owners change, nothing else of the world -/
theorem WQ_bo (h : WQ 10 0 0 Ic Jc Ir Jr) (c : ∀ o k, 10 ≤ o → o ≠ 32 → o ≠ 33 → Ic' o k = Ic o k) (g : ∀ k, ¬ (128 ≤ k ∧ k < 252) → Ir' 186 k = Ir 186 k) (n : ∀ B, B ≤ 4 → Ic 10 6 = Int32.ofNat B → WKb 10 0 B Ic Ir → WKb 10 0 B Ic' Ir') (no : WKo 10 0 Ic Ir → WKo 10 0 Ic' Ir') : WQ 10 0 0 Ic' Jc Ir' Jr := by
  obtain ⟨P, S, B, W, D, s, ⟨⟨⟨g1, g2, g3⟩, ⟨g4, g5⟩, g6⟩, ⟨a1, a2, a3, a4, a5, a6⟩, ⟨b1, b2, b3, b4, b5, b6⟩, b7, b8⟩, hw, hf, hs, hb, ho, ht⟩ := h
  refine ⟨P, S, B, W, D, s, ⟨⟨⟨g1, g2, g3⟩, ⟨g4, g5⟩, g6⟩, ⟨?_, ?_, ?_, ?_, ?_, ?_⟩, ⟨?_, ?_, ?_, ?_, ?_, ?_⟩, ?_, ?_⟩, fun r c' hr hc' => ?_, fun p hp => ?_, fun i hi => ?_, n B g3 a6 hb, no ho, ht⟩
  · rw [c _ _ (by omega) (by omega) (by omega)]; exact a1
  · rw [c _ _ (by omega) (by omega) (by omega)]; exact a2
  · rw [c _ _ (by omega) (by omega) (by omega)]; exact a3
  · rw [c _ _ (by omega) (by omega) (by omega)]; exact a4
  · rw [c _ _ (by omega) (by omega) (by omega)]; exact a5
  · rw [c _ _ (by omega) (by omega) (by omega)]; exact a6
  · rw [g _ (by omega)]; exact b1
  · rw [g _ (by omega)]; exact b2
  · rw [g _ (by omega)]; exact b3
  · rw [g _ (by omega)]; exact b4
  · rw [g _ (by omega)]; exact b5
  · rw [g _ (by omega)]; exact b6
  · rw [c _ _ (by omega) (by omega) (by omega), g _ (by omega)]; exact b7
  · rw [c _ _ (by omega) (by omega) (by omega), g _ (by omega)]; exact b8
  · rw [g _ (by omega)]; exact hw r c' hr hc'
  · obtain ⟨p1, ⟨p2, p3⟩, ⟨m, m1, m8, p4, p5, p6⟩, p7, p8⟩ := hf p hp
    rw [c (10 + 2 + 2) p (by omega) (by omega) (by omega), c (10 + 2 + 3) p (by omega) (by omega) (by omega), c (10 + 2 + 4) p (by omega) (by omega) (by omega), c (10 + 2 + 5) p (by omega) (by omega) (by omega), c (10 + 2 + 7) p (by omega) (by omega) (by omega), c (10 + 2 + 8) p (by omega) (by omega) (by omega), g (0 + 40 + 14 * p) (by omega), g (0 + 40 + 14 * p + 1) (by omega), g (0 + 40 + 14 * p + 2) (by omega), g (0 + 40 + 14 * p + 3) (by omega), g (0 + 40 + 14 * p + 4) (by omega), g (0 + 40 + 14 * p + 5) (by omega)]
    exact ⟨p1, ⟨p2, p3⟩, ⟨m, m1, m8, p4, p5, fun k hk => by rw [c (10 + 2 + 6) _ (by omega) (by omega) (by omega), g (0 + 40 + 14 * p + 6 + k) (by omega)]; exact p6 k hk⟩, p7, p8⟩
  · rw [c (10 + 13) i (by omega) (by omega) (by omega), c (10 + 14) i (by omega) (by omega) (by omega), c (10 + 15) i (by omega) (by omega) (by omega), g (0 + 110 + 3 * i) (by omega), g (0 + 110 + 3 * i + 1) (by omega), g (0 + 110 + 3 * i + 2) (by omega)]
    exact hs i hi
/-- prices change, nothing else of the world -/
theorem WQ_p (h : WQ 10 0 0 Ic Jc Ir Jr) (c : ∀ o k, 10 ≤ o → ¬ (o = 10 ∧ k ≤ 5) → Ic' o k = Ic o k) (g : ∀ k, ¬ (k = 6 ∨ k = 7) → Ir' 186 k = Ir 186 k) (n4 : Ic' 10 4 = Ir' 186 6) (n5 : Ic' 10 5 = Ir' 186 7) : WQ 10 0 0 Ic' Jc Ir' Jr := by
  obtain ⟨P, S, B, W, D, s, ⟨⟨⟨g1, g2, g3⟩, ⟨g4, g5⟩, g6⟩, ⟨a1, a2, a3, a4, a5, a6⟩, ⟨b1, b2, b3, b4, b5, b6⟩, b7, b8⟩, hw, hf, hs, hb, ho, ht⟩ := h
  refine ⟨P, S, B, W, D, s, ⟨⟨⟨g1, g2, g3⟩, ⟨g4, g5⟩, g6⟩, ⟨?_, ?_, ?_, ?_, ?_, ?_⟩, ⟨?_, ?_, ?_, ?_, ?_, ?_⟩, ?_, ?_⟩, fun r c' hr hc' => ?_, fun p hp => ?_, fun i hi => ?_, fun x hx => ?_, fun k hk => ?_, ht⟩
  · rw [c _ _ (by omega) (by omega)]; exact a1
  · rw [c _ _ (by omega) (by omega)]; exact a2
  · rw [c _ _ (by omega) (by omega)]; exact a3
  · rw [c _ _ (by omega) (by omega)]; exact a4
  · rw [c _ _ (by omega) (by omega)]; exact a5
  · rw [c _ _ (by omega) (by omega)]; exact a6
  · rw [g _ (by omega)]; exact b1
  · rw [g _ (by omega)]; exact b2
  · rw [g _ (by omega)]; exact b3
  · rw [g _ (by omega)]; exact b4
  · rw [g _ (by omega)]; exact b5
  · rw [g _ (by omega)]; exact b6
  · exact n4
  · exact n5
  · rw [g _ (by omega)]; exact hw r c' hr hc'
  · obtain ⟨p1, ⟨p2, p3⟩, ⟨m, m1, m8, p4, p5, p6⟩, p7, p8⟩ := hf p hp
    rw [c (10 + 2 + 2) p (by omega) (by omega), c (10 + 2 + 3) p (by omega) (by omega), c (10 + 2 + 4) p (by omega) (by omega), c (10 + 2 + 5) p (by omega) (by omega), c (10 + 2 + 7) p (by omega) (by omega), c (10 + 2 + 8) p (by omega) (by omega), g (0 + 40 + 14 * p) (by omega), g (0 + 40 + 14 * p + 1) (by omega), g (0 + 40 + 14 * p + 2) (by omega), g (0 + 40 + 14 * p + 3) (by omega), g (0 + 40 + 14 * p + 4) (by omega), g (0 + 40 + 14 * p + 5) (by omega)]
    exact ⟨p1, ⟨p2, p3⟩, ⟨m, m1, m8, p4, p5, fun k hk => by rw [c (10 + 2 + 6) _ (by omega) (by omega), g (0 + 40 + 14 * p + 6 + k) (by omega)]; exact p6 k hk⟩, p7, p8⟩
  · rw [c (10 + 13) i (by omega) (by omega), c (10 + 14) i (by omega) (by omega), c (10 + 15) i (by omega) (by omega), g (0 + 110 + 3 * i) (by omega), g (0 + 110 + 3 * i + 1) (by omega), g (0 + 110 + 3 * i + 2) (by omega)]
    exact hs i hi
  · rw [c (10 + 22) x (by omega) (by omega), g (0 + 128 + x) (by omega)]
    exact hb x hx
  · rw [c (10 + 23) (k + 1) (by omega) (by omega), g (0 + 132 + k) (by omega)]
    exact ho k hk
/-- persons change: their rows are told anew -/
theorem WQ_f (h : WQ 10 0 0 Ic Jc Ir Jr) (c : ∀ o k, 10 ≤ o → ¬ (14 ≤ o ∧ o ≤ 20) → Ic' o k = Ic o k) (g : ∀ k, ¬ (40 ≤ k ∧ k < 110) → Ir' 186 k = Ir 186 k) (n : ∀ s W D P, P ≤ 5 → W ≤ 6 ∧ D ≤ 5 → Ic 12 0 = Int32.ofNat P → FKp 12 40 s W D P Ic Ir → FKp 12 40 s W D P Ic' Ir') : WQ 10 0 0 Ic' Jc Ir' Jr := by
  obtain ⟨P, S, B, W, D, s, ⟨⟨⟨g1, g2, g3⟩, ⟨g4, g5⟩, g6⟩, ⟨a1, a2, a3, a4, a5, a6⟩, ⟨b1, b2, b3, b4, b5, b6⟩, b7, b8⟩, hw, hf, hs, hb, ho, ht⟩ := h
  refine ⟨P, S, B, W, D, s, ⟨⟨⟨g1, g2, g3⟩, ⟨g4, g5⟩, g6⟩, ⟨?_, ?_, ?_, ?_, ?_, ?_⟩, ⟨?_, ?_, ?_, ?_, ?_, ?_⟩, ?_, ?_⟩, fun r c' hr hc' => ?_, n s W D P g1 ⟨g4, g5⟩ a3 hf, fun i hi => ?_, fun x hx => ?_, fun k hk => ?_, ht⟩
  · rw [c _ _ (by omega) (by omega)]; exact a1
  · rw [c _ _ (by omega) (by omega)]; exact a2
  · rw [c _ _ (by omega) (by omega)]; exact a3
  · rw [c _ _ (by omega) (by omega)]; exact a4
  · rw [c _ _ (by omega) (by omega)]; exact a5
  · rw [c _ _ (by omega) (by omega)]; exact a6
  · rw [g _ (by omega)]; exact b1
  · rw [g _ (by omega)]; exact b2
  · rw [g _ (by omega)]; exact b3
  · rw [g _ (by omega)]; exact b4
  · rw [g _ (by omega)]; exact b5
  · rw [g _ (by omega)]; exact b6
  · rw [c _ _ (by omega) (by omega), g _ (by omega)]; exact b7
  · rw [c _ _ (by omega) (by omega), g _ (by omega)]; exact b8
  · rw [g _ (by omega)]; exact hw r c' hr hc'
  · rw [c (10 + 13) i (by omega) (by omega), c (10 + 14) i (by omega) (by omega), c (10 + 15) i (by omega) (by omega), g (0 + 110 + 3 * i) (by omega), g (0 + 110 + 3 * i + 1) (by omega), g (0 + 110 + 3 * i + 2) (by omega)]
    exact hs i hi
  · rw [c (10 + 22) x (by omega) (by omega), g (0 + 128 + x) (by omega)]
    exact hb x hx
  · rw [c (10 + 23) (k + 1) (by omega) (by omega), g (0 + 132 + k) (by omega)]
    exact ho k hk
end WQE
