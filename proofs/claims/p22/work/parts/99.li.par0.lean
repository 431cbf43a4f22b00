/-! ONE WORLD, KEPT BOTH WAYS: the class's world b (its rows are the objects behind it), the reference's slot sl, its names from u on -/
/-- here or not: who leaves ahead of his coming is told as gone by the reference alone -/
def STp (s : Nat) (l a b : Int32) : Prop := (a = b ∧ (a = 0 ∨ a = 1 ∨ a = 2)) ∨ (a = 0 ∧ b = 2 ∧ l ≠ -1 ∧ l.toInt ≤ s)
/-- the persons: the class's folk F, the reference's rows from q0 on -/
def FKp (F q0 s W D P : Nat) (Ic Ir : tI) : Prop := ∀ p, p < P → RCw W D (Ic (F + 2) p) (Ir 186 (q0 + 14 * p)) ∧ (Ic (F + 3) p = Ir 186 (q0 + 14 * p + 1) ∧ Ic (F + 4) p = Ir 186 (q0 + 14 * p + 2)) ∧ (∃ m, 1 ≤ m ∧ m ≤ 8 ∧ Ic (F + 5) p = Int32.ofNat m ∧ Ir 186 (q0 + 14 * p + 3) = Int32.ofNat m ∧ ∀ k, k < m → Ic (F + 6) (8 * p + k) = Ir 186 (q0 + 14 * p + 6 + k)) ∧ STp s (Ic (F + 4) p) (Ic (F + 7) p) (Ir 186 (q0 + 14 * p + 4)) ∧ RCw W D (Ic (F + 8) p) (Ir 186 (q0 + 14 * p + 5))
def WKn (b sl P S B W D s : Nat) (Ic Ir : tI) : Prop := ((P ≤ 5 ∧ S ≤ 6 ∧ B ≤ 4) ∧ (W ≤ 6 ∧ D ≤ 5) ∧ s ≤ 999) ∧ (Ic (b + 1) 0 = Int32.ofNat W ∧ Ic (b + 1) 1 = Int32.ofNat D ∧ Ic (b + 2) 0 = Int32.ofNat P ∧ Ic (b + 2) 1 = Int32.ofNat s ∧ Ic (b + 11) 0 = Int32.ofNat S ∧ Ic b 6 = Int32.ofNat B) ∧ (Ir 186 sl = Int32.ofNat W ∧ Ir 186 (sl + 1) = Int32.ofNat D ∧ Ir 186 (sl + 2) = Int32.ofNat P ∧ Ir 186 (sl + 3) = Int32.ofNat S ∧ Ir 186 (sl + 4) = Int32.ofNat B ∧ Ir 186 (sl + 5) = Int32.ofNat s) ∧ Ic b 4 = Ir 186 (sl + 6) ∧ Ic b 5 = Ir 186 (sl + 7)
def WKw (b sl : Nat) (Jc : tJ) (Ir : tI) : Prop := ∀ r c, r < 5 → c < 6 → Ir 186 (sl + 10 + (6 * r + c)) = if wb (Jc (b + 1) 2) (10 * r + c) = true then 1 else 0
def WKs (b sl S P : Nat) (Ic Ir : tI) : Prop := ∀ i, i < S → Ic (b + 13) i = Ir 186 (sl + 110 + 3 * i) ∧ ((Ic (b + 13) i = 2 ∧ Ic (b + 14) i = -1 ∧ Ic (b + 15) i = -1) ∨ (Ic (b + 13) i = 0 ∧ Ic (b + 14) i = Ir 186 (sl + 110 + 3 * i + 1) ∧ (∃ a, a < P ∧ Ic (b + 14) i = Int32.ofNat a) ∧ RCl (Ic (b + 15) i) (Ir 186 (sl + 110 + 3 * i + 2))) ∨ (Ic (b + 13) i = 1 ∧ Ic (b + 14) i = Ir 186 (sl + 110 + 3 * i + 1) ∧ Ic (b + 15) i = Ir 186 (sl + 110 + 3 * i + 2) ∧ (∃ a, a < P ∧ Ic (b + 14) i = Int32.ofNat a) ∧ ∃ a, a < P ∧ Ic (b + 15) i = Int32.ofNat a))
def WKb (b sl B : Nat) (Ic Ir : tI) : Prop := ∀ x, x < B → Ic (b + 22) x = Ir 186 (sl + 128 + x)
def WKo (b sl : Nat) (Ic Ir : tI) : Prop := ∀ k, k < 120 → Ic (b + 23) (k + 1) = Ir 186 (sl + 132 + k)
def WKt (b u P S B : Nat) (Jc Jr : tJ) : Prop := (∀ p, p < P → RN (Jc (b + 3) p) (Jr 187 (u + p))) ∧ (∀ i, i < S → RN (Jc (b + 12) i) (Jr 187 (u + 5 + i))) ∧ ∀ x, x < B → RN (Jc (b + 21) x) (Jr 187 (u + 11 + x))
/-- a row of the runs: of the class its kind, one, other; of the reference its word, the two behind it, the sign -/
def RRw (P S B : Nat) (kc oc tc k0 k1 k2 k5 : Int32) : Prop :=
  (kc = 0 ∧ k0 = 21 ∧ (∃ x, x < B ∧ oc = Int32.ofNat x ∧ k1 = Int32.ofNat x) ∧ ∃ n, 1 ≤ n ∧ n ≤ 20 ∧ tc = Int32.ofNat n ∧ k2 = Int32.ofNat n) ∨
  (kc = 1 ∧ k0 = 22 ∧ ∃ n, 1 ≤ n ∧ n ≤ 20 ∧ oc = Int32.ofNat n ∧ k1 = Int32.ofNat n) ∨
  (kc = 2 ∧ k0 = 23 ∧ (∃ x, x < B ∧ oc = Int32.ofNat x ∧ k1 = Int32.ofNat x) ∧ ∃ x, x < B ∧ tc = Int32.ofNat x ∧ k2 = Int32.ofNat x) ∨
  (kc = 3 ∧ k0 = 24) ∨ (kc = 4 ∧ k0 = 28) ∨
  (kc = 5 ∧ k0 = 26 ∧ ∃ n, 1 ≤ n ∧ n ≤ 99 ∧ oc = Int32.ofNat n ∧ k1 = Int32.ofNat n) ∨
  (kc = 6 ∧ k0 = 2529 ∧ ∃ x, x < S ∧ oc = Int32.ofNat x ∧ k1 = Int32.ofNat x) ∨
  (kc = 7 ∧ k0 = 2530 ∧ ∃ x, x < P ∧ oc = Int32.ofNat x ∧ k1 = Int32.ofNat x) ∨
  (((kc = 8 ∧ k5 = 60) ∨ (kc = 9 ∧ k5 = 62) ∨ (kc = 10 ∧ k5 = 61)) ∧ k0 = 2520 ∧ (∃ x, x < B ∧ oc = Int32.ofNat x ∧ k1 = Int32.ofNat x) ∧ tc = k2) ∨
  (kc = 11 ∧ k0 = 27)
/-- what opens knows its end, an end what it ends -/
def RMt (rb sl E : Nat) (Ic Ir : tI) (k : Nat) : Prop :=
  ((5 ≤ (Ic (rb + 1) k).toInt ∧ (Ic (rb + 1) k).toInt ≤ 10) → ∃ e, k < e ∧ e < E ∧ Ic (rb + 4) k = Int32.ofNat e ∧ Ir 186 (sl + 252 + 6 * k + 4) = Int32.ofNat e ∧ Ic (rb + 1) e = 11 ∧ Ic (rb + 4) e = Int32.ofNat k) ∧
  (Ic (rb + 1) k = 11 → ∃ o, o < k ∧ Ic (rb + 4) k = Int32.ofNat o ∧ Ir 186 (sl + 252 + 6 * k + 4) = Int32.ofNat o ∧ (5 ≤ (Ic (rb + 1) o).toInt ∧ (Ic (rb + 1) o).toInt ≤ 10) ∧ Ic (rb + 4) o = Int32.ofNat k)
/-- what opens within what is open closes within it -/
def NS (rb E : Nat) (Ic : tI) : Prop := ∀ o o' e e', o < o' → o' < e → e < E → (5 ≤ (Ic (rb + 1) o).toInt ∧ (Ic (rb + 1) o).toInt ≤ 10) → (5 ≤ (Ic (rb + 1) o').toInt ∧ (Ic (rb + 1) o').toInt ≤ 10) → Ic (rb + 4) o = Int32.ofNat e → Ic (rb + 4) o' = Int32.ofNat e' → e' < E → e' < e
def RN2 (rb sl P S B E : Nat) (Ic Ir : tI) : Prop := E ≤ 60 ∧ Ic rb 2 = Int32.ofNat E ∧ Ir 186 (sl + 8) = Int32.ofNat E ∧ (∀ k, k < E → RRw P S B (Ic (rb + 1) k) (Ic (rb + 2) k) (Ic (rb + 3) k) (Ir 186 (sl + 252 + 6 * k)) (Ir 186 (sl + 252 + 6 * k + 1)) (Ir 186 (sl + 252 + 6 * k + 2)) (Ir 186 (sl + 252 + 6 * k + 5)) ∧ RMt rb sl E Ic Ir k) ∧ NS rb E Ic
section RNC
variable {P S B E : Nat} {Ic Ir I1 I2 : tI}
theorem RN2_cp {rb sl rb' sl' : Nat} (h : RN2 rb sl P S B E Ic Ir) (c0 : I1 rb' 2 = Ic rb 2) (c : ∀ o k, 1 ≤ o → o ≤ 4 → k < 60 → I1 (rb' + o) k = Ic (rb + o) k) (g : ∀ k, k = 8 ∨ (252 ≤ k ∧ k < 612) → I2 186 (sl' + k) = Ir 186 (sl + k)) : RN2 rb' sl' P S B E I1 I2 := by
  obtain ⟨h1, h2, h3, h4, h5⟩ := h
  refine ⟨h1, by rw [c0]; exact h2, by rw [g 8 (Or.inl rfl)]; exact h3, fun k hk => ?_, fun o o' e e' q1 q2 q3 q4 q5 q6 q7 q8 => ?_⟩
  · have e : ∀ j, j < 6 → I2 186 (sl' + 252 + 6 * k + j) = Ir 186 (sl + 252 + 6 * k + j) := fun j hj => by
      rw [show sl' + 252 + 6 * k + j = sl' + (252 + 6 * k + j) by omega, show sl + 252 + 6 * k + j = sl + (252 + 6 * k + j) by omega]
      exact g _ (by omega)
    have e0 : I2 186 (sl' + 252 + 6 * k) = Ir 186 (sl + 252 + 6 * k) := e 0 (by omega)
    obtain ⟨q1, q2, q3⟩ := h4 k hk
    refine ⟨?_, ?_, ?_⟩
    · rw [c 1 k (by omega) (by omega) (by omega), c 2 k (by omega) (by omega) (by omega), c 3 k (by omega) (by omega) (by omega), e0, e 1 (by omega), e 2 (by omega), e 5 (by omega)]
      exact q1
    · rw [c 1 k (by omega) (by omega) (by omega), c 4 k (by omega) (by omega) (by omega), e 4 (by omega)]
      intro q
      obtain ⟨x, x1, x2, x3, x4, x5, x6⟩ := q2 q
      exact ⟨x, x1, x2, x3, x4, by rw [c 1 x (by omega) (by omega) (by omega)]; exact x5, by rw [c 4 x (by omega) (by omega) (by omega)]; exact x6⟩
    · rw [c 1 k (by omega) (by omega) (by omega), c 4 k (by omega) (by omega) (by omega), e 4 (by omega)]
      intro q
      obtain ⟨x, x1, x2, x3, x4, x5⟩ := q3 q
      exact ⟨x, x1, x2, x3, by rw [c 1 x (by omega) (by omega) (by omega)]; exact x4, by rw [c 4 x (by omega) (by omega) (by omega)]; exact x5⟩
  · rw [c 1 o (by omega) (by omega) (by omega)] at q4
    rw [c 1 o' (by omega) (by omega) (by omega)] at q5
    rw [c 4 o (by omega) (by omega) (by omega)] at q6
    rw [c 4 o' (by omega) (by omega) (by omega)] at q7
    exact h5 o o' e e' q1 q2 q3 q4 q5 q6 q7 q8
end RNC
def RK (rb sl P S B : Nat) (Ic Ir : tI) : Prop := (Ic rb 0 = 0 ∧ Ir 186 (sl + 8) = -1) ∨ (Ic rb 0 = 1 ∧ ∃ E, RN2 rb sl P S B E Ic Ir)
def WK (b sl u : Nat) (Ic : tI) (Jc : tJ) (Ir : tI) (Jr : tJ) : Prop := ∃ P S B W D s, WKn b sl P S B W D s Ic Ir ∧ WKw b sl Jc Ir ∧ FKp (b + 2) (sl + 40) s W D P Ic Ir ∧ WKs b sl S P Ic Ir ∧ WKb b sl B Ic Ir ∧ WKo b sl Ic Ir ∧ WKt b u P S B Jc Jr ∧ RK (b + 16) sl P S B Ic Ir
/-- a world copied: what is kept of it -/
def cpI (j k : Nat) : Prop := (j = 0 ∧ 4 ≤ k ∧ k ≤ 6) ∨ ((j = 1 ∨ j = 2) ∧ k ≤ 1) ∨ (((4 ≤ j ∧ j ≤ 7) ∨ j = 9 ∨ j = 10) ∧ k < 5) ∨ (j = 8 ∧ k < 40) ∨ (j = 11 ∧ k = 0) ∨ (13 ≤ j ∧ j ≤ 15 ∧ k < 6) ∨ (j = 16 ∧ k ≤ 2) ∨ (17 ≤ j ∧ j ≤ 20 ∧ k < 60) ∨ (j = 22 ∧ k < 4) ∨ (j = 23 ∧ k < 121)
def cpJ (j k : Nat) : Prop := (j = 1 ∧ k = 2) ∨ (j = 3 ∧ k < 5) ∨ (j = 12 ∧ k < 6) ∨ (j = 21 ∧ k < 4)
section WC
variable {b sl u b' sl' u' : Nat} {Ic Ir Ic' Ir' : tI} {Jc Jr Jc' Jr' : tJ}
theorem WK_cp (h : WK b sl u Ic Jc Ir Jr) (h1 : ∀ j k, cpI j k → Ic' (b' + j) k = Ic (b + j) k) (h2 : ∀ j k, cpJ j k → Jc' (b' + j) k = Jc (b + j) k) (h3 : ∀ k, k < 612 → Ir' 186 (sl' + k) = Ir 186 (sl + k)) (h4 : ∀ k, k < 15 → Jr' 187 (u' + k) = Jr 187 (u + k)) : WK b' sl' u' Ic' Jc' Ir' Jr' := by
  obtain ⟨P, S, B, W, D, s, ⟨⟨⟨g1, g2, g3⟩, ⟨g4, g5⟩, g6⟩, ⟨a1, a2, a3, a4, a5, a6⟩, ⟨b1, b2, b3, b4, b5, b6⟩, b7, b8⟩, hw, hf, hs, hb, ho, ht, hr⟩ := h
  have hc0 : ∀ k, 4 ≤ k → k ≤ 6 → Ic' b' k = Ic b k := fun k q1 q2 => h1 0 k (Or.inl ⟨rfl, q1, q2⟩)
  have hr0 : Ir' 186 sl' = Ir 186 sl := h3 0 (by omega)
  have h3' : ∀ k q, q = sl + k → k < 612 → Ir' 186 (sl' + k) = Ir 186 q := fun k q e hk => by rw [e]; exact h3 k hk
  refine ⟨P, S, B, W, D, s, ⟨⟨⟨g1, g2, g3⟩, ⟨g4, g5⟩, g6⟩, ⟨?_, ?_, ?_, ?_, ?_, ?_⟩, ⟨?_, ?_, ?_, ?_, ?_, ?_⟩, ?_, ?_⟩, fun r c hr' hc' => ?_, fun p hp => ?_, fun i hi => ?_, fun x hx => ?_, fun k hk => ?_, ⟨fun p hp => ?_, fun i hi => ?_, fun x hx => ?_⟩, ?_⟩
  · rw [h1 1 0 (by unfold cpI; omega)]; exact a1
  · rw [h1 1 1 (by unfold cpI; omega)]; exact a2
  · rw [h1 2 0 (by unfold cpI; omega)]; exact a3
  · rw [h1 2 1 (by unfold cpI; omega)]; exact a4
  · rw [h1 11 0 (by unfold cpI; omega)]; exact a5
  · rw [hc0 6 (by omega) (by omega)]; exact a6
  · rw [hr0]; exact b1
  · rw [h3 1 (by omega)]; exact b2
  · rw [h3 2 (by omega)]; exact b3
  · rw [h3 3 (by omega)]; exact b4
  · rw [h3 4 (by omega)]; exact b5
  · rw [h3 5 (by omega)]; exact b6
  · rw [hc0 4 (by omega) (by omega), h3 6 (by omega)]; exact b7
  · rw [hc0 5 (by omega) (by omega), h3 7 (by omega)]; exact b8
  · rw [h2 1 2 (by unfold cpJ; omega), show sl' + 10 + (6 * r + c) = sl' + (10 + (6 * r + c)) by omega, h3' _ (sl + 10 + (6 * r + c)) (by omega) (by omega)]
    exact hw r c hr' hc'
  · obtain ⟨p1, ⟨p2, p3⟩, ⟨m, m1, m8, p4, p5, p6⟩, p7, p8⟩ := hf p hp
    have e : ∀ k, k < 14 → Ir' 186 (sl' + 40 + 14 * p + k) = Ir 186 (sl + 40 + 14 * p + k) := fun k hk => by
      rw [show sl' + 40 + 14 * p + k = sl' + (40 + 14 * p + k) by omega]
      exact h3' _ _ (by omega) (by omega)
    have e0 : Ir' 186 (sl' + 40 + 14 * p) = Ir 186 (sl + 40 + 14 * p) := e 0 (by omega)
    have f : ∀ j, 4 ≤ j → j ≤ 10 → j ≠ 8 → Ic' (b' + j) p = Ic (b + j) p := fun j q1 q2 q3 => h1 j p (by unfold cpI; omega)
    have f2 : Ic' (b' + 2 + 2) p = Ic (b + 2 + 2) p := f 4 (by omega) (by omega) (by omega)
    have f3 : Ic' (b' + 2 + 3) p = Ic (b + 2 + 3) p := f 5 (by omega) (by omega) (by omega)
    have f4 : Ic' (b' + 2 + 4) p = Ic (b + 2 + 4) p := f 6 (by omega) (by omega) (by omega)
    have f5 : Ic' (b' + 2 + 5) p = Ic (b + 2 + 5) p := f 7 (by omega) (by omega) (by omega)
    have f7 : Ic' (b' + 2 + 7) p = Ic (b + 2 + 7) p := f 9 (by omega) (by omega) (by omega)
    have f8 : Ic' (b' + 2 + 8) p = Ic (b + 2 + 8) p := f 10 (by omega) (by omega) (by omega)
    rw [f2, f3, f4, f5, f7, f8, e0, e 1 (by omega), e 2 (by omega), e 3 (by omega), e 4 (by omega), e 5 (by omega)]
    refine ⟨p1, ⟨p2, p3⟩, ⟨m, m1, m8, p4, p5, fun k hk => ?_⟩, p7, p8⟩
    have f6 : Ic' (b' + 2 + 6) (8 * p + k) = Ic (b + 2 + 6) (8 * p + k) := h1 8 (8 * p + k) (by unfold cpI; omega)
    rw [f6, show sl' + 40 + 14 * p + 6 + k = sl' + 40 + 14 * p + (6 + k) by omega, e _ (by omega), show sl + 40 + 14 * p + (6 + k) = sl + 40 + 14 * p + 6 + k by omega]
    exact p6 k hk
  · have e : ∀ k, k < 3 → Ir' 186 (sl' + 110 + 3 * i + k) = Ir 186 (sl + 110 + 3 * i + k) := fun k hk => by
      rw [show sl' + 110 + 3 * i + k = sl' + (110 + 3 * i + k) by omega]
      exact h3' _ _ (by omega) (by omega)
    have e0 : Ir' 186 (sl' + 110 + 3 * i) = Ir 186 (sl + 110 + 3 * i) := e 0 (by omega)
    rw [h1 13 i (by unfold cpI; omega), h1 14 i (by unfold cpI; omega), h1 15 i (by unfold cpI; omega), e0, e 1 (by omega), e 2 (by omega)]
    exact hs i hi
  · rw [h1 22 x (by unfold cpI; omega), show sl' + 128 + x = sl' + (128 + x) by omega, h3' _ (sl + 128 + x) (by omega) (by omega)]
    exact hb x hx
  · rw [h1 23 (k + 1) (by unfold cpI; omega), show sl' + 132 + k = sl' + (132 + k) by omega, h3' _ (sl + 132 + k) (by omega) (by omega)]
    exact ho k hk
  · rw [h2 3 p (by unfold cpJ; omega), h4 p (by omega)]
    exact ht.1 p hp
  · rw [h2 12 i (by unfold cpJ; omega), show u' + 5 + i = u' + (5 + i) by omega, h4 _ (by omega), show u + (5 + i) = u + 5 + i by omega]
    exact ht.2.1 i hi
  · rw [h2 21 x (by unfold cpJ; omega), show u' + 11 + x = u' + (11 + x) by omega, h4 _ (by omega), show u + (11 + x) = u + 11 + x by omega]
    exact ht.2.2 x hx
  · have e8 : Ir' 186 (sl' + 8) = Ir 186 (sl + 8) := h3 8 (by omega)
    have c0 : Ic' (b' + 16) 0 = Ic (b + 16) 0 := h1 16 0 (by unfold cpI; omega)
    have c2 : Ic' (b' + 16) 2 = Ic (b + 16) 2 := h1 16 2 (by unfold cpI; omega)
    rcases hr with ⟨r1, r2⟩ | ⟨r1, E, hE⟩
    · exact Or.inl ⟨by rw [c0]; exact r1, by rw [e8]; exact r2⟩
    · refine Or.inr ⟨by rw [c0]; exact r1, E, RN2_cp hE c2 (fun o k q1 q2 q3 => ?_) (fun k q => h3 k (by omega))⟩
      rw [show b' + 16 + o = b' + (16 + o) by omega, show b + 16 + o = b + (16 + o) by omega]
      exact h1 (16 + o) k (by unfold cpI; omega)
end WC
