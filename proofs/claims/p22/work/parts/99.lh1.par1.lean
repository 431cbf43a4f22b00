/-! PARTS OF A TEXT, class and reference in step: what fails, numbers, words, names -/
theorem exq {α : Type} (x : α) : ∃ q, x = q := ⟨x, rfl⟩
theorem tup_at {α : Type} {f : Nat → Nat → α} {o k o' k' : Nat} {v : α} : tup f o k v o' k' = if o' = o ∧ k' = k then v else f o' k' := rfl
def gJ (J J' : tJ) : Prop := ∀ o k, ¬ (o = 8 ∧ k = 6) → J' o k = J o k
/-- what stays while a text is read: an empty tape, what lies ahead of the new slot (t keeps it from 1000 on) -/
def GK (t : Nat → Int32) (Ic Ir : tI) : Prop := (Ic 0 4 = 0 ∧ Ir 185 10 = 0) ∧ ∀ k, k < 2480 → Ir 186 k = t (1000 + k)
/-- the same token, no fault so far, at b or behind it -/
def R0 (t : Nat → Int32) (n : Nat) (b : Int) (Ic : tI) (Jc : tJ) (Ir : tI) : Prop := RT t n Ic Jc Ir ∧ Ir 185 18 = 0 ∧ b ≤ (Ic 8 3).toInt ∧ GK t Ic Ir ∧ Ir 185 17 = -1 ∧ Ic 8 9 = 0 ∧ Ic 8 10 = -1
def RF (t : Nat → Int32) (Ic Ir : tI) : Prop := Ic 8 9 = Ir 185 18 ∧ 0 < (Ir 185 18).toInt ∧ Ic 8 10 = Ir 185 17 ∧ GK t Ic Ir
def OUT (t : Nat → Int32) (v w : Int32) (I1 I2 : tI) (P : Prop) : Prop := (v = 0 ∧ w = 0 ∧ RF t I1 I2) ∨ (v = 1 ∧ w = 1 ∧ P)
def AD (t : Nat → Int32) (n : Nat) (b : Int) (Ic : tI) (Jc : tJ) (Ir : tI) (Jr : tJ) (Ic' : tI) (Jc' : tJ) (Ir' : tI) (Jr' : tJ) : Prop := R0 t n b Ic' Jc' Ir' ∧ frC Ic Ic' ∧ gJ Jc Jc' ∧ frR Ir Ir' ∧ Jr' = Jr
theorem oi_inj {a b : Nat} (ha : a < 2147483648) (hb : b < 2147483648) (h : Int32.ofNat a = Int32.ofNat b) : a = b := by
  have := congrArg Int32.toInt h
  rw [oi_int ha, oi_int hb] at this
  omega
section PA
variable {t : Nat → Int32} {n N N' : Nat} {Ic Ir I1 I2 : tI} {Jc Jr J1 J2 : tJ} {v w : Int32} {b : Int}
theorem f127_is {I : tI} {J : tJ} {a b c : Int32} : f127 I J a b c = (if b.toInt ≤ a.toInt ∧ a.toInt ≤ c.toInt then 1 else 0, I, J) := by
  unfold f127
  rw [tc_lt]
  by_cases h : a.toInt < b.toInt
  · rw [decide_eq_true h, cond_true, if_neg (by omega)]
  · rw [decide_eq_false h, cond_false, tc_gt]
    by_cases h2 : c.toInt < a.toInt
    · rw [decide_eq_true h2, cond_true, if_neg (by omega)]
    · rw [decide_eq_false h2, cond_false, if_pos (by omega)]
theorem f33_is {I : tI} {J : tJ} {a : Int32} : f33_8 I J a = (0, tup (tup I 8 9 (if I 8 2 = 4 then 1 else a)) 8 10 (I 8 3), J) := by
  unfold f33_8
  by_cases h : I 8 2 = 4
  · rw [xc_nen h, cond_false, if_pos h]
  · rw [xc_ne h, cond_true, if_neg h]
theorem f225_is {I : tI} {J : tJ} {a : Int32} (h0 : I 185 18 = 0) : f225_185 I J a = (0, tup (tup I 185 18 (if I 185 12 = 1 then 1 else a)) 185 17 (I 185 13), J) := by
  unfold f225_185
  rw [xc_nen h0, cond_false]
  by_cases h : I 185 12 = 1
  · rw [xc_nen h, cond_false, if_pos h]
  · rw [xc_ne h, cond_true, if_neg h]
theorem RT_bad (h : RT t n Ic Jc Ir) : (Ic 8 2 = 4 ↔ Ir 185 12 = 1) ∧ Ic 8 3 = Ir 185 13 := by
  obtain ⟨s, e, -, -, a3, b3, -, -, hk⟩ := RT_cases h
  refine ⟨?_, by rw [a3, b3]⟩
  rcases hk with ⟨a, b, -⟩ | ⟨a, b, -⟩ | ⟨a, b, -⟩ | ⟨a, b, -⟩ | ⟨a, b, -⟩ <;> rw [a, b] <;> decide
theorem RF_of {a : Int32} (h : R0 t n b Ic Jc Ir) (ha : 0 < a.toInt) : RF t (tup (tup Ic 8 9 (if Ic 8 2 = 4 then 1 else a)) 8 10 (Ic 8 3)) (tup (tup Ir 185 18 (if Ir 185 12 = 1 then 1 else a)) 185 17 (Ir 185 13)) := by
  obtain ⟨h1, h2⟩ := RT_bad h.1
  unfold RF
  rw [tup_ne (by omega : ¬ (8 = 8 ∧ 9 = 10)), tup_eq, tup_ne (by omega : ¬ (185 = 185 ∧ 18 = 17)), tup_eq, tup_eq, tup_eq]
  refine ⟨?_, ?_, h2, ⟨by rw [tup_ne (by omega), tup_ne (by omega)]; exact h.2.2.2.1.1.1, by rw [tup_ne (by omega), tup_ne (by omega)]; exact h.2.2.2.1.1.2⟩, fun k hk => by rw [tup_ne (by omega), tup_ne (by omega)]; exact h.2.2.2.1.2 k hk⟩
  · by_cases q : Ic 8 2 = 4
    · rw [if_pos q, if_pos (h1.mp q)]
    · rw [if_neg q, if_neg (fun q' => q (h1.mpr q'))]
  · split
    · decide
    · exact ha
theorem R0_adv {u u' : Unit} (h : R0 t n b Ic Jc Ir) (hc : f25_8 N Ic Jc = some (u, I1, J1)) (hr : f222_185 N' Ir Jr = some (u', I2, J2)) : AD t n b Ic Jc Ir Jr I1 J1 I2 J2 := by
  obtain ⟨a, g, c, d, e⟩ := RT_adv h.1 hc hr
  refine ⟨⟨a, by rw [d 185 18 (by omega)]; exact h.2.1, ?_, ⟨⟨by rw [g 0 4 (by omega)]; exact h.2.2.2.1.1.1, by rw [d 185 10 (by omega)]; exact h.2.2.2.1.1.2⟩, fun k hk => by rw [d 186 k (by omega)]; exact h.2.2.2.1.2 k hk⟩, by rw [d _ _ (by omega)]; exact h.2.2.2.2.1, by rw [g _ _ (by omega)]; exact h.2.2.2.2.2.1, by rw [g _ _ (by omega)]; exact h.2.2.2.2.2.2⟩, g, c, d, e⟩
  obtain ⟨s, e, hse, hen, h3, -, h4, -, -⟩ := RT_cases h.1
  obtain ⟨hn9, -, ⟨h1, -⟩, ⟨ht, -⟩, -⟩ := h.1
  obtain ⟨-, -, a3, -⟩ := adv_c hn9 hen h1 h4 ht hc
  have hl := lxS_le (t := t) (n := n) (n - e) e hen
  have hb := h.2.2.1
  rw [h3, oi_int (by omega)] at hb
  rw [a3, oi_int (by omega)]
  omega
/-- behind a sign the place is a later one -/
theorem R0_adv3 {u u' : Unit} (h : R0 t n b Ic Jc Ir) (k3 : Ic 8 2 = 3) (hc : f25_8 N Ic Jc = some (u, I1, J1)) (hr : f222_185 N' Ir Jr = some (u', I2, J2)) : AD t n (b + 1) Ic Jc Ir Jr I1 J1 I2 J2 := by
  obtain ⟨a, g, c, d, e⟩ := RT_adv h.1 hc hr
  refine ⟨⟨a, by rw [d 185 18 (by omega)]; exact h.2.1, ?_, ⟨⟨by rw [g 0 4 (by omega)]; exact h.2.2.2.1.1.1, by rw [d 185 10 (by omega)]; exact h.2.2.2.1.1.2⟩, fun k hk => by rw [d 186 k (by omega)]; exact h.2.2.2.1.2 k hk⟩, by rw [d _ _ (by omega)]; exact h.2.2.2.2.1, by rw [g _ _ (by omega)]; exact h.2.2.2.2.2.1, by rw [g _ _ (by omega)]; exact h.2.2.2.2.2.2⟩, g, c, d, e⟩
  obtain ⟨s, e, hse, hen, h3, -, h4, -, -⟩ := RT_cases h.1
  obtain ⟨hn9, -, ⟨h1, -⟩, ⟨ht, -⟩, s', hs', q3, -, qc, -⟩ := h.1
  obtain ⟨-, -, a3, -⟩ := adv_c hn9 hen h1 h4 ht hc
  have hl := lxS_le (t := t) (n := n) (n - e) e hen
  have es : s' = s := oi_inj (by omega) (by omega) (by rw [← q3, h3])
  have hlt : s < e := by
    rcases qc with ⟨-, c2, -⟩ | ⟨-, c2, -⟩ | ⟨-, c2, -⟩ | ⟨-, c2, c4, -⟩
    · rw [k3] at c2; exact absurd c2 (by decide)
    · rw [k3] at c2; exact absurd c2 (by decide)
    · rw [k3] at c2
      split at c2
      · exact absurd c2 (by decide)
      · exact absurd c2 (by decide)
    · have := oi_inj (by omega) (by omega) (h4.symm.trans c4)
      omega
  have hb := h.2.2.1
  rw [h3, oi_int (by omega)] at hb
  rw [a3, oi_int (by omega)]
  omega
/-- what the token hangs on -/
theorem RT_cg {Ic' Ir' : tI} {Jc' : tJ} (h : RT t n Ic Jc Ir) (h1 : ∀ k, k ≤ 7 → Ic' 8 k = Ic 8 k) (h2 : ∀ k, Ic' 9 k = Ic 9 k) (h3 : Jc' 8 6 = Jc 8 6) (h4 : ∀ k, 11 ≤ k → k ≤ 15 → Ir' 185 k = Ir 185 k) (h5 : ∀ k, Ir' 192 k = Ir 192 k) : RT t n Ic' Jc' Ir' := by
  obtain ⟨hn9, hb, ⟨a1, a2⟩, ⟨a3, a4⟩, s, hs, a5, a6, a7, a8⟩ := h
  refine ⟨hn9, hb, ⟨by rw [h1 1 (by omega)]; exact a1, by rw [h4 11 (by omega) (by omega)]; exact a2⟩, ⟨fun i hi => by rw [h2]; exact a3 i hi, fun i hi => by rw [h5]; exact a4 i hi⟩, s, hs, by rw [h1 3 (by omega)]; exact a5, by rw [h4 13 (by omega) (by omega)]; exact a6, ?_, ?_⟩
  · unfold tokC at a7 ⊢
    rw [h1 2 (by omega), h1 4 (by omega), h1 5 (by omega), h1 7 (by omega), h3]
    exact a7
  · unfold tokR at a8 ⊢
    rw [h4 12 (by omega) (by omega), h4 14 (by omega) (by omega), h4 15 (by omega) (by omega)]
    exact a8
theorem R0_cg {Ic' Ir' : tI} {Jc' : tJ} (h : R0 t n b Ic Jc Ir) (h1 : ∀ k, k ≤ 7 ∨ k = 9 ∨ k = 10 → Ic' 8 k = Ic 8 k) (h2 : ∀ o k, o = 9 ∨ o = 0 → Ic' o k = Ic o k) (h3 : Jc' 8 6 = Jc 8 6) (h4 : ∀ k, 10 ≤ k → k ≤ 18 → Ir' 185 k = Ir 185 k) (h5 : ∀ o k, o = 192 ∨ (o = 186 ∧ k < 2480) → Ir' o k = Ir o k) : R0 t n b Ic' Jc' Ir' := ⟨RT_cg h.1 (fun k hk => h1 k (by omega)) (fun k => h2 9 k (Or.inl rfl)) h3 (fun k a b => h4 k (by omega) (by omega)) (fun k => h5 192 k (Or.inl rfl)), by rw [h4 18 (by omega) (by omega)]; exact h.2.1, by rw [h1 3 (by omega)]; exact h.2.2.1, ⟨⟨by rw [h2 0 4 (Or.inr rfl)]; exact h.2.2.2.1.1.1, by rw [h4 10 (by omega) (by omega)]; exact h.2.2.2.1.1.2⟩, fun k hk => by rw [h5 186 k (Or.inr ⟨rfl, hk⟩)]; exact h.2.2.2.1.2 k hk⟩, by rw [h4 17 (by omega) (by omega)]; exact h.2.2.2.2.1, by rw [h1 9 (by omega)]; exact h.2.2.2.2.2.1, by rw [h1 10 (by omega)]; exact h.2.2.2.2.2.2⟩
theorem num_rel {lo hi to : Int32} (h : R0 t n b Ic Jc Ir) (hc : f37_8 Ic Jc lo hi = (v, I1, J1)) (hr : f229_185 N Ir Jr to lo hi = some (w, I2, J2)) : OUT t v w I1 I2 (I1 = Ic ∧ J1 = Jc ∧ Ic 8 2 = 2 ∧ lo.toInt ≤ (Ic 8 7).toInt ∧ (Ic 8 7).toInt ≤ hi.toInt ∧ f222_185 N (tup Ir 186 to.toNatClampNeg (Ic 8 7)) Jr = some ((), I2, J2)) := by
  obtain ⟨s, e, -, -, -, -, -, -, hk⟩ := RT_cases h.1
  unfold f37_8 at hc
  unfold f229_185 at hr
  have bad : Ic 8 2 ≠ 2 → Ir 185 12 ≠ 3 → OUT t v w I1 I2 (I1 = Ic ∧ J1 = Jc ∧ Ic 8 2 = 2 ∧ lo.toInt ≤ (Ic 8 7).toInt ∧ (Ic 8 7).toInt ≤ hi.toInt ∧ f222_185 N (tup Ir 186 to.toNatClampNeg (Ic 8 7)) Jr = some ((), I2, J2)) := fun a b => by
    rw [xc_eqn a, cond_false, f33_is] at hc
    rw [xc_eqn b, cond_false, f225_is h.2.1] at hr
    dsimp only at hc hr
    cases hc
    cases hr
    exact Or.inl ⟨rfl, rfl, RF_of h (by decide)⟩
  rcases hk with ⟨a, b, c⟩ | ⟨a, b, c, -⟩ | ⟨a, b, c, d⟩ | ⟨a, b, c, d⟩ | ⟨a, b, c⟩
  · exact bad (by rw [a]; decide) (by rw [b]; decide)
  · exact bad (by rw [a]; decide) (by rw [b]; decide)
  · rw [xc_eq a, cond_true, f127_is] at hc
    dsimp only at hc
    rw [xc_eq b, cond_true, tc_lt, ← d] at hr
    by_cases hl : lo.toInt ≤ (Ic 8 7).toInt
    · rw [decide_eq_false (by omega), cond_false, tc_le] at hr
      by_cases hh : (Ic 8 7).toInt ≤ hi.toInt
      · rw [if_pos ⟨hl, hh⟩, show xcmp .ne 1 0 = true from rfl, cond_true] at hc
        rw [decide_eq_true hh, cond_true] at hr
        replace hr := obU hr
        obtain ⟨u, I5, J5, e5, hr⟩ := hr
        cases hc
        cases hr
        exact Or.inr ⟨rfl, rfl, rfl, rfl, a, hl, hh, e5⟩
      · rw [if_neg (by omega), show xcmp .ne 0 0 = false from rfl, cond_false, f33_is] at hc
        dsimp only at hc
        rw [show xcmp .eq 0 0 = true from rfl, cond_true] at hc
        rw [decide_eq_false hh, cond_false, f225_is h.2.1] at hr
        dsimp only at hr
        cases hc
        cases hr
        exact Or.inl ⟨rfl, rfl, RF_of h (by decide)⟩
    · rw [if_neg (by omega), show xcmp .ne 0 0 = false from rfl, cond_false, f33_is] at hc
      dsimp only at hc
      rw [show xcmp .eq 0 0 = true from rfl, cond_true] at hc
      rw [decide_eq_true (by omega), cond_true, f225_is h.2.1] at hr
      dsimp only at hr
      cases hc
      cases hr
      exact Or.inl ⟨rfl, rfl, RF_of h (by decide)⟩
  · exact bad (by rw [a]; decide) (by rw [b]; decide)
  · exact bad (by rw [a]; decide) (by rw [b]; decide)
theorem wpi_inj {i j : Nat} (hi : i < 31) (hj : j < 31) (h : wpi.getD i 0 = wpi.getD j 0) : i = j := by
  have : (List.range 31).all (fun i => (List.range 31).all (fun j => !decide (wpi.getD i 0 = wpi.getD j 0) || decide (i = j))) = true := by decide +kernel
  have h1 := List.all_eq_true.mp (List.all_eq_true.mp this i (List.mem_range.mpr hi)) j (List.mem_range.mpr hj)
  rw [decide_eq_true h, Bool.not_true, Bool.false_or] at h1
  exact of_decide_eq_true h1
theorem wpi_lt {i : Nat} (hi : i < 31) : wpi.getD i 0 < 31 := by
  have : (List.range 31).all (fun i => decide (wpi.getD i 0 < 31)) = true := by decide +kernel
  exact of_decide_eq_true (List.all_eq_true.mp this i (List.mem_range.mpr hi))
theorem oi_m1 {a : Nat} (ha : a < 2147483648) : Int32.ofNat a ≠ -1 := fun h => by
  have := congrArg Int32.toInt h
  rw [oi_int ha, show (-1 : Int32).toInt = -1 from rfl] at this
  omega
theorem RW_iff {w c : Int32} (h : RW w c) (j : Nat) (hj : j < 31) : w = Int32.ofNat j ↔ c = Int32.ofNat (wpi.getD j 0) := by
  rcases h with ⟨a, b⟩ | ⟨i, hi, a, b⟩
  · rw [a, b]
    exact ⟨fun q => absurd q.symm (oi_m1 (by omega)), fun q => absurd q.symm (oi_m1 (by have := wpi_lt hj; omega))⟩
  · rw [a, b]
    have hi2 := wpi_lt hi
    have hj2 := wpi_lt hj
    refine ⟨fun q => ?_, fun q => ?_⟩
    · rw [oi_inj (by omega) (by omega) q]
    · rw [wpi_inj hi hj (oi_inj (by omega) (by omega) q)]
theorem RW_none {w c : Int32} (h : RW w c) : w = -1 ↔ c = -1 := by
  rcases h with ⟨a, b⟩ | ⟨i, hi, a, b⟩
  · rw [a, b]
  · rw [a, b]
    exact ⟨fun q => absurd q (oi_m1 (by omega)), fun q => absurd q (oi_m1 (by have := wpi_lt hi; omega))⟩
theorem pw_rel {c r : Int32} (h : R0 t n b Ic Jc Ir) (hw : ∀ w, RW w (Ic 8 5) → (w = r ↔ Ic 8 5 = c)) (hc : f34_8 N Ic Jc c = some (v, I1, J1)) (hr : f228_185_1002 N' Ir Jr r = some (w, I2, J2)) : OUT t v w I1 I2 (AD t n b Ic Jc Ir Jr I1 J1 I2 J2) := by
  unfold f34_8 at hc
  unfold f228_185_1002 at hr
  replace hr := obI hr
  obtain ⟨w1, Ia, Ja, e1, hr⟩ := hr
  obtain ⟨ww, eq, hRW⟩ := RT_word h.1 e1
  cases eq
  by_cases q : Ic 8 5 = c
  · rw [xc_eq q, cond_true] at hc
    rw [xc_eq ((hw _ hRW).mpr q), cond_true] at hr
    replace hc := obU hc
    obtain ⟨u, Ib, Jb, e2, hc⟩ := hc
    replace hr := obU hr
    obtain ⟨u', Id, Jd, e3, hr⟩ := hr
    cases hc
    cases hr
    exact Or.inr ⟨rfl, rfl, R0_adv h e2 e3⟩
  · rw [xc_eqn q, cond_false, f33_is] at hc
    rw [xc_eqn (fun q' => q ((hw _ hRW).mp q')), cond_false, f225_is h.2.1] at hr
    dsimp only at hc hr
    cases hc
    cases hr
    exact Or.inl ⟨rfl, rfl, RF_of h (by decide)⟩
theorem f223_is {I : tI} {J : tJ} {a : Int32} : f223_185 I J a = (if I 185 12 = 4 ∧ I 185 15 = a then 1 else 0, I, J) := by
  unfold f223_185
  by_cases h : I 185 12 = 4
  · rw [xc_nen h, cond_false]
    by_cases h2 : I 185 15 = a
    · rw [xc_nen h2, cond_false, if_pos ⟨h, h2⟩]
    · rw [xc_ne h2, cond_true, if_neg (fun q => h2 q.2)]
  · rw [xc_ne h, cond_true, if_neg (fun q => h q.1)]
theorem pc_rel (h : R0 t n b Ic Jc Ir) (hc : f35_8 N Ic Jc = some (v, I1, J1)) (hr : f227_185 N' Ir Jr 59 = some (w, I2, J2)) : OUT t v w I1 I2 (AD t n (b + 1) Ic Jc Ir Jr I1 J1 I2 J2) := by
  obtain ⟨s, e, -, -, -, -, -, -, hk⟩ := RT_cases h.1
  unfold f35_8 at hc
  unfold f227_185 at hr
  rw [f223_is] at hr
  dsimp only at hr
  have bad : Ic 8 2 ≠ 3 → Ir 185 12 ≠ 4 → OUT t v w I1 I2 (AD t n (b + 1) Ic Jc Ir Jr I1 J1 I2 J2) := fun a b => by
    rw [xc_ne a, cond_true, f33_is] at hc
    rw [if_neg (fun q => b q.1), show xcmp .ne 0 0 = false from rfl, cond_false, f225_is h.2.1] at hr
    dsimp only at hc hr
    cases hc
    cases hr
    exact Or.inl ⟨rfl, rfl, RF_of h (by decide)⟩
  rcases hk with ⟨a, b, c⟩ | ⟨a, b, c, -⟩ | ⟨a, b, c, d⟩ | ⟨a, b, c, d⟩ | ⟨a, b, c⟩
  · exact bad (by rw [a]; decide) (by rw [b]; decide)
  · exact bad (by rw [a]; decide) (by rw [b]; decide)
  · exact bad (by rw [a]; decide) (by rw [b]; decide)
  · rw [xc_nen a, cond_false] at hc
    by_cases q : Ic 8 7 = 59
    · rw [xc_eq q, cond_true] at hc
      rw [if_pos ⟨b, by rw [← d]; exact q⟩, show xcmp .ne 1 0 = true from rfl, cond_true] at hr
      replace hc := obU hc
      obtain ⟨u, Ib, Jb, e2, hc⟩ := hc
      replace hr := obU hr
      obtain ⟨u', Id, Jd, e3, hr⟩ := hr
      cases hc
      cases hr
      exact Or.inr ⟨rfl, rfl, R0_adv3 h a e2 e3⟩
    · rw [xc_eqn q, cond_false, f33_is] at hc
      rw [if_neg (fun q' => q (by rw [d]; exact q'.2)), show xcmp .ne 0 0 = false from rfl, cond_false, f225_is h.2.1] at hr
      dsimp only at hc hr
      cases hc
      cases hr
      exact Or.inl ⟨rfl, rfl, RF_of h (by decide)⟩
  · exact bad (by rw [a]; decide) (by rw [b]; decide)
/-- a word that is asked for, passed if it is there: the class looks at its number itself -/
theorem is_rel {r : Int32} (h : R0 t n b Ic Jc Ir) (hr : f235_185 N' Ir Jr r = some (w, I2, J2)) : ∃ ww, RW ww (Ic 8 5) ∧ ((ww = r ∧ w = 1 ∧ f222_185 N' Ir Jr = some ((), I2, J2)) ∨ (ww ≠ r ∧ w = 0 ∧ I2 = Ir ∧ J2 = Jr)) := by
  unfold f235_185 at hr
  replace hr := obI hr
  obtain ⟨w1, Ia, Ja, e1, hr⟩ := hr
  obtain ⟨ww, eq, hRW⟩ := RT_word h.1 e1
  cases eq
  refine ⟨w1, hRW, ?_⟩
  by_cases q : w1 = r
  · rw [xc_eq q, cond_true] at hr
    replace hr := obU hr
    obtain ⟨u', Id, Jd, e3, hr⟩ := hr
    cases hr
    exact Or.inl ⟨q, rfl, e3⟩
  · rw [xc_eqn q, cond_false] at hr
    cases hr
    exact Or.inr ⟨q, rfl, rfl, rfl⟩
end PA
/-! NAMES: five bits a letter, eight bits a letter -/
def twS (t : Nat → Int32) : Nat → Nat → List Int32
  | _, 0 => []
  | s, k + 1 => t s :: twS t (s + 1) k
theorem twS_len {t : Nat → Int32} : ∀ (k s : Nat), (twS t s k).length = k
  | 0, _ => rfl
  | k + 1, s => by simp only [twS, List.length_cons, twS_len k (s + 1)]
def e5 (w : List Int32) (v : Int64) : Int64 := w.foldl (fun a c => a * 32 + (c - 97 + 1).toInt64) v
def e8 (w : List Int32) (v : Int64) : Int64 := w.foldl (fun a c => (a <<< ((Int32.toInt64 8) &&& 63)) ||| (c &&& 255).toInt64) v
def isWd (w : List Int32) : Prop := ltW w ∧ 1 ≤ w.length ∧ w.length ≤ 8
theorem lxN_e5 {t : Nat → Int32} {n s : Nat} : ∀ (f p : Nat) (v : Int64), s ≤ p → lxW t n f p - s ≤ 8 → lxN t n s f p v = e5 (twS t p (lxW t n f p - p)) v
  | 0, p, v, _, _ => by
    simp only [lxN, lxW, Nat.sub_self, twS]
    rfl
  | f + 1, p, v, hs, h8 => by
    simp only [lxN, lxW] at h8 ⊢
    by_cases hl : p < n ∧ 97 ≤ (t p).toInt ∧ (t p).toInt ≤ 122
    · rw [if_pos hl] at h8
      rw [if_pos hl, if_pos hl]
      have hge : p + 1 ≤ lxW t n f (p + 1) := by
        have : ∀ (f p : Nat), p ≤ lxW t n f p := fun f => by
          induction f with
          | zero => intro p; exact Nat.le_refl _
          | succ f ih =>
            intro p
            simp only [lxW]
            split
            · have := ih (p + 1)
              omega
            · exact Nat.le_refl _
        exact this f (p + 1)
      rw [if_neg (by omega), lxN_e5 f (p + 1) _ (by omega) h8, show lxW t n f (p + 1) - p = (lxW t n f (p + 1) - (p + 1)) + 1 by omega]
      simp only [twS]
      rfl
    · rw [if_neg hl, if_neg hl, Nat.sub_self]
      rfl
theorem lxW_lt {t : Nat → Int32} {n : Nat} : ∀ (f p i : Nat), p ≤ i → i < lxW t n f p → 97 ≤ (t i).toInt ∧ (t i).toInt ≤ 122
  | 0, p, i, h1, h2 => by simp only [lxW] at h2; omega
  | f + 1, p, i, h1, h2 => by
    simp only [lxW] at h2
    by_cases hl : p < n ∧ 97 ≤ (t p).toInt ∧ (t p).toInt ≤ 122
    · rw [if_pos hl] at h2
      by_cases e : i = p
      · rw [e]; exact hl.2
      · exact lxW_lt f (p + 1) i (by omega) h2
    · rw [if_neg hl] at h2
      omega
theorem twS_lt {t : Nat → Int32} : ∀ (k s : Nat), (∀ i, s ≤ i → i < s + k → 97 ≤ (t i).toInt ∧ (t i).toInt ≤ 122) → ltW (twS t s k)
  | 0, _, _ => fun c hc => by cases hc
  | k + 1, s, h => fun c hc => by
    simp only [twS, List.mem_cons] at hc
    rcases hc with rfl | hc
    · exact h s (Nat.le_refl _) (by omega)
    · exact twS_lt k (s + 1) (fun i h1 h2 => h i (by omega) (by omega)) c hc
theorem f231_run {N n e : Nat} {t : Nat → Int32} {I : tI} {J : tJ} (hn9 : n ≤ 900) (hen : e ≤ n) (h1 : I 185 11 = Int32.ofNat n) (h14 : I 185 14 = Int32.ofNat e) (ht : ∀ i, i < n → I 192 i = t i) : ∀ (k p : Nat) (v : Int64) {Y : Int64 × Int32 × tI × tJ}, p ≤ e → f231_185_l7 N k I J v (Int32.ofNat p) = some Y → Y.1 = e8 (twS t p (e - p)) v ∧ Y.2.2 = (I, J)
  | 0, _, _, _, _, h => by cases h
  | k + 1, p, v, Y, hp, h => by
    simp only [f231_185_l7] at h
    rw [h14, oi_ge (by omega) (by omega)] at h
    by_cases hpe : e ≤ p
    · rw [decide_eq_true hpe, cond_true] at h
      cases h
      rw [show e - p = 0 by omega]
      exact ⟨rfl, rfl⟩
    · rw [decide_eq_false hpe, cond_false, f219_is hn9 (by omega) h1 ht] at h
      dsimp only at h
      rw [if_pos (by omega), oi_suc (by omega)] at h
      have := f231_run hn9 hen h1 h14 ht k (p + 1) _ (by omega) h
      rw [show e - p = (e - (p + 1)) + 1 by omega]
      exact this
theorem f231_is {N n s e : Nat} {t : Nat → Int32} {I : tI} {J : tJ} {q : Int64 × tI × tJ} (hn9 : n ≤ 900) (hse : s ≤ e) (hen : e ≤ n) (h1 : I 185 11 = Int32.ofNat n) (h13 : I 185 13 = Int32.ofNat s) (h14 : I 185 14 = Int32.ofNat e) (ht : ∀ i, i < n → I 192 i = t i) (h : f231_185 N I J = some q) : q = (e8 (twS t s (e - s)) 0, I, J) := by
  unfold f231_185 at h
  cases hc : f231_185_l7 N N I J 0 (I 185 13) with
  | none => rw [hc] at h; cases h
  | some Y =>
    rw [hc] at h
    rw [h13] at hc
    obtain ⟨a, b⟩ := f231_run hn9 hen h1 h14 ht N s 0 hse hc
    obtain ⟨y1, y3, Ia, Ja⟩ := Y
    dsimp only at h a b
    cases b
    cases h
    rw [a]
def n5 (w : List Int32) : Nat := w.foldl (fun a c => a * 32 + (c.toInt.toNat - 96)) 0
def n8 (w : List Int32) : Nat := w.foldl (fun a c => a * 256 + c.toInt.toNat) 0
theorem n5_snoc {w : List Int32} {c : Int32} : n5 (w ++ [c]) = n5 w * 32 + (c.toInt.toNat - 96) := by
  unfold n5
  rw [List.foldl_append]
  rfl
theorem n8_snoc {w : List Int32} {c : Int32} : n8 (w ++ [c]) = n8 w * 256 + c.toInt.toNat := by
  unfold n8
  rw [List.foldl_append]
  rfl
theorem e5_snoc {w : List Int32} {c : Int32} {v : Int64} : e5 (w ++ [c]) v = e5 w v * 32 + (c - 97 + 1).toInt64 := by
  unfold e5
  rw [List.foldl_append]
  rfl
theorem e8_snoc {w : List Int32} {c : Int32} {v : Int64} : e8 (w ++ [c]) v = (e8 w v <<< ((Int32.toInt64 8) &&& 63)) ||| (c &&& 255).toInt64 := by
  unfold e8
  rw [List.foldl_append]
  rfl
theorem snocE (w : List Int32) : w = [] ∨ ∃ u c, w = u ++ [c] := by
  rcases List.eq_nil_or_concat w with h | ⟨u, c, h⟩
  · exact Or.inl h
  · exact Or.inr ⟨u, c, by rw [h, List.concat_eq_append]⟩
theorem ltW_snoc {u : List Int32} {c : Int32} (h : ltW (u ++ [c])) : ltW u ∧ 97 ≤ c.toInt ∧ c.toInt ≤ 122 := ⟨fun x hx => h x (List.mem_append_left _ hx), h c (List.mem_append_right _ (List.mem_singleton.mpr rfl))⟩
theorem n5_lt : ∀ (m : Nat) (w : List Int32), w.length = m → ltW w → n5 w < 32 ^ m
  | 0, w, hl, _ => by
    rw [List.length_eq_zero_iff.mp hl]
    decide
  | m + 1, w, hl, hw => by
    rcases snocE w with h | ⟨u, c, h⟩
    · rw [h] at hl; cases hl
    · subst h
      obtain ⟨a, b1, b2⟩ := ltW_snoc hw
      have hu : u.length = m := by simpa using hl
      have := n5_lt m u hu a
      rw [n5_snoc, Nat.pow_succ]
      omega
theorem n8_lt : ∀ (m : Nat) (w : List Int32), w.length = m → ltW w → n8 w < 123 * 256 ^ (m - 1) ∨ m = 0
  | 0, w, hl, _ => Or.inr rfl
  | 1, w, hl, hw => by
    rcases snocE w with h | ⟨u, c, h⟩
    · rw [h] at hl; cases hl
    · subst h
      obtain ⟨a, b1, b2⟩ := ltW_snoc hw
      have hu : u.length = 0 := by simpa using hl
      rw [n8_snoc, List.length_eq_zero_iff.mp hu]
      left
      show 0 * 256 + c.toInt.toNat < 123 * 1
      omega
  | m + 2, w, hl, hw => by
    rcases snocE w with h | ⟨u, c, h⟩
    · rw [h] at hl; cases hl
    · subst h
      obtain ⟨a, b1, b2⟩ := ltW_snoc hw
      have hu : u.length = m + 1 := by simpa using hl
      left
      rcases n8_lt (m + 1) u hu a with g | g
      · rw [Nat.add_sub_cancel] at g
        rw [n8_snoc, show m + 2 - 1 = m + 1 from rfl, Nat.pow_succ]
        omega
      · omega
theorem n5_inj : ∀ (m : Nat) (w w' : List Int32), w.length = m → ltW w → ltW w' → n5 w = n5 w' → w = w'
  | 0, w, w', hl, _, hw', h => by
    have e := List.length_eq_zero_iff.mp hl
    subst e
    rcases snocE w' with e' | ⟨u, c, e'⟩
    · exact e'.symm
    · subst e'
      obtain ⟨a, b1, b2⟩ := ltW_snoc hw'
      rw [n5_snoc] at h
      have : n5 [] = 0 := rfl
      omega
  | m + 1, w, w', hl, hw, hw', h => by
    rcases snocE w with e | ⟨u, c, e⟩
    · rw [e] at hl; cases hl
    · subst e
      obtain ⟨a, b1, b2⟩ := ltW_snoc hw
      have hu : u.length = m := by simpa using hl
      rcases snocE w' with e' | ⟨u', c', e'⟩
      · subst e'
        rw [n5_snoc] at h
        have : n5 [] = 0 := rfl
        omega
      · subst e'
        obtain ⟨a', b1', b2'⟩ := ltW_snoc hw'
        rw [n5_snoc, n5_snoc] at h
        rw [n5_inj m u u' hu a a' (by omega), show c = c' from i32_eq (by omega)]
theorem n8_inj : ∀ (m : Nat) (w w' : List Int32), w.length = m → ltW w → ltW w' → n8 w = n8 w' → w = w'
  | 0, w, w', hl, _, hw', h => by
    have e := List.length_eq_zero_iff.mp hl
    subst e
    rcases snocE w' with e' | ⟨u, c, e'⟩
    · exact e'.symm
    · subst e'
      obtain ⟨a, b1, b2⟩ := ltW_snoc hw'
      rw [n8_snoc] at h
      have : n8 [] = 0 := rfl
      omega
  | m + 1, w, w', hl, hw, hw', h => by
    rcases snocE w with e | ⟨u, c, e⟩
    · rw [e] at hl; cases hl
    · subst e
      obtain ⟨a, b1, b2⟩ := ltW_snoc hw
      have hu : u.length = m := by simpa using hl
      rcases snocE w' with e' | ⟨u', c', e'⟩
      · subst e'
        rw [n8_snoc] at h
        have : n8 [] = 0 := rfl
        omega
      · subst e'
        obtain ⟨a', b1', b2'⟩ := ltW_snoc hw'
        rw [n8_snoc, n8_snoc] at h
        rw [n8_inj m u u' hu a a' (by omega), show c = c' from i32_eq (by omega)]
theorem i64_eq {x y : Int64} (h : x.toInt = y.toInt) : x = y := Int64.toInt_inj.mp h
theorem i3264 (x : Int32) : x.toInt64.toInt = x.toInt := Int32.toInt_toInt64 x
theorem e5_n5 : ∀ (m : Nat) (w : List Int32), w.length = m → m ≤ 8 → ltW w → (e5 w 0).toInt = n5 w
  | 0, w, hl, _, _ => by
    rw [List.length_eq_zero_iff.mp hl]
    rfl
  | m + 1, w, hl, hm, hw => by
    rcases snocE w with e | ⟨u, c, e⟩
    · rw [e] at hl; cases hl
    · subst e
      obtain ⟨a, b1, b2⟩ := ltW_snoc hw
      have hu : u.length = m := by simpa using hl
      have ih := e5_n5 m u hu (by omega) a
      have hb := n5_lt m u hu a
      have hp : 32 ^ m ≤ 32 ^ 7 := Nat.pow_le_pow_right (by omega) (by omega)
      have k97 : (97 : Int32).toInt = 97 := rfl
      have k1 : (1 : Int32).toInt = 1 := rfl
      have k32 : (32 : Int64).toInt = 32 := rfl
      have c1 : (c - 97).toInt = c.toInt - 97 := by rw [ti_sub (by rw [k97]; omega) (by rw [k97]; omega), k97]
      have c2 : (c - 97 + 1).toInt = c.toInt - 96 := by rw [ti_add (by rw [c1, k1]; omega) (by rw [c1, k1]; omega), c1, k1]; omega
      have m1 : (e5 u 0 * 32).toInt = n5 u * 32 := by
        rw [tl_mul (by rw [ih, k32]; unfold klmin; omega) (by rw [ih, k32]; unfold klmax; omega), ih, k32]
      rw [e5_snoc, tl_add (by rw [m1, i3264, c2]; unfold klmin; omega) (by rw [m1, i3264, c2]; unfold klmax; omega), m1, i3264, c2, n5_snoc]
      omega
theorem sh8 {v : Int64} {c : Int32} (h0 : 0 ≤ v.toInt) (h1 : v.toInt < 36028797018963968) (c0 : 0 ≤ c.toInt) (c1 : c.toInt ≤ 127) : ((v <<< ((Int32.toInt64 8) &&& 63)) ||| (c &&& 255).toInt64).toInt = v.toInt * 256 + c.toInt := by
  rw [b_pos c0 c1]
  have e8' : ((Int32.toInt64 8) &&& 63) = (8 : Int64) := by decide
  rw [e8']
  have hv : v.toBitVec.toNat = v.toInt.toNat := by
    have : v.toInt = v.toBitVec.toInt := rfl
    rw [this, BitVec.toInt_eq_toNat_cond] at h0 h1 ⊢
    have := v.toBitVec.isLt
    split at h0 <;> split <;> omega
  have hc : c.toInt64.toBitVec.toNat = c.toInt.toNat := by
    have h := i3264 c
    have e : c.toInt64.toInt = c.toInt64.toBitVec.toInt := rfl
    rw [e, BitVec.toInt_eq_toNat_cond] at h
    have := c.toInt64.toBitVec.isLt
    split at h <;> omega
  have hs : (v <<< (8 : Int64)).toBitVec = v.toBitVec <<< 8 := by
    rw [Int64.toBitVec_shiftLeft]
    rfl
  have hn : ((v <<< (8 : Int64)) ||| c.toInt64).toBitVec.toNat = v.toInt.toNat * 256 + c.toInt.toNat := by
    rw [Int64.toBitVec_or, BitVec.toNat_or, hs, BitVec.toNat_shiftLeft, hv, hc, Nat.shiftLeft_eq, Nat.mod_eq_of_lt (by omega)]
    have := Nat.two_pow_add_eq_or_of_lt (i := 8) (b := c.toInt.toNat) (by omega) v.toInt.toNat
    rw [show (2 : Nat) ^ 8 = 256 from rfl] at this ⊢
    rw [Nat.mul_comm v.toInt.toNat 256, ← this]
  have e : ∀ x : Int64, x.toInt = x.toBitVec.toInt := fun _ => rfl
  rw [e ((v <<< (8 : Int64)) ||| c.toInt64), BitVec.toInt_eq_toNat_cond, hn]
  split <;> omega
theorem e8_n8 : ∀ (m : Nat) (w : List Int32), w.length = m → m ≤ 8 → ltW w → (e8 w 0).toInt = n8 w
  | 0, w, hl, _, _ => by
    rw [List.length_eq_zero_iff.mp hl]
    rfl
  | m + 1, w, hl, hm, hw => by
    rcases snocE w with e | ⟨u, c, e⟩
    · rw [e] at hl; cases hl
    · subst e
      obtain ⟨a, b1, b2⟩ := ltW_snoc hw
      have hu : u.length = m := by simpa using hl
      have ih := e8_n8 m u hu (by omega) a
      have hb : n8 u < 36028797018963968 := by
        rcases n8_lt m u hu a with g | g
        · have hp : 256 ^ (m - 1) ≤ 256 ^ 6 := Nat.pow_le_pow_right (by omega) (by omega)
          have : (256 : Nat) ^ 6 = 281474976710656 := rfl
          omega
        · rw [g] at hu
          rw [List.length_eq_zero_iff.mp hu]
          decide
      rw [e8_snoc, sh8 (by rw [ih]; omega) (by rw [ih]; omega) (by omega) (by omega), ih, n8_snoc]
      omega
/-- two names of one thing: the class's number, the reference's -/
def RN (a b : Int64) : Prop := ∃ w, isWd w ∧ a = e5 w 0 ∧ b = e8 w 0
theorem RN_iff {a b a' b' : Int64} (h : RN a b) (h' : RN a' b') : a = a' ↔ b = b' := by
  obtain ⟨w, ⟨hw, h1, h8⟩, rfl, rfl⟩ := h
  obtain ⟨w', ⟨hw', h1', h8'⟩, rfl, rfl⟩ := h'
  refine ⟨fun q => ?_, fun q => ?_⟩
  · have := congrArg Int64.toInt q
    rw [e5_n5 _ w rfl h8 hw, e5_n5 _ w' rfl h8' hw'] at this
    rw [n5_inj _ w w' rfl hw hw' (by omega)]
  · have := congrArg Int64.toInt q
    rw [e8_n8 _ w rfl h8 hw, e8_n8 _ w' rfl h8' hw'] at this
    rw [n8_inj _ w w' rfl hw hw' (by omega)]
