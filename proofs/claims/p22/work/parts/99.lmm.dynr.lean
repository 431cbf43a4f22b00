/-! THE WORLD BY ITS NUMBERS; A PRINT MADE, BOUGHT; ROWS OF PRINTS -/
def WPQ (P S B W D s : Nat) (Ic : tI) (Jc : tJ) (Ir : tI) (Jr : tJ) : Prop := WKn 10 0 P S B W D s Ic Ir ∧ WKw 10 0 Jc Ir ∧ FKp (10 + 2) (0 + 40) s W D P Ic Ir ∧ WKs 10 0 S P Ic Ir ∧ WKb 10 0 B Ic Ir ∧ WKo 10 0 Ic Ir ∧ WKt 10 0 P S B Jc Jr
/-- what the class changes as prints are made, what the reference -/
def cF (I I1 : tI) : Prop := ∀ o k, ¬ (o = 12 ∧ k = 1) → o ≠ 19 → o ≠ 20 → o ≠ 32 → o ≠ 33 → I1 o k = I o k
def rF (I I1 : tI) : Prop := ∀ o k, ¬ (o = 186 ∧ (k = 5 ∨ (40 ≤ k ∧ k < 110) ∨ (128 ≤ k ∧ k < 252))) → I1 o k = I o k
def prc (I : tI) (s : Nat) : Int32 := I 10 4 + Int32.ofNat s * I 10 5
def cS (f r : Int32) (s : Nat) : Nat → Int32
  | 0 => 0
  | n + 1 => cS f r s n + (f + Int32.ofNat (s + n) * r)
def cI (f r : Int) (s : Nat) : Nat → Int
  | 0 => 0
  | n + 1 => cI f r s n + (f + ((s + n : Nat) : Int) * r)
section DYR
variable {N N' P S B W D s s' : Nat} {Ic Ir I1 I2 I3 I : tI} {Jc Jr J1 J2 J : tJ} {u u' : Unit} {v w : Int32}
theorem cF_rfl : cF I I := fun _ _ _ _ _ _ _ => rfl
theorem rF_rfl : rF I I := fun _ _ _ => rfl
theorem cF_tr (h : cF I I1) (h2 : cF I1 I2) : cF I I2 := fun o k a b c d e => (h2 o k a b c d e).trans (h o k a b c d e)
theorem rF_tr (h : rF I I1) (h2 : rF I1 I2) : rF I I2 := fun o k a => (h2 o k a).trans (h o k a)
theorem WPQ_FR (h : WPQ P S B W D s Ic Jc Ir Jr) : FR 12 11 P W D s Ic Jc Ir := by
  obtain ⟨⟨⟨⟨g1, g2, g3⟩, ⟨g4, g5⟩, g6⟩, ⟨a1, a2, a3, a4, a5, a6⟩, ⟨b1, b2, b3, b4, b5, b6⟩, b7, b8⟩, hw, hf, hs, hb, ho, ht⟩ := h
  exact ⟨⟨g1, g4, g5, by omega⟩, ⟨a1, a2, a3, a4⟩, ⟨b1, b2, b3, b6⟩, hw, hf⟩
theorem FR_cg (h : FR 12 11 P W D s Ic Jc Ir) (c : ∀ o k, 11 ≤ o → o ≤ 20 → I1 o k = Ic o k) (g : ∀ k, k < 110 → I2 186 k = Ir 186 k) : FR 12 11 P W D s I1 Jc I2 := by
  obtain ⟨⟨f1, f2, f3, f4⟩, ⟨k0, k1, k2, k3⟩, ⟨m0, m1, m2, m3⟩, hw, hF⟩ := h
  refine ⟨⟨f1, f2, f3, f4⟩, ⟨?_, ?_, ?_, ?_⟩, ⟨?_, ?_, ?_, ?_⟩, fun r c' hr hc' => ?_, fun p hp => ?_⟩
  · rw [c _ _ (by omega) (by omega)]; exact k0
  · rw [c _ _ (by omega) (by omega)]; exact k1
  · rw [c _ _ (by omega) (by omega)]; exact k2
  · rw [c _ _ (by omega) (by omega)]; exact k3
  · rw [g _ (by omega)]; exact m0
  · rw [g _ (by omega)]; exact m1
  · rw [g _ (by omega)]; exact m2
  · rw [g _ (by omega)]; exact m3
  · rw [g _ (by omega)]; exact hw r c' hr hc'
  · obtain ⟨p1, ⟨p2, p3⟩, ⟨m, m1, m8, p4, p5, p6⟩, p7, p8⟩ := hF p hp
    rw [c (12 + 2) p (by omega) (by omega), c (12 + 3) p (by omega) (by omega), c (12 + 4) p (by omega) (by omega), c (12 + 5) p (by omega) (by omega), c (12 + 7) p (by omega) (by omega), c (12 + 8) p (by omega) (by omega), g (40 + 14 * p) (by omega), g (40 + 14 * p + 1) (by omega), g (40 + 14 * p + 2) (by omega), g (40 + 14 * p + 3) (by omega), g (40 + 14 * p + 4) (by omega), g (40 + 14 * p + 5) (by omega)]
    exact ⟨p1, ⟨p2, p3⟩, ⟨m, m1, m8, p4, p5, fun k hk => by rw [c (12 + 6) _ (by omega) (by omega), g (40 + 14 * p + 6 + k) (by omega)]; exact p6 k hk⟩, p7, p8⟩
theorem WPQ_up (h : WPQ P S B W D s Ic Jc Ir Jr) (hF : FR 12 11 P W D s' I1 Jc I2) (hs : s' ≤ 999) (c : cF Ic I1) (g : rF Ir I2) (hb : WKb 10 0 B I1 I2) (ho : WKo 10 0 I1 I2) : WPQ P S B W D s' I1 Jc I2 Jr := by
  obtain ⟨⟨⟨⟨g1, g2, g3⟩, ⟨g4, g5⟩, g6⟩, ⟨a1, a2, a3, a4, a5, a6⟩, ⟨b1, b2, b3, b4, b5, b6⟩, b7, b8⟩, hw, hf, hs0, hb0, ho0, ht⟩ := h
  obtain ⟨⟨f1, f2, f3, f4⟩, ⟨k0, k1, k2, k3⟩, ⟨m0, m1, m2, m3⟩, hw', hF'⟩ := hF
  refine ⟨⟨⟨⟨g1, g2, g3⟩, ⟨g4, g5⟩, hs⟩, ⟨k0, k1, k2, k3, ?_, ?_⟩, ⟨m0, m1, m2, ?_, ?_, m3⟩, ?_, ?_⟩, hw', hF', fun i hi => ?_, hb, ho, ht⟩
  · rw [c _ _ (by omega) (by omega) (by omega) (by omega) (by omega)]; exact a5
  · rw [c _ _ (by omega) (by omega) (by omega) (by omega) (by omega)]; exact a6
  · rw [g _ _ (by omega)]; exact b4
  · rw [g _ _ (by omega)]; exact b5
  · rw [c _ _ (by omega) (by omega) (by omega) (by omega) (by omega), g _ _ (by omega)]; exact b7
  · rw [c _ _ (by omega) (by omega) (by omega) (by omega) (by omega), g _ _ (by omega)]; exact b8
  · rw [c (10 + 13) i (by omega) (by omega) (by omega) (by omega) (by omega), c (10 + 14) i (by omega) (by omega) (by omega) (by omega) (by omega), c (10 + 15) i (by omega) (by omega) (by omega) (by omega) (by omega), g _ (0 + 110 + 3 * i) (by omega), g _ (0 + 110 + 3 * i + 1) (by omega), g _ (0 + 110 + 3 * i + 2) (by omega)]
    exact hs0 i hi
/-- a print for nobody -/
theorem sec_up (h : WPQ P S B W D s Ic Jc Ir Jr) (hs : s + 1 ≤ 999) (hc : f18_12_11 N Ic Jc = some (u, I1, J1)) (hr : f284_185 N' Ir Jr = some (u', I2, J2)) : WPQ P S B W D (s + 1) I1 Jc I2 Jr ∧ J1 = Jc ∧ J2 = Jr ∧ cF Ic I1 ∧ rF Ir I2 := by
  obtain ⟨a1, a2, a3, a4, a5⟩ := goOn_12 (WPQ_FR h) (by omega) hc hr
  have c : cF Ic I1 := fun o k q1 q2 q3 q4 q5 => a4 o k (by omega) q1
  have g : rF Ir I2 := fun o k q => a5 o k (fun z => q ⟨z.1, by rcases z.2 with e | ⟨p, hp, e⟩ <;> omega⟩)
  subst a2 a3
  have B4 : B ≤ 4 := h.1.1.1.2.2
  refine ⟨WPQ_up h a1 hs c g (fun x hx => ?_) (fun k hk => ?_), rfl, rfl, c, g⟩
  · rw [a4 (10 + 22) x (by omega) (by omega), a5 186 (0 + 128 + x) (fun z => by rcases z.2 with e | ⟨p, hp, e⟩ <;> omega)]
    exact h.2.2.2.2.1 x hx
  · rw [a4 (10 + 23) (k + 1) (by omega) (by omega), a5 186 (0 + 132 + k) (fun z => by rcases z.2 with e | ⟨p, hp, e⟩ <;> omega)]
    exact h.2.2.2.2.2.1 k hk
def mkI (I : tI) (x s : Nat) : tI := if s + 1 ≤ 120 then tup (tup I 32 x (I 32 x - prc I s)) 33 (s + 1) (Int32.ofNat x) else tup I 32 x (I 32 x - prc I s)
theorem oi_s1 {a : Nat} : Int32.ofNat (a + 1) - 1 = Int32.ofNat a := by
  rw [← oi_add (a := a) (b := 1)]
  show Int32.ofNat a + 1 - 1 = Int32.ofNat a
  rw [Int32.sub_eq_add_neg, Int32.add_assoc, ← Int32.sub_eq_add_neg, Int32.sub_self, Int32.add_zero]
theorem mk_c {x : Nat} (a4 : Ic 12 1 = Int32.ofNat s) (hs : s + 1 ≤ 999) (hx : x < 4) (hc : f110_10 N Ic Jc (Int32.ofNat x) = some (u, I1, J1)) : f18_12_11 N (mkI Ic x s) Jc = some (u, I1, J1) := by
  unfold f110_10 f106_10 f111_10 at hc
  rw [xc_eqn (oi_m1 (by omega)), cond_false, a4, oi_suc (by omega), oi_s1] at hc
  dsimp only at hc
  rw [f127_is, oi_int (by omega), show (1 : Int32).toInt = 1 from rfl, show (120 : Int32).toInt = 120 from rfl, oi_nat (by omega), oi_nat (by omega)] at hc
  dsimp only at hc
  unfold mkI prc
  by_cases q : s + 1 ≤ 120
  · rw [if_pos (by omega), show xcmp .eq (1 : Int32) 0 = false from rfl, cond_false] at hc
    rw [if_pos q]
    obtain ⟨_, I3, J3, e, hc⟩ := obU hc
    cases hc
    exact e
  · rw [if_neg (by omega), show xcmp .eq (0 : Int32) 0 = true from rfl, cond_true] at hc
    rw [if_neg q]
    obtain ⟨_, I3, J3, e, hc⟩ := obU hc
    cases hc
    exact e
def prr (I : tI) (s : Nat) : Int32 := I 186 6 + Int32.ofNat s * I 186 7
theorem mk_r {x : Nat} (b6 : Ir 186 5 = Int32.ofNat s) (hs : s ≤ 999) (hx : x < 4) (hr : f286_185 N' Ir Jr (Int32.ofNat x) = some (w, I2, J2)) : (w = 0 ∧ I2 = Ir ∧ J2 = Jr ∧ ¬ (s + 1 ≤ 999 ∧ (prr Ir s).toInt ≤ (Ir 186 (128 + x)).toInt)) ∨ (w = 1 ∧ s + 1 ≤ 999 ∧ (prr Ir s).toInt ≤ (Ir 186 (128 + x)).toInt ∧ ∃ I4, f284_185 N' (tup Ir 186 (128 + x) (Ir 186 (128 + x) - prr Ir s)) Jr = some ((), I4, J2) ∧ (I4 186 5 = Int32.ofNat (s + 1) → I2 = if s + 1 ≤ 120 then tup I4 186 (132 + s) (Int32.ofNat x) else I4)) := by
  unfold f286_185 f271_185 f270_185 at hr
  rw [b6, oi_suc (by omega), oi_s1, show (128 : Int32) + Int32.ofNat x = Int32.ofNat (128 + x) from oi_add (a := 128), oi_nat (p := 128 + x) (by omega)] at hr
  dsimp only at hr
  rw [b6] at hr
  by_cases e : s = 999
  · subst e
    rw [show xcmp .eq (Int32.ofNat 999) 999 = true from rfl, cond_true] at hr
    cases hr
    exact Or.inl ⟨rfl, rfl, rfl, by omega⟩
  · rw [xc_eqn (y := 999) (fun q => e (oi_inj (b := 999) (by omega) (by omega) q)), cond_false, tc_ge] at hr
    unfold prr
    by_cases q : (Ir 186 6 + Int32.ofNat s * Ir 186 7).toInt ≤ (Ir 186 (128 + x)).toInt
    · rw [decide_eq_true q, cond_true] at hr
      obtain ⟨_, I4, J4, e4, hr⟩ := obU hr
      have hJ : J2 = J4 := by
        rcases bsp hr with ⟨-, hr⟩ | ⟨-, hr⟩ <;> cases hr <;> rfl
      have hw : w = 1 := by
        rcases bsp hr with ⟨-, hr⟩ | ⟨-, hr⟩ <;> cases hr <;> rfl
      subst hJ
      refine Or.inr ⟨hw, by omega, q, I4, e4, fun h5 => ?_⟩
      rw [h5, tc_gt, oi_int (by omega), show (120 : Int32).toInt = 120 from rfl, show (132 : Int32) + Int32.ofNat (s + 1) = Int32.ofNat (132 + s + 1) from oi_add (a := 132), oi_s1, oi_nat (by omega)] at hr
      by_cases z : s + 1 ≤ 120
      · rw [decide_eq_false (by omega), cond_false] at hr
        rw [if_pos z]
        cases hr
        rfl
      · rw [decide_eq_true (by omega), cond_true] at hr
        rw [if_neg z]
        cases hr
        rfl
    · rw [decide_eq_false q, cond_false] at hr
      cases hr
      exact Or.inl ⟨rfl, rfl, rfl, fun z => q z.2⟩
/-- a print for a buyer who can pay -/
theorem mk_up {x : Nat} (h : WPQ P S B W D s Ic Jc Ir Jr) (hx : x < B) (hpay : s + 1 ≤ 999 ∧ (prc Ic s).toInt ≤ (Ic 32 x).toInt) (hc : f110_10 N Ic Jc (Int32.ofNat x) = some (u, I1, J1)) (hr : f286_185 N' Ir Jr (Int32.ofNat x) = some (w, I2, J2)) : w = 1 ∧ WPQ P S B W D (s + 1) I1 Jc I2 Jr ∧ J1 = Jc ∧ J2 = Jr ∧ cF Ic I1 ∧ rF Ir I2 ∧ I1 32 x = Ic 32 x - prc Ic s := by
  obtain ⟨⟨⟨⟨g1, g2, g3⟩, -, g6⟩, ⟨-, -, -, a4, -, a6⟩, ⟨-, -, -, -, b5, b6⟩, b7, b8⟩, -, -, -, hb, ho, -⟩ := id h
  have hpr : prr Ir s = prc Ic s := by
    unfold prr prc
    rw [show Ic 10 4 = Ir 186 6 from b7, show Ic 10 5 = Ir 186 7 from b8]
  have hbx : Ic 32 x = Ir 186 (128 + x) := by
    have := hb x hx
    rw [show 0 + 128 + x = 128 + x by omega] at this
    exact this
  replace hc := mk_c a4 hpay.1 (by omega) hc
  rcases mk_r b6 g6 (by omega) hr with ⟨-, -, -, n⟩ | ⟨hw, -, -, I4, e4, hI2⟩
  · rw [hpr, ← hbx] at n
    exact absurd hpay n
  rw [hpr, ← hbx] at e4
  have m32 : mkI Ic x s 32 x = Ic 32 x - prc Ic s := by
    unfold mkI
    split
    · rw [tup_ne (by omega), tup_eq]
    · rw [tup_eq]
  have mne : ∀ o k, ¬ (o = 32 ∧ k = x) → ¬ (o = 33 ∧ k = s + 1) → mkI Ic x s o k = Ic o k := fun o k q1 q2 => by
    unfold mkI
    split
    · rw [tup_ne q2, tup_ne q1]
    · rw [tup_ne q1]
  obtain ⟨a1, a2, a3, f1, f2⟩ := goOn_12 (FR_cg (WPQ_FR h) (fun o k q1 q2 => mne o k (by omega) (by omega)) (fun k q => tup_ne (by omega))) (by omega) hc e4
  subst a2 a3
  have h5 : I4 186 5 = Int32.ofNat (s + 1) := a1.2.2.1.2.2.2
  replace hI2 := hI2 h5
  have i2 : ∀ o k, ¬ (o = 186 ∧ k = 132 + s ∧ s + 1 ≤ 120) → I2 o k = I4 o k := fun o k q => by
    rw [hI2]
    by_cases z : s + 1 ≤ 120
    · rw [if_pos z, tup_ne (by omega)]
    · rw [if_neg z]
  have cc : cF Ic I1 := fun o k q1 q2 q3 q4 q5 => (f1 o k (by omega) q1).trans (mne o k (by omega) (by omega))
  have rr : rF Ir I2 := fun o k q => (i2 o k (by omega)).trans ((f2 o k (fun z => q ⟨z.1, by rcases z.2 with e | ⟨p, hp, e⟩ <;> omega⟩)).trans (tup_ne (by omega)))
  have i32 : I1 32 x = Ic 32 x - prc Ic s := (f1 32 x (by omega) (by omega)).trans m32
  refine ⟨hw, WPQ_up h (FR_cg a1 (fun _ _ _ _ => rfl) (fun k q => i2 _ _ (by omega))) hpay.1 cc rr (fun y hy => ?_) (fun k hk => ?_), rfl, rfl, cc, rr, i32⟩
  · rw [show (10 + 22 : Nat) = 32 from rfl, show 0 + 128 + y = 128 + y by omega, i2 _ _ (by omega), f2 186 (128 + y) (fun z => by rcases z.2 with e | ⟨p, hp, e⟩ <;> omega)]
    by_cases e : y = x
    · subst e
      rw [i32, tup_eq]
    · have := hb y hy
      rw [show (10 + 22 : Nat) = 32 from rfl, show 0 + 128 + y = 128 + y by omega] at this
      rw [tup_ne (by omega), ← this]
      exact (f1 32 y (by omega) (by omega)).trans (mne 32 y (by omega) (by omega))
  · have hk0 := ho k hk
    rw [show (10 + 23 : Nat) = 33 from rfl, show 0 + 132 + k = 132 + k by omega] at hk0 ⊢
    rw [f1 33 (k + 1) (by omega) (by omega), hI2]
    unfold mkI
    by_cases z : s + 1 ≤ 120
    · rw [if_pos z, if_pos z]
      by_cases e : k = s
      · subst e
        rw [tup_eq, tup_eq]
      · rw [tup_ne (by omega), tup_ne (by omega), tup_ne (by omega), f2 186 (132 + k) (fun z => by rcases z.2 with e | ⟨p, hp, e⟩ <;> omega), tup_ne (by omega)]
        exact hk0
    · rw [if_neg z, if_neg z, tup_ne (by omega), f2 186 (132 + k) (fun z => by rcases z.2 with e | ⟨p, hp, e⟩ <;> omega), tup_ne (by omega)]
      exact hk0
theorem cm_c {n : Nat} (a4 : I 12 1 = Int32.ofNat s) (hs : s ≤ 999) (hn : n ≤ 100000) : f108_10 I J (Int32.ofNat n) = (if s + n ≤ 999 then 1 else 0, I, J) := by
  unfold f108_10
  rw [a4, oi_add, tc_gt, oi_int (by omega), show (999 : Int32).toInt = 999 from rfl]
  by_cases q : s + n ≤ 999
  · rw [if_pos q, decide_eq_false (by omega), cond_false]
  · rw [if_neg q, decide_eq_true (by omega), cond_true]
theorem tri_suc {n : Nat} : (n + 1) * (n + 1 - 1) / 2 = n * (n - 1) / 2 + n := by
  cases n with
  | zero => rfl
  | succ m =>
    rw [show (m + 1 + 1) * (m + 1 + 1 - 1) = (m + 1) * (m + 1 - 1) + (m + 1) * 2 by
      show (m + 2) * (m + 1) = (m + 1) * m + (m + 1) * 2
      rw [← Nat.mul_add, Nat.mul_comm], Nat.add_mul_div_right _ _ (by omega)]
theorem cS_is {f r : Int32} (n : Nat) : cS f r s n = Int32.ofNat n * (f + Int32.ofNat s * r) + Int32.ofNat (n * (n - 1) / 2) * r := by
  induction n with
  | zero =>
    show (0 : Int32) = 0 * (f + Int32.ofNat s * r) + 0 * r
    rw [Int32.zero_mul, Int32.zero_mul, Int32.add_zero]
  | succ n ih =>
    show cS f r s n + (f + Int32.ofNat (s + n) * r) = _
    rw [ih, tri_suc, ← oi_add (a := s), ← oi_add (a := n * (n - 1) / 2), ← oi_add (a := n) (b := 1), show Int32.ofNat 1 = 1 from rfl]
    generalize Int32.ofNat n = a
    generalize Int32.ofNat (n * (n - 1) / 2) = b
    generalize Int32.ofNat s = c
    grind
theorem oi_half {a : Nat} (ha : a < 2147483648) : Int32.ofNat a / 2 = Int32.ofNat (a / 2) := by
  apply i32_eq
  rw [ti_div (by decide), oi_int ha, oi_int (by omega), show (2 : Int32).toInt = 2 from rfl]
  exact (Int.ofNat_tdiv a 2).symm
theorem cost_c {n : Nat} (a4 : I 12 1 = Int32.ofNat s) (hs : s ≤ 999) (hn : n ≤ 1000) : f107_10 I J (Int32.ofNat n) = (cS (I 10 4) (I 10 5) s n, I, J) := by
  unfold f107_10 f106_10
  rw [a4, oi_suc (by omega), oi_s1]
  dsimp only
  rw [cS_is]
  have e : Int32.ofNat n * (Int32.ofNat n - 1) / 2 = Int32.ofNat (n * (n - 1) / 2) := by
    cases n with
    | zero => rfl
    | succ m =>
      rw [oi_s1, oi_mul, oi_half (by have := Nat.mul_le_mul (show m + 1 ≤ 1000 by omega) (show m ≤ 1000 by omega); omega)]
      rfl
  rw [e]
theorem can_c {n x : Nat} (a4 : I 12 1 = Int32.ofNat s) (hs : s ≤ 999) (hn : n ≤ 1000) (hx : x < 4) : f109_10 I J (Int32.ofNat x) (Int32.ofNat n) = (if s + n ≤ 999 ∧ (cS (I 10 4) (I 10 5) s n).toInt ≤ (I 32 x).toInt then 1 else 0, I, J) := by
  unfold f109_10
  rw [cm_c a4 hs (by omega)]
  dsimp only
  by_cases q : s + n ≤ 999
  · rw [if_pos q, show xcmp .eq (1 : Int32) 0 = false from rfl, cond_false, cost_c a4 hs hn]
    dsimp only
    rw [oi_nat (by omega), tc_gt]
    by_cases z : (cS (I 10 4) (I 10 5) s n).toInt ≤ (I 32 x).toInt
    · rw [if_pos ⟨q, z⟩, decide_eq_false (by omega), cond_false]
    · rw [if_neg (fun h => z h.2), decide_eq_true (by omega), cond_true]
  · rw [if_neg q, if_neg (fun h => q h.1), show xcmp .eq (0 : Int32) 0 = true from rfl, cond_true]
theorem cost_run {n : Nat} (b6 : I 186 5 = Int32.ofNat s) (hs : s ≤ 999) (hn : n ≤ 1000) : ∀ (k j : Nat) {Y : Int32 × Int32 × Int32 × tI × tJ}, j ≤ n → f300_185_l4 N k I J (Int32.ofNat n) (cS (I 186 6) (I 186 7) s j) (Int32.ofNat (j + 1)) = some Y → Y.2.1 = cS (I 186 6) (I 186 7) s n ∧ Y.2.2.2 = (I, J)
  | 0, _, _, _, h => by cases h
  | k + 1, j, Y, hj, h => by
    simp only [f300_185_l4] at h
    rw [tc_gt, oi_int (by omega), oi_int (by omega)] at h
    by_cases e : j = n
    · subst e
      rw [decide_eq_true (by omega), cond_true] at h
      cases h
      exact ⟨rfl, rfl⟩
    · rw [decide_eq_false (by omega), cond_false] at h
      unfold f270_185 at h
      rw [b6, oi_add, show s + (j + 1) = s + j + 1 by omega, oi_s1, oi_suc (by omega)] at h
      exact cost_run b6 hs hn k (j + 1) (by omega) h
theorem cost_r {n : Nat} {q : Int32 × tI × tJ} (b6 : I 186 5 = Int32.ofNat s) (hs : s ≤ 999) (hn : n ≤ 1000) (h : f300_185 N I J (Int32.ofNat n) = some q) : q = (cS (I 186 6) (I 186 7) s n, I, J) := by
  unfold f300_185 at h
  cases e : f300_185_l4 N N I J (Int32.ofNat n) 0 1 with
  | none => rw [e] at h; cases h
  | some Y =>
  obtain ⟨a, b⟩ := cost_run b6 hs hn N 0 (by omega) e
  obtain ⟨y1, y2, y3, Ia, Ja⟩ := Y
  rw [e] at h
  dsimp only at h a b
  subst a
  cases b
  cases h
  rfl
/-- prices are never below 0: what all cost is no less than what some cost -/
theorem cS_int {f r : Int32} (hf : 0 ≤ f.toInt ∧ f.toInt ≤ 99) (hr : 0 ≤ r.toInt ∧ r.toInt ≤ 20) : ∀ n, s + n ≤ 1300 → (cS f r s n).toInt = cI f.toInt r.toInt s n ∧ 0 ≤ cI f.toInt r.toInt s n ∧ cI f.toInt r.toInt s n ≤ (n : Int) * 30000
  | 0, _ => ⟨rfl, Int.le_refl _, by simp [cI]⟩
  | n + 1, h => by
    obtain ⟨a, b, c⟩ := cS_int hf hr n (by omega)
    show (cS f r s n + (f + Int32.ofNat (s + n) * r)).toInt = cI f.toInt r.toInt s n + (f.toInt + ((s + n : Nat) : Int) * r.toInt) ∧ 0 ≤ cI f.toInt r.toInt s n + (f.toInt + ((s + n : Nat) : Int) * r.toInt) ∧ cI f.toInt r.toInt s n + (f.toInt + ((s + n : Nat) : Int) * r.toInt) ≤ ((n + 1 : Nat) : Int) * 30000
    have m0 : 0 ≤ ((s + n : Nat) : Int) * r.toInt := Int.mul_nonneg (by omega) hr.1
    have m1 : ((s + n : Nat) : Int) * r.toInt ≤ 1300 * 20 := by
      refine Int.le_trans (Int.mul_le_mul_of_nonneg_right (c := r.toInt) (b := 1300) (by omega) hr.1) (Int.mul_le_mul_of_nonneg_left hr.2 (by omega))
    have e1 : (Int32.ofNat (s + n) * r).toInt = ((s + n : Nat) : Int) * r.toInt := by
      rw [ti_mul (by rw [oi_int (by omega)]; omega) (by rw [oi_int (by omega)]; omega), oi_int (by omega)]
    have e2 : (f + Int32.ofNat (s + n) * r).toInt = f.toInt + ((s + n : Nat) : Int) * r.toInt := by
      rw [ti_add (by rw [e1]; omega) (by rw [e1]; omega), e1]
    generalize ((s + n : Nat) : Int) * r.toInt = t at m0 m1 e1 e2 ⊢
    refine ⟨?_, by omega, by omega⟩
    rw [ti_add (by rw [e2, a]; omega) (by rw [e2, a]; omega), e2, a]
theorem cI_mono {f r : Int} (hf : 0 ≤ f) (hr : 0 ≤ r) : ∀ n k, k ≤ n → cI f r s k ≤ cI f r s n
  | 0, k, h => by
    have : k = 0 := by omega
    subst this
    exact Int.le_refl _
  | n + 1, k, h => by
    by_cases e : k = n + 1
    · subst e
      exact Int.le_refl _
    · have a := cI_mono hf hr n k (by omega)
      have m0 : 0 ≤ ((s + n : Nat) : Int) * r := Int.mul_nonneg (by omega) hr
      show cI f r s k ≤ cI f r s n + (f + ((s + n : Nat) : Int) * r)
      omega
/-- who can pay for all can pay for the next -/
theorem pay_next {f r c : Int32} {n j : Nat} (hf : 0 ≤ f.toInt ∧ f.toInt ≤ 99) (hr : 0 ≤ r.toInt ∧ r.toInt ≤ 20) (hn : s + n ≤ 999) (hj : j < n) (h : (cS f r s n).toInt ≤ c.toInt) : (f + Int32.ofNat (s + j) * r).toInt ≤ (c - cS f r s j).toInt := by
  obtain ⟨a, b, c1⟩ := cS_int (s := s) hf hr n (by omega)
  obtain ⟨a', b', c1'⟩ := cS_int (s := s) hf hr j (by omega)
  obtain ⟨a2, b2, c2⟩ := cS_int (s := s) hf hr (j + 1) (by omega)
  have m := cI_mono (s := s) hf.1 hr.1 n (j + 1) (by omega)
  have e : (cS f r s (j + 1)).toInt = (cS f r s j).toInt + (f + Int32.ofNat (s + j) * r).toInt := by
    obtain ⟨a3, b3, c3⟩ := cS_int (s := s + j) hf hr 1 (by omega)
    have z : cS f r (s + j) 1 = f + Int32.ofNat (s + j) * r := by
      show 0 + (f + Int32.ofNat (s + j + 0) * r) = _
      rw [Int32.zero_add, Nat.add_zero]
    rw [z] at a3
    rw [a2, a', a3]
    show cI f.toInt r.toInt s j + (f.toInt + ((s + j : Nat) : Int) * r.toInt) = cI f.toInt r.toInt s j + (0 + (f.toInt + ((s + j + 0 : Nat) : Int) * r.toInt))
    rw [Int.zero_add, Nat.add_zero]
  have hc := ti_bd c
  rw [ti_sub (by omega) (by omega)]
  omega
end DYR
