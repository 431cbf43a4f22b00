/-! RUNS LIVED: one act, both ways -/
/-- what an act may change but for the loops' counts -/
def cG (I I1 : tI) : Prop := ∀ o k, o ≠ 67 → ¬ (o = 12 ∧ k = 1) → o ≠ 19 → o ≠ 20 → o ≠ 32 → o ≠ 33 → I1 o k = I o k
def rG (I I1 : tI) : Prop := ∀ o k, o ≠ 201 → ¬ (o = 185 ∧ (k = 30 ∨ k = 31)) → ¬ (o = 186 ∧ (k = 5 ∨ (40 ≤ k ∧ k < 110) ∨ (128 ≤ k ∧ k < 252))) → I1 o k = I o k
def LB (P S B W D E s a d : Nat) (Ic : tI) (Jc : tJ) (Ir : tI) (Jr : tJ) : Prop := WPQ P S B W D s Ic Jc Ir Jr ∧ RN2 26 0 P S B E Ic Ir ∧ (a ≤ 300 ∧ d < 65536) ∧ (Ic 67 0 = Int32.ofNat a ∧ Ir 185 31 = Int32.ofNat a) ∧ (Ic 67 1 = Ir 201 0 ∧ Ic 67 2 = Ir 201 1 ∧ Ic 67 3 = Ir 201 2 ∧ Ic 67 4 = Ir 201 3) ∧ (Ic 67 5 = 0 ∧ Ir 201 4 = 0) ∧ (Ic 67 7 = Int32.ofNat d ∧ Ir 185 30 = Int32.ofNat d) ∧ ((0 ≤ (Ic 10 4).toInt ∧ (Ic 10 4).toInt ≤ 99) ∧ 0 ≤ (Ic 10 5).toInt ∧ (Ic 10 5).toInt ≤ 20)
section LV1
variable {N N' P S B W D E s s' a a' d d' : Nat} {Ic Ir I1 I2 I3 I : tI} {Jc Jr J1 J2 J : tJ} {u u' : Unit} {v w : Int32}
theorem cG_rfl : cG I I := fun _ _ _ _ _ _ _ _ => rfl
theorem rG_rfl : rG I I := fun _ _ _ _ _ => rfl
theorem cG_tr (h : cG I I1) (h2 : cG I1 I2) : cG I I2 := fun o k z a b c d e => (h2 o k z a b c d e).trans (h o k z a b c d e)
theorem rG_tr (h : rG I I1) (h2 : rG I1 I2) : rG I I2 := fun o k z a b => (h2 o k z a b).trans (h o k z a b)
theorem cG_of (h : cF I I1) : cG I I1 := fun o k _ a b c d e => h o k a b c d e
theorem rG_of (h : rF I I1) : rG I I1 := fun o k _ _ a => h o k a
theorem cG_67 {k : Nat} {x : Int32} : cG I (tup I 67 k x) := fun o k' h _ _ _ _ _ => tup_ne (by omega)
theorem rG_201 {k : Nat} {x : Int32} : rG I (tup I 201 k x) := fun o k' h _ _ => tup_ne (by omega)
theorem RN2_cg {rb sl : Nat} (h : RN2 rb sl P S B E Ic Ir) (c : ∀ o k, rb ≤ o → o ≤ rb + 4 → I1 o k = Ic o k) (g : ∀ k, k = 8 ∨ (252 ≤ k ∧ k < 612) → I2 186 (sl + k) = Ir 186 (sl + k)) : RN2 rb sl P S B E I1 I2 := by
  obtain ⟨h1, h2, h3, h4, h5⟩ := h
  refine ⟨h1, by rw [c _ _ (by omega) (by omega)]; exact h2, by rw [g 8 (Or.inl rfl)]; exact h3, fun k hk => ?_, fun o o' e e' q1 q2 q3 q4 q5 q6 q7 q8 => ?_⟩
  · have e : ∀ j, j < 6 → I2 186 (sl + 252 + 6 * k + j) = Ir 186 (sl + 252 + 6 * k + j) := fun j hj => by
      rw [show sl + 252 + 6 * k + j = sl + (252 + 6 * k + j) by omega]
      exact g _ (by omega)
    have e0 : I2 186 (sl + 252 + 6 * k) = Ir 186 (sl + 252 + 6 * k) := e 0 (by omega)
    obtain ⟨q1, q2, q3⟩ := h4 k hk
    refine ⟨?_, ?_, ?_⟩
    · rw [c (rb + 1) k (by omega) (by omega), c (rb + 2) k (by omega) (by omega), c (rb + 3) k (by omega) (by omega), e0, e 1 (by omega), e 2 (by omega), e 5 (by omega)]
      exact q1
    · rw [c (rb + 1) k (by omega) (by omega), c (rb + 4) k (by omega) (by omega), e 4 (by omega)]
      intro q
      obtain ⟨x, x1, x2, x3, x4, x5, x6⟩ := q2 q
      exact ⟨x, x1, x2, x3, x4, by rw [c _ _ (by omega) (by omega)]; exact x5, by rw [c _ _ (by omega) (by omega)]; exact x6⟩
    · rw [c (rb + 1) k (by omega) (by omega), c (rb + 4) k (by omega) (by omega), e 4 (by omega)]
      intro q
      obtain ⟨x, x1, x2, x3, x4, x5⟩ := q3 q
      exact ⟨x, x1, x2, x3, by rw [c _ _ (by omega) (by omega)]; exact x4, by rw [c _ _ (by omega) (by omega)]; exact x5⟩
  · rw [c _ _ (by omega) (by omega)] at q4 q5 q6 q7
    exact h5 o o' e e' q1 q2 q3 q4 q5 q6 q7 q8
theorem LB_mk (h : LB P S B W D E s a d Ic Jc Ir Jr) (hW : WPQ P S B W D s' I1 Jc I2 Jr) (c : cG Ic I1) (g : rG Ir I2) (ha : a' ≤ 300 ∧ d' < 65536) (h0 : I1 67 0 = Int32.ofNat a' ∧ I2 185 31 = Int32.ofNat a') (h1 : I1 67 1 = I2 201 0 ∧ I1 67 2 = I2 201 1 ∧ I1 67 3 = I2 201 2 ∧ I1 67 4 = I2 201 3) (h5 : I1 67 5 = 0 ∧ I2 201 4 = 0) (h7 : I1 67 7 = Int32.ofNat d' ∧ I2 185 30 = Int32.ofNat d') : LB P S B W D E s' a' d' I1 Jc I2 Jr := by
  obtain ⟨_, b2, _, _, _, _, _, b8⟩ := h
  refine ⟨hW, RN2_cg b2 (fun o k q1 q2 => c o k (by omega) (by omega) (by omega) (by omega) (by omega) (by omega)) (fun k q => g _ _ (by omega) (by omega) (by omega)), ha, h0, h1, h5, h7, ?_⟩
  rw [c 10 4 (by omega) (by omega) (by omega) (by omega) (by omega) (by omega), c 10 5 (by omega) (by omega) (by omega) (by omega) (by omega) (by omega)]
  exact b8
/-- the counts change, nothing else -/
theorem WPQ_67 (h : WPQ P S B W D s Ic Jc Ir Jr) (c : ∀ o k, 10 ≤ o → o ≤ 34 → I1 o k = Ic o k) (g : ∀ k, I2 186 k = Ir 186 k) : WPQ P S B W D s I1 Jc I2 Jr := by
  have hs : s ≤ 999 := h.1.1.2.2
  obtain ⟨⟨⟨⟨g1, g2, g3⟩, ⟨g4, g5⟩, g6⟩, ⟨a1, a2, a3, a4, a5, a6⟩, ⟨b1, b2, b3, b4, b5, b6⟩, b7, b8⟩, hw, hf, hs0, hb0, ho0, ht⟩ := id h
  refine ⟨⟨⟨⟨g1, g2, g3⟩, ⟨g4, g5⟩, hs⟩, ⟨?_, ?_, ?_, ?_, ?_, ?_⟩, ⟨?_, ?_, ?_, ?_, ?_, ?_⟩, ?_, ?_⟩, fun r c' hr hc' => ?_, (FR_cg (WPQ_FR h) (fun o k q1 q2 => c o k (by omega) (by omega)) (fun k q => g k)).2.2.2.2, fun i hi => ?_, fun x hx => ?_, fun k hk => ?_, ht⟩
  · rw [c _ _ (by omega) (by omega)]; exact a1
  · rw [c _ _ (by omega) (by omega)]; exact a2
  · rw [c _ _ (by omega) (by omega)]; exact a3
  · rw [c _ _ (by omega) (by omega)]; exact a4
  · rw [c _ _ (by omega) (by omega)]; exact a5
  · rw [c _ _ (by omega) (by omega)]; exact a6
  · rw [g]; exact b1
  · rw [g]; exact b2
  · rw [g]; exact b3
  · rw [g]; exact b4
  · rw [g]; exact b5
  · rw [g]; exact b6
  · rw [c _ _ (by omega) (by omega), g]; exact b7
  · rw [c _ _ (by omega) (by omega), g]; exact b8
  · rw [g]; exact hw r c' hr hc'
  · rw [c (10 + 13) i (by omega) (by omega), c (10 + 14) i (by omega) (by omega), c (10 + 15) i (by omega) (by omega), g (0 + 110 + 3 * i), g (0 + 110 + 3 * i + 1), g (0 + 110 + 3 * i + 2)]
    exact hs0 i hi
  · rw [c (10 + 22) x (by omega) (by omega), g]
    exact hb0 x hx
  · rw [c (10 + 23) (k + 1) (by omega) (by omega), g]
    exact ho0 k hk
theorem buys_run {x n : Nat} {f r c0 K : Int32} (hn : s + n ≤ 999) (hx : x < B) (hf : 0 ≤ f.toInt ∧ f.toInt ≤ 99) (hr0 : 0 ≤ r.toInt ∧ r.toInt ≤ 20) (hpay : (cS f r s n).toInt ≤ c0.toInt) : ∀ (k k' j : Nat) {Ic Ir : tI} {Jc Jr : tJ} {Y : Int32 × Int32 × Int32 × tI × tJ} {Y' : Int32 × Int32 × Int32 × Int32 × tI × tJ}, WPQ P S B W D (s + j) Ic Jc Ir Jr → j ≤ n → Ic 10 4 = f → Ic 10 5 = r → Ic 32 x = c0 - cS f r s j → f66_67_10_l62 N k Ic Jc (Int32.ofNat x) (Int32.ofNat n) (Int32.ofNat j) = some Y → f339_185_l39 N' k' Ir Jr (Int32.ofNat x) (Int32.ofNat n) K (Int32.ofNat j) = some Y' → (WPQ P S B W D (s + n) Y.2.2.2.1 Jc Y'.2.2.2.2.1 Jr ∧ Y.2.2.2.2 = Jc ∧ Y'.2.2.2.2.2 = Jr) ∧ (cF Ic Y.2.2.2.1 ∧ rF Ir Y'.2.2.2.2.1) ∧ Y'.2.1 = Int32.ofNat n ∧ Y'.2.2.1 = K
  | 0, _, _, _, _, _, _, _, _, _, _, _, _, _, h, _ => by cases h
  | _ + 1, 0, _, _, _, _, _, _, _, _, _, _, _, _, _, h => by cases h
  | k + 1, k' + 1, j, Ic, Ir, Jc, Jr, Y, Y', hW, hj, e4, e5, e32, hc, hr => by
    simp only [f66_67_10_l62] at hc
    simp only [f339_185_l39] at hr
    rw [oi_ge (by omega) (by omega)] at hc hr
    by_cases e : n ≤ j
    · have : j = n := by omega
      subst this
      rw [decide_eq_true (by omega), cond_true] at hc hr
      cases hc
      cases hr
      exact ⟨⟨hW, rfl, rfl⟩, ⟨cF_rfl, rF_rfl⟩, rfl, rfl⟩
    · rw [decide_eq_false e, cond_false, oi_suc (by omega)] at hc hr
      obtain ⟨_, I1, J1, e1, hc2⟩ := obU hc
      obtain ⟨w, I2, J2, e2, hr2⟩ := obI hr
      clear hc hr
      have hp : (prc Ic (s + j)).toInt ≤ (Ic 32 x).toInt := by
        rw [e32]
        unfold prc
        rw [e4, e5]
        exact pay_next hf hr0 hn (by omega) hpay
      obtain ⟨-, m2, m3, m4, m5, m6, m7⟩ := mk_up hW hx ⟨by omega, hp⟩ e1 e2
      subst m3 m4
      have m7' : I1 32 x = c0 - cS f r s (j + 1) := by
        rw [m7, e32]
        unfold prc
        rw [e4, e5]
        show c0 - cS f r s j - (f + Int32.ofNat (s + j) * r) = c0 - (cS f r s j + (f + Int32.ofNat (s + j) * r))
        grind
      obtain ⟨r1, ⟨r2, r3⟩, r4⟩ := buys_run hn hx hf hr0 hpay k k' (j + 1) m2 (by omega) (by rw [m5 10 4 (by omega) (by omega) (by omega) (by omega) (by omega)]; exact e4) (by rw [m5 10 5 (by omega) (by omega) (by omega) (by omega) (by omega)]; exact e5) m7' hc2 hr2
      exact ⟨r1, ⟨cF_tr m5 r2, rF_tr m6 r3⟩, r4⟩
theorem WPQ_x {x : Nat} (h : WPQ P S B W D s Ic Jc Ir Jr) (hx : x < B) : Ic 32 x = Ir 186 (128 + x) := by
  have := h.2.2.2.2.1 x hx
  rw [show 0 + 128 + x = 128 + x by omega] at this
  exact this
/-- what is bought at once -/
theorem buyAll_rel {x n : Nat} (h : LB P S B W D E s a d Ic Jc Ir Jr) (hx : x < B) (hn : n ≤ 20) (hc : f66_67_10 N Ic Jc (Int32.ofNat x) (Int32.ofNat n) = some (u, I1, J1)) (hr : f339_185 N' Ir Jr (Int32.ofNat x) (Int32.ofNat n) = some (w, I2, J2)) : (w = 0 ∨ w = 1) ∧ (∃ s', LB P S B W D E s' a d I1 Jc (tup I2 201 0 (Ir 201 0 + (if w = 0 then 1 else 0))) Jr) ∧ (J1 = Jc ∧ J2 = Jr) ∧ cG Ic I1 ∧ rG Ir I2 := by
  obtain ⟨hW, hR, ⟨ha, hd⟩, ⟨t0, t0'⟩, ⟨t1, t2, t3, t4⟩, ⟨t5, t5'⟩, ⟨t7, t7'⟩, hf, hr0⟩ := id h
  obtain ⟨⟨⟨⟨g1, g2, g3⟩, -, g6⟩, ⟨-, -, -, a4, -, a6⟩, ⟨-, -, -, -, b5, b6⟩, b7, b8⟩, -⟩ := id hW
  have b7' : Ic 10 4 = Ir 186 6 := b7
  have b8' : Ic 10 5 = Ir 186 7 := b8
  have hbx := WPQ_x hW hx
  unfold f66_67_10 at hc
  unfold f339_185 at hr
  rw [xc_eqn (oi_m1 (by omega)), cond_false, can_c a4 g6 (by omega) (by omega)] at hc
  obtain ⟨v1, Ia, Ja, e1, hr⟩ := obI hr
  obtain ⟨z1, z2⟩ := Prod.mk.inj (cost_r b6 g6 (by omega) e1)
  obtain ⟨z2, z3⟩ := Prod.mk.inj z2
  rw [z1, z2, z3] at hr
  rw [show Ir 186 5 = Int32.ofNat s from b6, oi_add, tc_gt, oi_int (by omega), show (999 : Int32).toInt = 999 from rfl, show (128 : Int32) + Int32.ofNat x = Int32.ofNat (128 + x) from oi_add (a := 128), oi_nat (p := 128 + x) (by omega), ← hbx, ← b7', ← b8', tc_ge] at hr
  dsimp only at hc
  by_cases q : s + n ≤ 999 ∧ (cS (Ic 10 4) (Ic 10 5) s n).toInt ≤ (Ic 32 x).toInt
  · rw [if_pos q, n10, cond_true, cost_c a4 g6 (by omega)] at hc
    rw [decide_eq_false (by omega), cond_false, decide_eq_true q.2, cond_true] at hr
    dsimp only at hc
    cases e2 : f66_67_10_l62 N N (tup (tup (tup Ic 67 4 (Ic 67 4 + cS (Ic 10 4) (Ic 10 5) s n)) 67 3 (Ic 67 3 + Int32.ofNat n)) 67 2 (Ic 67 2 + Int32.ofNat n)) Jc (Int32.ofNat x) (Int32.ofNat n) 0 with
    | none => rw [e2] at hc; cases hc
    | some Y =>
    cases e3 : f339_185_l39 N' N' Ir Jr (Int32.ofNat x) (Int32.ofNat n) (cS (Ic 10 4) (Ic 10 5) s n) 0 with
    | none => rw [e3] at hr; cases hr
    | some Y' =>
    have h67 : ∀ o k, o ≠ 67 → tup (tup (tup Ic 67 4 (Ic 67 4 + cS (Ic 10 4) (Ic 10 5) s n)) 67 3 (Ic 67 3 + Int32.ofNat n)) 67 2 (Ic 67 2 + Int32.ofNat n) o k = Ic o k := fun o k z => by rw [tup_ne (by omega), tup_ne (by omega), tup_ne (by omega)]
    obtain ⟨⟨r1, r2, r3⟩, ⟨r4, r5⟩, r6, r7⟩ := buys_run (s := s) (n := n) (c0 := Ic 32 x) q.1 hx hf hr0 q.2 N N' 0 (WPQ_67 hW (fun o k q1 q2 => h67 o k (by omega)) (fun _ => rfl)) (by omega) (h67 10 4 (by omega)) (h67 10 5 (by omega)) ((h67 32 x (by omega)).trans (Int32.sub_zero _).symm) e2 e3
    obtain ⟨y1, y2, y3, I3, J3⟩ := Y
    obtain ⟨z1, z2, z3, z4, I4, J4⟩ := Y'
    rw [e2] at hc
    rw [e3] at hr
    dsimp only at hc hr r1 r2 r3 r4 r5 r6 r7
    subst r2 r3 r6 r7
    cases hc
    cases hr
    have f201 : ∀ k, I4 201 k = Ir 201 k := fun k => r5 _ _ (by omega)
    have c1 : cG Ic I1 := fun o k q0 q1 q2 q3 q4 q5 => (r4 o k q1 q2 q3 q4 q5).trans (h67 o k q0)
    have c2 : rG Ir (tup (tup (tup I4 201 1 (I4 201 1 + Int32.ofNat n)) 201 2 (I4 201 2 + Int32.ofNat n)) 201 3 (I4 201 3 + cS (Ic 10 4) (Ic 10 5) s n)) := fun o k q0 q1 q2 => by rw [tup_ne (by omega), tup_ne (by omega), tup_ne (by omega)]; exact r5 o k q2
    have k67 : ∀ k, I1 67 k = tup (tup (tup Ic 67 4 (Ic 67 4 + cS (Ic 10 4) (Ic 10 5) s n)) 67 3 (Ic 67 3 + Int32.ofNat n)) 67 2 (Ic 67 2 + Int32.ofNat n) 67 k := fun k => r4 67 k (by omega) (by omega) (by omega) (by omega) (by omega)
    refine ⟨Or.inr rfl, ⟨s + n, LB_mk h (WPQ_67 r1 (fun _ _ _ _ => rfl) (fun k => by rw [tup_ne (by omega), tup_ne (by omega), tup_ne (by omega), tup_ne (by omega)])) c1 (rG_tr c2 rG_201) ⟨ha, hd⟩ ⟨?_, ?_⟩ ⟨?_, ?_, ?_, ?_⟩ ⟨?_, ?_⟩ ⟨?_, ?_⟩⟩, ⟨rfl, rfl⟩, c1, c2⟩
    · rw [k67, tup_ne (by omega), tup_ne (by omega), tup_ne (by omega)]; exact t0
    · rw [tup_ne (by omega), tup_ne (by omega), tup_ne (by omega), tup_ne (by omega), r5 _ _ (by omega)]; exact t0'
    · rw [k67, tup_ne (by omega), tup_ne (by omega), tup_ne (by omega), tup_eq, if_neg (by decide), Int32.add_zero]; exact t1
    · rw [k67, tup_eq, tup_ne (by omega), tup_ne (by omega), tup_ne (by omega), tup_eq, f201, t2]
    · rw [k67, tup_ne (by omega), tup_eq, tup_ne (by omega), tup_ne (by omega), tup_eq, f201, t3]
    · rw [k67, tup_ne (by omega), tup_ne (by omega), tup_eq, tup_ne (by omega), tup_eq, f201, t4]
    · rw [k67, tup_ne (by omega), tup_ne (by omega), tup_ne (by omega)]; exact t5
    · rw [tup_ne (by omega), tup_ne (by omega), tup_ne (by omega), tup_ne (by omega), f201]; exact t5'
    · rw [k67, tup_ne (by omega), tup_ne (by omega), tup_ne (by omega)]; exact t7
    · rw [tup_ne (by omega), tup_ne (by omega), tup_ne (by omega), tup_ne (by omega), r5 _ _ (by omega)]; exact t7'
  · rw [if_neg q, n00, cond_false] at hc
    have hr' : w = 0 ∧ I2 = Ir ∧ J2 = Jr := by
      rcases bsp hr with ⟨-, hr⟩ | ⟨t, hr⟩
      · cases hr
        exact ⟨rfl, rfl, rfl⟩
      · rcases bsp hr with ⟨t2, hr⟩ | ⟨-, hr⟩
        · exact absurd ⟨by have := of_decide_eq_false t; omega, of_decide_eq_true t2⟩ q
        · cases hr
          exact ⟨rfl, rfl, rfl⟩
    obtain ⟨rfl, rfl, rfl⟩ := hr'
    cases hc
    refine ⟨Or.inl rfl, ⟨s, LB_mk h (WPQ_67 hW (fun o k q1 q2 => tup_ne (by omega)) (fun k => tup_ne (by omega))) cG_67 rG_201 ⟨ha, hd⟩ ⟨?_, ?_⟩ ⟨?_, ?_, ?_, ?_⟩ ⟨?_, ?_⟩ ⟨?_, ?_⟩⟩, ⟨rfl, rfl⟩, cG_67, rG_rfl⟩
    · rw [tup_ne (by omega)]; exact t0
    · rw [tup_ne (by omega)]; exact t0'
    · rw [tup_eq, tup_eq, if_pos rfl, t1]
    · rw [tup_ne (by omega), tup_ne (by omega)]; exact t2
    · rw [tup_ne (by omega), tup_ne (by omega)]; exact t3
    · rw [tup_ne (by omega), tup_ne (by omega)]; exact t4
    · rw [tup_ne (by omega)]; exact t5
    · rw [tup_ne (by omega)]; exact t5'
    · rw [tup_ne (by omega)]; exact t7
    · rw [tup_ne (by omega)]; exact t7'
end LV1
