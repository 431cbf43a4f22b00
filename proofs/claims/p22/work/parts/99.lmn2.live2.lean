/-! THE OTHER ACTS -/
section LV2
variable {N N' P S B W D E s s' a a' d d' : Nat} {Ic Ir I1 I2 I3 I : tI} {Jc Jr J1 J2 J : tJ} {u u' : Unit} {v w : Int32}
theorem make0 (h : f110_10 N I J (-1) = some (u, I1, J1)) : f18_12_11 N I J = some (u, I1, J1) := by
  unfold f110_10 at h
  rw [show xcmp .eq (-1 : Int32) (-1) = true from rfl, cond_true] at h
  obtain ⟨_, I3, J3, e, h⟩ := obU h
  cases h
  exact e
theorem skips_run {n : Nat} (hn : s + n ≤ 999) : ∀ (k k' j : Nat) {Ic Ir : tI} {Jc Jr : tJ} {Y : Int32 × Int32 × tI × tJ} {Y' : Int32 × Int32 × tI × tJ}, WPQ P S B W D (s + j) Ic Jc Ir Jr → j ≤ n → f67_67_10_l31 N k Ic Jc (Int32.ofNat n) (Int32.ofNat j) = some Y → f285_185_l2 N' k' Ir Jr (Int32.ofNat n) (Int32.ofNat j) = some Y' → (WPQ P S B W D (s + n) Y.2.2.1 Jc Y'.2.2.1 Jr ∧ Y.2.2.2 = Jc ∧ Y'.2.2.2 = Jr) ∧ cF Ic Y.2.2.1 ∧ rF Ir Y'.2.2.1
  | 0, _, _, _, _, _, _, _, _, _, _, h, _ => by cases h
  | _ + 1, 0, _, _, _, _, _, _, _, _, _, _, h => by cases h
  | k + 1, k' + 1, j, Ic, Ir, Jc, Jr, Y, Y', hW, hj, hc, hr => by
    simp only [f67_67_10_l31] at hc
    simp only [f285_185_l2] at hr
    rw [oi_ge (by omega) (by omega)] at hc hr
    by_cases e : n ≤ j
    · have : j = n := by omega
      subst this
      rw [decide_eq_true (by omega), cond_true] at hc hr
      cases hc
      cases hr
      exact ⟨⟨hW, rfl, rfl⟩, cF_rfl, rF_rfl⟩
    · rw [decide_eq_false e, cond_false, oi_suc (by omega)] at hc hr
      obtain ⟨_, I1, J1, e1, hc2⟩ := obU hc
      obtain ⟨_, I2, J2, e2, hr2⟩ := obU hr
      clear hc hr
      obtain ⟨m1, m2, m3, m4, m5⟩ := sec_up hW (by omega) (make0 e1) e2
      subst m2 m3
      obtain ⟨r1, r2, r3⟩ := skips_run hn k k' (j + 1) m1 (by omega) hc2 hr2
      exact ⟨r1, cF_tr m4 r2, rF_tr m5 r3⟩
theorem sec_r {n : Nat} {q : Unit × tI × tJ} (h : f285_185 N' Ir Jr (Int32.ofNat n) = some q) : ∃ Y, f285_185_l2 N' N' Ir Jr (Int32.ofNat n) 0 = some Y ∧ q.2 = Y.2.2 := by
  unfold f285_185 at h
  cases e : f285_185_l2 N' N' Ir Jr (Int32.ofNat n) 0 with
  | none => rw [e] at h; cases h
  | some Y =>
    rw [e] at h
    cases h
    exact ⟨Y, rfl, rfl⟩
theorem skipAll_rel {n : Nat} (h : LB P S B W D E s a d Ic Jc Ir Jr) (hn : n ≤ 20) (hc : f67_67_10 N Ic Jc (Int32.ofNat n) = some (u, I1, J1)) (hr : f340_185 N' Ir Jr (Int32.ofNat n) = some (w, I2, J2)) : (w = 0 ∨ w = 1) ∧ (∃ s', LB P S B W D E s' a d I1 Jc (tup I2 201 0 (Ir 201 0 + (if w = 0 then 1 else 0))) Jr) ∧ (J1 = Jc ∧ J2 = Jr) ∧ cG Ic I1 ∧ rG Ir I2 := by
  obtain ⟨hW, hR, ⟨ha, hd⟩, ⟨t0, t0'⟩, ⟨t1, t2, t3, t4⟩, ⟨t5, t5'⟩, ⟨t7, t7'⟩, hf, hr0⟩ := id h
  obtain ⟨⟨⟨⟨g1, g2, g3⟩, -, g6⟩, ⟨-, -, -, a4, -, a6⟩, ⟨-, -, -, -, b5, b6⟩, b7, b8⟩, -⟩ := id hW
  unfold f67_67_10 at hc
  unfold f340_185 at hr
  rw [cm_c a4 g6 (by omega)] at hc
  rw [show Ir 186 5 = Int32.ofNat s from b6, oi_add, tc_le, oi_int (by omega), show (999 : Int32).toInt = 999 from rfl] at hr
  dsimp only at hc
  by_cases q : s + n ≤ 999
  · rw [if_pos q, n10, cond_true] at hc
    rw [decide_eq_true (by omega), cond_true] at hr
    cases e2 : f67_67_10_l31 N N (tup Ic 67 2 (Ic 67 2 + Int32.ofNat n)) Jc (Int32.ofNat n) 0 with
    | none => rw [e2] at hc; cases hc
    | some Y =>
    obtain ⟨_, I4, J4, e4, hr2⟩ := obU hr
    clear hr
    obtain ⟨Y', e3, e5⟩ := sec_r e4
    have h67 : ∀ o k, o ≠ 67 → tup Ic 67 2 (Ic 67 2 + Int32.ofNat n) o k = Ic o k := fun o k z => by rw [tup_ne (by omega)]
    obtain ⟨⟨r1, r2, r3⟩, r4, r5⟩ := skips_run (s := s) (n := n) q N N' 0 (WPQ_67 hW (fun o k q1 q2 => h67 o k (by omega)) (fun _ => rfl)) (by omega) e2 e3
    obtain ⟨y1, y2, I3, J3⟩ := Y
    obtain ⟨z1, z2, I5, J5⟩ := Y'
    rw [e2] at hc
    dsimp only at hc e5 r1 r2 r3 r4 r5
    subst r2 r3
    cases e5
    cases hc
    cases hr2
    have f201 : ∀ k, I4 201 k = Ir 201 k := fun k => r5 _ _ (by omega)
    have c1 : cG Ic I1 := fun o k q0 q1 q2 q3 q4 q5 => (r4 o k q1 q2 q3 q4 q5).trans (h67 o k q0)
    have c2 : rG Ir (tup I4 201 1 (I4 201 1 + Int32.ofNat n)) := fun o k q0 q1 q2 => by rw [tup_ne (by omega)]; exact r5 o k q2
    have k67 : ∀ k, I1 67 k = tup Ic 67 2 (Ic 67 2 + Int32.ofNat n) 67 k := fun k => r4 67 k (by omega) (by omega) (by omega) (by omega) (by omega)
    refine ⟨Or.inr rfl, ⟨s + n, LB_mk h (WPQ_67 r1 (fun _ _ _ _ => rfl) (fun k => by rw [tup_ne (by omega), tup_ne (by omega)])) c1 (rG_tr c2 rG_201) ⟨ha, hd⟩ ⟨?_, ?_⟩ ⟨?_, ?_, ?_, ?_⟩ ⟨?_, ?_⟩ ⟨?_, ?_⟩⟩, ⟨rfl, rfl⟩, c1, c2⟩
    · rw [k67, tup_ne (by omega)]; exact t0
    · rw [tup_ne (by omega), tup_ne (by omega), r5 _ _ (by omega)]; exact t0'
    · rw [k67, tup_ne (by omega), tup_eq, if_neg (by decide), Int32.add_zero]; exact t1
    · rw [k67, tup_eq, tup_ne (by omega), tup_eq, f201, t2]
    · rw [k67, tup_ne (by omega), tup_ne (by omega), tup_ne (by omega), f201]; exact t3
    · rw [k67, tup_ne (by omega), tup_ne (by omega), tup_ne (by omega), f201]; exact t4
    · rw [k67, tup_ne (by omega)]; exact t5
    · rw [tup_ne (by omega), tup_ne (by omega), f201]; exact t5'
    · rw [k67, tup_ne (by omega)]; exact t7
    · rw [tup_ne (by omega), tup_ne (by omega), r5 _ _ (by omega)]; exact t7'
  · rw [if_neg q, n00, cond_false] at hc
    rw [decide_eq_false (by omega), cond_false] at hr
    cases hc
    cases hr
    refine ⟨Or.inl rfl, ⟨s, LB_mk h (WPQ_67 hW (fun o k q1 q2 => tup_ne (by omega)) (fun k => tup_ne (by omega))) cG_67 rG_201 ⟨ha, hd⟩ ⟨?_, ?_⟩ ⟨?_, ?_, ?_, ?_⟩ ⟨?_, ?_⟩ ⟨?_, ?_⟩⟩, ⟨rfl, rfl⟩, cG_67, rG_rfl⟩
    · rw [tup_ne (by omega)]; exact t0
    · rw [tup_ne (by omega)]; exact t0'
    · rw [tup_eq, tup_eq, if_pos rfl, t1]
    · rw [tup_ne (by omega), tup_ne (by omega)]; exact t2
    · rw [tup_ne (by omega), tup_ne (by omega)]; exact t3
    · rw [tup_ne (by omega), tup_ne (by omega)]; exact t4
    · rw [tup_ne (by omega)]; exact t5
    · rw [tup_ne (by omega)]; exact t5'
    · rw [tup_ne (by omega)]; exact t7
    · rw [tup_ne (by omega)]; exact t7'
/-- the latest print of one: by f the owners of prints from 1 on -/
def lst (f : Nat → Int32) (a : Int32) : Nat → Nat
  | 0 => 0
  | t + 1 => if f (t + 1) = a then t + 1 else lst f a t
theorem lst_le (f : Nat → Int32) (a : Int32) : ∀ t, lst f a t ≤ t
  | 0 => Nat.le_refl _
  | t + 1 => by
    unfold lst
    split
    · exact Nat.le_refl _
    · exact Nat.le_succ_of_le (lst_le f a t)
theorem lst_cg {f g : Nat → Int32} {a : Int32} : ∀ t, (∀ k, k < t → f (k + 1) = g (k + 1)) → lst f a t = lst g a t
  | 0, _ => rfl
  | t + 1, h => by
    unfold lst
    rw [h t (by omega), lst_cg t (fun k hk => h k (by omega))]
theorem last_run {x : Int32} : ∀ (k t : Nat) {Y : Nat × Int32 × Int32 × tI × tJ}, t ≤ 120 → f115_10_l3 N k I J x (Int32.ofNat t) = some Y → Y.2.2.2 = (I, J) ∧ ((Y.1 = 0 ∧ lst (I 33) x t = 0) ∨ (Y.1 = 1 ∧ Y.2.2.1 = Int32.ofNat (lst (I 33) x t) ∧ lst (I 33) x t ≠ 0))
  | 0, _, _, _, h => by cases h
  | k + 1, t, Y, ht, h => by
    simp only [f115_10_l3] at h
    rw [show xcmp .lt (Int32.ofNat t) 1 = decide (t < 1) from oi_lt (q := 1) (by omega) (by omega)] at h
    cases t with
    | zero =>
      rw [decide_eq_true (by omega), cond_true] at h
      cases h
      exact ⟨rfl, Or.inl ⟨rfl, rfl⟩⟩
    | succ t =>
      rw [decide_eq_false (by omega), cond_false, oi_nat (by omega), oi_pred (by omega) (by omega)] at h
      unfold lst
      by_cases e : I 33 (t + 1) = x
      · rw [xc_nen e, cond_false] at h
        cases h
        rw [if_pos e]
        exact ⟨rfl, Or.inr ⟨rfl, rfl, by omega⟩⟩
      · rw [xc_ne e, cond_true] at h
        rw [if_neg e]
        exact last_run k t (by omega) h
theorem last_c {x : Int32} {q : Int32 × tI × tJ} (h : f115_10 N I J x = some q) : q = (if lst (I 33) x 120 = 0 then -1 else Int32.ofNat (lst (I 33) x 120), I, J) := by
  unfold f115_10 at h
  cases e : f115_10_l3 N N I J x 120 with
  | none => rw [e] at h; cases h
  | some Y =>
  obtain ⟨b1, b2⟩ := last_run N 120 (by omega) e
  obtain ⟨k1, y1, y2, Ia, Ja⟩ := Y
  rw [e] at h
  dsimp only at h b1 b2
  cases b1
  rcases b2 with ⟨rfl, z⟩ | ⟨rfl, rfl, z⟩
  · rw [if_pos z]
    cases h
    rfl
  · rw [if_neg z]
    cases h
    rfl
theorem gives_run {x y : Int32} {f : Nat → Int32} (hf : ∀ n, f n = I 186 (131 + n)) (hxy : x ≠ y) : ∀ (k t : Nat) {Y : Nat × Int32 × Int32 × Int32 × tI × tJ}, t ≤ 120 → f341_185_l3 N k I J x y (Int32.ofNat t + (-1)) = some Y → Y.2.2.2.2 = (I, J) ∧ Y.2.2.1 = y ∧ ((Y.1 = 0 ∧ lst f x t = 0) ∨ (Y.1 = 1 ∧ Int32.ofNat (lst f x t) + (-1) = Y.2.2.2.1 ∧ lst f x t ≠ 0)) := by
  intro k
  induction k with
  | zero => intro t Y ht h; cases h
  | succ k ih =>
    intro t Y ht h
    simp only [f341_185_l3] at h
    cases t with
    | zero =>
      rw [show xcmp .lt (Int32.ofNat 0 + (-1)) 0 = true from rfl, cond_true] at h
      cases h
      exact ⟨rfl, rfl, Or.inl ⟨rfl, rfl⟩⟩
    | succ t =>
      have e1 : Int32.ofNat (t + 1) + (-1) = Int32.ofNat t := oi_pred (by omega) (by omega)
      rw [e1, show xcmp .lt (Int32.ofNat t) 0 = decide (t < 0) from oi_lt (q := 0) (by omega) (by omega), decide_eq_false (by omega), cond_false, xc_eqn hxy, cond_false, show (132 : Int32) + Int32.ofNat t = Int32.ofNat (132 + t) from oi_add (a := 132), oi_nat (by omega)] at h
      have e2 : f (t + 1) = I 186 (132 + t) := by
        rw [hf]
        congr 1
        omega
      unfold lst
      by_cases e : I 186 (132 + t) = x
      · rw [xc_eq e, cond_true] at h
        cases h
        rw [if_pos (e2.trans e)]
        exact ⟨rfl, rfl, Or.inr ⟨rfl, e1, by omega⟩⟩
      · rw [xc_eqn e, cond_false] at h
        rw [if_neg (fun q => e (e2.symm.trans q))]
        exact ih t (by omega) h
theorem gives_r {x y : Int32} {q : Int32 × tI × tJ} (h : f341_185 N I J x y = some q) : q = if x ≠ y ∧ lst (fun n => I 186 (131 + n)) x 120 ≠ 0 then (1, tup I 186 (131 + lst (fun n => I 186 (131 + n)) x 120) y, J) else (0, I, J) := by
  unfold f341_185 at h
  cases e : f341_185_l3 N N I J x y 119 with
  | none => rw [e] at h; cases h
  | some Y =>
  rw [e] at h
  by_cases hxy : x = y
  · rw [if_neg (fun q => q.1 hxy)]
    cases N with
    | zero => cases e
    | succ k =>
      simp only [f341_185_l3] at e
      rw [show xcmp .lt (119 : Int32) 0 = false from rfl, cond_false, xc_eq hxy, cond_true] at e
      cases e
      cases h
      rfl
  · obtain ⟨b1, b2, b3⟩ := gives_run (f := fun n => I 186 (131 + n)) (fun _ => rfl) hxy N 120 (by omega) e
    obtain ⟨k1, y1, y2, y3, Ia, Ja⟩ := Y
    dsimp only at h b1 b2 b3
    cases b1
    subst b2
    rcases b3 with ⟨rfl, z⟩ | ⟨rfl, rfl, z⟩
    · rw [if_neg (fun q => q.2 z)]
      cases h
      rfl
    · rw [if_pos ⟨hxy, z⟩]
      have hl := lst_le (fun n => I 186 (131 + n)) x 120
      rw [oi_pred (by omega) (by omega), show (132 : Int32) + Int32.ofNat (lst (fun n => I 186 (131 + n)) x 120 - 1) = Int32.ofNat (132 + (lst (fun n => I 186 (131 + n)) x 120 - 1)) from oi_add (a := 132), oi_nat (by omega), show 132 + (lst (fun n => I 186 (131 + n)) x 120 - 1) = 131 + lst (fun n => I 186 (131 + n)) x 120 by omega] at h
      cases h
      rfl
theorem handOn_rel {x y : Nat} (h : LB P S B W D E s a d Ic Jc Ir Jr) (hx : x < B) (hy : y < B) (hc : f68_67_10 N Ic Jc (Int32.ofNat x) (Int32.ofNat y) = some (u, I1, J1)) (hr : f341_185 N' Ir Jr (Int32.ofNat x) (Int32.ofNat y) = some (w, I2, J2)) : (w = 0 ∨ w = 1) ∧ (∃ s', LB P S B W D E s' a d I1 Jc (tup I2 201 0 (Ir 201 0 + (if w = 0 then 1 else 0))) Jr) ∧ (J1 = Jc ∧ J2 = Jr) ∧ cG Ic I1 ∧ rG Ir I2 := by
  obtain ⟨hW, hR, ⟨ha, hd⟩, ⟨t0, t0'⟩, ⟨t1, t2, t3, t4⟩, ⟨t5, t5'⟩, ⟨t7, t7'⟩, hf, hr0⟩ := id h
  obtain ⟨⟨⟨⟨g1, g2, g3⟩, -, g6⟩, ⟨-, -, -, a4, -, a6⟩, ⟨-, -, -, -, b5, b6⟩, b7, b8⟩, hw0, hf0, hs0, hb0, ho0, ht0⟩ := id hW
  have hol : lst (fun n => Ir 186 (131 + n)) (Int32.ofNat x) 120 = lst (Ic 33) (Int32.ofNat x) 120 := lst_cg 120 (fun k hk => by
    have := ho0 k hk
    rw [show 0 + 132 + k = 131 + (k + 1) by omega] at this
    exact this.symm)
  have hr1 := gives_r hr
  unfold f68_67_10 at hc
  obtain ⟨v1, Ia, Ja, e1, hc⟩ := obI hc
  have e2 := last_c e1
  rw [hol] at hr1
  have hl := lst_le (Ic 33) (Int32.ofNat x) 120
  generalize lst (Ic 33) (Int32.ofNat x) 120 = t at hr1 e2 hl
  have miss : some ((), tup Ic 67 1 (Ic 67 1 + 1), Jc) = some (u, I1, J1) → (w, I2, J2) = (0, Ir, Jr) → (w = 0 ∨ w = 1) ∧ (∃ s', LB P S B W D E s' a d I1 Jc (tup I2 201 0 (Ir 201 0 + (if w = 0 then 1 else 0))) Jr) ∧ (J1 = Jc ∧ J2 = Jr) ∧ cG Ic I1 ∧ rG Ir I2 := fun hc hr1 => by
    cases hc
    cases hr1
    refine ⟨Or.inl rfl, ⟨s, LB_mk h (WPQ_67 hW (fun o k q1 q2 => tup_ne (by omega)) (fun k => tup_ne (by omega))) cG_67 rG_201 ⟨ha, hd⟩ ⟨?_, ?_⟩ ⟨?_, ?_, ?_, ?_⟩ ⟨?_, ?_⟩ ⟨?_, ?_⟩⟩, ⟨rfl, rfl⟩, cG_67, rG_rfl⟩
    · rw [tup_ne (by omega)]; exact t0
    · rw [tup_ne (by omega)]; exact t0'
    · rw [tup_eq, tup_eq, if_pos rfl, t1]
    · rw [tup_ne (by omega), tup_ne (by omega)]; exact t2
    · rw [tup_ne (by omega), tup_ne (by omega)]; exact t3
    · rw [tup_ne (by omega), tup_ne (by omega)]; exact t4
    · rw [tup_ne (by omega)]; exact t5
    · rw [tup_ne (by omega)]; exact t5'
    · rw [tup_ne (by omega)]; exact t7
    · rw [tup_ne (by omega)]; exact t7'
  by_cases z : t = 0
  · rw [if_pos z] at e2
    cases e2
    rw [show xcmp .eq (-1 : Int32) (-1) = true from rfl, cond_true] at hc
    exact miss hc (by rw [if_neg (fun q => q.2 z)] at hr1; exact hr1)
  rw [if_neg z] at e2
  cases e2
  rw [xc_eqn (oi_m1 (by omega)), cond_false] at hc
  by_cases e : x = y
  · subst e
    rw [xc_nen rfl, cond_false] at hc
    exact miss hc (by rw [if_neg (fun q => q.1 rfl)] at hr1; exact hr1)
  · have hne : Int32.ofNat x ≠ Int32.ofNat y := fun q => e (oi_inj (by omega) (by omega) q)
    rw [xc_ne hne, cond_true, own_put (by omega) (by omega)] at hc
    rw [if_pos ⟨hne, z⟩] at hr1
    cases hc
    cases hr1
    have c1 : cG Ic (tup Ic 33 t (Int32.ofNat y)) := fun o k q0 q1 q2 q3 q4 q5 => tup_ne (by omega)
    have c2 : rG Ir (tup Ir 186 (131 + t) (Int32.ofNat y)) := fun o k q0 q1 q2 => tup_ne (by omega)
    have hW' : WPQ P S B W D s (tup Ic 33 t (Int32.ofNat y)) Jc (tup Ir 186 (131 + t) (Int32.ofNat y)) Jr := by
      refine WPQ_up hW (FR_cg (WPQ_FR hW) (fun o k q1 q2 => tup_ne (by omega)) (fun k q => tup_ne (by omega))) g6 (fun o k q1 q2 q3 q4 q5 => tup_ne (by omega)) (fun o k q => tup_ne (by omega)) (fun i hi => ?_) (fun k hk => ?_)
      · rw [tup_ne (by omega), tup_ne (by omega)]
        exact hb0 i hi
      · by_cases e3 : k + 1 = t
        · rw [show (10 + 23 : Nat) = 33 from rfl, show 0 + 132 + k = 131 + t by omega, e3, tup_eq, tup_eq]
        · rw [tup_ne (by omega), tup_ne (by omega)]
          exact ho0 k hk
    refine ⟨Or.inr rfl, ⟨s, LB_mk h (WPQ_67 hW' (fun o k q1 q2 => rfl) (fun k => tup_ne (by omega))) c1 (rG_tr c2 rG_201) ⟨ha, hd⟩ ⟨?_, ?_⟩ ⟨?_, ?_, ?_, ?_⟩ ⟨?_, ?_⟩ ⟨?_, ?_⟩⟩, ⟨rfl, rfl⟩, c1, c2⟩
    · rw [tup_ne (by omega)]; exact t0
    · rw [tup_ne (by omega), tup_ne (by omega)]; exact t0'
    · rw [tup_ne (by omega), tup_eq, if_neg (by decide), Int32.add_zero]; exact t1
    · rw [tup_ne (by omega), tup_ne (by omega), tup_ne (by omega)]; exact t2
    · rw [tup_ne (by omega), tup_ne (by omega), tup_ne (by omega)]; exact t3
    · rw [tup_ne (by omega), tup_ne (by omega), tup_ne (by omega)]; exact t4
    · rw [tup_ne (by omega)]; exact t5
    · rw [tup_ne (by omega), tup_ne (by omega)]; exact t5'
    · rw [tup_ne (by omega)]; exact t7
    · rw [tup_ne (by omega), tup_ne (by omega)]; exact t7'
/-- a draw -/
def nxD (d : Nat) : Nat := (d * 3049 + 11273) % 65536
theorem oi_quot {p q : Nat} (hp : p < 2147483648) (hq : 0 < q) (hq2 : q < 2147483648) : Int32.ofNat p / Int32.ofNat q = Int32.ofNat (p / q) := by
  apply i32_eq
  rw [ti_div (by rw [oi_int hq2]; omega), oi_int hp, oi_int hq2, oi_int (Nat.lt_of_le_of_lt (Nat.div_le_self _ _) hp)]
  exact (Int.ofNat_tdiv p q).symm
theorem draw_e {d : Nat} (hd : d < 65536) : (Int32.ofNat d * 3049 + 11273) - (Int32.ofNat d * 3049 + 11273) / 65536 * 65536 = Int32.ofNat (nxD d) := by
  rw [show Int32.ofNat d * 3049 = Int32.ofNat (d * 3049) from oi_mul (b := 3049), show Int32.ofNat (d * 3049) + 11273 = Int32.ofNat (d * 3049 + 11273) from oi_add (b := 11273)]
  exact irem_nat (m := 65536) (by omega) (by omega) (by omega)
theorem nxD_lt {d : Nat} : nxD d < 65536 := Nat.mod_lt _ (by omega)
theorem draw_v {d B : Nat} (hB : 0 < B) (hB4 : B ≤ 4) : (Int32.ofNat (nxD d) / 8) - (Int32.ofNat (nxD d) / 8) / Int32.ofNat B * Int32.ofNat B = Int32.ofNat (nxD d / 8 % B) := by
  have := nxD_lt (d := d)
  rw [show Int32.ofNat (nxD d) / 8 = Int32.ofNat (nxD d / 8) from oi_quot (q := 8) (by omega) (by omega) (by omega)]
  exact irem_nat (by omega) hB (by omega)
theorem draw_c {d : Nat} (hd : d < 65536) (h7 : I 67 7 = Int32.ofNat d) (hB : 0 < B) (hB4 : B ≤ 4) : f69_67 I J (Int32.ofNat B) = (Int32.ofNat (nxD d / 8 % B), tup I 67 7 (Int32.ofNat (nxD d)), J) := by
  unfold f69_67
  rw [show xcmp .ge (Int32.ofNat B) 1 = decide (1 ≤ B) from oi_ge (q := 1) (by omega) (by omega), decide_eq_true (by omega), cond_true, h7, draw_e hd, draw_v hB hB4]
theorem draw_r {d : Nat} (hd : d < 65536) (h7 : I 185 30 = Int32.ofNat d) (hB : 0 < B) (hB4 : B ≤ 4) : f338_185 I J (Int32.ofNat B) = (Int32.ofNat (nxD d / 8 % B), tup I 185 30 (Int32.ofNat (nxD d)), J) := by
  unfold f338_185
  rw [h7, draw_e hd, draw_v hB hB4]
end LV2
