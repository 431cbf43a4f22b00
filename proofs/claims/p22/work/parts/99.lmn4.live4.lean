/-! ENDS; THE RUN; LIVE -/
section LV4
variable {N N' P S B W D E s s' a a' d d' pos : Nat} {Ic Ir I1 I2 I3 I : tI} {Jc Jr J1 J2 J : tJ} {u u' : Unit} {v w : Int32}
theorem RR_k {kc oc tc k0 k1 k2 k5 : Int32} (h : RRw P S B kc oc tc k0 k1 k2 k5) : (kc = 11 ↔ k0 = 27) ∧ (kc = 5 ↔ k0 = 26) ∧ (kc = 4 ↔ k0 = 28) ∧ ((6 ≤ kc.toInt ∧ kc.toInt ≤ 10) ↔ 2500 ≤ k0.toInt) ∧ (kc.toInt ≤ 3 ↔ k0.toInt < 26) ∧ 0 ≤ kc.toInt ∧ kc.toInt ≤ 11 := by
  unfold RRw at h
  rcases h with ⟨rfl, rfl, -⟩ | ⟨rfl, rfl, -⟩ | ⟨rfl, rfl, -⟩ | ⟨rfl, rfl⟩ | ⟨rfl, rfl⟩ | ⟨rfl, rfl, -⟩ | ⟨rfl, rfl, -⟩ | ⟨rfl, rfl, -⟩ | ⟨hk, rfl, -⟩ | ⟨rfl, rfl⟩
  all_goals first | decide | (rcases hk with ⟨rfl, -⟩ | ⟨rfl, -⟩ | ⟨rfl, -⟩ <;> decide)
theorem LB_cg (h : LB P S B W D E s a d Ic Jc Ir Jr) (c : ∀ o k, (10 ≤ o ∧ o ≤ 34) ∨ o = 67 → I1 o k = Ic o k) (g : ∀ o k, o = 186 ∨ o = 201 ∨ o = 185 → I2 o k = Ir o k) : LB P S B W D E s a d I1 Jc I2 Jr := by
  obtain ⟨b1, b2, b3, ⟨t0, t0'⟩, ⟨t1, t2, t3, t4⟩, ⟨t5, t5'⟩, ⟨t7, t7'⟩, b8⟩ := h
  refine ⟨WPQ_67 b1 (fun o k q1 q2 => c o k (Or.inl ⟨q1, q2⟩)) (fun k => g _ _ (Or.inl rfl)), RN2_cg b2 (fun o k q1 q2 => c o k (by omega)) (fun k q => g _ _ (Or.inl rfl)), b3, ⟨?_, ?_⟩, ⟨?_, ?_, ?_, ?_⟩, ⟨?_, ?_⟩, ⟨?_, ?_⟩, ?_⟩
  · rw [c _ _ (by omega)]; exact t0
  · rw [g _ _ (by omega)]; exact t0'
  · rw [c _ _ (by omega), g _ _ (by omega)]; exact t1
  · rw [c _ _ (by omega), g _ _ (by omega)]; exact t2
  · rw [c _ _ (by omega), g _ _ (by omega)]; exact t3
  · rw [c _ _ (by omega), g _ _ (by omega)]; exact t4
  · rw [c _ _ (by omega)]; exact t5
  · rw [g _ _ (by omega)]; exact t5'
  · rw [c _ _ (by omega)]; exact t7
  · rw [g _ _ (by omega)]; exact t7'
  · rw [c _ _ (by omega), c _ _ (by omega)]; exact b8
theorem LB_E (h : LB P S B W D E s a d Ic Jc Ir Jr) : E ≤ 60 ∧ Ic 26 2 = Int32.ofNat E ∧ Ir 186 8 = Int32.ofNat E ∧ NS 26 E Ic := by
  obtain ⟨-, ⟨hE, h2, h3, h4, h5⟩, -⟩ := h
  exact ⟨hE, h2, h3, h5⟩
/-- where no end stands, none is passed -/
theorem ends_stop {n : Nat} {Y : Int32 × tI × tJ} (hE : E ≤ 60) (h8 : Ir 186 8 = Int32.ofNat E) (hp : pos ≤ E) (hk : pos < E → Ir 186 (252 + 6 * pos) ≠ 27) (h : f344_185_l2 N' n Ir Jr (Int32.ofNat pos) = some Y) : Y = (Int32.ofNat pos, Ir, Jr) := by
  cases n with
  | zero => cases h
  | succ n =>
    simp only [f344_185_l2] at h
    rw [h8, oi_ge (by omega) (by omega)] at h
    by_cases e : E ≤ pos
    · rw [decide_eq_true e, cond_true] at h
      cases h
      rfl
    · rw [decide_eq_false e, cond_false, st_0, oi_nat (p := 252 + 6 * pos) (by omega), xc_ne (hk (by omega)), cond_true] at h
      cases h
      rfl
theorem end_c {o : Nat} (hE : E ≤ 60) (h2 : I 26 2 = Int32.ofNat E) (hp : pos < E) (ho : o < pos) (h30 : I 30 pos = Int32.ofNat o) : f63_67_26 I J (Int32.ofNat pos) = if I 27 o = 5 then (if (I 92 o - 1).toInt ≤ 0 then (Int32.ofNat (pos + 1), tup I 92 o (I 92 o - 1), J) else (Int32.ofNat (o + 1), tup I 92 o (I 92 o - 1), J)) else (Int32.ofNat (pos + 1), I, J) := by
  unfold f63_67_26
  rw [oi_nat (p := pos) (by omega), h30, h2, f127_is, oi_sub1 (by omega), oi_int (p := o) (by omega), show (0 : Int32).toInt = 0 from rfl, if_pos (by omega)]
  dsimp only
  rw [show xcmp .eq (1 : Int32) 0 = false from rfl, cond_false, oi_nat (p := o) (by omega), oi_suc (by omega), oi_suc (by omega)]
  by_cases e : I 27 o = 5
  · rw [if_pos e, xc_eq e, cond_true, tup_eq, tc_le, show (0 : Int32).toInt = 0 from rfl]
    by_cases z : (I 92 o - 1).toInt ≤ 0
    · rw [if_pos z, decide_eq_true z, cond_true]
    · rw [if_neg z, decide_eq_false z, cond_false]
  · rw [if_neg e, xc_eqn e, cond_false]
theorem ends_rel : ∀ (n pos b m t : Nat) {Ic Ir : tI} {Y : Nat × Int32 × Int32 × tI × tJ} {Y' : Int32 × tI × tJ}, LB P S B W D E s a d Ic Jc Ir Jr → LA E pos Ic Ir → pos ≤ E → (61 - pos) + (if 0 < pos ∧ Ic 27 (pos - 1) = 5 then (Ic 92 (pos - 1)).toInt.toNat else 0) ≤ b → t + b < 1000000 → f344_185_l2 N' n Ir Jr (Int32.ofNat pos) = some Y' → f62_67_10_l46 N m Ic Jc (Int32.ofNat pos) (Int32.ofNat t) = some Y → ∃ (pos2 : Nat) (I1 I2 : tI) (m2 t2 : Nat), Y' = (Int32.ofNat pos2, I2, Jr) ∧ (pos2 ≤ E ∧ (pos2 < E → Ic 27 pos2 ≠ 11)) ∧ LB P S B W D E s a d I1 Jc I2 Jr ∧ LA E pos2 I1 I2 ∧ f62_67_10_l46 N m2 I1 Jc (Int32.ofNat pos2) (Int32.ofNat t2) = some Y ∧ t2 ≤ t + b ∧ (∀ o k, o ≠ 92 → I1 o k = Ic o k) ∧ (∀ o k, o ≠ 200 → I2 o k = Ir o k)
  | 0, _, _, _, _, _, _, _, _, _, _, _, _, _, h, _ => by cases h
  | n + 1, pos, b, m, t, Ic, Ir, Y, Y', h, hA, hp, hb, ht, hr, hc => by
    obtain ⟨hE, h26, h8, hN⟩ := LB_E h
    by_cases stop : pos < E → Ic 27 pos ≠ 11
    · have hk : pos < E → Ir 186 (252 + 6 * pos) ≠ 27 := fun q e => stop q ((RR_k (LB_row h q).2.1).1.mpr e)
      have := ends_stop hE h8 hp hk hr
      exact ⟨pos, Ic, Ir, m, t, this, ⟨hp, stop⟩, h, hA, hc, by omega, fun _ _ _ => rfl, fun _ _ _ => rfl⟩
    have hpE : pos < E := by
      by_cases q : pos < E
      · exact q
      · exact absurd (fun z => absurd z q) stop
    have hk11 : Ic 27 pos = 11 := by
      by_cases q : Ic 27 pos = 11
      · exact q
      · exact absurd (fun _ => q) stop
    obtain ⟨hp6, hR, hM⟩ := LB_row h hpE
    obtain ⟨o, ho, m30, m4, hko, m30'⟩ := hM.2 hk11
    rw [show 0 + 252 + 6 * pos + 4 = 252 + 6 * pos + 4 by omega] at m4
    have m30 : Ic 30 pos = Int32.ofNat o := m30
    have m30' : Ic 30 o = Int32.ofNat pos := m30'
    have hko' : 5 ≤ (Ic 27 o).toInt ∧ (Ic 27 o).toInt ≤ 10 := hko
    have hRo := RR_k (LB_row h (show o < E by omega)).2.1
    have hk27 : Ir 186 (252 + 6 * pos) = 27 := (RR_k hR).1.mp hk11
    have p4 : (Int32.ofNat (252 + 6 * pos) + 4).toNatClampNeg = 252 + 6 * pos + 4 := st_at (j := 4) (by omega) rfl (by omega)
    -- the reference
    simp only [f344_185_l2] at hr
    rw [h8, oi_ge (by omega) (by omega), decide_eq_false (by omega), cond_false, st_0, oi_nat (p := 252 + 6 * pos) (by omega), hk27, show xcmp .ne (27 : Int32) 27 = false from rfl, cond_false, p4, m4, st_0, oi_nat (p := 252 + 6 * o) (by omega), oi_nat (p := o) (by omega), oi_suc (by omega), oi_suc (by omega)] at hr
    simp only [show xcmp .eq (0 : Int32) 0 = true from rfl, show xcmp .eq (1 : Int32) 0 = false from rfl, cond_true, cond_false, Int32.sub_zero, tup_self (show Ir 200 o = Ir 200 o from rfl)] at hr
    -- the class
    cases m with
    | zero => cases hc
    | succ m =>
    simp only [f62_67_10_l46] at hc
    rw [show xcmp .ge (Int32.ofNat t) 1000000 = decide (1000000 ≤ t) from oi_ge (q := 1000000) (by omega) (by omega), decide_eq_false (by omega), cond_false, h26, f127_is, oi_sub1 (by omega), oi_int (p := pos) (by omega), show (0 : Int32).toInt = 0 from rfl, if_pos (by omega)] at hc
    dsimp only at hc
    rw [show xcmp .eq (1 : Int32) 0 = false from rfl, cond_false, oi_nat (p := pos) (by omega), hk11, show xcmp .ne (11 : Int32) 11 = false from rfl, cond_false, end_c hE h26 hpE ho m30, oi_suc (p := t) (by omega)] at hc
    have nin : ∀ o' e', o' < pos + 1 → pos + 1 ≤ e' → e' < E → Ic 27 o' = 5 → Ic 30 o' = Int32.ofNat e' → o' < pos ∧ o' ≠ o := fun o' e' q1 q2 q3 q4 q5 => by
      refine ⟨?_, fun e => ?_⟩
      · by_cases e : o' = pos
        · rw [e, hk11] at q4
          exact absurd q4 (by decide)
        · omega
      · rw [e, m30'] at q5
        have := oi_inj (by omega) (by omega) q5
        omega
    have b1 : (61 - (pos + 1)) + (if 0 < pos + 1 ∧ Ic 27 (pos + 1 - 1) = 5 then (Ic 92 (pos + 1 - 1)).toInt.toNat else 0) ≤ b - 1 := by
      rw [if_neg (by rw [show pos + 1 - 1 = pos by omega, hk11]; exact fun q => absurd q.2 (by decide))]
      omega
    by_cases h5 : Ic 27 o = 5
    · have r26 : Ir 186 (252 + 6 * o) = 26 := hRo.2.1.mp h5
      obtain ⟨l, hl, l1, l2⟩ := hA o pos ho (Nat.le_refl _) hpE h5 m30'
      rw [if_pos h5, l1, oi_s1] at hc
      rw [r26, show xcmp .ne (26 : Int32) 26 = false from rfl, cond_false, l2, tc_le, oi_int (p := l) (by omega), show (0 : Int32).toInt = 0 from rfl] at hr
      rw [oi_int (p := l) (by omega)] at hc
      by_cases z : l = 0
      · subst z
        rw [if_pos (by omega)] at hc
        rw [decide_eq_true (by omega), cond_true] at hr
        dsimp only at hc
        have hB' : LB P S B W D E s a d (tup Ic 92 o (Int32.ofNat 0)) Jc Ir Jr := LB_cg h (fun o' k' q => tup_ne (by omega)) (fun _ _ _ => rfl)
        have hA' : LA E (pos + 1) (tup Ic 92 o (Int32.ofNat 0)) Ir := fun o' e' q1 q2 q3 q4 q5 => by
          rw [tup_ne (by omega)] at q4 q5
          obtain ⟨n1, n2⟩ := nin o' e' q1 q2 q3 q4 q5
          obtain ⟨l', x1, x2, x3⟩ := hA o' e' n1 (by omega) q3 q4 q5
          exact ⟨l', x1, by rw [tup_ne (by omega)]; exact x2, x3⟩
        have b2 : (61 - (pos + 1)) + (if 0 < pos + 1 ∧ tup Ic 92 o (Int32.ofNat 0) 27 (pos + 1 - 1) = 5 then (tup Ic 92 o (Int32.ofNat 0) 92 (pos + 1 - 1)).toInt.toNat else 0) ≤ b - 1 := by
          rw [if_neg (by rw [show pos + 1 - 1 = pos by omega, tup_ne (by omega), hk11]; exact fun q => absurd q.2 (by decide))]
          omega
        obtain ⟨pos2, I1, I2, m2, t2, k1, ⟨k2, k2'⟩, k3, k4, k5, k6, k7, k8⟩ := ends_rel n (pos + 1) (b - 1) m (t + 1) hB' hA' (by omega) b2 (by omega) hr hc
        exact ⟨pos2, I1, I2, m2, t2, k1, ⟨k2, fun q => by have := k2' q; rw [tup_ne (by omega)] at this; exact this⟩, k3, k4, k5, by omega, fun o' k' q => by rw [k7 o' k' q, tup_ne (by omega)], k8⟩
      · rw [if_neg (by omega)] at hc
        rw [decide_eq_false (by omega), cond_false] at hr
        dsimp only at hc
        obtain ⟨l0, rfl⟩ : ∃ l0, l = l0 + 1 := ⟨l - 1, by omega⟩
        rw [oi_s1] at hr
        have hB' : LB P S B W D E s a d (tup Ic 92 o (Int32.ofNat (l0 + 1))) Jc (tup Ir 200 o (Int32.ofNat l0)) Jr := LB_cg h (fun o' k' q => tup_ne (by omega)) (fun o' k' q => tup_ne (by omega))
        have hA' : LA E (o + 1) (tup Ic 92 o (Int32.ofNat (l0 + 1))) (tup Ir 200 o (Int32.ofNat l0)) := fun o' e' q1 q2 q3 q4 q5 => by
          rw [tup_ne (by omega)] at q4 q5
          by_cases e : o' = o
          · subst e
            exact ⟨l0, by omega, tup_eq, tup_eq⟩
          · have inn : pos < e' := by
              refine hN o' o e' pos (by omega) ?_ q3 (by show 5 ≤ (Ic 27 o').toInt ∧ (Ic 27 o').toInt ≤ 10; rw [q4]; decide) hko' q5 m30' hpE
              omega
            obtain ⟨l', x1, x2, x3⟩ := hA o' e' (by omega) (by omega) q3 q4 q5
            exact ⟨l', x1, by rw [tup_ne (by omega)]; exact x2, by rw [tup_ne (by omega)]; exact x3⟩
        by_cases e1 : o + 1 = pos
        · have b2 : (61 - (o + 1)) + (if 0 < o + 1 ∧ tup Ic 92 o (Int32.ofNat (l0 + 1)) 27 (o + 1 - 1) = 5 then (tup Ic 92 o (Int32.ofNat (l0 + 1)) 92 (o + 1 - 1)).toInt.toNat else 0) ≤ b - 1 := by
            rw [show o + 1 - 1 = o by omega, tup_ne (by omega), tup_eq, if_pos ⟨by omega, h5⟩, oi_int (by omega)]
            rw [← e1, show o + 1 - 1 = o by omega, if_pos ⟨by omega, h5⟩, l1, oi_int (by omega)] at hb
            omega
          obtain ⟨pos2, I1, I2, m2, t2, k1, ⟨k2, k2'⟩, k3, k4, k5, k6, k7, k8⟩ := ends_rel n (o + 1) (b - 1) m (t + 1) hB' hA' (by omega) b2 (by omega) hr hc
          exact ⟨pos2, I1, I2, m2, t2, k1, ⟨k2, fun q => by have := k2' q; rw [tup_ne (by omega)] at this; exact this⟩, k3, k4, k5, by omega, fun o' k' q => by rw [k7 o' k' q, tup_ne (by omega)], fun o' k' q => by rw [k8 o' k' q, tup_ne (by omega)]⟩
        · have nk : Ic 27 (o + 1) ≠ 11 := fun e => by
            obtain ⟨-, hR3, hM3⟩ := LB_row h (show o + 1 < E by omega)
            obtain ⟨o3, ho3, -, -, hk3, n30⟩ := hM3.2 e
            have n30 : Ic 30 o3 = Int32.ofNat (o + 1) := n30
            by_cases e3 : o3 = o
            · rw [e3, m30'] at n30
              have := oi_inj (by omega) (by omega) n30
              omega
            · have := hN o3 o (o + 1) pos (by omega) (by omega) (by omega) hk3 hko' n30 m30' hpE
              omega
          have hk : o + 1 < E → tup Ir 200 o (Int32.ofNat l0) 186 (252 + 6 * (o + 1)) ≠ 27 := fun q e => by
            rw [tup_ne (by omega)] at e
            exact nk ((RR_k (LB_row h q).2.1).1.mpr e)
          have := ends_stop hE (by rw [tup_ne (by omega)]; exact h8) (by omega) hk hr
          exact ⟨o + 1, _, _, m, t + 1, this, ⟨by omega, fun _ => nk⟩, hB', hA', hc, by omega, fun o' k' q => tup_ne (by omega), fun o' k' q => tup_ne (by omega)⟩
    · have r26 : Ir 186 (252 + 6 * o) ≠ 26 := fun e => h5 (hRo.2.1.mpr e)
      rw [if_neg h5] at hc
      rw [xc_ne r26, cond_true] at hr
      dsimp only at hc
      have hA' : LA E (pos + 1) Ic Ir := fun o' e' q1 q2 q3 q4 q5 => by
        obtain ⟨n1, n2⟩ := nin o' e' q1 q2 q3 q4 q5
        exact hA o' e' n1 (by omega) q3 q4 q5
      obtain ⟨pos2, I1, I2, m2, t2, k1, k2, k3, k4, k5, k6, k7, k8⟩ := ends_rel n (pos + 1) (b - 1) m (t + 1) h hA' (by omega) b1 (by omega) hr hc
      exact ⟨pos2, I1, I2, m2, t2, k1, k2, k3, k4, k5, by omega, k7, k8⟩
theorem ends_r {q : Int32 × tI × tJ} {x : Int32} (h : f344_185 N' Ir Jr x = some q) : f344_185_l2 N' N' Ir Jr x = some q := by
  unfold f344_185 at h
  cases e : f344_185_l2 N' N' Ir Jr x with
  | none => rw [e] at h; cases h
  | some Y =>
    rw [e] at h
    exact h
end LV4
