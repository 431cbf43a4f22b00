/-! RUNS, both ways -/
section RU7
variable {t : Nat → Int32} {n N N' P S B W D E d a : Nat} {st : Nat → Nat} {Ic Ir Ic' Ir' I1 I2 Ia Ib I I3 I4 : tI} {Jc Jr J1 J2 J Ja Jb J3 J4 : tJ} {v w v3 w3 : Int32} {u u' : Unit} {b : Int}
theorem rl0_c {k : Nat} {x4 : Int32} {Y : Int32 × Int32 × tI × tJ} (h : f51_60_10_l25 N k I J 0 x4 = some Y) : Y = (0, x4, I, J) := by
  cases k with
  | zero => cases h
  | succ k =>
    simp only [f51_60_10_l25] at h
    rcases bsp h with ⟨-, h⟩ | ⟨-, h⟩
    · cases h
      rfl
    · rw [q00, cond_true] at h
      cases h
      rfl
theorem rl0_r {k : Nat} {Y : Int32 × tI × tJ} (h : f250_185_l38 N k I J 0 = some Y) : Y = (0, I, J) := by
  cases k with
  | zero => cases h
  | succ k =>
    simp only [f250_185_l38] at h
    rw [q00, cond_true] at h
    cases h
    rfl
theorem rloop_rel (hn : n ≤ 300) : ∀ (k m k' : Nat) {Ic Ir : tI} {Jc Jr : tJ} {Y : Int32 × Int32 × tI × tJ} {Y' : Int32 × tI × tJ}, R0 t n (m : Int) Ic Jc Ir → (∃ d a E st, DR P S B d a E st Ic Ir) → NWn P S B Ic Jc Ir Jr → f51_60_10_l25 N k Ic Jc 1 (Int32.ofNat m) = some Y → f250_185_l38 N' k' Ir Jr 1 = some Y' → (Y.1 = 0 ∧ Y'.1 = 0 ∧ RF t Y.2.2.1 Y'.2.1) ∨ (Y.1 = 1 ∧ Y'.1 = 1 ∧ (∃ b, R0 t n b Y.2.2.1 Y.2.2.2 Y'.2.1) ∧ ∃ d a E st, DR P S B d a E st Y.2.2.1 Y'.2.1)
  | 0, _, _, _, _, _, _, _, _, _, _, _, hc, _ => by cases hc
  | _ + 1, _, 0, _, _, _, _, _, _, _, _, _, _, hr => by cases hr
  | k + 1, m, k' + 1, Ic, Ir, Jc, Jr, Y, Y', h, hD, hN, hc, hr => by
    have hb := h.2.2.1
    have hend : Ic 8 2 = 0 ↔ Ir 185 12 = 0 := by
      obtain ⟨s, e, -, -, -, -, -, -, hk⟩ := RT_cases h.1
      rcases hk with ⟨a, b, -⟩ | ⟨a, b, -⟩ | ⟨a, b, -⟩ | ⟨a, b, -⟩ | ⟨a, b, -⟩ <;> rw [a, b] <;> decide
    simp only [f51_60_10_l25] at hc
    simp only [f250_185_l38] at hr
    rw [q10, cond_false] at hc hr
    by_cases h0 : Ic 8 2 = 0
    · rw [xc_eq (hend.mp h0), cond_true] at hr
      cases hr
      have hY : Y = (1, Int32.ofNat m, Ic, Jc) := by
        rcases bsp hc with ⟨-, hc⟩ | ⟨-, hc⟩
        · cases hc
          rfl
        · rw [f32_is] at hc
          dsimp only at hc
          rw [if_pos h0, n10, cond_true] at hc
          cases hc
          rfl
      rw [hY]
      exact Or.inr ⟨rfl, rfl, ⟨_, h⟩, hD⟩
    · have hlt := RT_lt h.1 h0
      rw [xc_eqn (fun q => h0 (hend.mpr q)), cond_false] at hr
      rw [show xcmp .ge (Int32.ofNat m) 300 = decide (300 ≤ m) from oi_ge (q := 300) (by omega) (by omega), decide_eq_false (by omega), cond_false, f32_is] at hc
      dsimp only at hc
      rw [if_neg h0, n00, cond_false, oi_suc (by omega)] at hc
      replace hr := obI hr
      obtain ⟨v6, I6, J6, e6, hr⟩ := hr
      have hp : ∃ v5 I5 J5, cEnt N Ic Jc = some (v5, I5, J5) ∧ f51_60_10_l25 N k I5 J5 v5 (Int32.ofNat (m + 1)) = some Y := by
        unfold cEnt
        have tail : ∀ {Ix : tI} {Jx : tJ}, (match f35_8 N Ix Jx with | none => none | some (v11, I11, J11) => bif xcmp .eq v11 0 then f51_60_10_l25 N k I11 J11 0 (Int32.ofNat (m + 1)) else f51_60_10_l25 N k I11 J11 1 (Int32.ofNat (m + 1))) = some Y → ∃ v5 I5 J5, f35_8 N Ix Jx = some (v5, I5, J5) ∧ f51_60_10_l25 N k I5 J5 v5 (Int32.ofNat (m + 1)) = some Y := fun {Ix Jx} q => by
          replace q := obI q
          obtain ⟨v11, I11, J11, e11, q⟩ := q
          rcases f35_01 e11 with rfl | rfl
          · rw [q00, cond_true] at q
            exact ⟨0, I11, J11, e11, q⟩
          · rw [q10, cond_false] at q
            exact ⟨1, I11, J11, e11, q⟩
        rcases bsp hc with ⟨c, hc⟩ | ⟨c, hc⟩
        · rw [c, cond_true]
          generalize f52_60 Ic Jc = q8 at hc
          obtain ⟨v8, I8, J8⟩ := q8
          dsimp only at hc ⊢
          rcases bsp hc with ⟨c8, hc⟩ | ⟨c8, hc⟩
          · rw [q00, cond_true] at hc
            rw [c8, cond_true]
            exact ⟨0, I8, J8, rfl, hc⟩
          · rw [c8, cond_false]
            replace hc := obI hc
            obtain ⟨v13, I13, J13, e13, hc⟩ := hc
            rw [e13]
            dsimp only
            rcases bsp hc with ⟨c13, hc⟩ | ⟨c13, hc⟩
            · rw [q00, cond_true] at hc
              rw [c13, cond_true]
              exact ⟨0, I13, J13, rfl, hc⟩
            · rw [cond_false] at hc
              rw [c13, cond_false]
              exact tail hc
        · rw [c, cond_false]
          replace hc := obI hc
          obtain ⟨v21, I21, J21, e21, hc⟩ := hc
          rw [e21]
          dsimp only
          rcases bsp hc with ⟨c21, hc⟩ | ⟨c21, hc⟩
          · rw [c21, cond_true]
            exact ⟨0, I21, J21, rfl, hc⟩
          · rw [c21, cond_false]
            exact tail hc
      obtain ⟨v5, I5, J5, e5, hc⟩ := hp
      obtain ⟨d, a, E, st, hD⟩ := hD
      rcases step_rel hD hN h e5 e6 with ⟨rfl, rfl, hF⟩ | ⟨rfl, rfl, r, hD', r3, r4, r5, r6⟩
      · rw [rl0_c hc, rl0_r hr]
        exact Or.inl ⟨rfl, rfl, hF⟩
      · exact rloop_rel hn k (m + 1) k' (by rw [show ((m + 1 : Nat) : Int) = (m : Int) + 1 by omega]; exact r) hD' (NWn_cg hN r5 r3 r6 r4) hc hr
theorem rcopy_run : ∀ (k p : Nat) {I : tI} {J : tJ} {Y : Int32 × tI × tJ}, 252 ≤ p → p ≤ 612 → f250_185_l103 N k I J (Int32.ofNat p) = some Y → Y.2.2 = J ∧ (∀ i, p ≤ i → i < 612 → Y.2.1 186 i = I 186 (2480 + i)) ∧ ∀ o i, ¬ (o = 186 ∧ p ≤ i ∧ i < 612) → Y.2.1 o i = I o i
  | 0, _, _, _, _, _, _, h => by cases h
  | k + 1, p, I, J, Y, h1, h2, h => by
    simp only [f250_185_l103] at h
    rw [show xcmp .ge (Int32.ofNat p) 612 = decide (612 ≤ p) from oi_ge (q := 612) (by omega) (by omega)] at h
    by_cases e : 612 ≤ p
    · rw [decide_eq_true e, cond_true] at h
      cases h
      exact ⟨rfl, fun i a b => absurd a (by omega), fun _ _ _ => rfl⟩
    · rw [decide_eq_false e, cond_false, oi_nat (by omega), show (2480 : Int32) + Int32.ofNat p = Int32.ofNat (2480 + p) from oi_add (a := 2480), oi_nat (by omega), oi_suc (by omega)] at h
      obtain ⟨a1, a2, a3⟩ := rcopy_run k (p + 1) (by omega) (by omega) h
      refine ⟨a1, fun i q1 q2 => ?_, fun o i q => by rw [a3 o i (by omega), tup_ne (by omega)]⟩
      by_cases z : i = p
      · subst z
        rw [a3 186 i (by omega), tup_eq]
      · rw [a2 i (by omega) q2, tup_ne (by omega)]
theorem rtake {u : Unit} (h : f72_26_61 I J = (u, I1, J1)) : J1 = J ∧ (I1 26 0 = I 61 0 ∧ I1 26 1 = I 61 1 ∧ I1 26 2 = I 61 2) ∧ (∀ o k, 1 ≤ o → o ≤ 4 → k < 60 → I1 (26 + o) k = I (61 + o) k) ∧ ∀ o k, ¬ (26 ≤ o ∧ o ≤ 30) → I1 o k = I o k := by
  unfold f72_26_61 at h
  cases h
  refine ⟨rfl, ⟨?_, ?_, ?_⟩, fun o k h1 h2 h3 => ?_, fun o k q => ?_⟩
  · rw [tcp_ne (by omega), tcp_ne (by omega), tcp_ne (by omega), tcp_ne (by omega), tup_ne (by omega), tup_ne (by omega), tup_eq]
  · rw [tcp_ne (by omega), tcp_ne (by omega), tcp_ne (by omega), tcp_ne (by omega), tup_ne (by omega), tup_eq]
  · rw [tcp_ne (by omega), tcp_ne (by omega), tcp_ne (by omega), tcp_ne (by omega), tup_eq]
  · rcases (by omega : o = 1 ∨ o = 2 ∨ o = 3 ∨ o = 4) with rfl | rfl | rfl | rfl
    · rw [tcp_ne (by omega), tcp_ne (by omega), tcp_ne (by omega), tcp_i0 h3, tup_ne (by omega), tup_ne (by omega), tup_ne (by omega)]
    · rw [tcp_ne (by omega), tcp_ne (by omega), tcp_i0 h3, tcp_ne (by omega), tup_ne (by omega), tup_ne (by omega), tup_ne (by omega)]
    · rw [tcp_ne (by omega), tcp_i0 h3, tcp_ne (by omega), tcp_ne (by omega), tup_ne (by omega), tup_ne (by omega), tup_ne (by omega)]
    · rw [tcp_i0 h3, tcp_ne (by omega), tcp_ne (by omega), tcp_ne (by omega), tup_ne (by omega), tup_ne (by omega), tup_ne (by omega)]
  · rw [tcp_ne (by omega), tcp_ne (by omega), tcp_ne (by omega), tcp_ne (by omega), tup_ne (by omega), tup_ne (by omega), tup_ne (by omega)]
end RU7
