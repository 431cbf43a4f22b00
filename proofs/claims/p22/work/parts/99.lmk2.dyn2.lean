/-! WHAT IS SHOWN: sights 21, folk 12 -/
section DS12
variable {N N' P W D s S : Nat} {Ic Ir I1 I2 I : tI} {Jc Jr J1 J2 J : tJ} {v w : Int32}
theorem f12_12_is {a : Nat} (ha : a < 100) : f12_12 I J (Int32.ofNat a) = (if I 19 a = 1 then I 20 a else -1, I, J) := by
  unfold f12_12
  rw [oi_nat (by omega)]
  by_cases h : I 19 a = 1
  · rw [xc_nen h, cond_false, if_pos h]
  · rw [xc_ne h, cond_true, if_neg h]
theorem f16_12_run {x : Int32} (hP : P ≤ 5) (h0 : I 12 0 = Int32.ofNat P) : ∀ (k p : Nat) (acc : Int32) {Y : Int32 × Int32 × Int32 × tI × tJ}, p ≤ P → f16_12_l4 N k I J x acc (Int32.ofNat p) = some Y → Y.2.2.2 = (I, J) ∧ (∀ j, tb Y.2.1 j = (tb acc j || (decide (p ≤ j ∧ j < P) && decide (I 19 j = x)))) ∧ ((∀ j, p ≤ j → j < P → I 19 j ≠ x) → Y.2.1 = acc)
  | 0, _, _, _, _, h => by cases h
  | k + 1, p, acc, Y, hp, h => by
    simp only [f16_12_l4] at h
    rw [h0, oi_ge (by omega) (by omega)] at h
    by_cases hpm : P ≤ p
    · rw [decide_eq_true hpm, cond_true] at h
      cases h
      refine ⟨rfl, fun j => ?_, fun _ => rfl⟩
      rw [decide_eq_false (by omega), Bool.false_and, Bool.or_false]
    · rw [decide_eq_false hpm, cond_false, oi_nat (by omega), oi_suc (by omega)] at h
      by_cases a : I 19 p = x
      · rw [xc_nen a, cond_false] at h
        obtain ⟨b1, b2, b3⟩ := f16_12_run hP h0 k (p + 1) _ (by omega) h
        refine ⟨b1, fun j => ?_, fun hn => absurd a (hn p (by omega) (by omega))⟩
        rw [b2 j, tb_or (by omega), Bool.or_assoc]
        by_cases e : p = j
        · subst e
          rw [decide_eq_true rfl, decide_eq_true a, decide_eq_true (by omega : p ≤ p ∧ p < P)]
          simp
        · rw [decide_eq_false e, Bool.false_or]
          by_cases q : p + 1 ≤ j ∧ j < P
          · rw [decide_eq_true q, decide_eq_true (by omega : p ≤ j ∧ j < P)]
          · rw [decide_eq_false q, decide_eq_false (by omega : ¬ (p ≤ j ∧ j < P))]
      · rw [xc_ne a, cond_true] at h
        obtain ⟨b1, b2, b3⟩ := f16_12_run hP h0 k (p + 1) _ (by omega) h
        refine ⟨b1, fun j => ?_, fun hn => b3 (fun j q1 q2 => hn j (by omega) q2)⟩
        rw [b2 j]
        by_cases e : p = j
        · subst e
          rw [decide_eq_false a, Bool.and_false, Bool.and_false]
        · by_cases q : p + 1 ≤ j ∧ j < P
          · rw [decide_eq_true q, decide_eq_true (by omega : p ≤ j ∧ j < P)]
          · rw [decide_eq_false q, decide_eq_false (by omega : ¬ (p ≤ j ∧ j < P))]
/-- is somebody there? -/
theorem f16_12_is {q : Int32 × tI × tJ} (hP : P ≤ 5) (h0 : I 12 0 = Int32.ofNat P) (h : f16_12 N I J 1 = some q) : q.2 = (I, J) ∧ (q.1 = 0 ↔ ∀ j, j < P → I 19 j ≠ 1) := by
  unfold f16_12 at h
  cases e : f16_12_l4 N N I J 1 0 0 with
  | none => rw [e] at h; cases h
  | some Y =>
  obtain ⟨b1, b2, b3⟩ := f16_12_run hP h0 N 0 0 (by omega) e
  obtain ⟨y1, y2, y3, Ia, Ja⟩ := Y
  rw [e] at h
  dsimp only at h b1 b2 b3
  cases b1
  cases h
  refine ⟨rfl, fun hq j hj hs => ?_, fun hn => b3 (fun j _ q => hn j q)⟩
  have := b2 j
  dsimp only at hq
  rw [hq, decide_eq_true (by omega : 0 ≤ j ∧ j < P), decide_eq_true hs] at this
  have t0 : tb 0 j = false := by
    unfold tb
    rw [show (0 : Int32).toBitVec = 0#32 from rfl, BitVec.getLsbD_zero]
  rw [t0] at this
  cases this
/-- one sight, both ways -/
theorem show_12 {i : Nat} (hR : FR 12 11 P W D s Ic Jc Ir) (hS : WKs 10 0 S P Ic Ir) (hS6 : S ≤ 6) (hi : i < S) (hc : f93_21_12 N Ic Jc (Int32.ofNat i) = some (v, I1, J1)) (hr : f265_185 N' Ir Jr (Int32.ofNat i) = some (w, I2, J2)) : v = w ∧ (v = 0 ∨ v = 1) ∧ (I1 = Ic ∧ J1 = Jc) ∧ I2 = Ir ∧ J2 = Jr := by
  obtain ⟨⟨hP, hW, hD, hs⟩, ⟨g0, g1, g2, g3⟩, ⟨k0, k1, k2, k3⟩, hw, hF⟩ := hR
  have hs := hS i hi
  have hs : Ic 23 i = Ir 186 (110 + 3 * i) ∧ ((Ic 23 i = 2 ∧ Ic 24 i = -1 ∧ Ic 25 i = -1) ∨ (Ic 23 i = 0 ∧ Ic 24 i = Ir 186 (110 + 3 * i + 1) ∧ (∃ a, a < P ∧ Ic 24 i = Int32.ofNat a) ∧ RCl (Ic 25 i) (Ir 186 (110 + 3 * i + 2))) ∨ (Ic 23 i = 1 ∧ Ic 24 i = Ir 186 (110 + 3 * i + 1) ∧ Ic 25 i = Ir 186 (110 + 3 * i + 2) ∧ (∃ a, a < P ∧ Ic 24 i = Int32.ofNat a) ∧ ∃ a, a < P ∧ Ic 25 i = Int32.ofNat a)) := by
    have h0 : ∀ k, 0 + 110 + 3 * i + k = 110 + 3 * i + k := fun k => by omega
    have h1 : 0 + 110 + 3 * i = 110 + 3 * i := by omega
    rw [h0 1, h0 2, h1] at hs
    exact hs
  have st : ∀ a, a < P → (Ic 19 a = 1 ↔ Ir 186 (40 + 14 * a + 4) = 1) := fun a ha => STp_1 (FKp_12.mp hF a ha).2.2.2.1
  have cl : ∀ a, a < P → ∃ r c, r < 5 ∧ c < 6 ∧ Ic 20 a = Int32.ofNat (10 * r + c) ∧ Ir 186 (40 + 14 * a + 5) = Int32.ofNat (6 * r + c) := fun a ha => RCw_l ⟨hW, hD⟩ (FKp_12.mp hF a ha).2.2.2.2
  unfold f93_21_12 at hc
  rw [oi_nat (by omega)] at hc
  have hs1 := hs.1.symm
  obtain ⟨-, ⟨z2, -, -⟩ | ⟨z0, e3, ⟨a, ha, ea⟩, hcl⟩ | ⟨z1, e3, e4, ⟨a, ha, ea⟩, b, hb, eb⟩⟩ := hs
  · -- nobody
    rw [xc_nen z2, cond_false] at hc
    rw [f265_flat (by omega) hs1 rfl rfl, xc_nen z2, cond_false] at hr
    replace hc := obI hc
    obtain ⟨x, Ia, Ja, e, hc⟩ := hc
    obtain ⟨q1, q2⟩ := f16_12_is hP g2 e
    dsimp only at q1 q2
    cases q1
    cases er : f265_185_l17 N' N' Ir Jr 0 with
    | none => rw [er] at hr; cases hr
    | some Y =>
    obtain ⟨r1, r2⟩ := f265_run hP k2 N' 0 (by omega) (fun j hj => absurd hj (by omega)) er
    obtain ⟨kk, y, Ib, Jb⟩ := Y
    rw [er] at hr
    dsimp only at hr r1 r2
    cases r1
    rcases r2 with ⟨rfl, r2⟩ | ⟨rfl, j, j1, j2⟩
    · have hx : x = 0 := q2.mpr (fun j hj h => r2 j hj ((st j hj).mp h))
      rw [xc_nen hx, cond_false] at hc
      cases hc
      cases hr
      exact ⟨rfl, Or.inr rfl, ⟨rfl, rfl⟩, rfl, rfl⟩
    · have hx : x ≠ 0 := fun h => q2.mp h j j1 ((st j j1).mpr j2)
      rw [xc_ne hx, cond_true] at hc
      cases hc
      cases hr
      exact ⟨rfl, Or.inl rfl, ⟨rfl, rfl⟩, rfl, rfl⟩
  · -- one at a cell
    rw [xc_ne (by rw [z0]; decide), cond_true, ea, f12_12_is (by omega)] at hc
    rw [f265_flat (by omega) hs1 (e3.symm.trans ea) rfl, xc_ne (by rw [z0]; decide), cond_true, pr_is (by omega)] at hr
    dsimp only at hc
    obtain ⟨r, c, hr5, hc6, x8, y8⟩ := cl a ha
    by_cases h : Ic 19 a = 1
    · rw [if_pos h, x8, xc_ne (oi_m1 (by omega)), cond_true, xc_nen z0, cond_false] at hc
      rw [if_pos ((st a ha).mp h), n10, cond_true, lk_is (x := 5) (w := 5) (by omega) rfl (by omega), xc_nen z0, cond_false, y8] at hr
      have hiff := RCl_iff hcl hr5 hc6
      by_cases q : Ic 25 i = Int32.ofNat (10 * r + c)
      · rw [xc_nen q.symm, cond_false] at hc
        rw [xc_nen (hiff.mp q).symm, cond_false] at hr
        cases hc
        cases hr
        exact ⟨rfl, Or.inr rfl, ⟨rfl, rfl⟩, rfl, rfl⟩
      · rw [xc_ne (fun q' => q q'.symm), cond_true] at hc
        rw [xc_ne (fun q' => q (hiff.mpr q'.symm)), cond_true] at hr
        cases hc
        cases hr
        exact ⟨rfl, Or.inl rfl, ⟨rfl, rfl⟩, rfl, rfl⟩
    · rw [if_neg h, show xcmp .ne (-1 : Int32) (-1) = false from rfl, cond_false] at hc
      rw [if_neg (fun q => h ((st a ha).mpr q)), n00, cond_false] at hr
      cases hc
      cases hr
      exact ⟨rfl, Or.inl rfl, ⟨rfl, rfl⟩, rfl, rfl⟩
  · -- two beside each other
    rw [xc_ne (by rw [z1]; decide), cond_true, ea, f12_12_is (by omega)] at hc
    rw [f265_flat (by omega) hs1 (e3.symm.trans ea) (e4.symm.trans eb), xc_ne (by rw [z1]; decide), cond_true, pr_is (by omega)] at hr
    dsimp only at hc
    obtain ⟨r, c, hr5, hc6, x8, y8⟩ := cl a ha
    obtain ⟨r', c', hr5', hc6', x8', y8'⟩ := cl b hb
    obtain ⟨d1, d2⟩ := d10_at hr5 hc6
    obtain ⟨d3, d4⟩ := d10_at hr5' hc6'
    obtain ⟨d5, d6'⟩ := d6_at hr5 hc6
    obtain ⟨d7, d8⟩ := d6_at hr5' hc6'
    by_cases h : Ic 19 a = 1
    · rw [if_pos h, x8, xc_ne (oi_m1 (by omega)), cond_true, xc_ne (by rw [z1]; decide), cond_true, eb, f12_12_is (by omega)] at hc
      rw [if_pos ((st a ha).mp h), n10, cond_true, xc_ne (by rw [z1]; decide), cond_true, pr_is (by omega), lk_is (p := a) (x := 5) (w := 5) (by omega) rfl (by omega), lk_is (p := b) (x := 5) (w := 5) (by omega) rfl (by omega), y8, y8'] at hr
      dsimp only at hc
      by_cases h' : Ic 19 b = 1
      · rw [if_pos h', x8', xc_eqn (oi_m1 (by omega)), cond_false] at hc
        unfold f94 f44 f45 at hc
        dsimp only at hc
        rw [d2, d4, d1, d3] at hc
        rw [if_pos ((st b hb).mp h'), q10, cond_false, d6', d8, d5, d7] at hr
        rcases bsp hr with ⟨t, hr⟩ | ⟨t, hr⟩
        · rw [t, cond_true] at hc
          dsimp only at hc
          rw [q00, cond_true] at hc
          cases hc
          cases hr
          exact ⟨rfl, Or.inl rfl, ⟨rfl, rfl⟩, rfl, rfl⟩
        · rw [t, cond_false] at hc
          dsimp only at hc
          rw [q10, cond_false] at hc
          cases hc
          cases hr
          exact ⟨rfl, Or.inr rfl, ⟨rfl, rfl⟩, rfl, rfl⟩
      · rw [if_neg h', show xcmp .eq (-1 : Int32) (-1) = true from rfl, cond_true] at hc
        rw [if_neg (fun q => h' ((st b hb).mpr q)), q00, cond_true] at hr
        cases hc
        cases hr
        exact ⟨rfl, Or.inl rfl, ⟨rfl, rfl⟩, rfl, rfl⟩
    · rw [if_neg h, show xcmp .ne (-1 : Int32) (-1) = false from rfl, cond_false] at hc
      rw [if_neg (fun q => h ((st a ha).mpr q)), n00, cond_false] at hr
      cases hc
      cases hr
      exact ⟨rfl, Or.inl rfl, ⟨rfl, rfl⟩, rfl, rfl⟩
theorem shown_run_12 (hR : FR 12 11 P W D s Ic Jc Ir) (hS : WKs 10 0 S P Ic Ir) (hS6 : S ≤ 6) (g : Ic 21 0 = Int32.ofNat S) (g' : Ir 186 3 = Int32.ofNat S) : ∀ (k k' i : Nat) (acc : Int32) {Y : Int32 × Int32 × tI × tJ} {Y' : Int32 × Int32 × tI × tJ}, i ≤ S → f92_21_12_l4 N k Ic Jc acc (Int32.ofNat i) = some Y → f266_185_l4 N' k' Ir Jr acc (Int32.ofNat i) = some Y' → Y.1 = Y'.1 ∧ (Y.2.2 = (Ic, Jc)) ∧ Y'.2.2 = (Ir, Jr)
  | 0, _, _, _, _, _, _, h, _ => by cases h
  | _ + 1, 0, _, _, _, _, _, _, h => by cases h
  | k + 1, k' + 1, i, acc, Y, Y', hi, hc, hr => by
    simp only [f92_21_12_l4] at hc
    simp only [f266_185_l4] at hr
    rw [g, oi_ge (by omega) (by omega)] at hc
    rw [g', oi_ge (by omega) (by omega)] at hr
    by_cases hie : S ≤ i
    · rw [decide_eq_true hie, cond_true] at hc hr
      cases hc
      cases hr
      exact ⟨rfl, rfl, rfl⟩
    · rw [decide_eq_false hie, cond_false, oi_suc (by omega)] at hc hr
      replace hc := obI hc
      obtain ⟨v, Ia, Ja, e1, hc⟩ := hc
      replace hr := obI hr
      obtain ⟨w, Ib, Jb, e2, hr⟩ := hr
      obtain ⟨hvw, hv, ⟨h1, h2⟩, h3, h4⟩ := show_12 hR hS hS6 (by omega) e1 e2
      rw [h1, h2] at hc
      rw [h3, h4, ← hvw] at hr
      rcases hv with hv | hv
      · rw [hv, q00, cond_true] at hc hr
        rw [show acc ||| 0 = acc from Int32.or_zero] at hr
        exact shown_run_12 hR hS hS6 g g' k k' (i + 1) acc (by omega) hc hr
      · rw [hv, q10, cond_false] at hc hr
        exact shown_run_12 hR hS hS6 g g' k k' (i + 1) _ (by omega) hc hr
theorem shown_12 (hR : FR 12 11 P W D s Ic Jc Ir) (hS : WKs 10 0 S P Ic Ir) (hS6 : S ≤ 6) (g : Ic 21 0 = Int32.ofNat S) (g' : Ir 186 3 = Int32.ofNat S) (hc : f92_21_12 N Ic Jc = some (v, I1, J1)) (hr : f266_185 N' Ir Jr = some (w, I2, J2)) : v = w ∧ (I1 = Ic ∧ J1 = Jc) ∧ I2 = Ir ∧ J2 = Jr := by
  unfold f92_21_12 at hc
  unfold f266_185 at hr
  cases e1 : f92_21_12_l4 N N Ic Jc 0 0 with
  | none => rw [e1] at hc; cases hc
  | some Y =>
  cases e2 : f266_185_l4 N' N' Ir Jr 0 0 with
  | none => rw [e2] at hr; cases hr
  | some Y' =>
  obtain ⟨a1, a2, a3⟩ := shown_run_12 hR hS hS6 g g' N N' 0 0 (by omega) e1 e2
  obtain ⟨y1, y2, Ia, Ja⟩ := Y
  obtain ⟨y3, y4, Ib, Jb⟩ := Y'
  rw [e1] at hc
  rw [e2] at hr
  dsimp only at hc hr a1 a2 a3
  cases a2
  cases a3
  cases hc
  cases hr
  exact ⟨a1, ⟨rfl, rfl⟩, rfl, rfl⟩
end DS12
