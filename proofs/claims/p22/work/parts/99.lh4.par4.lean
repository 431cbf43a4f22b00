/-! CELLS AND NEW NAMES, in step -/
section PE
variable {t : Nat → Int32} {n N N' P S B W D : Nat} {Ic Ir I1 I2 : tI} {Jc Jr J1 J2 : tJ} {v w : Int32} {b : Int}
theorem natI {x : Int32} (h : 0 ≤ x.toInt) : x = Int32.ofNat x.toInt.toNat := i32_eq (by
  have := (ti_bd x).2
  rw [oi_int (by omega)]
  omega)
theorem oi_sub1 {a : Nat} (h : a < 2147483648) : (Int32.ofNat a - 1).toInt = (a : Int) - 1 := by
  have e1 : (1 : Int32).toInt = 1 := rfl
  rw [ti_sub (by rw [oi_int h, e1]; omega) (by rw [oi_int h, e1]; omega), oi_int h, e1]
theorem n10 : xcmp .ne (1 : Int32) 0 = true := rfl
theorem n00 : xcmp .ne (0 : Int32) 0 = false := rfl
theorem q00 : xcmp .eq (0 : Int32) 0 = true := rfl
theorem q10 : xcmp .eq (1 : Int32) 0 = false := rfl
theorem f37_ok {I : tI} {J : tJ} {lo hi : Int32} (h2 : I 8 2 = 2) (hl : lo.toInt ≤ (I 8 7).toInt) (hh : (I 8 7).toInt ≤ hi.toInt) : f37_8 I J lo hi = (1, I, J) := by
  unfold f37_8
  rw [xc_eq h2, cond_true, f127_is]
  dsimp only
  rw [if_pos ⟨hl, hh⟩, n10, cond_true]
theorem R0_num (h : R0 t n b Ic Jc Ir) (h2 : Ic 8 2 = 2) : Ir 185 12 = 3 ∧ Ir 185 15 = Ic 8 7 := by
  obtain ⟨s, e, -, -, -, -, -, -, hk⟩ := RT_cases h.1
  rcases hk with ⟨a, b, c⟩ | ⟨a, b, c, -⟩ | ⟨a, b, c, d⟩ | ⟨a, b, c, d⟩ | ⟨a, b, c⟩
  · rw [a] at h2; exact absurd h2 (by decide)
  · rw [a] at h2; exact absurd h2 (by decide)
  · exact ⟨b, d.symm⟩
  · rw [a] at h2; exact absurd h2 (by decide)
  · rw [a] at h2; exact absurd h2 (by decide)
theorem R0_nonum (h : R0 t n b Ic Jc Ir) (h2 : Ic 8 2 ≠ 2) : Ir 185 12 ≠ 3 := by
  obtain ⟨s, e, -, -, -, -, -, -, hk⟩ := RT_cases h.1
  rcases hk with ⟨a, b, c⟩ | ⟨a, b, c, -⟩ | ⟨a, b, c, d⟩ | ⟨a, b, c, d⟩ | ⟨a, b, c⟩
  · rw [b]; decide
  · rw [b]; decide
  · exact absurd a h2
  · rw [b]; decide
  · rw [b]; decide
/-- the class's frame of what passes tokens and keeps a cell -/
def frK (I I' : tI) : Prop := ∀ o k, ¬ (o = 8 ∧ (k = 2 ∨ k = 3 ∨ k = 4 ∨ k = 5 ∨ k = 7)) → ¬ (o = 35 ∧ k = 3) → I' o k = I o k
def frM (to : Nat) (I I' : tI) : Prop := ∀ o k, ¬ (o = 185 ∧ (k = 12 ∨ k = 13 ∨ k = 14 ∨ k = 15)) → ¬ (o = 186 ∧ (k = to ∨ k = 3092 ∨ k = 3093)) → I' o k = I o k
theorem told_iff {r c : Nat} (hD : RD P S B W D Ic Jc Ir Jr) (hr : r < 5) (hc : c < 6) : (wb (Jc 37 2) (10 * r + c) = true ∨ ∃ i, i < P ∧ Ic 40 i = Int32.ofNat (10 * r + c)) ↔ (Ir 186 (2490 + (6 * r + c)) = 1 ∨ ∃ i, i < P ∧ Ir 186 (2520 + 14 * i) = Int32.ofNat (6 * r + c)) := by
  obtain ⟨-, ⟨g3, -, g5⟩, ⟨g6, -⟩, -, -⟩ := hD
  have a := g5 r c hr hc
  have e1 : wb (Jc 37 2) (10 * r + c) = true ↔ Ir 186 (2490 + (6 * r + c)) = 1 := by
    rw [a]
    cases wb (Jc 37 2) (10 * r + c) <;> decide
  have e2 : (∃ i, i < P ∧ Ic 40 i = Int32.ofNat (10 * r + c)) ↔ ∃ i, i < P ∧ Ir 186 (2520 + 14 * i) = Int32.ofNat (6 * r + c) :=
    ⟨fun ⟨i, hi, q⟩ => ⟨i, hi, (RCl_iff (RCw_l g3.1 (g6 i hi).1) hr hc).mp q⟩, fun ⟨i, hi, q⟩ => ⟨i, hi, (RCl_iff (RCw_l g3.1 (g6 i hi).1) hr hc).mpr q⟩⟩
  rw [e1, e2]
theorem fresh_rel {to : Nat} (hto : 2480 ≤ to ∧ to < 3972) (h : R0 t n b Ic Jc Ir) (hD : RD P S B W D Ic Jc Ir Jr) (hc : f80_35 N Ic Jc = some (v, I1, J1)) (hr : f238_185 N' Ir Jr (Int32.ofNat to) 1 = some (w, I2, J2)) : OUT t v w I1 I2 (∃ r c, (r < D ∧ c < W) ∧ I1 35 3 = Int32.ofNat (10 * r + c) ∧ I2 186 to = Int32.ofNat (6 * r + c) ∧ R0 t n b I1 J1 I2 ∧ frK Ic I1 ∧ gJ Jc J1 ∧ frM to Ir I2 ∧ J2 = Jr) := by
  obtain ⟨⟨hW, hDd⟩, ⟨w1, d1, w2, d2⟩, -⟩ := id hD.2.1.1
  unfold f80_35 at hc
  replace hc := obI hc
  obtain ⟨v1, Ia, Ja, e1, hc⟩ := hc
  unfold f79_35 at e1
  obtain ⟨⟨a1, Ib, Jb⟩, b1⟩ := exq (f37_8 Ic Jc 0 (Ic 37 0 - 1))
  rw [b1] at e1
  dsimp only at e1
  unfold f238_185 at hr
  replace hr := obI hr
  obtain ⟨x1, Id, Jd, dd, hr⟩ := hr
  rw [w1] at b1
  rw [w2] at dd
  rcases num_rel h b1 dd with ⟨rfl, rfl, hF⟩ | ⟨rfl, rfl, rfl, rfl, k2, g1, g2, g3⟩
  · rw [n00, cond_false] at e1 hr
    cases e1
    cases hr
    rw [n00, cond_false] at hc
    cases hc
    exact Or.inl ⟨rfl, rfl, hF⟩
  · rw [n10, cond_true] at e1 hr
    replace e1 := obU e1
    obtain ⟨u, Ie, Je, e2, e1⟩ := e1
    have h' : R0 t n b Ib Jb (tup Ir 186 3092 (Ib 8 7)) := R0_cg h (fun _ _ => rfl) (fun _ _ _ => rfl) rfl (fun k _ _ => tup_ne (by omega)) (fun o k ho => tup_ne (by omega))
    obtain ⟨hR, fC, gJ', fR, rfl⟩ := R0_adv h' e2 g3
    have z0 : (0 : Int32).toInt = 0 := rfl
    rw [z0] at g1
    rw [oi_sub1 (by omega)] at g2
    have ec := natI g1
    generalize hcn : (Ib 8 7).toInt.toNat = c at ec
    have hcW : c < W := by omega
    have fR' : ∀ o k, ¬ (o = 185 ∧ (k = 12 ∨ k = 13 ∨ k = 14 ∨ k = 15)) → ¬ (o = 186 ∧ k = 3092) → Id o k = Ir o k := fun o k q1 q2 => by rw [fR o k q1, tup_ne q2]
    have hD' : RD P S B W D Ie Je Id Jd := RD_cg hD (fun o k q1 q2 q3 => fC o k (by omega)) (fun o k q1 q2 => gJ' o k (by omega)) (fR' _ _ (by omega) (by omega)) (fun k q1 q2 => fR' _ _ (by omega) (by omega)) (fun k => rfl)
    obtain ⟨⟨a2, If, Jf⟩, b2⟩ := exq (f37_8 Ie Je 0 (Ie 37 1 - 1))
    rw [b2] at e1
    dsimp only at e1
    have d1' : Ie 37 1 = Int32.ofNat D := by rw [fC 37 1 (by omega)]; exact d1
    have d2' : Id 186 2481 = Int32.ofNat D := by rw [fR' 186 2481 (by omega) (by omega)]; exact d2
    have x92 : Id 186 3092 = Int32.ofNat c := by rw [fR 186 3092 (by omega), tup_eq]; exact ec
    rw [d1'] at b2
    by_cases ok : Ie 8 2 = 2 ∧ 0 ≤ (Ie 8 7).toInt ∧ (Ie 8 7).toInt < D
    · obtain ⟨ok1, ok2, ok3⟩ := ok
      obtain ⟨m1, m2⟩ := R0_num hR ok1
      have er := natI ok2
      generalize hrn : (Ie 8 7).toInt.toNat = r at er
      have hrD : r < D := by omega
      have b2s := b2
      rw [f37_ok ok1 (by rw [z0]; exact ok2) (by rw [oi_sub1 (by omega)]; omega)] at b2
      cases b2
      rw [n10, cond_true] at e1
      unfold f43 at e1
      dsimp only at e1
      cases e1
      have eX : (10 : Int32) * Ie 8 7 + Ib 8 7 = Int32.ofNat (10 * r + c) := by
        rw [er, ec, show (10 : Int32) * Int32.ofNat r = Int32.ofNat (10 * r) from oi_mul, oi_add]
      rw [n10, cond_true, eX, tup_eq, f47_is (by omega)] at hc
      dsimp only at hc
      have e6 : (6 : Int32) * Id 185 15 + Id 186 3092 = Int32.ofNat (6 * r + c) := by
        rw [m2, er, x92, show (6 : Int32) * Int32.ofNat r = Int32.ofNat (6 * r) from oi_mul, oi_add]
      rw [xc_nen m1, cond_false, tc_lt, m2, decide_eq_false (by rw [z0]; omega), cond_false, er, d2', oi_ge (by omega) (by omega), decide_eq_false (by omega), cond_false, q10, cond_false, ← er, ← m2, e6] at hr
      replace hr := obI hr
      obtain ⟨y7, Ih, Jh, hh, hr⟩ := hr
      have told := told_iff hD' (r := r) (c := c) (by omega) (by omega)
      have hc0 : (tup Ie 35 3 (Int32.ofNat (10 * r + c))) 38 0 = Int32.ofNat P := by rw [tup_ne (by omega)]; exact hD'.1.1.2.1.1
      have hRt : R0 t n b (tup Ie 35 3 (Int32.ofNat (10 * r + c))) Ja Id := R0_cg hR (fun k _ => tup_ne (by omega)) (fun o k ho => tup_ne (by omega)) rfl (fun _ _ _ => rfl) (fun _ _ _ => rfl)
      rcases f239_is hD'.1.1.1.1 (by omega) hD'.1.1.2.2.1 hh with ⟨q, t1, t2⟩ | ⟨q, t1⟩
      · cases q
        have nt : ¬ (wb (Ja 37 2) (10 * r + c) = true ∨ ∃ i, i < P ∧ Ie 40 i = Int32.ofNat (10 * r + c)) := fun q => (told.mp q).elim t1 (fun ⟨i, hi, q⟩ => t2 i hi q)
        rw [if_neg (fun q => nt (Or.inl q)), n00, cond_false] at hc
        replace hc := obI hc
        obtain ⟨y8, Ij, Jj, hj, hc⟩ := hc
        rcases f15_is hD'.1.1.1.1 hc0 hj with ⟨q, s1⟩ | ⟨q, i, hi, s1⟩
        · cases q
          rw [q00, cond_true] at hc
          replace hc := obU hc
          obtain ⟨u2, Ik, Jk, e3, hc⟩ := hc
          cases hc
          rw [q00, cond_true] at hr
          unfold f238_185_j86 at hr
          replace hr := obI hr
          obtain ⟨y9, Il, Jl, hl, hr⟩ := hr
          rw [show (3092 : Int32) + 1 = Int32.ofNat 3093 from rfl, d2'] at hl
          rcases num_rel hR b2s hl with ⟨q, -, -⟩ | ⟨-, rfl, -, -, -, -, -, g9⟩
          · exact absurd q (by decide)
          rw [oi_nat (by omega)] at g9
          have h'' : R0 t n b (tup Ie 35 3 (Int32.ofNat (10 * r + c))) Ja (tup Id 186 3093 (Ie 8 7)) := R0_cg hRt (fun _ _ => rfl) (fun _ _ _ => rfl) rfl (fun k _ _ => tup_ne (by omega)) (fun o k ho => tup_ne (by omega))
          obtain ⟨hR2, fC2, gJ2, fR2, rfl⟩ := R0_adv h'' e3 g9
          rw [n10, cond_true, oi_nat (by omega), show ((3092 : Int32) + 1).toNatClampNeg = 3093 from rfl, show (3092 : Int32).toNatClampNeg = 3092 from rfl] at hr
          cases hr
          have v93 : Il 186 3093 = Int32.ofNat r := by rw [fR2 186 3093 (by omega), tup_eq]; exact er
          have v92 : Il 186 3092 = Int32.ofNat c := by rw [fR2 186 3092 (by omega), tup_ne (by omega)]; exact x92
          refine Or.inr ⟨rfl, rfl, r, c, ⟨by omega, by omega⟩, ?_, ?_, ?_, ?_, ?_, ?_, rfl⟩
          · rw [fC2 35 3 (by omega), tup_eq]
          · rw [tup_eq, v93, v92, show (6 : Int32) * Int32.ofNat r = Int32.ofNat (6 * r) from oi_mul, oi_add]
          · exact R0_cg hR2 (fun _ _ => rfl) (fun _ _ _ => rfl) rfl (fun k _ _ => tup_ne (by omega)) (fun o k ho => tup_ne (by omega))
          · intro o k q1 q2
            rw [fC2 o k q1, tup_ne q2, fC o k q1]
          · intro o k q1
            rw [gJ2 o k q1, gJ' o k q1]
          · intro o k q1 q2
            rw [tup_ne (by omega), fR2 o k q1, tup_ne (by omega), fR' o k q1 (by omega)]
        · rw [tup_ne (by omega)] at s1
          exact absurd (Or.inr ⟨i, hi, s1⟩) nt
      · cases q
        rw [q10, cond_false, f225_is hR.2.1] at hr
        dsimp only at hr
        cases hr
        have yt := told.mpr t1
        have fin : (match f33_8 (tup Ie 35 3 (Int32.ofNat (10 * r + c))) Ja 5 with | (v5, I5, J5) => some (v5, I5, J5)) = some (v, I1, J1) → OUT t v 0 I1 (tup (tup Id 185 18 (if Id 185 12 = 1 then 1 else 5)) 185 17 (Id 185 13)) (∃ r c, (r < D ∧ c < W) ∧ I1 35 3 = Int32.ofNat (10 * r + c) ∧ (tup (tup Id 185 18 (if Id 185 12 = 1 then 1 else 5)) 185 17 (Id 185 13)) 186 to = Int32.ofNat (6 * r + c) ∧ R0 t n b I1 J1 (tup (tup Id 185 18 (if Id 185 12 = 1 then 1 else 5)) 185 17 (Id 185 13)) ∧ frK Ib I1 ∧ gJ Jb J1 ∧ frM to Ir (tup (tup Id 185 18 (if Id 185 12 = 1 then 1 else 5)) 185 17 (Id 185 13)) ∧ J2 = J2) := fun q => by
          rw [f33_is] at q
          dsimp only at q
          cases q
          exact Or.inl ⟨rfl, rfl, RF_of hRt (by decide)⟩
        by_cases wl : wb (Ja 37 2) (10 * r + c) = true
        · rw [if_pos wl, n10, cond_true] at hc
          exact fin hc
        · rw [if_neg wl, n00, cond_false] at hc
          replace hc := obI hc
          obtain ⟨y8, Ij, Jj, hj, hc⟩ := hc
          rcases f15_is hD'.1.1.1.1 hc0 hj with ⟨q, s1⟩ | ⟨q, i, hi, s1⟩
          · rcases yt with yt | ⟨i, hi, yt⟩
            · exact absurd yt wl
            · exact absurd (by rw [tup_ne (by omega)]; exact yt) (s1 i hi)
          · cases q
            rw [q10, cond_false] at hc
            exact fin hc
    · have hr2 : f238_185_j86 N' Id Jd (Int32.ofNat to) 3092 = some (w, I2, J2) := by
        by_cases k2' : Ie 8 2 = 2
        · obtain ⟨m1, m2⟩ := R0_num hR k2'
          rw [xc_nen m1, cond_false, m2, d2'] at hr
          by_cases l0 : (Ie 8 7).toInt < 0
          · rw [tc_lt, decide_eq_true (by rw [z0]; exact l0), cond_true] at hr
            exact hr
          · have hge : (D : Int) ≤ (Ie 8 7).toInt := Int.not_lt.mp (fun q => ok ⟨k2', by omega, q⟩)
            rw [tc_lt, decide_eq_false (by rw [z0]; exact l0), cond_false, tc_ge, decide_eq_true (by rw [oi_int (by omega)]; exact hge), cond_true] at hr
            exact hr
        · rw [xc_ne (R0_nonum hR k2'), cond_true] at hr
          exact hr
      unfold f238_185_j86 at hr2
      replace hr2 := obI hr2
      obtain ⟨y9, Il, Jl, hl, hr2⟩ := hr2
      rw [d2'] at hl
      rcases num_rel hR b2 hl with ⟨rfl, rfl, hF⟩ | ⟨-, -, -, -, k3, g4, g5, -⟩
      · rw [n00, cond_false] at e1 hr2
        cases e1
        cases hr2
        rw [n00, cond_false] at hc
        cases hc
        exact Or.inl ⟨rfl, rfl, hF⟩
      · rw [z0] at g4
        rw [oi_sub1 (by omega)] at g5
        exact absurd ⟨k3, g4, by omega⟩ ok
/-- a cell that need not be free; the class passes its row later -/
theorem cell_rel {to : Nat} (hto : 2480 ≤ to ∧ to < 3972) (h : R0 t n b Ic Jc Ir) (hD : RD P S B W D Ic Jc Ir Jr) (hc : f79_35 N Ic Jc = some (v, I1, J1)) (hr : f238_185 N' Ir Jr (Int32.ofNat to) 0 = some (w, I2, J2)) : OUT t v w I1 I2 (∃ r c Ig Ih, (r < 5 ∧ c < 6) ∧ I1 35 3 = Int32.ofNat (10 * r + c) ∧ R0 t n b I1 J1 Ig ∧ f222_185 N' Ig Jr = some ((), Ih, J2) ∧ I2 = tup Ih 186 to (Int32.ofNat (6 * r + c)) ∧ frK Ic I1 ∧ gJ Jc J1 ∧ frM to Ir Ig) := by
  obtain ⟨⟨hW, hDd⟩, ⟨w1, d1, w2, d2⟩, -⟩ := id hD.2.1.1
  unfold f79_35 at hc
  obtain ⟨⟨a1, Ib, Jb⟩, b1⟩ := exq (f37_8 Ic Jc 0 (Ic 37 0 - 1))
  rw [b1] at hc
  dsimp only at hc
  unfold f238_185 at hr
  replace hr := obI hr
  obtain ⟨x1, Id, Jd, dd, hr⟩ := hr
  rw [w1] at b1
  rw [w2] at dd
  rcases num_rel h b1 dd with ⟨rfl, rfl, hF⟩ | ⟨rfl, rfl, rfl, rfl, k2, g1, g2, g3⟩
  · rw [n00, cond_false] at hc hr
    cases hc
    cases hr
    exact Or.inl ⟨rfl, rfl, hF⟩
  · rw [n10, cond_true] at hc hr
    replace hc := obU hc
    obtain ⟨u, Ie, Je, e2, hc⟩ := hc
    have h' : R0 t n b Ib Jb (tup Ir 186 3092 (Ib 8 7)) := R0_cg h (fun _ _ => rfl) (fun _ _ _ => rfl) rfl (fun k _ _ => tup_ne (by omega)) (fun o k ho => tup_ne (by omega))
    obtain ⟨hR, fC, gJ', fR, rfl⟩ := R0_adv h' e2 g3
    have z0 : (0 : Int32).toInt = 0 := rfl
    rw [z0] at g1
    rw [oi_sub1 (by omega)] at g2
    have ec := natI g1
    generalize hcn : (Ib 8 7).toInt.toNat = c at ec
    have hcW : c < W := by omega
    have fR' : ∀ o k, ¬ (o = 185 ∧ (k = 12 ∨ k = 13 ∨ k = 14 ∨ k = 15)) → ¬ (o = 186 ∧ k = 3092) → Id o k = Ir o k := fun o k q1 q2 => by rw [fR o k q1, tup_ne q2]
    obtain ⟨⟨a2, If, Jf⟩, b2⟩ := exq (f37_8 Ie Je 0 (Ie 37 1 - 1))
    rw [b2] at hc
    dsimp only at hc
    have d1' : Ie 37 1 = Int32.ofNat D := by rw [fC 37 1 (by omega)]; exact d1
    have d2' : Id 186 2481 = Int32.ofNat D := by rw [fR' 186 2481 (by omega) (by omega)]; exact d2
    have x92 : Id 186 3092 = Int32.ofNat c := by rw [fR 186 3092 (by omega), tup_eq]; exact ec
    rw [d1'] at b2
    have hr2 : f238_185_j86 N' Id Jd (Int32.ofNat to) 3092 = some (w, I2, J2) := by
      rcases bsp hr with ⟨-, q⟩ | ⟨-, hr⟩
      · exact q
      rcases bsp hr with ⟨-, q⟩ | ⟨-, hr⟩
      · exact q
      rcases bsp hr with ⟨-, q⟩ | ⟨-, hr⟩
      · exact q
      rw [q00, cond_true] at hr
      exact hr
    unfold f238_185_j86 at hr2
    replace hr2 := obI hr2
    obtain ⟨y9, Il, Jl, hl, hr2⟩ := hr2
    rw [show (3092 : Int32) + 1 = Int32.ofNat 3093 from rfl, d2'] at hl
    rcases num_rel hR b2 hl with ⟨rfl, rfl, hF⟩ | ⟨rfl, rfl, rfl, rfl, k3, g4, g5, g6⟩
    · rw [n00, cond_false] at hc hr2
      cases hc
      cases hr2
      exact Or.inl ⟨rfl, rfl, hF⟩
    · rw [z0] at g4
      rw [oi_sub1 (by omega)] at g5
      have er := natI g4
      generalize hrn : (If 8 7).toInt.toNat = r at er
      have hrD : r < D := by omega
      rw [n10, cond_true] at hc
      unfold f43 at hc
      dsimp only at hc
      have eX : (10 : Int32) * If 8 7 + Ib 8 7 = Int32.ofNat (10 * r + c) := by
        rw [er, ec, show (10 : Int32) * Int32.ofNat r = Int32.ofNat (10 * r) from oi_mul, oi_add]
      rw [eX] at hc
      cases hc
      rw [oi_nat (by omega)] at g6
      rw [n10, cond_true, oi_nat (by omega), show ((3092 : Int32) + 1).toNatClampNeg = 3093 from rfl, show (3092 : Int32).toNatClampNeg = 3092 from rfl] at hr2
      have fR2 : frR (tup Id 186 3093 (If 8 7)) Il := by
        have hx : R0 t n b If J1 (tup Id 186 3093 (If 8 7)) := R0_cg hR (fun _ _ => rfl) (fun _ _ _ => rfl) rfl (fun k _ _ => tup_ne (by omega)) (fun o k ho => tup_ne (by omega))
        obtain ⟨s, e, -, hen, -, -, -, h14, -⟩ := RT_cases hx.1
        obtain ⟨⟨hn9, hb, ⟨-, h11⟩, ⟨-, ht'⟩, -⟩, -⟩ := id hx
        exact (adv_r hn9 hb hen h11 h14 ht' g6).1
      have v93 : Il 186 3093 = Int32.ofNat r := by rw [fR2 186 3093 (by omega), tup_eq]; exact er
      have v92 : Il 186 3092 = Int32.ofNat c := by rw [fR2 186 3092 (by omega), tup_ne (by omega)]; exact x92
      rw [v93, v92, show (6 : Int32) * Int32.ofNat r = Int32.ofNat (6 * r) from oi_mul, oi_add] at hr2
      cases hr2
      refine Or.inr ⟨rfl, rfl, r, c, _, _, ⟨by omega, by omega⟩, tup_eq, ?_, g6, rfl, ?_, ?_, ?_⟩
      · exact R0_cg hR (fun k _ => tup_ne (by omega)) (fun o k ho => tup_ne (by omega)) rfl (fun k _ _ => tup_ne (by omega)) (fun o k ho => tup_ne (by omega))
      · intro o k q1 q2
        rw [tup_ne q2, fC o k q1]
      · exact gJ'
      · intro o k q1 q2
        rw [tup_ne (by omega), fR' o k q1 (by omega)]
/-- a name that is new: the class has looked at it, the reference has kept it and is about to pass it -/
theorem new_rel {a0 a1 a2 : Int32} {ka kn m : Nat} (hka : (2480 + a0).toNatClampNeg = ka) (hm0 : ka = 2482 ∨ ka = 2483 ∨ ka = 2484) (hm : Ir 186 ka = Int32.ofNat m) (hne : Int32.ofNat m ≠ a1) (hkn : ((60 + a2) + Int32.ofNat m).toNatClampNeg = kn) {u : Unit} {Ia : tI} {Ja : tJ} (h : R0 t n b Ic Jc Ir) (hD : RD P S B W D Ic Jc Ir Jr) (ha : f25_8 N Ic Jc = some (u, Ia, Ja)) (hc : f82_35 N Ia Ja = some (v, I1, J1)) (hr : f236_185 N' Ir Jr a0 a1 a2 = some (w, I2, J2)) : OUT t v w I1 I2 (I1 = Ia ∧ J1 = Ja ∧ frC Ic Ia ∧ gJ Jc Ja ∧ ∃ Ig x, R0 t n b Ia Ja Ig ∧ frR Ir Ig ∧ RN (Ja 8 6) x ∧ f222_185 N' Ig (tup Jr 187 kn x) = some ((), I2, J2)) := by
  unfold f236_185 at hr
  rw [hka, hm, xc_ne hne, cond_true] at hr
  replace hr := obU hr
  obtain ⟨u', Ib, Jb, d1, hr⟩ := hr
  obtain ⟨hR, fC, gJ', fR, rfl⟩ := R0_adv h ha d1
  have hD' : RD P S B W D Ia Ja Ib Jb := RD_cg hD (fun o k q1 q2 q3 => fC o k (by omega)) (fun o k q1 q2 => gJ' o k (by omega)) (fR _ _ (by omega)) (fun k q1 q2 => fR _ _ (by omega)) (fun k => rfl)
  obtain ⟨⟨hP, hS, hB⟩, ⟨c1, c2, c3⟩, e1, e2, e3⟩ := hD'.1.1
  obtain ⟨n1, n2, n3⟩ := hD'.1.2
  replace hr := obI hr
  obtain ⟨x3, Id, Jd, d2, hr⟩ := hr
  unfold f82_35 at hc
  obtain ⟨⟨y1, Ie, Je⟩, b1⟩ := exq (f38_8 Ia Ja)
  rw [b1] at hc
  dsimp only at hc
  obtain ⟨rfl, rfl, g⟩ := nm_rel hR b1 d2
  rcases g with ⟨rfl, rfl, hF⟩ | ⟨rfl, rfl, rfl, rfl, wd, hwd, n5', n8'⟩
  · rw [n00, cond_false] at hc hr
    cases hc
    rw [f225_is hR.2.1] at hF hr
    dsimp only at hr
    cases hr
    exact Or.inl ⟨rfl, rfl, hF⟩
  · rw [n10, cond_true] at hc hr
    have hx : RN (Je 8 6) (e8 wd 0) := ⟨wd, hwd, n5', rfl⟩
    replace hc := obI hc
    obtain ⟨p1, If, Jf, s1, hc⟩ := hc
    replace hr := obI hr
    obtain ⟨p2, Ii, Ji, s2, hr⟩ := hr
    rw [c1] at s1
    rw [e1] at s2
    have t1 := f40_39_is hP s1
    have t2 := f232_is (b := 60) (by omega) n8' s2
    cases t1
    cases t2
    rw [fd_rel (o := 39) n1 hx] at hc
    have fail : f82_35_j113 N Ie Je 1 = some (v, I1, J1) → (match f225_185 Id Jd 3 with | (v7, I7, J7) => some (v7, I7, J7)) = some (w, I2, J2) → OUT t v w I1 I2 (I1 = Ie ∧ J1 = Je ∧ frC Ic Ie ∧ gJ Jc Je ∧ ∃ Ig x, R0 t n b Ie Je Ig ∧ frR Ir Ig ∧ RN (Je 8 6) x ∧ f222_185 N' Ig (tup Jd 187 kn x) = some ((), I2, J2)) := fun q1 q2 => by
      unfold f82_35_j113 at q1
      rw [q10, cond_false, f33_is] at q1
      rw [f225_is hR.2.1] at q2
      dsimp only at q1 q2
      rw [q00, cond_true] at q1
      cases q1
      cases q2
      exact Or.inl ⟨rfl, rfl, RF_of hR (by decide)⟩
    by_cases k1 : fdN (fun p => decide (Jd 187 (60 + p) = e8 wd 0)) P 0 = -1
    · rw [xc_nen k1, cond_false] at hc hr
      replace hc := obI hc
      obtain ⟨p3, Ij, Jj, s3, hc⟩ := hc
      replace hr := obI hr
      obtain ⟨p4, Ik, Jk, s4, hr⟩ := hr
      rw [c2] at s3
      rw [e2] at s4
      have t3 := f40_48_is hS s3
      have t4 := f232_is (b := 65) (by omega) n8' s4
      cases t3
      cases t4
      rw [fd_rel (o := 48) n2 hx] at hc
      by_cases k2 : fdN (fun p => decide (Jd 187 (65 + p) = e8 wd 0)) S 0 = -1
      · rw [xc_nen k2, cond_false] at hc hr
        replace hc := obI hc
        obtain ⟨p5, Il, Jl, s5, hc⟩ := hc
        replace hr := obI hr
        obtain ⟨p6, Im, Jm, s6, hr⟩ := hr
        rw [c3] at s5
        rw [e3] at s6
        have t5 := f40_57_is hB s5
        have t6 := f232_is (b := 71) (by omega) n8' s6
        cases t5
        cases t6
        rw [fd_rel (o := 57) n3 hx] at hc
        by_cases k3 : fdN (fun p => decide (Jd 187 (71 + p) = e8 wd 0)) B 0 = -1
        · rw [xc_eq k3, cond_true] at hc hr
          unfold f82_35_j113 at hc
          rw [q00, cond_true] at hc
          cases hc
          replace hr := obL hr
          obtain ⟨p7, Ip, Jp, s7, hr⟩ := hr
          have t7 := n8' _ _ s7
          cases t7
          replace hr := obU hr
          obtain ⟨u3, Iq, Jq, s8, hr⟩ := hr
          cases hr
          have hm' : Id 186 ka = Int32.ofNat m := by rw [fR 186 ka (by omega)]; exact hm
          rw [hm', hkn] at s8
          exact Or.inr ⟨rfl, rfl, rfl, rfl, fC, gJ', _, _, hR, fR, hx, s8⟩
        · rw [xc_eqn k3, cond_false] at hc hr
          exact fail hc hr
      · rw [xc_ne k2, cond_true] at hc hr
        exact fail hc hr
    · rw [xc_ne k1, cond_true] at hc hr
      exact fail hc hr
end PE
