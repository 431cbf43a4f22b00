/-! MARKS BY HAND -/
theorem tArr_L {T : kT} {B : xM} {o c n : Nat} (h : kB T B) (ho : T.k o = some (c, n)) (ht : ∀ k, k < n → (T.b o k).1 = 1) : tArr B o c n 1 = true := by
  obtain ⟨sl, h1, h2, h3⟩ := h o _ ho
  dsimp only at h1 h2 h3
  unfold tArr
  rw [h1]
  dsimp only
  rw [h2, Nat.beq_refl, Bool.true_and]
  apply List.all_eq_true.mpr
  intro v hv
  obtain ⟨i, hi, e⟩ := List.getElem_of_mem hv
  obtain ⟨w, w1, w2, w3, -⟩ := h3 i (by omega)
  rw [xnth_eq, List.getElem?_eq_getElem hi] at w1
  cases w1
  rw [← e]
  exact w3 (ht i (by omega))
theorem i_mul {c : Int32} {x : Int32} {m k : Nat} (hc : c.toInt = m) (hx : x.toInt = k) (hb : m * k < 100000) : (c * x).toInt = ((m * k : Nat) : Int) := by
  have e : c.toInt * x.toInt = ((m * k : Nat) : Int) := by rw [hc, hx, Int.natCast_mul]
  rw [ti_mul (by rw [e]; omega) (by rw [e]; omega), e]
theorem i_plus {x y : Int32} {a b : Nat} (hx : x.toInt = a) (hy : y.toInt = b) (ha : a < 100000) (hb : b < 100000) : (x + y).toInt = ((a + b : Nat) : Int) := by
  rw [ti_add (by rw [hx, hy]; omega) (by rw [hx, hy]; omega), hx, hy]
  omega
section CO
variable {sc : List Int32} {B : xM} {I : tI} {J : tJ} {fr to : Int32} {a b : Nat}
theorem copies_sw2 (hB : kB (nTm (ktN sc) []) B) (ha : fr.toInt = a) (hb : to.toInt = b) (a3 : a ≤ 3) (b3 : b ≤ 3) (hab : a ≠ b) {I' : tI} : ∀ (n k : Nat) (x : Int32), x.toInt = k → k + n = 15 → sw sc (xt_349, 4, 0) 41 [(3, .int x), (0, .ref 185), (1, .int fr), (2, .int to)] [] (tMem B I' (tcp J 187 (15 * b) 187 (15 * a) k)) (fun v M' => v = none ∧ M' = tMem B I' (tcp J 187 (15 * b) 187 (15 * a) 15))
  | 0, k, x, hx, hk => by
    have e : k = 15 := by omega
    subst e
    refine tw_il rfl rfl ?_
    refine sw_0 rfl rfl rfl ?_
    refine sw_0 rfl rfl (ev_ic (by rw [tc_ge]; exact decide_eq_true (by show (15 : Int) ≤ x.toInt; omega))) ?_
    exact sw_2 rfl rfl rfl ⟨rfl, rfl⟩
  | n + 1, k, x, hx, hk => by
    have hR := ktN_ref (a := 187) (k := 1) hB (rfl : ktK 185 = some (12, 37)) (by decide) rfl
    have hA := tArr_L hB (rfl : kT.k (nTm (ktN sc) []) 187 = some (22, 90)) (fun _ _ => rfl)
    have m1 : ((15 : Int32) * to).toInt = ((15 * b : Nat) : Int) := i_mul (m := 15) rfl hb (by omega)
    have m2 : ((15 : Int32) * fr).toInt = ((15 * a : Nat) : Int) := i_mul (m := 15) rfl ha (by omega)
    have s1 : ((15 : Int32) * to + x).toInt = ((15 * b + k : Nat) : Int) := i_plus m1 hx (by omega) (by omega)
    have s2 : ((15 : Int32) * fr + x).toInt = ((15 * a + k : Nat) : Int) := i_plus m2 hx (by omega) (by omega)
    refine tw_il rfl rfl ?_
    refine sw_0 rfl rfl rfl ?_
    refine sw_0 rfl rfl (ev_icn (by rw [tc_ge]; exact decide_eq_false (by show ¬ (15 : Int) ≤ x.toInt; omega))) ?_
    refine tw_al rfl rfl ?_
    refine te_getr rfl hR ?_
    refine sw_0 rfl rfl rfl ?_
    refine tw_il rfl rfl ?_
    refine sw_0 rfl rfl rfl ?_
    refine tw_il rfl rfl ?_
    refine sw_0 rfl rfl rfl ?_
    refine tw_al rfl rfl ?_
    refine te_getr rfl hR ?_
    refine sw_0 rfl rfl rfl ?_
    refine tw_il rfl rfl ?_
    refine sw_0 rfl rfl rfl ?_
    refine tw_il rfl rfl ?_
    refine sw_0 rfl rfl rfl ?_
    refine te_lald (j := 15 * fr + x) rfl hA (by omega) (by rw [s2]; omega) ?_
    refine te_last (j := 15 * to + x) rfl hA (by omega) (by rw [s1]; omega) ?_
    refine sw_0 rfl rfl rfl ?_
    refine sw_0 rfl rfl rfl ?_
    rw [i_nat s1, i_nat s2]
    have ev : tcp J 187 (15 * b) 187 (15 * a) k 187 (15 * a + k) = J 187 (15 * a + k) := tcp_out (by omega)
    rw [ev, ← tcp_s]
    exact copies_sw2 hB ha hb a3 b3 hab n (k + 1) (x + Int32.ofInt 1) (by rw [i_of1]; exact (i_suc hx (by omega)).1) (by omega)
theorem copies_sw1 (hB : kB (nTm (ktN sc) []) B) (ha : fr.toInt = a) (hb : to.toInt = b) (a3 : a ≤ 3) (b3 : b ≤ 3) (hab : a ≠ b) : ∀ (n k : Nat) (x : Int32), x.toInt = k → k + n = 620 → sw sc (xt_349, 4, 0) 2 [(3, .int x), (0, .ref 185), (1, .int fr), (2, .int to)] [] (tMem B (tcp I 186 (620 * b) 186 (620 * a) k) J) (fun v M' => v = none ∧ M' = tMem B (tcp I 186 (620 * b) 186 (620 * a) 620) (tcp J 187 (15 * b) 187 (15 * a) 15))
  | 0, k, x, hx, hk => by
    have e : k = 620 := by omega
    subst e
    refine tw_il rfl rfl ?_
    refine sw_0 rfl rfl rfl ?_
    refine sw_0 rfl rfl (ev_ic (by rw [tc_ge]; exact decide_eq_true (by show (620 : Int) ≤ x.toInt; omega))) ?_
    refine sw_0 rfl rfl rfl ?_
    refine sw_0 rfl rfl rfl ?_
    have := copies_sw2 (J := J) (I' := tcp I 186 (620 * b) 186 (620 * a) 620) hB ha hb a3 b3 hab 15 0 0 rfl rfl
    rw [tcp_0] at this
    exact this
  | n + 1, k, x, hx, hk => by
    have hR := at_ref hB rfl
    have m1 : ((620 : Int32) * to).toInt = ((620 * b : Nat) : Int) := i_mul (m := 620) rfl hb (by omega)
    have m2 : ((620 : Int32) * fr).toInt = ((620 * a : Nat) : Int) := i_mul (m := 620) rfl ha (by omega)
    have s1 : ((620 : Int32) * to + x).toInt = ((620 * b + k : Nat) : Int) := i_plus m1 hx (by omega) (by omega)
    have s2 : ((620 : Int32) * fr + x).toInt = ((620 * a + k : Nat) : Int) := i_plus m2 hx (by omega) (by omega)
    refine tw_il rfl rfl ?_
    refine sw_0 rfl rfl rfl ?_
    refine sw_0 rfl rfl (ev_icn (by rw [tc_ge]; exact decide_eq_false (by show ¬ (620 : Int) ≤ x.toInt; omega))) ?_
    refine tw_al rfl rfl ?_
    refine te_getr rfl hR ?_
    refine sw_0 rfl rfl rfl ?_
    refine tw_il rfl rfl ?_
    refine sw_0 rfl rfl rfl ?_
    refine tw_il rfl rfl ?_
    refine sw_0 rfl rfl rfl ?_
    refine tw_al rfl rfl ?_
    refine te_getr rfl hR ?_
    refine sw_0 rfl rfl rfl ?_
    refine tw_il rfl rfl ?_
    refine sw_0 rfl rfl rfl ?_
    refine tw_il rfl rfl ?_
    refine sw_0 rfl rfl rfl ?_
    refine tx_iald (j := 620 * fr + x) rfl (by rw [i_nat s2]; exact at_slot hB rfl (by omega) (nTag_at (by omega))) (by omega) ?_
    refine tx_iast (j := 620 * to + x) rfl (by rw [i_nat s1]; exact at_slot hB rfl (by omega) (nTag_at (by omega))) (by omega) ?_
    refine sw_0 rfl rfl rfl ?_
    refine sw_0 rfl rfl rfl ?_
    rw [i_nat s1, i_nat s2]
    have ev : tcp I 186 (620 * b) 186 (620 * a) k 186 (620 * a + k) = I 186 (620 * a + k) := tcp_out (by omega)
    rw [ev, ← tcp_s]
    exact copies_sw1 hB ha hb a3 b3 hab n (k + 1) (x + Int32.ofInt 1) (by rw [i_of1]; exact (i_suc hx (by omega)).1) (by omega)
end CO
def nCoC : Bool := (List.range 3).all (fun i => (nShift (620 * (i + 1)) (620 * 0) 620 && nFitB (620 * (i + 1)) (620 * 0) 620) && ((nShift (620 * 0) (620 * (i + 1)) 620 && nFitB (620 * 0) (620 * (i + 1)) 620) && decide (ktB 186 (620 * (i + 1) + 5) = (0, 0, 999))))
set_option maxRecDepth 100000 in
theorem nCoC_ok : nCoC = true := by decide +kernel
theorem copies_ok {sc : List Int32} {fr to : Int32} {a b : Nat} {B : xM} {I : tI} {J : tJ} (ha : fr.toInt = a) (hb : to.toInt = b) (hab : (a = 0 ∧ 1 ≤ b ∧ b ≤ 3) ∨ (b = 0 ∧ 1 ≤ a ∧ a ≤ 3)) (hO : nOk (ktN sc) B I) (h5 : a = 0 → (I 186 5).toInt ≤ 999) : sw sc (xt_349, 4, 0) 0 [(0, .ref 185), (1, .int fr), (2, .int to)] [] (tMem B I J) (fun v M' => v = none ∧ nOk (ktN sc) B (tcp I 186 (620 * b) 186 (620 * a) 620) ∧ M' = tMem B (tcp I 186 (620 * b) 186 (620 * a) 620) (tcp J 187 (15 * b) 187 (15 * a) 15)) := by
  have hlo := copies_sw1 (I := I) (J := J) (fr := fr) (to := to) hO.1 ha hb (by omega) (by omega) (by omega) 620 0 0 rfl rfl
  rw [tcp_0] at hlo
  refine sw_0 rfl rfl rfl ?_
  refine sw_0 rfl rfl rfl ?_
  refine sw_mono hlo ?_
  rintro v M' ⟨rfl, rfl⟩
  refine ⟨rfl, ?_, rfl⟩
  rcases hab with ⟨rfl, b1, b2⟩ | ⟨rfl, a1, a2⟩
  · have c := List.all_eq_true.mp nCoC_ok (b - 1) (List.mem_range.mpr (by omega))
    rw [show b - 1 + 1 = b by omega] at c
    simp only [Bool.and_eq_true] at c
    exact nOk_cp c.1.1 c.1.2 (by omega) hO (fun _ _ => h5 rfl)
  · have c := List.all_eq_true.mp nCoC_ok (a - 1) (List.mem_range.mpr (by omega))
    rw [show a - 1 + 1 = a by omega] at c
    simp only [Bool.and_eq_true] at c
    exact nOk_cp c.2.1.1 c.2.1.2 (by omega) hO (fun h _ => by omega)
theorem kAg_2 {l : nMl} {B : xM} {I : tI} {J : tJ} {a b : Nat} (h1 : ∀ k, 620 * b ≤ k → k < 620 * b + 620 → nmod l 186 k = true) (h2 : ∀ k, 15 * b ≤ k → k < 15 * b + 15 → nmod l 187 k = true) : kAg l B I J B (tcp I 186 (620 * b) 186 (620 * a) 620) (tcp J 187 (15 * b) 187 (15 * a) 15) := ⟨fun o k hm => ⟨tcp_out (fun e => by
    rw [e.1, h1 k e.2.1 e.2.2] at hm
    cases hm), tcp_out (fun e => by
    rw [e.1, h2 k e.2.1 e.2.2] at hm
    cases hm)⟩, fun _ => rfl, rfl, rfl⟩
theorem copies_in {sc : List Int32} : nCon (ktN sc) sc ((349, [(2, 185, 0), (0, 0, 0), (0, 1, 3)], none), [(186, 620, 2479), (187, 15, 59)], [(186, 5, 0, 999)], []) := by
  intro r as B I J hr hv hO hpre
  have e : xmeth 349 = some (xt_349, 4, 0) := rfl
  have hr : xmeth 349 = some r := hr
  rw [e] at hr
  cases hr
  obtain ⟨v1, s1, rfl, ⟨o, rfl, ho⟩, v2, s2, rfl, ⟨x, rfl, x1, x2⟩, v3, s3, rfl, ⟨y, rfl, y1, y2⟩, e2⟩ := hv
  have e2 : s3 = [] := e2
  subst e2
  dsimp only at ho x1 x2 y1 y2
  have eo : o = 185 := by omega
  subst eo
  have h5 := hpre _ List.mem_cons_self
  dsimp only at h5
  refine sw_mono (copies_ok (J := J) (fr := x) (to := y) (a := 0) (b := y.toInt.toNat) (by omega) (by omega) (by omega) hO (fun _ => h5.2)) ?_
  rintro v M' ⟨rfl, hO', rfl⟩
  exact ⟨B, _, _, rfl, hO', kAg_2 (fun k a b => nmod_1 (by omega) (by omega)) (fun k a b => nmod_2 (nmod_1 (by omega) (by omega))), (fun q hq => by cases hq), rfl⟩
theorem copies_out {sc : List Int32} : nCon (ktN sc) sc ((349, [(2, 185, 0), (0, 1, 3), (0, 0, 0)], none), [(186, 0, 619), (187, 0, 14)], [], [(186, 5, 0, 999)]) := by
  intro r as B I J hr hv hO hpre
  have e : xmeth 349 = some (xt_349, 4, 0) := rfl
  have hr : xmeth 349 = some r := hr
  rw [e] at hr
  cases hr
  obtain ⟨v1, s1, rfl, ⟨o, rfl, ho⟩, v2, s2, rfl, ⟨x, rfl, x1, x2⟩, v3, s3, rfl, ⟨y, rfl, y1, y2⟩, e2⟩ := hv
  have e2 : s3 = [] := e2
  subst e2
  dsimp only at ho x1 x2 y1 y2
  have eo : o = 185 := by omega
  subst eo
  refine sw_mono (copies_ok (J := J) (fr := x) (to := y) (a := x.toInt.toNat) (b := 0) (by omega) (by omega) (by omega) hO (fun h => by omega)) ?_
  rintro v M' ⟨rfl, hO', rfl⟩
  refine ⟨B, _, _, rfl, hO', kAg_2 (fun k a b => nmod_1 (by omega) (by omega)) (fun k a b => nmod_2 (nmod_1 (by omega) (by omega))), (fun q hq => ?_), rfl⟩
  rw [List.mem_singleton] at hq
  subst hq
  dsimp only
  rw [tcp_in (by omega) (by omega)]
  have c := List.all_eq_true.mp nCoC_ok (x.toInt.toNat - 1) (List.mem_range.mpr (by omega))
  rw [show x.toInt.toNat - 1 + 1 = x.toInt.toNat by omega] at c
  simp only [Bool.and_eq_true, decide_eq_true_eq] at c
  have := hO.2.1 186 (20, 3972) (620 * x.toInt.toNat + (5 - 620 * 0)) rfl (by dsimp only; omega) (show (ktB 186 _).1 = 0 by rw [show 620 * x.toInt.toNat + (5 - 620 * 0) = 620 * x.toInt.toNat + 5 by omega, c.2.2])
  have e5 : (ktN sc).1.2 186 (620 * x.toInt.toNat + (5 - 620 * 0)) = (0, 0, 999) := by
    show ktB 186 _ = _
    rw [show 620 * x.toInt.toNat + (5 - 620 * 0) = 620 * x.toInt.toNat + 5 by omega, c.2.2]
  rw [e5] at this
  exact this
