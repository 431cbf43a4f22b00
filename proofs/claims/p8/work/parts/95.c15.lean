/-! PLAIN, COPIES BY HAND -/
def tfl {α : Type} (f : Nat → Nat → α) (d dp n : Nat) (v : α) : Nat → Nat → α := fun o k => if o = d ∧ dp ≤ k ∧ k < dp + n then v else f o k
theorem tfl_0 {α : Type} {f : Nat → Nat → α} {d dp : Nat} {v : α} : tfl f d dp 0 v = f := by
  funext o k
  unfold tfl
  rw [if_neg (by omega)]
theorem tfl_s {α : Type} {f : Nat → Nat → α} {d dp n : Nat} {v : α} : tfl f d dp (n + 1) v = tup (tfl f d dp n v) d (dp + n) v := by
  funext o k
  unfold tfl tup
  by_cases e : o = d ∧ k = dp + n
  · rw [if_pos (by omega), if_pos e]
  · rw [if_neg e]
    dsimp only
    by_cases h : o = d ∧ dp ≤ k ∧ k < dp + n
    · rw [if_pos h, if_pos (by omega)]
    · rw [if_neg h, if_neg (by omega)]
theorem tfl_in {α : Type} {f : Nat → Nat → α} {d dp n k : Nat} {v : α} (h1 : dp ≤ k) (h2 : k < dp + n) : tfl f d dp n v d k = v := by
  unfold tfl
  rw [if_pos ⟨rfl, h1, h2⟩]
theorem tfl_out {α : Type} {f : Nat → Nat → α} {d dp n o k : Nat} {v : α} (h : ¬ (o = d ∧ dp ≤ k ∧ k < dp + n)) : tfl f d dp n v o k = f o k := by
  unfold tfl
  rw [if_neg h]
def plI (I : tI) : tI := tup (tup (tup (tfl (tfl I 186 2480 620 0) 186 2612 120 (-1)) 186 2486 5) 186 2487 1) 186 2488 (-1)
section PL
variable {sc : List Int32} {B : xM} {I : tI} {J : tJ} {to : Int32}
theorem plain_sw2 (hB : kB (nTm (ktN sc) []) B) (ht : to.toInt = 2480) : ∀ (n k : Nat) (x : Int32), x.toInt = k → k + n = 120 → sw sc (xt_200, 3, 0) 26 [(2, .int x), (0, .ref 185), (1, .int to)] [] (tMem B (tfl (tfl I 186 2480 620 0) 186 2612 k (-1)) J) (fun v M' => v = none ∧ M' = tMem B (plI I) J)
  | 0, k, x, hx, hk => by
    have hR := at_ref hB rfl
    have e : k = 120 := by omega
    subst e
    have e6 : (to + 6).toNatClampNeg = 2486 := by
      have : (to + 6).toInt = to.toInt + 6 := ti_add (by show (-2147483648 : Int) ≤ to.toInt + 6; omega) (by show to.toInt + 6 ≤ (2147483647 : Int); omega)
      show (to + 6).toInt.toNat = 2486
      omega
    have e7 : (to + 7).toNatClampNeg = 2487 := by
      have : (to + 7).toInt = to.toInt + 7 := ti_add (by show (-2147483648 : Int) ≤ to.toInt + 7; omega) (by show to.toInt + 7 ≤ (2147483647 : Int); omega)
      show (to + 7).toInt.toNat = 2487
      omega
    have e8 : (to + 8).toNatClampNeg = 2488 := by
      have : (to + 8).toInt = to.toInt + 8 := ti_add (by show (-2147483648 : Int) ≤ to.toInt + 8; omega) (by show to.toInt + 8 ≤ (2147483647 : Int); omega)
      show (to + 8).toInt.toNat = 2488
      omega
    have p6 : 0 ≤ (to + 6).toInt := by
      have : (to + 6).toInt.toNat = 2486 := e6
      omega
    have p7 : 0 ≤ (to + 7).toInt := by
      have : (to + 7).toInt.toNat = 2487 := e7
      omega
    have p8 : 0 ≤ (to + 8).toInt := by
      have : (to + 8).toInt.toNat = 2488 := e8
      omega
    refine tw_il rfl rfl ?_
    refine sw_0 rfl rfl rfl ?_
    refine sw_0 rfl rfl (ev_ic (by rw [tc_ge]; exact decide_eq_true (by show (120 : Int) ≤ x.toInt; omega))) ?_
    refine tw_al rfl rfl ?_
    refine te_getr rfl hR ?_
    refine tw_il rfl rfl ?_
    refine sw_0 rfl rfl rfl ?_
    refine sw_0 rfl rfl rfl ?_
    refine sw_0 rfl rfl rfl ?_
    refine tx_iast (j := to + 6) (v := 5) rfl (by rw [e6]; exact at_slot hB rfl (by omega) (nTag_at (by omega))) p6 ?_
    refine tw_al rfl rfl ?_
    refine te_getr rfl hR ?_
    refine tw_il rfl rfl ?_
    refine sw_0 rfl rfl rfl ?_
    refine sw_0 rfl rfl rfl ?_
    refine sw_0 rfl rfl rfl ?_
    refine tx_iast (j := to + 7) (v := 1) rfl (by rw [e7]; exact at_slot hB rfl (by omega) (nTag_at (by omega))) p7 ?_
    refine tw_al rfl rfl ?_
    refine te_getr rfl hR ?_
    refine tw_il rfl rfl ?_
    refine sw_0 rfl rfl rfl ?_
    refine sw_0 rfl rfl rfl ?_
    refine sw_0 rfl rfl rfl ?_
    refine tx_iast (j := to + 8) (v := -1) rfl (by rw [e8]; exact at_slot hB rfl (by omega) (nTag_at (by omega))) p8 ?_
    rw [e6, e7, e8]
    exact sw_2 rfl rfl rfl ⟨rfl, rfl⟩
  | n + 1, k, x, hx, hk => by
    have hR := at_ref hB rfl
    have es0 : (to + 132).toInt = 2612 := by
      have : (to + 132).toInt = to.toInt + 132 := ti_add (by show (-2147483648 : Int) ≤ to.toInt + 132; omega) (by show to.toInt + 132 ≤ (2147483647 : Int); omega)
      omega
    have es : (to + 132 + x).toInt = ((2612 + k : Nat) : Int) := by
      rw [ti_add (by rw [es0, hx]; omega) (by rw [es0, hx]; omega), es0, hx]
      omega
    have en := i_nat es
    refine tw_il rfl rfl ?_
    refine sw_0 rfl rfl rfl ?_
    refine sw_0 rfl rfl (ev_icn (by rw [tc_ge]; exact decide_eq_false (by show ¬ (120 : Int) ≤ x.toInt; omega))) ?_
    refine tw_al rfl rfl ?_
    refine te_getr rfl hR ?_
    refine tw_il rfl rfl ?_
    refine sw_0 rfl rfl rfl ?_
    refine sw_0 rfl rfl rfl ?_
    refine tw_il rfl rfl ?_
    refine sw_0 rfl rfl rfl ?_
    refine sw_0 rfl rfl rfl ?_
    refine tx_iast (j := to + 132 + x) (v := -1) rfl (by rw [en]; exact at_slot hB rfl (by omega) (nTag_at (by omega))) (by omega) ?_
    refine sw_0 rfl rfl rfl ?_
    refine sw_0 rfl rfl rfl ?_
    rw [en, ← tfl_s]
    exact plain_sw2 hB ht n (k + 1) (x + Int32.ofInt 1) (by rw [i_of1]; exact (i_suc hx (by omega)).1) (by omega)
theorem plain_sw1 (hB : kB (nTm (ktN sc) []) B) (ht : to.toInt = 2480) : ∀ (n k : Nat) (x : Int32), x.toInt = k → k + n = 620 → sw sc (xt_200, 3, 0) 2 [(2, .int x), (0, .ref 185), (1, .int to)] [] (tMem B (tfl I 186 2480 k 0) J) (fun v M' => v = none ∧ M' = tMem B (plI I) J)
  | 0, k, x, hx, hk => by
    have e : k = 620 := by omega
    subst e
    refine tw_il rfl rfl ?_
    refine sw_0 rfl rfl rfl ?_
    refine sw_0 rfl rfl (ev_ic (by rw [tc_ge]; exact decide_eq_true (by show (620 : Int) ≤ x.toInt; omega))) ?_
    refine sw_0 rfl rfl rfl ?_
    refine sw_0 rfl rfl rfl ?_
    have := plain_sw2 (I := I) (J := J) hB ht 120 0 0 rfl rfl
    rw [tfl_0] at this
    exact this
  | n + 1, k, x, hx, hk => by
    have hR := at_ref hB rfl
    have es : (to + x).toInt = ((2480 + k : Nat) : Int) := by
      rw [ti_add (by rw [ht, hx]; omega) (by rw [ht, hx]; omega), ht, hx]
      omega
    have en := i_nat es
    refine tw_il rfl rfl ?_
    refine sw_0 rfl rfl rfl ?_
    refine sw_0 rfl rfl (ev_icn (by rw [tc_ge]; exact decide_eq_false (by show ¬ (620 : Int) ≤ x.toInt; omega))) ?_
    refine tw_al rfl rfl ?_
    refine te_getr rfl hR ?_
    refine tw_il rfl rfl ?_
    refine tw_il rfl rfl ?_
    refine sw_0 rfl rfl rfl ?_
    refine sw_0 rfl rfl rfl ?_
    refine tx_iast (j := to + x) (v := 0) rfl (by rw [en]; exact at_slot hB rfl (by omega) (nTag_at (by omega))) (by omega) ?_
    refine sw_0 rfl rfl rfl ?_
    refine sw_0 rfl rfl rfl ?_
    rw [en, ← tfl_s]
    exact plain_sw1 hB ht n (k + 1) (x + Int32.ofInt 1) (by rw [i_of1]; exact (i_suc hx (by omega)).1) (by omega)
end PL
def nPlC : Bool := ngA.all (fun c => ((!Nat.beq c.1.1 186 || (Nat.blt c.2.1.2.1 2480 || Nat.ble 3100 c.2.1.1)) && (!Nat.beq c.1.2 186 || (Nat.blt (c.2.1.2.1 + c.2.1.2.2.1) 2480 || Nat.ble 3100 (c.2.1.1 + c.2.1.2.2.1)))) ||
  (Nat.beq c.1.1 186 && (((Nat.ble 2480 c.2.1.1 && Nat.blt c.2.1.2.1 3100) && (Nat.blt c.2.1.2.1 2486 || Nat.ble 2732 c.2.1.1)) && decide (0 < c.2.2.1.1)))) && ((List.range 620).all (fun i => decide ((ktB 186 (2480 + i)).2.1 ≤ 0) && decide (0 ≤ (ktB 186 (2480 + i)).2.2)) && ((List.range 120).all (fun i => decide ((ktB 186 (2612 + i)).2.1 ≤ -1)) && (decide (5 ≤ (ktB 186 2486).2.2) && (decide (1 ≤ (ktB 186 2487).2.2) && decide ((ktB 186 2488).2.1 ≤ -1)))))
set_option maxRecDepth 100000 in
theorem nPlC_ok : nPlC = true := by decide +kernel
theorem plI_out {I : tI} {o k : Nat} (h : ¬ (o = 186 ∧ 2480 ≤ k ∧ k < 3100)) : plI I o k = I o k := by
  unfold plI
  rw [tup_ne (by omega), tup_ne (by omega), tup_ne (by omega), tfl_out (by omega), tfl_out (by omega)]
theorem plI_0 {I : tI} {k : Nat} (h1 : 2480 ≤ k) (h2 : k < 3100) (h3 : k < 2486 ∨ 2732 ≤ k) : plI I 186 k = 0 := by
  unfold plI
  rw [tup_ne (by omega), tup_ne (by omega), tup_ne (by omega), tfl_out (by omega), tfl_in (by omega) (by omega)]
theorem plain_ok {sc : List Int32} : nCon (ktN sc) sc ((200, [(2, 185, 0), (0, 2480, 2480)], none), [(186, 2480, 3099)], [], []) := by
  intro r as B I J hr hv hO hpre
  have e : xmeth 200 = some (xt_200, 3, 0) := rfl
  have hr : xmeth 200 = some r := hr
  rw [e] at hr
  cases hr
  obtain ⟨v1, s1, rfl, ⟨o, rfl, ho⟩, v2, s2, rfl, ⟨x, rfl, x1, x2⟩, e2⟩ := hv
  have e2 : s2 = [] := e2
  subst e2
  dsimp only at ho x1 x2
  have eo : o = 185 := by omega
  subst eo
  have hlo := plain_sw1 (I := I) (J := J) (to := x) hO.1 (by omega) 620 0 0 rfl rfl
  rw [tfl_0] at hlo
  refine sw_0 rfl rfl rfl ?_
  refine sw_0 rfl rfl rfl ?_
  refine sw_mono hlo ?_
  rintro v M' ⟨rfl, rfl⟩
  have chk := nPlC_ok
  unfold nPlC at chk
  rw [Bool.and_eq_true, Bool.and_eq_true, Bool.and_eq_true, Bool.and_eq_true, Bool.and_eq_true, decide_eq_true_eq, decide_eq_true_eq, decide_eq_true_eq] at chk
  obtain ⟨c1, c2, c3, c4, c5, c6⟩ := chk
  refine ⟨B, _, J, rfl, ⟨hO.1, fun p kn k g1 g2 g3 => ?_, fun c hc k k1 k2 k3 l1 l2 => ?_, fun k hk => ?_⟩, ⟨fun p k hm => ⟨plI_out (fun h => ?_), rfl⟩, fun _ => rfl, rfl, rfl⟩, (fun q hq => by cases hq), rfl⟩
  · by_cases h : p = 186 ∧ 2480 ≤ k ∧ k < 3100
    · obtain ⟨rfl, h1, h2⟩ := h
      show (ktB 186 k).2.1 ≤ _ ∧ _ ≤ (ktB 186 k).2.2
      have b := List.all_eq_true.mp c2 (k - 2480) (List.mem_range.mpr (by omega))
      rw [show 2480 + (k - 2480) = k by omega, Bool.and_eq_true, decide_eq_true_eq, decide_eq_true_eq] at b
      unfold plI
      by_cases k8 : k = 2488
      · subst k8
        rw [tup_eq]
        exact ⟨c6, by have e : (-1 : Int32).toInt = -1 := rfl; omega⟩
      rw [tup_ne (by omega)]
      by_cases k7 : k = 2487
      · subst k7
        rw [tup_eq]
        exact ⟨by have e : (1 : Int32).toInt = 1 := rfl; omega, c5⟩
      rw [tup_ne (by omega)]
      by_cases k6 : k = 2486
      · subst k6
        rw [tup_eq]
        exact ⟨by have e : (5 : Int32).toInt = 5 := rfl; omega, c4⟩
      rw [tup_ne (by omega)]
      by_cases ko : 2612 ≤ k ∧ k < 2612 + 120
      · rw [tfl_in ko.1 ko.2]
        have b' := List.all_eq_true.mp c3 (k - 2612) (List.mem_range.mpr (by omega))
        rw [show 2612 + (k - 2612) = k by omega, decide_eq_true_eq] at b'
        exact ⟨b', by have e : (-1 : Int32).toInt = -1 := rfl; omega⟩
      · rw [tfl_out (by omega), tfl_in (by omega) (by omega)]
        exact b
    · rw [plI_out h]
      exact hO.2.1 p kn k g1 g2 g3
  · have a := List.all_eq_true.mp c1 c hc
    rw [Bool.or_eq_true] at a
    rcases a with a | a
    · simp only [Bool.and_eq_true, Bool.or_eq_true, Bool.not_eq_true'] at a
      have e1 : plI I c.1.1 k = I c.1.1 k := plI_out (fun e => by
        rcases a.1 with a1 | a1 | a1
        · rw [e.1, Nat.beq_refl] at a1; cases a1
        · have := Nat.blt_eq.mp a1; omega
        · have := Nat.le_of_ble_eq_true a1; omega)
      have e2 : plI I c.1.2 (k + c.2.1.2.2.1) = I c.1.2 (k + c.2.1.2.2.1) := plI_out (fun e => by
        rcases a.2 with a1 | a1 | a1
        · rw [e.1, Nat.beq_refl] at a1; cases a1
        · have := Nat.blt_eq.mp a1; omega
        · have := Nat.le_of_ble_eq_true a1; omega)
      rw [e1] at l1 l2
      rw [e2]
      exact hO.2.2.1 c hc k k1 k2 k3 l1 l2
    · simp only [Bool.and_eq_true, Bool.or_eq_true, decide_eq_true_eq] at a
      obtain ⟨a1, ⟨⟨a2, a3⟩, a4⟩, a5⟩ := a
      have a1 := Nat.eq_of_beq_eq_true a1
      have a2 := Nat.le_of_ble_eq_true a2
      have a3 := Nat.blt_eq.mp a3
      have a4 : c.2.1.2.1 < 2486 ∨ 2732 ≤ c.2.1.1 := a4.imp Nat.blt_eq.mp Nat.le_of_ble_eq_true
      rw [a1, plI_0 (by omega) (by omega) (by omega)] at l1
      have e : (0 : Int32).toInt = 0 := rfl
      omega
  · rw [plI_out (by omega)]
    exact hO.2.2.2 k hk
  · have hm : nmod [(186, 2480, 3099)] p k = false := hm
    rw [h.1, nmod_1 h.2.1 (by omega)] at hm
    cases hm
