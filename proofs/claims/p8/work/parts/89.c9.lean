/-! KEEPS, RESTORES BY HAND -/
theorem i_of1 : Int32.ofInt 1 = 1 := rfl
def nChk1 : Bool := (nShift 3720 0 252 && nFitB 3720 0 252) && ((nShift 3100 0 252 && nFitB 3100 0 252) && ((nShift 0 3720 252 && nFitB 0 3720 252) && (nShift 0 3100 252 && nFitB 0 3100 252)))
set_option maxRecDepth 100000 in
theorem nChk1_ok : nChk1 = true := by decide +kernel
theorem keeps_sw {sc : List Int32} {B : xM} {I : tI} {J : tJ} {to : Int32} {t : Nat} (hB : kB (nTm (ktN sc) []) B) (ht : to.toInt = t) (h1 : 252 ≤ t) (h2 : t + 252 ≤ 3972) : ∀ (n k : Nat) (x : Int32), x.toInt = k → k + n = 252 → sw sc (xt_296, 3, 0) 2 [(2, .int x), (0, .ref 185), (1, .int to)] [] (tMem B (tcp I 186 t 186 0 k) J) (fun v M' => v = none ∧ M' = tMem B (tcp I 186 t 186 0 252) J)
  | 0, k, x, hx, hk => by
    have e : k = 252 := by omega
    subst e
    refine tw_il rfl rfl ?_
    refine sw_0 rfl rfl rfl ?_
    refine sw_0 rfl rfl (ev_ic (by rw [tc_ge]; exact decide_eq_true (by show (252 : Int) ≤ x.toInt; omega))) ?_
    exact sw_2 rfl rfl rfl ⟨rfl, rfl⟩
  | n + 1, k, x, hx, hk => by
    have hR := at_ref hB rfl
    have ex := i_nat hx
    have es : (to + x).toInt = ((t + k : Nat) : Int) := by
      rw [ti_add (by rw [ht, hx]; omega) (by rw [ht, hx]; omega), ht, hx]
      omega
    have en := i_nat es
    refine tw_il rfl rfl ?_
    refine sw_0 rfl rfl rfl ?_
    refine sw_0 rfl rfl (ev_icn (by rw [tc_ge]; exact decide_eq_false (by show ¬ (252 : Int) ≤ x.toInt; omega))) ?_
    refine tw_al rfl rfl ?_
    refine te_getr rfl hR ?_
    refine tw_il rfl rfl ?_
    refine tw_il rfl rfl ?_
    refine sw_0 rfl rfl rfl ?_
    refine tw_al rfl rfl ?_
    refine te_getr rfl hR ?_
    refine tw_il rfl rfl ?_
    refine tx_iald rfl (by rw [ex]; exact at_slot hB rfl (by omega) (nTag_at (by omega))) (by omega) ?_
    refine tx_iast (j := to + x) rfl (by rw [en]; exact at_slot hB rfl (by omega) (nTag_at (by omega))) (by omega) ?_
    refine sw_0 rfl rfl rfl ?_
    refine sw_0 rfl rfl rfl ?_
    rw [en, ex]
    have ev : tcp I 186 t 186 0 k 186 k = I 186 (0 + k) := by rw [tcp_out (by omega), Nat.zero_add]
    rw [ev, ← tcp_s]
    exact keeps_sw hB ht h1 h2 n (k + 1) (x + Int32.ofInt 1) (by rw [i_of1]; exact (i_suc hx (by omega)).1) (by omega)
theorem keeps_ok {sc : List Int32} {t : Nat} (h1 : 252 ≤ t) (h2 : t + 252 ≤ 3972) (hs : nShift t 0 252 = true) (hf : nFitB t 0 252 = true) : nCon (ktN sc) sc ((296, [(2, 185, 0), (0, (t : Int), (t : Int))], none), [(186, t, t + 251)], [(186, 5, 0, 999)], []) := by
  intro r as B I J hr hv hO hpre
  have e : xmeth 296 = some (xt_296, 3, 0) := rfl
  have hr : xmeth 296 = some r := hr
  rw [e] at hr
  cases hr
  obtain ⟨v1, s1, rfl, ⟨o, rfl, ho⟩, v2, s2, rfl, ⟨x, rfl, x1, x2⟩, e2⟩ := hv
  have e2 : s2 = [] := e2
  subst e2
  dsimp only at ho x1 x2
  have eo : o = 185 := by omega
  subst eo
  have h5 := hpre _ List.mem_cons_self
  dsimp only at h5
  have hlo := keeps_sw (I := I) (J := J) (to := x) (t := t) hO.1 (by omega) h1 h2 252 0 0 rfl rfl
  rw [tcp_0] at hlo
  refine sw_0 rfl rfl rfl ?_
  refine sw_0 rfl rfl rfl ?_
  refine sw_mono hlo ?_
  rintro v M' ⟨rfl, rfl⟩
  exact ⟨B, _, J, rfl, nOk_cp hs hf (by omega) hO (fun _ _ => h5.2), kAg_cp (fun k a b => nmod_1 (by omega) (by omega)), (fun q hq => by cases hq), rfl⟩
theorem restores_sw {sc : List Int32} {B : xM} {I : tI} {J : tJ} {fr : Int32} {t : Nat} (hB : kB (nTm (ktN sc) []) B) (ht : fr.toInt = t) (h1 : 252 ≤ t) (h2 : t + 252 ≤ 3972) : ∀ (n k : Nat) (x : Int32), x.toInt = k → k + n = 252 → sw sc (xt_297, 3, 0) 2 [(2, .int x), (0, .ref 185), (1, .int fr)] [] (tMem B (tcp I 186 0 186 t k) J) (fun v M' => v = none ∧ M' = tMem B (tcp I 186 0 186 t 252) J)
  | 0, k, x, hx, hk => by
    have e : k = 252 := by omega
    subst e
    refine tw_il rfl rfl ?_
    refine sw_0 rfl rfl rfl ?_
    refine sw_0 rfl rfl (ev_ic (by rw [tc_ge]; exact decide_eq_true (by show (252 : Int) ≤ x.toInt; omega))) ?_
    exact sw_2 rfl rfl rfl ⟨rfl, rfl⟩
  | n + 1, k, x, hx, hk => by
    have hR := at_ref hB rfl
    have ex := i_nat hx
    have es : (fr + x).toInt = ((t + k : Nat) : Int) := by
      rw [ti_add (by rw [ht, hx]; omega) (by rw [ht, hx]; omega), ht, hx]
      omega
    have en := i_nat es
    refine tw_il rfl rfl ?_
    refine sw_0 rfl rfl rfl ?_
    refine sw_0 rfl rfl (ev_icn (by rw [tc_ge]; exact decide_eq_false (by show ¬ (252 : Int) ≤ x.toInt; omega))) ?_
    refine tw_al rfl rfl ?_
    refine te_getr rfl hR ?_
    refine tw_il rfl rfl ?_
    refine tw_al rfl rfl ?_
    refine te_getr rfl hR ?_
    refine tw_il rfl rfl ?_
    refine tw_il rfl rfl ?_
    refine sw_0 rfl rfl rfl ?_
    refine tx_iald (j := fr + x) rfl (by rw [en]; exact at_slot hB rfl (by omega) (nTag_at (by omega))) (by omega) ?_
    refine tx_iast rfl (by rw [ex]; exact at_slot hB rfl (by omega) (nTag_at (by omega))) (by omega) ?_
    refine sw_0 rfl rfl rfl ?_
    refine sw_0 rfl rfl rfl ?_
    rw [en, ex]
    have ev : tcp I 186 0 186 t k 186 (t + k) = I 186 (t + k) := tcp_out (by omega)
    have e0 : tup (tcp I 186 0 186 t k) 186 k (I 186 (t + k)) = tcp I 186 0 186 t (k + 1) := by rw [tcp_s, Nat.zero_add]
    rw [ev, e0]
    exact restores_sw hB ht h1 h2 n (k + 1) (x + Int32.ofInt 1) (by rw [i_of1]; exact (i_suc hx (by omega)).1) (by omega)
theorem restores_ok {sc : List Int32} {t : Nat} (h1 : 252 ≤ t) (h2 : t + 252 ≤ 3972) (hs : nShift 0 t 252 = true) (hf : nFitB 0 t 252 = true) (h5 : (ktB 186 (t + 5)) = (0, 0, 999)) : nCon (ktN sc) sc ((297, [(2, 185, 0), (0, (t : Int), (t : Int))], none), [(186, 0, 251)], [], [(186, 5, 0, 999)]) := by
  intro r as B I J hr hv hO hpre
  have e : xmeth 297 = some (xt_297, 3, 0) := rfl
  have hr : xmeth 297 = some r := hr
  rw [e] at hr
  cases hr
  obtain ⟨v1, s1, rfl, ⟨o, rfl, ho⟩, v2, s2, rfl, ⟨x, rfl, x1, x2⟩, e2⟩ := hv
  have e2 : s2 = [] := e2
  subst e2
  dsimp only at ho x1 x2
  have eo : o = 185 := by omega
  subst eo
  have hlo := restores_sw (I := I) (J := J) (fr := x) (t := t) hO.1 (by omega) h1 h2 252 0 0 rfl rfl
  rw [tcp_0] at hlo
  refine sw_0 rfl rfl rfl ?_
  refine sw_0 rfl rfl rfl ?_
  refine sw_mono hlo ?_
  rintro v M' ⟨rfl, rfl⟩
  refine ⟨B, _, J, rfl, nOk_cp hs hf (by omega) hO (fun _ _ => by omega), kAg_cp (fun k a b => nmod_1 (by omega) (by omega)), (fun q hq => ?_), rfl⟩
  rw [List.mem_singleton] at hq
  subst hq
  dsimp only
  rw [tcp_in (by omega) (by omega)]
  have := hO.2.1 186 (20, 3972) (t + 5) rfl (by dsimp only; omega) (show (ktB 186 (t + 5)).1 = 0 by rw [h5])
  have e5 : ((ktN sc).1.2 186 (t + 5)) = (0, 0, 999) := h5
  rw [e5] at this
  exact this
