/-! BEHIND ENDS BY HAND -/
def sumL (I : tI) : Nat → Nat
  | 0 => 0
  | n + 1 => sumL I n + (I 200 n).toInt.toNat
theorem sumL_out {I : tI} {o : Nat} {v : Int32} : ∀ {n : Nat}, n ≤ o → sumL (tup I 200 o v) n = sumL I n
  | 0, _ => rfl
  | n + 1, h => by
    simp only [sumL]
    rw [sumL_out (by omega), tup_ne (by omega)]
theorem sumL_at {I : tI} {o : Nat} {v : Int32} : ∀ {n : Nat}, o < n → sumL (tup I 200 o v) n + (I 200 o).toInt.toNat = sumL I n + v.toInt.toNat
  | 0, h => by omega
  | n + 1, h => by
    simp only [sumL]
    by_cases e : o = n
    · subst e
      rw [sumL_out (Nat.le_refl _), tup_eq]
      omega
    · have := sumL_at (I := I) (v := v) (show o < n by omega)
      rw [tup_ne (by omega)]
      omega
def nBeC : Bool := (List.range 60).all (fun m => decide (ktB 186 (256 + 6 * m) = (0, 0, 59)))
set_option maxRecDepth 100000 in
theorem nBeC_ok : nBeC = true := by decide +kernel
theorem tup_same {I : tI} {o k : Nat} {v : Int32} (h : v = I o k) : tup I o k v = I := by
  funext p j
  by_cases e : p = o ∧ j = k
  · obtain ⟨rfl, rfl⟩ := e
    rw [tup_eq, h]
  · rw [tup_ne e]
theorem nOk_200 {sc : List Int32} {B : xM} {I : tI} {o : Nat} {v : Int32} (hO : nOk (ktN sc) B I) : nOk (ktN sc) B (tup I 200 o v) := by
  refine ⟨hO.1, fun p kn k g1 g2 g3 => ?_, nCnd_same hO.2.2.1 (fun p k h => tup_ne (fun e => ?_)), fun k hk => ?_⟩
  · by_cases e : p = 200 ∧ k = o
    · obtain ⟨rfl, rfl⟩ := e
      rw [tup_eq]
      exact ti_bd v
    · rw [tup_ne e]
      exact hO.2.1 p kn k g1 g2 g3
  · rw [e.1] at h
    cases h
  · rw [tup_ne (by omega)]
    exact hO.2.2.2 k hk
theorem behind_sw {sc : List Int32} {B : xM} {J : tJ} : ∀ (m : Nat) (k : Nat) (x : Int32) (Lc : xL) (I : tI), nOk (ktN sc) B I → 61 * sumL I 80 + (60 - k) ≤ m → x.toInt = k → k ≤ 60 → xfind Lc 0 = some (.ref 185) → sw sc (xt_344, 5, 1) 2 ((2, .int x) :: Lc) [] (tMem B I J) (fun v M' => ∃ (y : Int32) (I' : tI), v = some (.int y) ∧ M' = tMem B I' J ∧ nOk (ktN sc) B I' ∧ kAg [(200, 0, 79)] B I J B I' J ∧ 0 ≤ y.toInt ∧ y.toInt ≤ 60) := by
  intro m
  induction m using Nat.strongRecOn with
  | ind m ih =>
    intro k x Lc I hO hm hx hk h0
    have hB := hO.1
    have hR := at_ref hB rfl
    have b8 : (I 186 8).toInt ≤ 60 := (hO.2.1 186 (20, 3972) 8 rfl (by decide) rfl).2
    have t8 : tSlot B 186 20 8 0 = true := at_slot hB rfl (by omega) (nTag_at (by omega))
    refine tw_il rfl rfl ?_
    refine tw_al rfl h0 ?_
    refine te_getr rfl hR ?_
    refine sw_0 rfl rfl rfl ?_
    refine tx_iald (j := 8) rfl t8 (by decide) ?_
    have fin : ∀ L', xfind L' 2 = some (.int x) → sw sc (xt_344, 5, 1) 118 L' [] (tMem B I J) (fun v M' => ∃ (y : Int32) (I' : tI), v = some (.int y) ∧ M' = tMem B I' J ∧ nOk (ktN sc) B I' ∧ kAg [(200, 0, 79)] B I J B I' J ∧ 0 ≤ y.toInt ∧ y.toInt ≤ 60) := fun L' h2 => by
      refine tw_il rfl h2 ?_
      exact sw_2 rfl rfl rfl ⟨x, I, rfl, rfl, hO, kAg_refl, by omega, by omega⟩
    cases c1 : xcmp .ge x (I 186 (8 : Int32).toNatClampNeg) with
    | true => exact sw_0 rfl rfl (ev_ic c1) (fin _ rfl)
    | false =>
      refine sw_0 rfl rfl (ev_icn c1) ?_
      rw [tc_ge] at c1
      have c1 : ¬ (I 186 8).toInt ≤ x.toInt := of_decide_eq_false c1
      have k60 : k < 60 := by omega
      have m6 : ((6 : Int32) * x).toInt = ((6 * k : Nat) : Int) := i_mul (m := 6) rfl hx (by omega)
      have a1 : ((252 : Int32) + 6 * x).toInt = ((252 + 6 * k : Nat) : Int) := i_plus (a := 252) rfl m6 (by omega) (by omega)
      have a2 : ((252 : Int32) + 6 * x + 4).toInt = ((252 + 6 * k + 4 : Nat) : Int) := i_plus (b := 4) a1 rfl (by omega) (by omega)
      have s1 : tSlot B 186 20 (252 + 6 * k) 0 = true := at_slot hB rfl (by omega) (nTag_at (by omega))
      have s2 : tSlot B 186 20 (252 + 6 * k + 4) 0 = true := at_slot hB rfl (by omega) (nTag_at (by omega))
      refine tw_al rfl h0 ?_
      refine te_getr rfl hR ?_
      refine sw_0 rfl rfl rfl ?_
      refine sw_0 rfl rfl rfl ?_
      refine tw_il rfl rfl ?_
      refine sw_0 rfl rfl rfl ?_
      refine sw_0 rfl rfl rfl ?_
      refine tx_iald (j := 252 + 6 * x) rfl (by rw [i_nat a1]; exact s1) (by omega) ?_
      refine sw_0 rfl rfl rfl ?_
      cases c2 : xcmp .ne (I 186 ((252 : Int32) + 6 * x).toNatClampNeg) 27 with
      | true => exact sw_0 rfl rfl (ev_ic c2) (fin _ rfl)
      | false =>
        refine sw_0 rfl rfl (ev_icn c2) ?_
        refine tw_al rfl h0 ?_
        refine te_getr rfl hR ?_
        refine sw_0 rfl rfl rfl ?_
        refine sw_0 rfl rfl rfl ?_
        refine tw_il rfl rfl ?_
        refine sw_0 rfl rfl rfl ?_
        refine sw_0 rfl rfl rfl ?_
        refine sw_0 rfl rfl rfl ?_
        refine sw_0 rfl rfl rfl ?_
        refine tx_iald (j := 252 + 6 * x + 4) rfl (by rw [i_nat a2]; exact s2) (by omega) ?_
        rw [i_nat a2]
        generalize ho : I 186 (252 + 6 * k + 4) = o
        have bo : 0 ≤ o.toInt ∧ o.toInt ≤ 59 := by
          have b := hO.2.1 186 (20, 3972) (256 + 6 * k) rfl (by dsimp only; omega) (nTag_at (by omega))
          have c := of_decide_eq_true (List.all_eq_true.mp nBeC_ok k (List.mem_range.mpr k60))
          have e : (ktN sc).1.2 186 (256 + 6 * k) = (0, 0, 59) := c
          rw [e, show 256 + 6 * k = 252 + 6 * k + 4 by omega, ho] at b
          exact b
        have on : o.toInt = ((o.toInt.toNat : Nat) : Int) := by omega
        have o6 : ((6 : Int32) * o).toInt = ((6 * o.toInt.toNat : Nat) : Int) := i_mul (m := 6) rfl on (by omega)
        have o1 : ((252 : Int32) + 6 * o).toInt = ((252 + 6 * o.toInt.toNat : Nat) : Int) := i_plus (a := 252) rfl o6 (by omega) (by omega)
        have s3 : tSlot B 186 20 (252 + 6 * o.toInt.toNat) 0 = true := at_slot hB rfl (by omega) (nTag_at (by omega))
        have hL := ktN_ref (a := 200) (k := 32) hB (rfl : ktK 185 = some (12, 37)) (by decide) rfl
        have s4 : tSlot B 200 20 o.toInt.toNat 0 = true := ktN_slot hB (rfl : ktK 200 = some (20, 80)) (by omega) rfl
        have o4 : o.toNatClampNeg = o.toInt.toNat := rfl
        have g0 : xfind ((3, .int o) :: (2, .int x) :: xdrop1 3 Lc) 0 = some (.ref 185) := xfind_drop1 rfl rfl h0
        refine sw_0 rfl rfl rfl ?_
        refine tw_al rfl g0 ?_
        refine te_getr rfl hR ?_
        refine sw_0 rfl rfl rfl ?_
        refine sw_0 rfl rfl rfl ?_
        refine tw_il (v := o) rfl rfl ?_
        refine sw_0 rfl rfl rfl ?_
        refine sw_0 rfl rfl rfl ?_
        refine tx_iald (j := 252 + 6 * o) rfl (by rw [i_nat o1]; exact s3) (by omega) ?_
        refine sw_0 rfl rfl rfl ?_
        -- from pc 78 or 74: again or not
        have rest : ∀ g : Int32, (g = 0 ∨ (g = 1 ∧ 0 < (I 200 o.toInt.toNat).toInt)) → sw sc (xt_344, 5, 1) 79 ((3, .int o) :: (2, .int x) :: xdrop1 3 Lc) [.int g] (tMem B I J) (fun v M' => ∃ (y : Int32) (I' : tI), v = some (.int y) ∧ M' = tMem B I' J ∧ nOk (ktN sc) B I' ∧ kAg [(200, 0, 79)] B I J B I' J ∧ 0 ≤ y.toInt ∧ y.toInt ≤ 60) := fun g hgc => by
          have f0 : xfind ((4, .int g) :: (3, .int o) :: (2, .int x) :: xdrop1 4 (xdrop1 3 Lc)) 0 = some (.ref 185) := xfind_drop1 (i := 4) rfl rfl (xfind_drop1 rfl rfl h0)
          refine sw_0 rfl rfl rfl ?_
          refine tw_al rfl f0 ?_
          refine te_getr rfl hL ?_
          refine tw_il (v := o) rfl rfl ?_
          refine sw_0 rfl rfl rfl ?_
          refine tx_iald (j := o) rfl (by rw [o4]; exact s4) bo.1 ?_
          refine tw_il2 (v := g) rfl rfl ?_
          rcases hgc with rfl | ⟨rfl, hpos⟩
          · refine sw_0 rfl rfl (ev_if (by decide)) ?_
            refine sw_0 rfl rfl rfl ?_
            refine sw_0 rfl rfl rfl ?_
            refine tx_iast (j := o) rfl (by rw [o4]; exact s4) bo.1 ?_
            rw [o4, tup_same (I := I) (o := 200) (k := o.toInt.toNat) (by
              refine i32_eq ?_
              have b := ti_bd (I 200 o.toInt.toNat)
              rw [ti_sub (by show (-2147483648 : Int) ≤ _ - 0; omega) (by show _ - 0 ≤ (2147483647 : Int); omega)]
              show _ - (0 : Int) = _
              omega)]
            refine tw_il2 (v := 0) rfl rfl ?_
            refine sw_0 rfl rfl (ev_if (by decide)) ?_
            refine tw_il (v := x) rfl rfl ?_
            refine sw_0 rfl rfl rfl ?_
            refine sw_0 rfl rfl rfl ?_
            refine sw_0 rfl rfl rfl ?_
            refine sw_0 rfl rfl rfl ?_
            refine ih (61 * sumL I 80 + (60 - (k + 1))) (by omega) (k + 1) (x + 1) ((4, .int 0) :: (3, .int o) :: xdrop1 2 (xdrop1 4 (xdrop1 3 Lc))) I hO (Nat.le_refl _) (i_suc hx (by omega)).1 (by omega) ?_
            exact xfind_drop1 (i := 2) rfl rfl (xfind_drop1 (i := 4) rfl rfl (xfind_drop1 rfl rfl h0))
          · refine sw_0 rfl rfl (ev_ifn (by decide)) ?_
            refine sw_0 rfl rfl rfl ?_
            refine sw_0 rfl rfl rfl ?_
            refine sw_0 rfl rfl rfl ?_
            refine tx_iast (j := o) rfl (by rw [o4]; exact s4) bo.1 ?_
            rw [o4]
            have b := ti_bd (I 200 o.toInt.toNat)
            have ev : (I 200 o.toInt.toNat - 1).toInt = (I 200 o.toInt.toNat).toInt - 1 := ti_sub (by show (-2147483648 : Int) ≤ _ - 1; omega) (by show _ - 1 ≤ (2147483647 : Int); omega)
            have hs := sumL_at (I := I) (o := o.toInt.toNat) (v := I 200 o.toInt.toNat - 1) (n := 80) (by omega)
            refine tw_il2 (v := 1) rfl rfl ?_
            refine sw_0 rfl rfl (ev_ifn (by decide)) ?_
            refine tw_il (v := o) rfl rfl ?_
            refine sw_0 rfl rfl rfl ?_
            refine sw_0 rfl rfl rfl ?_
            refine sw_0 rfl rfl rfl ?_
            refine sw_0 rfl rfl rfl ?_
            refine sw_0 rfl rfl rfl ?_
            refine sw_mono (ih (61 * sumL (tup I 200 o.toInt.toNat (I 200 o.toInt.toNat - 1)) 80 + (60 - (o.toInt.toNat + 1))) (by omega) (o.toInt.toNat + 1) (o + 1) ((4, .int 1) :: (3, .int o) :: xdrop1 2 (xdrop1 4 (xdrop1 3 Lc))) (tup I 200 o.toInt.toNat (I 200 o.toInt.toNat - 1)) (nOk_200 hO) (Nat.le_refl _) (i_suc on (by omega)).1 (by omega) ?_) ?_
            · exact xfind_drop1 (i := 2) rfl rfl (xfind_drop1 (i := 4) rfl rfl (xfind_drop1 rfl rfl h0))
            · rintro v M' ⟨y, I', e1, e2, e3, e4, e5⟩
              refine ⟨y, I', e1, e2, e3, kAg_trans ⟨fun p j hm => ⟨tup_ne (fun e => ?_), rfl⟩, fun _ => rfl, rfl, rfl⟩ e4, e5⟩
              have hm : nmod [(200, 0, 79)] p j = false := hm
              rw [e.1, nmod_1 (by omega) (by omega)] at hm
              cases hm
        cases c3 : xcmp .ne (I 186 ((252 : Int32) + 6 * o).toNatClampNeg) 26 with
        | true =>
          refine sw_0 rfl rfl (ev_ic c3) ?_
          refine sw_0 rfl rfl rfl ?_
          exact rest 0 (Or.inl rfl)
        | false =>
          refine sw_0 rfl rfl (ev_icn c3) ?_
          refine tw_al rfl g0 ?_
          refine te_getr rfl hL ?_
          refine tw_il (v := o) rfl rfl ?_
          refine tx_iald (j := o) rfl (by rw [o4]; exact s4) bo.1 ?_
          rw [o4]
          cases c4 : xcmp .le (I 200 o.toInt.toNat) 0 with
          | true =>
            refine sw_0 rfl rfl (ev_if c4) ?_
            refine sw_0 rfl rfl rfl ?_
            exact rest 0 (Or.inl rfl)
          | false =>
            refine sw_0 rfl rfl (ev_ifn c4) ?_
            rw [tc_le] at c4
            have c4 : ¬ (I 200 o.toInt.toNat).toInt ≤ 0 := of_decide_eq_false c4
            refine sw_0 rfl rfl rfl ?_
            refine sw_0 rfl rfl rfl ?_
            exact rest 1 (Or.inr ⟨rfl, by omega⟩)
theorem behind_ok {sc : List Int32} : nCon (ktN sc) sc ((344, [(2, 185, 0), (0, 1, 60)], some (0, 0, 60)), [(200, 0, 79)], [], []) := by
  intro r as B I J hr hv hO hpre
  have e : xmeth 344 = some (xt_344, 5, 1) := rfl
  have hr : xmeth 344 = some r := hr
  rw [e] at hr
  cases hr
  obtain ⟨v1, s1, rfl, ⟨o, rfl, ho⟩, v2, s2, rfl, ⟨x, rfl, x1, x2⟩, e2⟩ := hv
  have e2 : s2 = [] := e2
  subst e2
  dsimp only at ho x1 x2
  have eo : o = 185 := by omega
  subst eo
  refine tw_il rfl rfl ?_
  refine sw_0 rfl rfl rfl ?_
  refine sw_mono (behind_sw (J := J) _ x.toInt.toNat x [(0, .ref 185), (1, .int x)] I hO (Nat.le_refl _) (by omega) (by omega) rfl) ?_
  rintro v M' ⟨y, I', rfl, rfl, e3, e4, e5, e6⟩
  exact ⟨B, I', J, rfl, e3, e4, (fun q hq => by cases hq), _, rfl, ⟨y, rfl, e5, e6⟩, by decide⟩
