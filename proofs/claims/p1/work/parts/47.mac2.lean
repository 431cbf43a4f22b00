/-! COVERING AS ONE STEP -/
def oR (o : Option Value) : Option Nat := match o with
  | some (.ref a) => some a
  | _ => none
def oI (o : Option Value) (x : Int32) : Bool := match o with
  | some (.int y) => decide (y = x)
  | _ => false
theorem oR_ok {o : Option Value} {a : Nat} (h : oR o = some a) : o = some (.ref a) := by
  unfold oR at h
  split at h
  · cases h; rfl
  · cases h
theorem oI_ok {o : Option Value} {x : Int32} (h : oI o x = true) : o = some (.int x) := by
  unfold oI at h
  split at h
  · rw [of_decide_eq_true h]
  · cases h
noncomputable def cvZ (cs : List (List Value)) : Nat → Bool
  | 0 => true
  | k + 1 => oI (wnth cs (k + 1)) 0 && cvZ cs k
theorem cvZ_ok {cs : List (List Value)} : ∀ (k : Nat), cvZ cs k = true → ∀ j, 1 ≤ j → j ≤ k → wnth cs j = some (.int 0)
  | 0, _, j, h1, h2 => by omega
  | k + 1, h, j, h1, h2 => by
    simp only [cvZ, Bool.and_eq_true] at h
    by_cases e : j = k + 1
    · subst e; exact oI_ok h.1
    · exact cvZ_ok k h.2 j h1 (by omega)
def cvN (n : Int32) : Bool := Nat.blt 0 (fpl n) && Nat.blt (fpl n) 13
noncomputable def cvMac : wF := fun _ _ _ L st Z => match L with
  | [(i0, .ref a), (i1, .int s), (i2, .int n)] => bif (Nat.beq i0 0 && (Nat.beq i1 1 && Nat.beq i2 2)) && (decide (s = 0) && (cvN n && st.isEmpty)) then (match warr Z a 12 with
    | some cs => (match oR (wnth cs 0) with
      | some aA => (match warr Z aA 20 with
        | some ca => bif oI (wnth ca 5) 0 && (oI (wnth ca 6) 5 && oI (wnth ca 7) 1) then (match oR (wnth cs 24) with
          | some aS => (match warr Z aS 20 with
            | some cS => bif cvZ cS 12 then some (142, [], [.int 0], Z) else none
            | none => none)
          | none => none) else none
        | none => none)
      | none => none)
    | none => none) else none
  | _ => none
theorem cv_nth {bx : List (Int × Int)} {cs : List (List Value)} {sl : List Value} {i : Nat} {v : Value} (hc : wok cs) (hy : yrs bx cs.flatten sl) (h : wnth cs i = some v) (hf : cFree v = true) : xnth sl i = some v := by
  obtain ⟨v', h1, h2⟩ := yrs_nth hy (wnth_eq hc h)
  rw [h1, (yrv_free hf).mp h2]
theorem cvMac_ok {sc : List Int32} {bx : List (Int × Int)} {sa : List Value} : wMac sc bx sa cvMac rr_317 5 := by
  intro L st Z q hw h
  unfold cvMac at h
  split at h
  · rename_i i0 a i1 s i2 n
    cases hb : ((Nat.beq i0 0 && (Nat.beq i1 1 && Nat.beq i2 2)) && (decide (s = 0) && (cvN n && st.isEmpty))) with
    | false => rw [hb] at h; cases h
    | true =>
      rw [hb] at h
      simp only [cond_true] at h
      simp only [Bool.and_eq_true, decide_eq_true_eq, List.isEmpty_iff] at hb
      obtain ⟨⟨b0, b1, b2⟩, b3, b4, b5⟩ := hb
      have e0 := Nat.eq_of_beq_eq_true b0
      have e1 := Nat.eq_of_beq_eq_true b1
      have e2 := Nat.eq_of_beq_eq_true b2
      subst e0 e1 e2 b3 b5
      split at h
      · rename_i cs hcs
        split at h
        · rename_i aA haA
          split at h
          · rename_i ca hca
            cases hb2 : (oI (wnth ca 5) 0 && (oI (wnth ca 6) 5 && oI (wnth ca 7) 1)) with
            | false => rw [hb2] at h; cases h
            | true =>
              rw [hb2] at h
              simp only [cond_true] at h
              simp only [Bool.and_eq_true] at hb2
              obtain ⟨c5, c6, c7⟩ := hb2
              split at h
              · rename_i aS haS
                split at h
                · rename_i cS hcS
                  cases hb3 : cvZ cS 12 with
                  | false => rw [hb3] at h; cases h
                  | true =>
                    rw [hb3] at h
                    simp only [cond_true] at h
                    cases h
                    refine ⟨hw, wsz_refl Z, ?_⟩
                    intro L' st' M' hL hs hM
                    obtain ⟨v0, l1, rfl, w0, v1, l2, rfl, w1, v2, l3, rfl, w2, hl3⟩ := hL
                    cases w0
                    cases w1
                    cases w2
                    cases hl3
                    cases hs
                    refine ⟨[], [.int 0], M', rfl, ⟨_, _, rfl, rfl, rfl⟩, hM, ?_⟩
                    intro res hres
                    have hres2 : res = (some (.int 0), M') := by
                      obtain ⟨g, hg⟩ := hres
                      cases g with
                      | zero => cases hg
                      | succ g =>
                        have := (xr_2 (ms := xmeth) (ty := xty) (df := xdf) (sc := sc) (f := g) (r := rr_317) (pc := 142) (L := []) (st := [.int 0]) (M := M') (e := (.ireturn, 0, 0, 0)) (v := some (.int 0)) rfl rfl rfl)
                        exact Option.some.inj (hg.symm.trans this)
                    subst hres2
                    simp only [cvN, Bool.and_eq_true] at b4
                    have n0 := Nat.blt_eq.mp b4.1
                    have n1 := Nat.blt_eq.mp b4.2
                    have en : n = Int32.ofNat (fpl n) := by
                      apply Int32.toBitVec_inj.mp
                      show _ = BitVec.ofNat 32 n.toBitVec.toNat
                      rw [BitVec.ofNat_toNat, BitVec.setWidth_eq]
                    obtain ⟨p1, p2, -⟩ := warr_eq hw hcs
                    obtain ⟨p3, p4, -⟩ := warr_eq hw hca
                    obtain ⟨p5, p6, -⟩ := warr_eq hw hcS
                    obtain ⟨sl, q1, q2⟩ := yrm_arr hM p1
                    obtain ⟨AT, q3, q4⟩ := yrm_arr hM p3
                    obtain ⟨SH, q5, q6⟩ := yrm_arr hM p5
                    have F : cvF M' a aA aS sl AT SH := ⟨q1, cv_nth p2 q2 (oR_ok haA) rfl, q3, cv_nth p4 q4 (oI_ok c5) rfl, cv_nth p4 q4 (oI_ok c6) rfl, cv_nth p4 q4 (oI_ok c7) rfl, cv_nth p2 q2 (oR_ok haS) rfl, q5, fun j h1 h2 => cv_nth p6 q6 (cvZ_ok 12 hb3 j h1 h2) rfl⟩
                    rw [en]
                    exact ev_covering F n1 n0
                · cases h
              · cases h
          · cases h
        · cases h
      · cases h
  · cases h
noncomputable def wtM (T : wT) : wT := match T with
  | row :: rest => row.set 5 (some (.inl cvMac)) :: rest
  | [] => []
theorem wat_set {row : List (Option (wF ⊕ xE))} {rest : wT} {m : Option (wF ⊕ xE)} {pc : Nat} {x : wF ⊕ xE} (h : wat (row.set 5 m :: rest) pc = some x) : (pc = 5 ∧ m = some x) ∨ wat (row :: rest) pc = some x := by
  unfold wat at h ⊢
  rw [fnth_eq] at h ⊢
  cases hq : pc / 8 with
  | zero =>
    rw [hq] at h
    simp only [xnth] at h ⊢
    rw [fnth_eq, xnth_eq] at h ⊢
    by_cases h5 : pc % 8 = 5
    · rw [h5, List.getElem?_set] at h
      simp only [if_true] at h
      by_cases hl : 5 < row.length
      · rw [if_pos hl] at h
        exact Or.inl ⟨by omega, h⟩
      · rw [if_neg hl] at h
        cases h
    · rw [List.getElem?_set_ne (fun q => h5 q.symm)] at h
      exact Or.inr h
  | succ k =>
    rw [hq] at h
    exact Or.inr h
theorem wtM_ok {sc : List Int32} {bx : List (Int × Int)} {sa : List Value} : wrelM sc bx sa (wtM wt_317, 7, 1) rr_317 := by
  obtain ⟨r, h1, h2⟩ := wmeth_ok 317 (wt_317, 7, 1) rfl
  have e : r = rr_317 := Option.some.inj (h1.symm.trans rfl)
  subst e
  refine ⟨rfl, fun pc x hx => ?_⟩
  have hx2 : wat (wtM wt_317) pc = some x := hx
  cases hT : wt_317 with
  | nil => rw [hT] at hx2; exact Or.inl (wat_ok h2 (by rw [hT]; exact hx2))
  | cons row rest =>
    rw [hT] at hx2
    rcases wat_set hx2 with ⟨rfl, hm⟩ | hx3
    · exact Or.inr ⟨cvMac, (Option.some.inj hm).symm, cvMac_ok⟩
    · exact Or.inl (wat_ok h2 (by rw [hT]; exact hx3))
noncomputable def wmsM_19 : List wR := [(wt_304, 3, 1), (wt_305, 3, 0), (wt_306, 3, 1), (wt_307, 2, 1), (wt_308, 3, 1), (wt_309, 5, 1), (wt_310, 6, 1), (wt_311, 4, 1), (wt_312, 4, 3), (wt_313, 3, 1), (wt_314, 6, 1), (wt_315, 3, 3), (wt_316, 4, 1), (wtM wt_317, 7, 1), (wt_318, 4, 1), (wt_319, 3, 1)]
noncomputable def wmsM : List (List wR) := [wms_0, wms_1, wms_2, wms_3, wms_4, wms_5, wms_6, wms_7, wms_8, wms_9, wms_10, wms_11, wms_12, wms_13, wms_14, wms_15, wms_16, wms_17, wms_18, wmsM_19, wms_20, wms_21, wms_22]
theorem wmsM_ok {sc : List Int32} {bx : List (Int × Int)} {sa : List Value} : ∀ y zr, wqm wmsM y = some zr → ∃ r, xmeth y = some r ∧ wrelM sc bx sa zr r := by
  intro y zr h
  have old : wqm wms y = some zr → ∃ r, xmeth y = some r ∧ wrelM sc bx sa zr r := fun h0 => by
    obtain ⟨r, h1, h2⟩ := wmeth_ok y zr h0
    exact ⟨r, h1, wrelM_of h2⟩
  unfold wqm at h
  rw [show wmsM = wms.set 19 wmsM_19 from rfl, fnth_eq, xnth_eq] at h
  by_cases hy : y / 16 = 19
  · rw [hy, List.getElem?_set] at h
    simp only [if_true] at h
    rw [if_pos (show 19 < wms.length by decide)] at h
    replace h : fnth wmsM_19 (y % 16) = some zr := h
    rw [show wmsM_19 = wms_19.set 13 (wtM wt_317, 7, 1) from rfl, fnth_eq, xnth_eq] at h
    by_cases h13 : y % 16 = 13
    · rw [h13, List.getElem?_set] at h
      simp only [if_true] at h
      rw [if_pos (show 13 < wms_19.length by decide)] at h
      have e := Option.some.inj h
      subst e
      have ey : y = 317 := by omega
      subst ey
      exact ⟨rr_317, rfl, wtM_ok⟩
    · rw [List.getElem?_set_ne (fun q => h13 q.symm)] at h
      refine old ?_
      unfold wqm
      rw [fnth_eq, xnth_eq, hy]
      show fnth wms_19 (y % 16) = some zr
      rw [fnth_eq, xnth_eq]
      exact h
  · rw [List.getElem?_set_ne (fun q => hy q.symm)] at h
    refine old ?_
    unfold wqm
    rw [fnth_eq, xnth_eq]
    exact h
noncomputable def cLawM (bx : List (Int × Int)) (sa : List Value) (f : Nat) : Bool := match wr wmsM bx sa f rLaw 18 [(3, .int 0), (2, .ref 185), (1, .ref 0), (0, .retAddr 0)] [] wOne with
  | some (some (.int v), _) => Nat.beq (fno v) 2147483649
  | _ => false
noncomputable def cLeafM (k : Nat) (f : Nat) (reg : List (Int × Int)) : Bool := cLawM ((0, 0) :: (0, 1) :: (-1, 0) :: reg) (.retAddr (k + 1) :: cTok 3 reg) f
theorem cLawM_ok {bx : List (Int × Int)} {sa : List Value} {f : Nat} {sc : List Int32} (hb1 : ybd bx 1 = (0, 1)) (hb2 : ybd bx 2 = (-1, 0)) (h : cLawM bx sa f = true) (hsa : yrs bx sa (sc.map Value.int)) :
    ∃ f Mf, xrun xmeth xty xdf sc f rLawX 18 lOne [] mOne = some (some (.int 1), Mf) ∧ (Mf.length = mOne.length ∧ xz Mf = xz mOne) := by
  unfold cLawM at h
  split at h
  · rename_i v Mf hz
    obtain ⟨⟨-, hsz, -⟩, Mf', ⟨g, h1⟩, h3⟩ := wm_ok hb1 hb2 (Or.inr hsa) wmsM_ok f (wrelM_of rLaw_rel) wOne_ok hz (L' := lOne) (st' := []) (M' := mOne) ⟨_, _, rfl, rfl, _, _, rfl, rfl, _, _, rfl, rfl, _, _, rfl, rfl, rfl⟩ rfl (mOne_self bx)
    have hv : v = 1 := by
      have e := fno_int v
      rw [Nat.eq_of_beq_eq_true h] at e
      exact Int32.toInt_inj.mp (by
        have : (1 : Int32).toInt = 1 := by decide
        omega)
    subst hv
    exact ⟨g, Mf', h1, (yrm_len h3).trans hsz.1, (yrm_z h3).trans hsz.2⟩
  · cases h
theorem cLeafM_ok {k f : Nat} {reg : List (Int × Int)} (hl : reg.length < 1000) (h : cLeafM k f reg = true) : cGood k reg := by
  intro x0 xs hx hin
  unfold cLeafM at h
  exact cLawM_ok (sc := x0 :: xs) rfl rfl h ⟨.int x0, xs.map Value.int, rfl, ⟨x0, rfl, hx⟩, by
    have := cTok_ok reg xs ((0, 0) :: (0, 1) :: [(-1, 0)]) (by simp; omega) hin
    simpa using this⟩
