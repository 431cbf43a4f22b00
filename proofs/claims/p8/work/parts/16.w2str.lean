/-! THE TWO ROWS OF STRINGS -/
section XSR
variable {p : Program} {l : Launch} {e : Env} {R : Room} {s : State} {m : MethodId} {args : Array Value} {below : List Frame} {meth : Method} {c : Code} {H : Heap} {locs : List Loc} {cells slots : Nat} {Q : State → Prop}
variable {cc : ByteArray} {nL : Nat} {own : String} {D : va_G} {H0 : Heap} {b : Nat → Nat} {sc : List Int32} {as : List Nat} {tys : List (ClassId × FieldType)} {M : xM} {L lv : xL} {ls : Array Slot} {pc : Nat} {st st0 : List Value} {q : xC}
theorem xs_sW (hX : xXX sc b s H0) (hS : va_S (fun q : Nat => H0.size ≤ q) H0 H locs) : ∃ adV : Nat → Nat, sW b adV (fun q : Nat => H0.size ≤ q) s H := by
  obtain ⟨-, adV, h1, h2, h3⟩ := hX
  exact ⟨adV, sW.kept ⟨h1, h2, h3⟩ hS.2.1⟩
theorem xs_slen (C : CallFix p m c cc nL s args xG own) (hX : xXX sc b s H0) (hts : ∀ w ∈ xG, w.before args s = true) {idx : Nat} (hlk : Cond.methodLink own idx yS_length ∈ xG) (hfr : 2 ≤ R.frames) (hlo : 40 ≤ R.locals) (hcs : cells ≤ R.cells ∧ slots ≤ R.slots) (hd : decode cc pc = .ok (.invokevirtual idx, 3)) (h : xslen pc L st M = some q)
    (hl : lv_has ls nL lv) (hL : xrl b as L lv) (hs : xrs b as st st0) (hM : xSt D H0 b s as tys M H locs) (kk : xKK p l e R s m args below meth c cells slots Q D H0 b nL as M q) :
    W p l e R s m args below meth c H locs cells slots Q (F0 m pc ls st0) := by
  unfold xslen at h
  split at h
  · rename_i k r
    cases hb : (xcat8 r && Nat.blt k 2) with
    | false => rw [hb] at h; cases h
    | true =>
      rw [hb] at h
      cases h
      rw [Bool.and_eq_true] at hb
      have hk : k < 2 := Nat.blt_eq.mp hb.2
      obtain ⟨v1, r', rfl, h1, h3⟩ := hs
      obtain rfl : v1 = .ref (b (k + 1)) := h1
      obtain ⟨ws, hK, hP, hD, hS, hm⟩ := id hM
      obtain ⟨adV, hW⟩ := xs_sW hX hS
      have hcat : (r'.map fun v => v.category).sum ≤ 8 := by
        rw [xrs_cats h3]
        exact Nat.le_of_ble_eq_true hb.1
      refine sgo (va_runV (n := 0) (C := "java/lang/String") (b := b (k + 1)) (As := []) (rest := r') C (cS_length l b adV (fun q : Nat => H0.size ≤ q) H k hk) ⟨callB_of 0 hts (sgoodIn sc_length) rfl rfl rfl (hts _ sn_S) (hts _ hlk) ⟨by decide, by decide, by decide +kernel⟩ ⟨by show 1 + 1 ≤ _; omega, by show 8 + (1 + 11) + 20 ≤ _; omega⟩, hts _ si_length, hts _ sl_length⟩ ⟨sPc_blind, srecv hW.1 hk, fun U hU hw => ⟨rfl, hU, sW.moved hw.alike hW⟩⟩ rfl rfl hl.1 rfl (lv_room hcat) hd ⟨by omega, by omega⟩) ?_
      exact kk.same rfl rfl hl hL ⟨_, _, rfl, rfl, h3⟩ hM
  · cases h
theorem xs_schar (C : CallFix p m c cc nL s args xG own) (hX : xXX sc b s H0) (hts : ∀ w ∈ xG, w.before args s = true) {idx : Nat} (hlk : Cond.methodLink own idx yS_charAt ∈ xG) (hfr : 4 ≤ R.frames) (hlo : 85 ≤ R.locals) (hcs : cells ≤ R.cells ∧ slots ≤ R.slots) (hd : decode cc pc = .ok (.invokevirtual idx, 3)) (h : xschar pc L st M = some q)
    (hl : lv_has ls nL lv) (hL : xrl b as L lv) (hs : xrs b as st st0) (hM : xSt D H0 b s as tys M H locs) (kk : xKK p l e R s m args below meth c cells slots Q D H0 b nL as M q) :
    W p l e R s m args below meth c H locs cells slots Q (F0 m pc ls st0) := by
  unfold xschar at h
  split at h
  · rename_i j k r
    cases hb : (xcat8 r && Nat.blt k 2) with
    | false => rw [hb] at h; cases h
    | true =>
      rw [hb] at h
      simp only [cond_true] at h
      rw [Bool.and_eq_true] at hb
      have hk : k < 2 := Nat.blt_eq.mp hb.2
      split at h
      · rename_i i hi
        cases h
        obtain ⟨v0, r0, rfl, h0, v1, r', rfl, h1, h3⟩ := hs
        cases h0
        obtain rfl : v1 = .ref (b (k + 1)) := h1
        obtain ⟨g1, rfl, g3⟩ := xix_eq hi
        obtain ⟨ws, hK, hP, hD, hS, hm⟩ := id hM
        obtain ⟨adV, hW⟩ := xs_sW hX hS
        have hcat : (r'.map fun v => v.category).sum ≤ 8 := by
          rw [xrs_cats h3]
          exact Nat.le_of_ble_eq_true hb.1
        have n0 : ¬ j < 0 := fun z => g1 (Or.inl z)
        have n1 : j < Int32.ofNat (xsN.getD k 0) := by
          have hl2 := sx_len k hk
          apply Int32.lt_iff_toInt_lt.mpr
          have e1 : (Int32.ofNat (xsN.getD k 0)).toInt = (xsN.getD k 0 : Int) := nI_toInt hl2
          have e2 : j.toInt.toNat < xsN.getD k 0 := g3
          rw [e1]
          omega
        refine sgo (va_runV (n := 1) (C := "java/lang/String") (b := b (k + 1)) (As := [.int j]) (rest := r') C (cS_charAt l b adV (fun q : Nat => H0.size ≤ q) H k hk j n0 n1 g1 g3) ⟨callB_of 1 hts (sgoodIn sc_charAt) rfl rfl rfl (hts _ sn_S) (hts _ hlk) ⟨by decide, by decide, by decide +kernel⟩ ⟨by show 3 + 1 ≤ _; omega, by show 8 + (2 + 11) + 64 ≤ _; omega⟩, hts _ si_charAt, hts _ sl_charAt⟩ ⟨sPc_blind, srecv hW.1 hk, fun U hU hw => ⟨rfl, hU, sW.moved hw.alike hW⟩⟩ rfl rfl hl.1 rfl (lv_room hcat) hd ⟨by omega, by omega⟩) ?_
        exact kk.same rfl rfl hl hL ⟨_, _, rfl, rfl, h3⟩ hM
      · cases h
  · cases h
end XSR
