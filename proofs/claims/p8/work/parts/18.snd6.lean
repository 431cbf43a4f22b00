/-! A RUN OF THE INTERPRETER IS A RUN OF THE MACHINE -/
theorem xset_z {M : xM} {a k : Nat} {sl sl' : List Value} (h : xarr M a k = some sl) (hl : sl'.length = sl.length) : (M.set a (k, sl')).length = M.length ∧ xz (M.set a (k, sl')) = xz M := ⟨by simp, xz_set (xarr_eq h) hl⟩
/-- cells are made, none goes -/
theorem x1_grows {ty : Nat → Nat → FieldType} {df : Nat → List Value} {sc : List Int32} {ee : xE} {pc : Nat} {L : xL} {st : List Value} {M : xM} {q : xC} (h : x1 ty df sc ee pc L st M = some q) : M.length ≤ q.2.2.2.length ∧ xz M ≤ xz q.2.2.2 := by
  have hald : ∀ k, xald k pc L st M = some q → M.length ≤ q.2.2.2.length ∧ xz M ≤ xz q.2.2.2 := by
    intro k h
    unfold xald at h
    repeat' split at h
    all_goals first | (cases h; exact ⟨Nat.le_refl _, Nat.le_refl _⟩) | cases h
  have hast : ∀ k g, xast k g pc L st M = some q → M.length ≤ q.2.2.2.length ∧ xz M ≤ xz q.2.2.2 := by
    intro k g h
    unfold xast at h
    split at h
    · split at h
      · split at h
        · rename_i sl hsl
          split at h
          · cases h
            exact ⟨by simp [xwr], Nat.le_of_eq (xz_set (xarr_eq hsl) (by simp)).symm⟩
          · cases h
        · cases h
      · cases h
    · cases h
  have hcp : ∀ k n dp sp d s' r, xacopy k pc L n dp sp d s' r M = some q → M.length ≤ q.2.2.2.length ∧ xz M ≤ xz q.2.2.2 := by
    intro k n dp sp d s' r h
    unfold xacopy at h
    split at h
    · rename_i sl hsl
      split at h
      · rename_i dl hdl
        cases hcc : (decide (sp < 0) || decide (dp < 0) || decide (n < 0) || Nat.blt sl.length (sp.toNatClampNeg + n.toNatClampNeg) || Nat.blt dl.length (dp.toNatClampNeg + n.toNatClampNeg)) with
        | true => simp [hcc] at h
        | false =>
          simp only [hcc, cond_false] at h
          cases h
          simp only [Bool.or_eq_false_iff, decide_eq_false_iff_not] at hcc
          obtain ⟨⟨⟨⟨c1, c2⟩, c3⟩, c4⟩, c5⟩ := hcc
          have := xset_z (sl' := xcpy sl dl sp.toNatClampNeg dp.toNatClampNeg n.toNatClampNeg) hdl (xcpy_len (by
            rcases Nat.lt_or_ge sl.length (sp.toNatClampNeg + n.toNatClampNeg) with z | z
            · rw [Nat.blt_eq.mpr z] at c4
              cases c4
            · exact z) (by
            rcases Nat.lt_or_ge dl.length (dp.toNatClampNeg + n.toNatClampNeg) with z | z
            · rw [Nat.blt_eq.mpr z] at c5
              cases c5
            · exact z))
          exact ⟨Nat.le_of_eq this.1.symm, Nat.le_of_eq this.2.symm⟩
      · cases h
    · cases h
  have same : ∀ {pc' : Nat} {L' : xL} {st' : List Value}, q = (pc', L', st', M) → M.length ≤ q.2.2.2.length ∧ xz M ≤ xz q.2.2.2 := by
    intro pc' L' st' e
    subst e
    exact ⟨Nat.le_refl _, Nat.le_refl _⟩
  have app : ∀ {pc' : Nat} {L' : xL} {st' : List Value} {N : xM}, q = (pc', L', st', M ++ N) → M.length ≤ q.2.2.2.length ∧ xz M ≤ xz q.2.2.2 := by
    intro pc' L' st' N e
    subst e
    exact ⟨by simp, by simp only [xz_app]; omega⟩
  obtain ⟨ins, ea, eb, ez⟩ := ee
  cases ins <;> simp only [x1] at h
  case aaload =>
    split at h
    · rename_i q' hq
      cases h
      exact hald _ hq
    · exact hald _ h
  case baload => exact hald _ h
  case laload => exact hald _ h
  case iaload =>
    unfold xiald at h
    split at h
    · split at h
      · cases h; exact same rfl
      · cases h
    · exact hald _ h
  case iastore => exact hast _ _ h
  case bastore => exact hast _ _ h
  case lastore => exact hast _ _ h
  case aastore =>
    unfold xastW at h
    split at h
    · split at h
      · split at h
        · rename_i sl hsl
          split at h
          · cases h
            exact ⟨by simp [xwr], Nat.le_of_eq (xz_set (xarr_eq hsl) (by simp)).symm⟩
          · cases h
        · cases h
      · cases h
    · cases h
  case newarray t =>
    unfold xnewa at h
    split at h
    · rename_i n r
      split at h
      · cases hcnd : (decide (n < 0) || Nat.blt 100000 n.toNatClampNeg) with
        | true => simp [hcnd] at h
        | false =>
          simp only [hcnd, cond_false] at h
          cases h
          exact app rfl
      · cases h
    · cases h
  case anewarray i =>
    unfold xnewq at h
    split at h
    · rename_i n r
      cases hcnd : (decide (n < 0) || Nat.blt 100000 n.toNatClampNeg) with
      | true => simp [hcnd] at h
      | false =>
        simp only [hcnd, cond_false] at h
        cases h
        exact app rfl
    · cases h
  case multianewarray i d =>
    unfold xmna at h
    split at h
    · rename_i k n r
      cases hcnd : (decide (n < 0) || Nat.blt 100000 n.toNatClampNeg || (decide (k < 0) || Nat.blt 100000 k.toNatClampNeg)) with
      | true => simp [hcnd] at h
      | false =>
        simp only [hcnd, cond_false] at h
        cases h
        exact app (by rw [List.append_assoc])
    · cases h
  case new i => cases h; exact app rfl
  case putfield i =>
    unfold xput at h
    split at h
    · rename_i v a r
      cases hf : xfit (ty ea eb) v with
      | false => simp [hf] at h
      | true =>
        simp only [hf, cond_true] at h
        split at h
        · rename_i sl hsl
          cases hlt : Nat.blt eb sl.length with
          | false => simp [hlt] at h
          | true =>
            simp only [hlt, cond_true] at h
            cases h
            have := xset_z (sl' := sl.set eb v) hsl (by simp)
            exact ⟨Nat.le_of_eq this.1.symm, Nat.le_of_eq this.2.symm⟩
        · cases h
    · cases h
  case invokestatic i =>
    split at h
    · unfold xcopy at h
      split at h
      · rename_i n dp d sp s' r
        cases hc8 : xcat8 r with
        | false => simp [hc8] at h
        | true =>
          simp only [hc8, cond_true] at h
          split at h
          · rename_i q' hq
            cases h
            exact hcp _ _ _ _ _ _ _ hq
          · exact hcp _ _ _ _ _ _ _ h
      · cases h
    · unfold xmath at h
      split at h
      · rename_i y x r
        cases hc8 : xcat8 r with
        | false => simp [hc8] at h
        | true => simp only [hc8, cond_true] at h; cases h; exact same rfl
      · cases h
    · unfold xmath at h
      split at h
      · rename_i y x r
        cases hc8 : xcat8 r with
        | false => simp [hc8] at h
        | true => simp only [hc8, cond_true] at h; cases h; exact same rfl
      · cases h
    · split at h
      · rename_i x r
        cases hc8 : xcat8 r with
        | false => simp [hc8] at h
        | true => simp only [hc8, cond_true] at h; cases h; exact same rfl
      · cases h
    · cases h
  case invokespecial i =>
    split at h
    · rename_i a r
      cases hc8 : (Nat.beq ea 5000 && xcat8 r) with
      | false => simp [hc8] at h
      | true => simp only [hc8, cond_true] at h; cases h; exact same rfl
    · cases h
  case dup =>
    split at h
    · rename_i v r
      cases hc : Nat.beq (xcat v) 1 with
      | false => simp [hc] at h
      | true => simp only [hc, cond_true] at h; cases h; exact same rfl
    · cases h
  case pop =>
    split at h
    · rename_i v r
      cases hc : Nat.beq (xcat v) 1 with
      | false => simp [hc] at h
      | true => simp only [hc, cond_true] at h; cases h; exact same rfl
    · cases h
  case dup2 =>
    split at h
    · rename_i v w r
      cases hc : (Nat.beq (xcat v) 1 && Nat.beq (xcat w) 1) with
      | true => simp only [hc, cond_true] at h; cases h; exact same rfl
      | false =>
        simp only [hc, cond_false] at h
        cases hc2 : Nat.beq (xcat v) 2 with
        | false => simp [hc2] at h
        | true => simp only [hc2, cond_true] at h; cases h; exact same rfl
    · cases h
  case ldc i =>
    cases hc : Nat.beq ea 0 with
    | false => simp [hc] at h
    | true => simp only [hc, cond_true] at h; cases h; exact same rfl
  case ldc_w i =>
    cases hc : Nat.beq ea 0 with
    | false => simp [hc] at h
    | true => simp only [hc, cond_true] at h; cases h; exact same rfl
  case arraylength =>
    unfold xlen at h
    split at h
    · cases h; exact same rfl
    · split at h
      · rename_i o ho
        cases hc : (Nat.beq o.1 20 || Nat.beq o.1 22) with
        | false => simp [hc] at h
        | true => simp only [hc, cond_true] at h; cases h; exact same rfl
      · cases h
    · cases h
  case idiv =>
    split at h
    · rename_i y x r
      cases hc : decide (y = 0) with
      | true => simp [hc] at h
      | false => simp only [hc, cond_false] at h; cases h; exact same rfl
    · cases h
  case irem =>
    split at h
    · rename_i y x r
      cases hc : decide (y = 0) with
      | true => simp [hc] at h
      | false => simp only [hc, cond_false] at h; cases h; exact same rfl
    · cases h
  case ldiv =>
    split at h
    · rename_i y x r
      cases hc : decide (y = 0) with
      | true => simp [hc] at h
      | false => simp only [hc, cond_false] at h; cases h; exact same rfl
    · cases h
  case lrem =>
    split at h
    · rename_i y x r
      cases hc : decide (y = 0) with
      | true => simp [hc] at h
      | false => simp only [hc, cond_false] at h; cases h; exact same rfl
    · cases h
  case tableswitch d lo hi offs =>
    unfold xsw at h
    split at h
    · rename_i x r
      cases hc : (decide (x.toInt < lo) || decide (hi < x.toInt)) with
      | true => simp only [hc, cond_true] at h; cases h; exact same rfl
      | false =>
        simp only [hc, cond_false] at h
        split at h
        · cases h; exact same rfl
        · cases h
    · cases h
  all_goals first
    | (cases h; exact same rfl)
    | (cases h; done)
    | ((try simp only [xii, xll, xli, xi, xpI, xpL, xpA, xsI, xsL, xsA, xget] at h); (repeat' split at h) <;> first | (cases h; exact same rfl) | (cases h; done))
theorem xrun_grows {ms : Nat → Option xR} {ty : Nat → Nat → FieldType} {df : Nat → List Value} {sc : List Int32} : ∀ (f : Nat) {r : xR} {pc : Nat} {L : xL} {st : List Value} {M : xM} {v : Option Value} {Mf : xM}, xrun ms ty df sc f r pc L st M = some (v, Mf) → M.length ≤ Mf.length ∧ xz M ≤ xz Mf
  | 0, _, _, _, _, _, _, _, h => by simp [xrun] at h
  | f + 1, r, pc, L, st, M, v, Mf, h => by
    simp only [xrun] at h
    split at h
    · cases h
    · rename_i e he
      split at h
      · split at h
        · cases h
        · rename_i q hq
          have h1 := x1_grows hq
          have h2 := xrun_grows f h
          exact ⟨Nat.le_trans h1.1 h2.1, Nat.le_trans h1.2 h2.2⟩
      · split at h
        · cases h
        · rename_i ar rest hp
          cases hc : (xcat8 rest && xrecv e ar M) with
          | false => simp [hc] at h
          | true =>
            simp only [hc, cond_true] at h
            split at h
            · cases h
            · rename_i r' hr'
              cases hcc : Nat.ble (xcats ar) r'.2.1 with
              | false => simp [hcc] at h
              | true =>
                simp only [hcc, cond_true] at h
                split at h
                · cases h
                · rename_i q hq
                  obtain ⟨v1, M1⟩ := q
                  have h1 := xrun_grows f hq
                  have h2 := xrun_grows f h
                  exact ⟨Nat.le_trans h1.1 h2.1, Nat.le_trans h1.2 h2.2⟩
      · split at h
        · cases h
        · cases h
          exact ⟨Nat.le_refl _, Nat.le_refl _⟩
