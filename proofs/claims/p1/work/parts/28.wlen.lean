/-! THE RUN OVER CHUNKS MAKES NOTHING: as many cells, as many slots -/
def wsz (Z : wM) (Y : wM) : Prop := (wfl Y).length = (wfl Z).length ∧ xz (wfl Y) = xz (wfl Z)
theorem wsz_refl (Z : wM) : wsz Z Z := ⟨rfl, rfl⟩
theorem wsz_trans {X Y Z : wM} (h : wsz X Y) (g : wsz Y Z) : wsz X Z := ⟨g.1.trans h.1, g.2.trans h.2⟩
theorem wl_sz {Z : wM} {o : Option xC} {q : wC} (h : wl Z o = some q) : wsz Z q.2.2.2 := by
  cases o with
  | none => cases h
  | some p => cases h; exact wsz_refl Z
theorem wset_sz {Z : wM} {a k i : Nat} {cs : List (List Value)} {v w : Value} (hw : wwf Z) (h : warr Z a k = some cs) (hv : wnth cs i = some w) : wsz Z (vset Z a (k, wset cs i v)) := by
  obtain ⟨h1, h2, h3⟩ := warr_eq hw h
  unfold wsz
  rw [wfl_set hw h3]
  refine xset_z h1 ?_
  rw [(wset_eq (v := v) h2 hv).1]
  simp
section WS
variable {bx : List (Int × Int)} {sa : List Value} {pc : Nat} {L : xL} {st : List Value} {Z : wM} {q : wC}
theorem wald_sz {k : Nat} (h : wald k pc L st Z = some q) : wsz Z q.2.2.2 := by
  unfold wald at h
  split at h
  · rename_i j a r
    split at h
    · cases hb : Nat.blt (fpl j) 2147483648 with
      | false => simp [hb] at h
      | true =>
        simp only [hb, cond_true] at h
        split at h
        · cases h; exact wsz_refl Z
        · cases h
    · cases h
  · cases h
theorem wiald_sz (h : wiald sa pc L st Z = some q) : wsz Z q.2.2.2 := by
  unfold wiald at h
  split at h
  · split at h
    · split at h
      · split at h
        · cases h; exact wsz_refl Z
        · cases h
      · cases h
    · cases h
  · exact wald_sz h
theorem waald_sz (h : waald pc L st Z = some q) : wsz Z q.2.2.2 := by
  unfold waald at h
  split at h
  · rename_i p hp
    cases h
    exact wald_sz hp
  · exact wald_sz h
theorem wget_sz {ci k : Nat} (h : wget ci k pc L st Z = some q) : wsz Z q.2.2.2 := by
  unfold wget at h
  split at h
  · split at h
    · split at h
      · cases h; exact wsz_refl Z
      · cases h
    · cases h
  · cases h
theorem wlen_sz (h : wlen sa pc L st Z = some q) : wsz Z q.2.2.2 := by
  unfold wlen at h
  split at h
  · split at h
    · cases h; exact wsz_refl Z
    · cases h
  · split at h
    · rename_i a r o ho
      cases hb : (Nat.beq o.1 20 || Nat.beq o.1 22) with
      | false => rw [hb] at h; cases h
      | true => rw [hb] at h; cases h; exact wsz_refl Z
    · cases h
  · cases h
theorem wast_sz {k : Nat} {g : Value → Option Value} (hw : wwf Z) (h : wast k g pc L st Z = some q) : wsz Z q.2.2.2 := by
  unfold wast at h
  split at h
  · rename_i v j a r
    split at h
    · split at h
      · rename_i cs hcs
        cases hb : Nat.blt (fpl j) 2147483648 with
        | false => simp [hb] at h
        | true =>
          simp only [hb, cond_true] at h
          split at h
          · rename_i v0 hv
            cases h
            exact wset_sz hw hcs hv
          · cases h
      · cases h
    · cases h
  · cases h
theorem wput_sz {ci k : Nat} (hw : wwf Z) (h : wput ci k pc L st Z = some q) : wsz Z q.2.2.2 := by
  unfold wput at h
  split at h
  · split at h
    · split at h
      · rename_i cs hcs
        split at h
        · rename_i v0 hv
          cases h
          exact wset_sz hw hcs hv
        · cases h
      · cases h
    · cases h
  · rename_i v a r hno
    cases hf : xfit (xty ci k) v with
    | false => rw [hf] at h; cases h
    | true =>
      rw [hf] at h
      simp only [cond_true] at h
      split at h
      · rename_i cs hcs
        split at h
        · rename_i v0 hv
          cases h
          exact wset_sz hw hcs hv
        · cases h
      · cases h
  · cases h
theorem wacopy_sz {k d s : Nat} {n dp sp : Int32} {r : List Value} (hw : wwf Z) (h : wacopy k pc L n dp sp d s r Z = some q) : wsz Z q.2.2.2 := by
  unfold wacopy at h
  split at h
  · rename_i cs hcs
    split at h
    · rename_i cd hcd
      obtain ⟨g1, g2, g3⟩ := warr_eq hw hcd
      cases hcc : (decide (sp < 0) || decide (dp < 0) || decide (n < 0) || Nat.blt cs.flatten.length (sp.toNatClampNeg + n.toNatClampNeg) || Nat.blt cd.flatten.length (dp.toNatClampNeg + n.toNatClampNeg)) with
      | true => rw [hcc] at h; cases h
      | false =>
        rw [hcc] at h
        simp only [cond_false] at h
        cases h
        simp only [Bool.or_eq_false_iff, decide_eq_false_iff_not] at hcc
        obtain ⟨⟨⟨⟨c1, c2⟩, c3⟩, c4⟩, c5⟩ := hcc
        obtain ⟨k1, k2⟩ := wchk_ok 1000 (xcpy cs.flatten cd.flatten sp.toNatClampNeg dp.toNatClampNeg n.toNatClampNeg)
        unfold wsz
        dsimp only
        rw [wfl_set hw g3, k1]
        exact xset_z g1 (xcpy_len (by
          rcases Nat.lt_or_ge cs.flatten.length (sp.toNatClampNeg + n.toNatClampNeg) with z | z
          · rw [Nat.blt_eq.mpr z] at c4
            cases c4
          · exact z) (by
          rcases Nat.lt_or_ge cd.flatten.length (dp.toNatClampNeg + n.toNatClampNeg) with z | z
          · rw [Nat.blt_eq.mpr z] at c5
            cases c5
          · exact z))
    · cases h
  · cases h
theorem wcopy_sz (hw : wwf Z) (h : wcopy pc L st Z = some q) : wsz Z q.2.2.2 := by
  unfold wcopy at h
  split at h
  · rename_i n dp d sp s r
    cases hc : xcat8 r with
    | false => rw [hc] at h; cases h
    | true =>
      rw [hc] at h
      simp only [cond_true] at h
      split at h
      · rename_i o ho
        cases hb : Nat.beq o.1 20 with
        | true => rw [hb] at h; exact wacopy_sz hw h
        | false => rw [hb] at h; exact wacopy_sz hw h
      · cases h
  · cases h
theorem yw_sz {e : xE} (he : ya1W bx sa e pc L st Z = wl Z (ya1F bx sa e pc L st [])) (h : ya1W bx sa e pc L st Z = some q) : wsz Z q.2.2.2 := wl_sz (he.symm.trans h)
theorem ya1W_sz {e : xE} (hw : wwf Z) (h : ya1W bx sa e pc L st Z = some q) : wsz Z q.2.2.2 := by
  obtain ⟨ins, ea, eb, ez⟩ := e
  cases ins
  case iaload => exact wiald_sz h
  case baload => exact wald_sz (k := 21) h
  case laload => exact wald_sz (k := 22) h
  case aaload => exact waald_sz h
  case iastore => exact wast_sz (k := 20) hw h
  case bastore => exact wast_sz (k := 21) hw h
  case lastore => exact wast_sz (k := 22) hw h
  case aastore => cases h
  case arraylength => exact wlen_sz h
  case newarray => cases h
  case anewarray => cases h
  case multianewarray => cases h
  case new => cases h
  case getfield => exact wget_sz h
  case putfield => exact wput_sz hw h
  case invokestatic z =>
    by_cases h1 : ea = 5001
    · subst h1; exact wcopy_sz hw h
    · have he : ya1W bx sa (.invokestatic z, ea, eb, ez) pc L st Z = wl Z (ya1F bx sa (.invokestatic z, ea, eb, ez) pc L st []) := by
        simp only [ya1W]
      rw [he] at h
      exact wl_sz h
  all_goals exact yw_sz rfl h
end WS
theorem wr_sz {ms : Nat → Option xR} {zs : List (List wR)} (hz : ∀ y zr, wqm zs y = some zr → ∃ r, ms y = some r ∧ wrel zr r) {bx : List (Int × Int)} {sa : List Value} : ∀ (f : Nat) {zr : wR} {r : xR} {pc : Nat} {L : xL} {st : List Value} {Z : wM} {v : Option Value} {Zf : wM}, wrel zr r → wwf Z → wr zs bx sa f zr pc L st Z = some (v, Zf) → wsz Z Zf
  | 0, _, _, _, _, _, _, _, _, _, _, h => by cases h
  | f + 1, zr, r, pc, L, st, Z, v, Zf, hr, hw, h => by
    replace h : wrs zs bx sa (wr zs bx sa f) zr pc L st Z = some (v, Zf) := h
    unfold wrs at h
    cases hg : wat zr.1 pc with
    | none => rw [hg] at h; cases h
    | some x =>
      rw [hg] at h
      obtain ⟨e, he, hx⟩ := wat_ok hr hg
      subst hx
      unfold wcv at h
      cases hk : Nat.beq (xkind e) 0 with
      | true =>
        rw [hk] at h
        simp only [cond_true] at h
        unfold wr1 at h
        cases hq : ya1W bx sa e pc L st Z with
        | none => rw [hq] at h; cases h
        | some q0 =>
          rw [hq] at h
          exact wsz_trans (ya1W_sz hw hq) (wr_sz hz f hr (ya1W_ok hw hq).2 h)
      | false =>
        rw [hk] at h
        simp only [cond_false] at h
        cases hk1 : Nat.beq (xkind e) 1 with
        | false =>
          rw [hk1] at h
          replace h : wr3 zr e st Z = some (v, Zf) := h
          unfold wr3 at h
          cases hxe : xend zr.2.2 e st with
          | none => rw [hxe] at h; cases h
          | some v' => rw [hxe] at h; cases h; exact wsz_refl Z
        | true =>
          rw [hk1] at h
          replace h : wr2 zs (wr zs bx sa f) zr e pc L st Z = some (v, Zf) := h
          unfold wr2 at h
          rw [zqpop_eq] at h
          cases hp : xpop e.2.2.1 [] st with
          | none => rw [hp] at h; cases h
          | some q =>
            obtain ⟨ar, rest⟩ := q
            rw [hp] at h
            dsimp only at h
            cases hc : (Nat.ble (zqcat rest) 8 && wrecv e ar Z) with
            | false => rw [hc] at h; cases h
            | true =>
              rw [hc] at h
              dsimp only at h
              cases hm : wqm zs e.2.1 with
              | none => rw [hm] at h; cases h
              | some zr' =>
                rw [hm] at h
                obtain ⟨r', hr', hrel⟩ := hz _ _ hm
                dsimp only at h
                cases hcc : Nat.ble (zqcat ar) zr'.2.1 with
                | false => rw [hcc] at h; cases h
                | true =>
                  rw [hcc] at h
                  dsimp only at h
                  cases hq1 : wr zs bx sa f zr' 0 (zqargs ar 0) [] Z with
                  | none => rw [hq1] at h; cases h
                  | some a =>
                    obtain ⟨v1, Z1⟩ := a
                    rw [hq1] at h
                    exact wsz_trans (wr_sz hz f hrel hw hq1) (wr_sz hz f hr (wr_ok hz f hrel hw hq1).2 h)
