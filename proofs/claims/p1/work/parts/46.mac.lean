/-! THE RUN OVER CHUNKS WITH A STEP OF ONE'S OWN -/
theorem xkind_3 (e : xE) : xkind e = 0 ∨ xkind e = 1 ∨ xkind e = 2 := by
  unfold xkind
  split
  · cases Nat.ble 5000 e.2.1
    · exact Or.inr (Or.inl rfl)
    · exact Or.inl rfl
  · cases Nat.ble 5001 e.2.1
    · exact Or.inr (Or.inl rfl)
    · exact Or.inl rfl
  · cases Nat.ble 5000 e.2.1
    · exact Or.inr (Or.inl rfl)
    · exact Or.inl rfl
  · exact Or.inr (Or.inr rfl)
  · exact Or.inr (Or.inr rfl)
  · exact Or.inr (Or.inr rfl)
  · exact Or.inl rfl
def wMac (sc : List Int32) (bx : List (Int × Int)) (sa : List Value) (g : wF) (r : xR) (pc : Nat) : Prop := ∀ (L : xL) (st : List Value) (Z : wM) (q : wC), wwf Z → g bx sa pc L st Z = some q → wwf q.2.2.2 ∧ wsz Z q.2.2.2 ∧ ∀ (L' : xL) (st' : List Value) (M' : xM), yrl bx L L' → yrs bx st st' → yrm bx (wfl Z) M' → ∃ L2 st2 M2, yrl bx q.2.1 L2 ∧ yrs bx q.2.2.1 st2 ∧ yrm bx (wfl q.2.2.2) M2 ∧ ∀ res, xev sc r q.1 L2 st2 M2 res → xev sc r pc L' st' M' res
def wrelM (sc : List Int32) (bx : List (Int × Int)) (sa : List Value) (zr : wR) (r : xR) : Prop := zr.2 = r.2 ∧ ∀ pc x, wat zr.1 pc = some x → (∃ e, xat r.1 pc = some e ∧ x = wcv e) ∨ (∃ g, x = .inl g ∧ wMac sc bx sa g r pc)
theorem wrelM_of {sc : List Int32} {bx : List (Int × Int)} {sa : List Value} {zr : wR} {r : xR} (h : wrel zr r) : wrelM sc bx sa zr r := ⟨h.2, fun _ _ hx => Or.inl (wat_ok h hx)⟩
theorem wm_ok {bx : List (Int × Int)} {sa : List Value} {sc : List Int32} (hb1 : ybd bx 1 = (0, 1)) (hb2 : ybd bx 2 = (-1, 0)) (hsa : sa = [.null] ∨ yrs bx sa (sc.map Value.int)) {zs : List (List wR)} (hz : ∀ y zr, wqm zs y = some zr → ∃ r, xmeth y = some r ∧ wrelM sc bx sa zr r) :
    ∀ (f : Nat) {zr : wR} {r : xR} {pc : Nat} {L L' : xL} {st st' : List Value} {Z : wM} {M' : xM} {v : Option Value} {Zf : wM}, wrelM sc bx sa zr r → wwf Z → wr zs bx sa f zr pc L st Z = some (v, Zf) → yrl bx L L' → yrs bx st st' → yrm bx (wfl Z) M' → (wwf Zf ∧ wsz Z Zf ∧ xvv v) ∧ ∃ Mf', xev sc r pc L' st' M' (v, Mf') ∧ yrm bx (wfl Zf) Mf'
  | 0, _, _, _, _, _, _, _, _, _, _, _, _, _, h, _, _, _ => by cases h
  | f + 1, zr, r, pc, L, L', st, st', Z, M', v, Zf, hr, hw, h, hL, hs, hM => by
    replace h : wrs zs bx sa (wr zs bx sa f) zr pc L st Z = some (v, Zf) := h
    unfold wrs at h
    cases hg : wat zr.1 pc with
    | none => rw [hg] at h; cases h
    | some x =>
      rw [hg] at h
      rcases hr.2 pc x hg with ⟨e, he, hx⟩ | ⟨g, hx, hm⟩
      · subst hx
        unfold wcv at h
        cases hk : Nat.beq (xkind e) 0 with
        | true =>
          rw [hk] at h
          simp only [cond_true] at h
          unfold wr1 at h
          cases hq : ya1W bx sa e pc L st Z with
          | none => rw [hq] at h; cases h
          | some q0 =>
            rw [hq] at h
            obtain ⟨h1, h2⟩ := ya1W_ok hw hq
            obtain ⟨q', g1, g2, g3, g4, g5⟩ := ya1_ok hb1 hb2 (xdf_self bx) hsa h1 hL hs hM
            obtain ⟨⟨k1, k2, k3⟩, Mf', k4, k5⟩ := wm_ok hb1 hb2 hsa hz f hr h2 h g3 g4 g5
            refine ⟨⟨k1, wsz_trans (ya1W_sz hw hq) k2, k3⟩, Mf', ?_, k5⟩
            refine xev_0 (pc' := q'.1) (L' := q'.2.1) (st' := q'.2.2.1) (M' := q'.2.2.2) he (Nat.eq_of_beq_eq_true hk) g1 ?_
            rw [g2]
            exact k4
        | false =>
          rw [hk] at h
          simp only [cond_false] at h
          have hk0 : xkind e ≠ 0 := fun q => by rw [q] at hk; cases hk
          cases hk1 : Nat.beq (xkind e) 1 with
          | false =>
            rw [hk1] at h
            have hne : xkind e ≠ 1 := fun q => by rw [q] at hk1; cases hk1
            have hk2 : xkind e = 2 := by
              rcases xkind_3 e with q | q | q
              · exact absurd q hk0
              · exact absurd q hne
              · exact q
            replace h : wr3 zr e st Z = some (v, Zf) := h
            unfold wr3 at h
            rw [hr.1] at h
            cases hxe : xend r.2.2 e st with
            | none => rw [hxe] at h; cases h
            | some v' =>
              rw [hxe] at h
              cases h
              obtain ⟨rfl, hvv⟩ := yend hxe hs
              exact ⟨⟨hw, wsz_refl Z, hvv⟩, M', xev_2 he hk2 hxe, hM⟩
          | true =>
            rw [hk1] at h
            replace h : wr2 zs (wr zs bx sa f) zr e pc L st Z = some (v, Zf) := h
            unfold wr2 at h
            rw [zqpop_eq] at h
            cases hp : xpop e.2.2.1 [] st with
            | none => rw [hp] at h; cases h
            | some q =>
              obtain ⟨ar, rest⟩ := q
              rw [hp] at h
              dsimp only at h
              rw [zqcat8] at h
              cases hc : (xcat8 rest && wrecv e ar Z) with
              | false => rw [hc] at h; cases h
              | true =>
                rw [hc] at h
                rw [Bool.and_eq_true] at hc
                dsimp only at h
                cases hm : wqm zs e.2.1 with
                | none => rw [hm] at h; cases h
                | some zr' =>
                  rw [hm] at h
                  obtain ⟨r', hr', hrel⟩ := hz _ _ hm
                  dsimp only at h
                  rw [zqcat_eq, hrel.1] at h
                  cases hcc : Nat.ble (xcats ar) r'.2.1 with
                  | false => rw [hcc] at h; cases h
                  | true =>
                    rw [hcc] at h
                    dsimp only at h
                    rw [zqargs_eq] at h
                    cases hq1 : wr zs bx sa f zr' 0 (lv_args 0 ar) [] Z with
                    | none => rw [hq1] at h; cases h
                    | some a =>
                      obtain ⟨v1, Z1⟩ := a
                      rw [hq1] at h
                      obtain ⟨ar', rest', p1, p2, p3⟩ := ypop e.2.2.1 hp (rfl : yrs bx [] []) hs
                      obtain ⟨⟨k1, k2, k3⟩, M1', k4, k5⟩ := wm_ok hb1 hb2 hsa hz f hrel hw hq1 (yrl_args 0 p2) (rfl : yrs bx [] []) hM
                      obtain ⟨⟨l1, l2, l3⟩, Mf', l4, l5⟩ := wm_ok hb1 hb2 hsa hz f hr k1 h hL (ypush k3 p3) k5
                      refine ⟨⟨l1, wsz_trans k2 l2, l3⟩, Mf', ?_, l5⟩
                      refine xev_1 he (Nat.eq_of_beq_eq_true hk1) p1 ?_ hr' ?_ k4 l4
                      · rw [yrs_cat8 p3, hc.1, yrecv (wrecv_ok hw hc.2) p2 hM]
                        rfl
                      · rw [yrs_cats p2]
                        exact hcc
      · subst hx
        replace h : wr1 (wr zs bx sa f) zr (g bx sa pc L st Z) = some (v, Zf) := h
        unfold wr1 at h
        cases hq : g bx sa pc L st Z with
        | none => rw [hq] at h; cases h
        | some q0 =>
          rw [hq] at h
          obtain ⟨m1, m2, m3⟩ := hm L st Z q0 hw hq
          obtain ⟨L2, st2, M2, n1, n2, n3, n4⟩ := m3 L' st' M' hL hs hM
          obtain ⟨⟨k1, k2, k3⟩, Mf', k4, k5⟩ := wm_ok hb1 hb2 hsa hz f hr m1 h n1 n2 n3
          exact ⟨⟨k1, wsz_trans m2 k2, k3⟩, Mf', n4 _ k4, k5⟩
