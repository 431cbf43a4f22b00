def yrun (ms : Nat → Option xR) (ty : Nat → Nat → FieldType) (df : Nat → List Value) (bx : List (Int × Int)) (sa : List Value) : Nat → xR → Nat → xL → List Value → xM → Option (Option Value × xM)
  | 0, _, _, _, _, _ => none
  | f + 1, r, pc, L, st, M => match xat r.1 pc with
    | none => none
    | some e => match xkind e with
      | 0 => match ya1 ty df bx sa e pc L st M with
        | none => none
        | some q => yrun ms ty df bx sa f r q.1 q.2.1 q.2.2.1 q.2.2.2
      | 1 => match xpop e.2.2.1 [] st with
        | none => none
        | some (as, rest) => bif xcat8 rest && xrecv e as M then (match ms e.2.1 with
          | none => none
          | some r' => bif Nat.ble (xcats as) r'.2.1 then (match yrun ms ty df bx sa f r' 0 (lv_args 0 as) [] M with
            | none => none
            | some q => yrun ms ty df bx sa f r (pc + 3) L (xpush q.1 rest) q.2) else none) else none
      | _ => match xend r.2.2 e st with
        | none => none
        | some v => some (v, M)
theorem yend {bx : List (Int × Int)} {rk : Nat} {e : xE} {st st' : List Value} {v : Option Value} (h : xend rk e st = some v) (hs : yrs bx st st') : st' = st ∧ xvv v := by
  unfold xend at h
  split at h
  · cases hc : Nat.beq rk 0 with
    | false => simp [hc] at h
    | true =>
      simp only [hc, cond_true] at h
      split at h
      · cases h; exact ⟨hs, trivial⟩
      · cases h
  · split at h
    · rename_i x
      obtain ⟨v1, s1, rfl, h1, h2⟩ := hs
      cases h1; cases h2
      cases hc : (Nat.beq rk 1 || (Nat.beq rk 3 && (decide (x = 0) || decide (x = 1)))) with
      | false => simp [hc] at h
      | true => simp only [hc, cond_true] at h; cases h; exact ⟨rfl, trivial⟩
    · cases h
  · split at h
    · rename_i x
      obtain ⟨v1, s1, rfl, h1, h2⟩ := hs
      cases h1; cases h2
      cases hc : Nat.beq rk 2 with
      | false => simp [hc] at h
      | true => simp only [hc, cond_true] at h; cases h; exact ⟨rfl, trivial⟩
    · cases h
  · cases h
theorem ypush {bx : List (Int × Int)} {v : Option Value} (h : xvv v) {r r' : List Value} (hr : yrs bx r r') : yrs bx (xpush v r) (xpush v r') := by
  cases v with
  | none => exact hr
  | some x =>
    cases x with
    | int y => exact ⟨_, _, rfl, rfl, hr⟩
    | long y => exact ⟨_, _, rfl, rfl, hr⟩
    | _ => exact h.elim
theorem yrecv {bx : List (Int × Int)} {e : xE} {as as' : List Value} {M M' : xM} (h : xrecv e as M = true) (ha : yrs bx as as') (hM : yrm bx M M') : xrecv e as' M' = true := by
  unfold xrecv at h ⊢
  split at h
  · rfl
  · split at h
    · obtain ⟨v1, s1, rfl, h1, h2⟩ := ha
      cases h1
      rfl
    · cases h
  · split at h
    · obtain ⟨v1, s1, rfl, h1, h2⟩ := ha
      cases h1
      split at h
      · rename_i sl hsl
        obtain ⟨sl', g1, g2⟩ := yrm_arr hM hsl
        dsimp only
        rw [g1]
      · cases h
    · cases h
/-- what is found over intervals holds of all that they stand for -/
theorem yrun_ok {ms : Nat → Option xR} {ty : Nat → Nat → FieldType} {df : Nat → List Value} {bx : List (Int × Int)} {sa : List Value} {sc : List Int32} (hb1 : ybd bx 1 = (0, 1)) (hb2 : ybd bx 2 = (-1, 0)) (hdf : ∀ (k : Nat) (v : Value), v ∈ df k → yrv bx v v) (hsa : sa = [.null] ∨ yrs bx sa (sc.map Value.int)) :
    ∀ (f : Nat) {r : xR} {pc : Nat} {L L' : xL} {st st' : List Value} {M M' : xM} {v : Option Value} {Mf : xM}, yrun ms ty df bx sa f r pc L st M = some (v, Mf) → yrl bx L L' → yrs bx st st' → yrm bx M M' → ∃ Mf', xrun ms ty df sc f r pc L' st' M' = some (v, Mf') ∧ xvv v ∧ yrm bx Mf Mf'
  | 0, _, _, _, _, _, _, _, _, _, _, h, _, _, _ => by simp [yrun] at h
  | f + 1, r, pc, L, L', st, st', M, M', v, Mf, h, hL, hs, hM => by
    simp only [yrun] at h
    simp only [xrun]
    split at h
    · cases h
    · rename_i e he
      split at h
      · rename_i hk
        split at h
        · cases h
        · rename_i q hq
          obtain ⟨q', g1, g2, g3, g4, g5⟩ := ya1_ok hb1 hb2 hdf hsa hq hL hs hM
          obtain ⟨Mf', k1, k2, k3⟩ := yrun_ok hb1 hb2 hdf hsa f h g3 g4 g5
          refine ⟨Mf', ?_, k2, k3⟩
          rw [he]
          try dsimp only
          rw [hk]
          try dsimp only
          rw [g1]
          try dsimp only
          rw [g2]
          exact k1
      · rename_i hk
        split at h
        · cases h
        · rename_i ar rest hp
          cases hc : (xcat8 rest && xrecv e ar M) with
          | false => simp [hc] at h
          | true =>
            simp only [hc, cond_true] at h
            rw [Bool.and_eq_true] at hc
            split at h
            · cases h
            · rename_i r' hr'
              cases hcc : Nat.ble (xcats ar) r'.2.1 with
              | false => simp [hcc] at h
              | true =>
                simp only [hcc, cond_true] at h
                split at h
                · cases h
                · rename_i q hq
                  obtain ⟨v1, M1⟩ := q
                  obtain ⟨ar', rest', p1, p2, p3⟩ := ypop e.2.2.1 hp (rfl : yrs bx [] []) hs
                  obtain ⟨M1', k1, k2, k3⟩ := yrun_ok hb1 hb2 hdf hsa f hq (yrl_args 0 p2) (rfl : yrs bx [] []) hM
                  obtain ⟨Mf', l1, l2, l3⟩ := yrun_ok hb1 hb2 hdf hsa f h hL (ypush k2 p3) k3
                  refine ⟨Mf', ?_, l2, l3⟩
                  rw [he]
                  try dsimp only
                  rw [hk]
                  try dsimp only
                  rw [p1]
                  try dsimp only
                  rw [yrs_cat8 p3, hc.1, yrecv hc.2 p2 hM]
                  simp only [Bool.and_true, cond_true]
                  rw [hr']
                  try dsimp only
                  rw [yrs_cats p2, hcc]
                  simp only [cond_true]
                  rw [k1]
                  exact l1
      · rename_i hk0 hk1
        split at h
        · cases h
        · rename_i v' hv'
          cases h
          obtain ⟨rfl, hvv⟩ := yend hv' hs
          refine ⟨M', ?_, hvv, hM⟩
          rw [he]
          try dsimp only
          split
          · exact absurd ‹_› hk0
          · exact absurd ‹_› hk1
          · rw [hv']
