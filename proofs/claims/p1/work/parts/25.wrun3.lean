abbrev wT : Type := List (List (Option (wF ⊕ xE)))
abbrev wR : Type := wT × Nat × Nat
noncomputable def wcv (e : xE) : wF ⊕ xE := bif Nat.beq (xkind e) 0 then .inl (fun bx sa pc L st Z => ya1W bx sa e pc L st Z) else .inr e
noncomputable def wn (g : zF) : wF := fun bx sa pc L st Z => wl Z (g bx sa pc L st [])
noncomputable def wIald : wF := fun _ sa pc L st Z => wiald sa pc L st Z
noncomputable def wAld (k : Nat) : wF := fun _ _ pc L st Z => wald k pc L st Z
noncomputable def wAald : wF := fun _ _ pc L st Z => waald pc L st Z
noncomputable def wIast : wF := fun _ _ pc L st Z => wast 20 ygI pc L st Z
noncomputable def wBast : wF := fun _ _ pc L st Z => wast 21 ygB pc L st Z
noncomputable def wLast : wF := fun _ _ pc L st Z => wast 22 ygL pc L st Z
noncomputable def wNo : wF := fun _ _ _ _ _ _ => none
noncomputable def wLen : wF := fun _ sa pc L st Z => wlen sa pc L st Z
noncomputable def wGet (c k : Nat) : wF := fun _ _ pc L st Z => wget c k pc L st Z
noncomputable def wPut (c k : Nat) : wF := fun _ _ pc L st Z => wput c k pc L st Z
noncomputable def wCopy : wF := fun _ _ pc L st Z => wcopy pc L st Z
/-! the short ways for what is met most -/
noncomputable def wPI (n : Nat) (v : Int32) : wF := fun _ _ pc L st Z => some (pc + n, L, .int v :: st, Z)
noncomputable def wPL (n : Nat) (v : Int64) : wF := fun _ _ pc L st Z => some (pc + n, L, .long v :: st, Z)
noncomputable def wGo (t : Nat) : wF := fun _ _ _ L st Z => some (t, L, st, Z)
noncomputable def wat (T : wT) (pc : Nat) : Option (wF ⊕ xE) := @Option.rec (List (Option (wF ⊕ xE))) (fun _ => Option (wF ⊕ xE)) none (fun l => @Option.rec (Option (wF ⊕ xE)) (fun _ => Option (wF ⊕ xE)) none (fun e => e) (fnth l (pc % 8))) (fnth T (pc / 8))
noncomputable def wrecv (e : xE) (as : List Value) (Z : wM) : Bool := match e.1 with
  | .invokestatic _ => true
  | .invokespecial _ => (match as with
    | .ref _ :: _ => true
    | _ => false)
  | _ => match as with
    | .ref a :: _ => (match warr Z a e.2.2.2.toNat with
      | some _ => true
      | none => false)
    | _ => false
theorem wrecv_ok {e : xE} {ar : List Value} {Z : wM} (hw : wwf Z) (h : wrecv e ar Z = true) : xrecv e ar (wfl Z) = true := by
  unfold wrecv at h
  unfold xrecv
  split at h
  · rename_i h1
    rw [h1]
  · rename_i h1
    rw [h1]
    exact h
  · rename_i h1 h2
    split
    · rfl
    · rename_i q
      exact absurd q (h2 _)
    · split at h
      · split at h
        · rename_i sl hsl
          dsimp only
          rw [(warr_eq hw hsl).1]
        · cases h
      · cases h
abbrev wA : Type := Option (Option Value × wM)
abbrev wH : Type := wR → Nat → xL → List Value → wM → wA
noncomputable def wr1 (ih : wH) (r : wR) (o : Option wC) : wA := @Option.rec wC (fun _ => wA) none (fun q => @Prod.rec Nat (xL × List Value × wM) (fun _ => wA) (fun pc q2 => @Prod.rec xL (List Value × wM) (fun _ => wA) (fun L q3 => @Prod.rec (List Value) wM (fun _ => wA) (fun st M => ih r pc L st M) q3) q2) q) o
noncomputable def wqm (zs : List (List wR)) (y : Nat) : Option wR := @Option.rec (List wR) (fun _ => Option wR) none (fun l => fnth l (y % 16)) (fnth zs (y / 16))
noncomputable def wr2 (zs : List (List wR)) (ih : wH) (r : wR) (e : xE) (pc : Nat) (L : xL) (st : List Value) (M : wM) : wA :=
  @Option.rec (List Value × List Value) (fun _ => wA) none (fun q => @Prod.rec (List Value) (List Value) (fun _ => wA) (fun as rest =>
    @Bool.rec (fun _ => wA) none (@Option.rec wR (fun _ => wA) none (fun r' => @Bool.rec (fun _ => wA) none (@Option.rec (Option Value × wM) (fun _ => wA) none (fun a => @Prod.rec (Option Value) wM (fun _ => wA) (fun v M1 => ih r (pc + 3) L (xpush v rest) M1) a) (ih r' 0 (zqargs as 0) [] M)) (Nat.ble (zqcat as) r'.2.1)) (wqm zs e.2.1)) (Nat.ble (zqcat rest) 8 && wrecv e as M)) q) (zqpop e.2.2.1 [] st)
noncomputable def wr3 (r : wR) (e : xE) (st : List Value) (M : wM) : wA := @Option.rec (Option Value) (fun _ => wA) none (fun v => some (v, M)) (xend r.2.2 e st)
noncomputable def wrs (zs : List (List wR)) (bx : List (Int × Int)) (sa : List Value) (ih : wH) (r : wR) (pc : Nat) (L : xL) (st : List Value) (M : wM) : wA :=
  @Option.rec (wF ⊕ xE) (fun _ => wA) none (fun x => @Sum.rec wF xE (fun _ => wA) (fun g => wr1 ih r (g bx sa pc L st M)) (fun e => @Bool.rec (fun _ => wA) (wr3 r e st M) (wr2 zs ih r e pc L st M) (Nat.beq (xkind e) 1)) x) (wat r.1 pc)
noncomputable def wr (zs : List (List wR)) (bx : List (Int × Int)) (sa : List Value) (f : Nat) : wH := @Nat.rec (fun _ => wH) (fun _ _ _ _ _ => none) (fun _ ih r pc L st M => wrs zs bx sa ih r pc L st M) f
def wrel (zr : wR) (r : xR) : Prop := (zr.1 = [] ∨ zr.1 = r.1.map (fun l => l.map (Option.map wcv))) ∧ zr.2 = r.2
theorem wat_ok {zr : wR} {r : xR} {pc : Nat} {x : wF ⊕ xE} (h : wrel zr r) (hx : wat zr.1 pc = some x) : ∃ e, xat r.1 pc = some e ∧ x = wcv e := by
  rcases h.1 with h1 | h1
  · rw [h1] at hx
    simp [wat, fnth_eq, xnth] at hx
  · rw [h1] at hx
    unfold wat at hx
    rw [fnth_eq, xnth_map] at hx
    unfold xat
    cases h2 : xnth r.1 (pc / 8) with
    | none => rw [h2] at hx; cases hx
    | some l =>
      rw [h2] at hx
      simp only [Option.map_some] at hx
      rw [fnth_eq, xnth_map] at hx
      dsimp only
      cases h3 : xnth l (pc % 8) with
      | none => rw [h3] at hx; cases hx
      | some o =>
        rw [h3] at hx
        simp only [Option.map_some] at hx
        cases o with
        | none => cases hx
        | some e =>
          cases hx
          exact ⟨e, rfl, rfl⟩
theorem wr_ok {ms : Nat → Option xR} {zs : List (List wR)} (hz : ∀ y zr, wqm zs y = some zr → ∃ r, ms y = some r ∧ wrel zr r) {bx : List (Int × Int)} {sa : List Value} : ∀ (f : Nat) {zr : wR} {r : xR} {pc : Nat} {L : xL} {st : List Value} {Z : wM} {v : Option Value} {Zf : wM}, wrel zr r → wwf Z → wr zs bx sa f zr pc L st Z = some (v, Zf) → yrun ms xty xdf bx sa f r pc L st (wfl Z) = some (v, wfl Zf) ∧ wwf Zf
  | 0, _, _, _, _, _, _, _, _, _, _, h => by cases h
  | f + 1, zr, r, pc, L, st, Z, v, Zf, hr, hw, h => by
    replace h : wrs zs bx sa (wr zs bx sa f) zr pc L st Z = some (v, Zf) := h
    unfold wrs at h
    simp only [yrun]
    cases hg : wat zr.1 pc with
    | none => rw [hg] at h; cases h
    | some x =>
      rw [hg] at h
      obtain ⟨e, he, hx⟩ := wat_ok hr hg
      rw [he]
      try dsimp only
      subst hx
      unfold wcv at h
      cases hk : Nat.beq (xkind e) 0 with
      | true =>
        rw [hk] at h
        simp only [cond_true] at h
        rw [Nat.eq_of_beq_eq_true hk]
        try dsimp only
        unfold wr1 at h
        cases hq : ya1W bx sa e pc L st Z with
        | none => rw [hq] at h; cases h
        | some q0 =>
          rw [hq] at h
          obtain ⟨h1, h2⟩ := ya1W_ok hw hq
          rw [h1]
          exact wr_ok hz f hr h2 h
      | false =>
        rw [hk] at h
        simp only [cond_false] at h
        have hk0 : xkind e ≠ 0 := fun q => by rw [q] at hk; cases hk
        cases hk1 : Nat.beq (xkind e) 1 with
        | false =>
          rw [hk1] at h
          have hne : xkind e ≠ 1 := fun q => by rw [q] at hk1; cases hk1
          replace h : wr3 zr e st Z = some (v, Zf) := h
          unfold wr3 at h
          rw [hr.2] at h
          split
          · rename_i q; exact absurd q hk0
          · rename_i q; exact absurd q hne
          · cases hxe : xend r.2.2 e st with
            | none => rw [hxe] at h; cases h
            | some v' => rw [hxe] at h; cases h; exact ⟨rfl, hw⟩
        | true =>
          rw [hk1] at h
          rw [Nat.eq_of_beq_eq_true hk1]
          replace h : wr2 zs (wr zs bx sa f) zr e pc L st Z = some (v, Zf) := h
          unfold wr2 at h
          rw [zqpop_eq] at h
          try dsimp only
          cases hp : xpop e.2.2.1 [] st with
          | none => rw [hp] at h; cases h
          | some q =>
            obtain ⟨ar, rest⟩ := q
            rw [hp] at h
            dsimp only at h ⊢
            rw [zqcat8] at h
            cases hc : (xcat8 rest && wrecv e ar Z) with
            | false => rw [hc] at h; cases h
            | true =>
              rw [hc] at h
              rw [Bool.and_eq_true] at hc
              rw [hc.1, wrecv_ok hw hc.2]
              simp only [Bool.and_true, cond_true]
              dsimp only at h
              cases hm : wqm zs e.2.1 with
              | none => rw [hm] at h; cases h
              | some zr' =>
                rw [hm] at h
                obtain ⟨r', hr', hrel⟩ := hz _ _ hm
                rw [hr']
                dsimp only at h ⊢
                rw [zqcat_eq, hrel.2] at h
                cases hcc : Nat.ble (xcats ar) r'.2.1 with
                | false => rw [hcc] at h; cases h
                | true =>
                  rw [hcc] at h
                  simp only [cond_true]
                  dsimp only at h
                  rw [zqargs_eq] at h
                  cases hq1 : wr zs bx sa f zr' 0 (lv_args 0 ar) [] Z with
                  | none => rw [hq1] at h; cases h
                  | some a =>
                    obtain ⟨v1, Z1⟩ := a
                    rw [hq1] at h
                    obtain ⟨k1, k2⟩ := wr_ok hz f hrel hw hq1
                    rw [k1]
                    exact wr_ok hz f hr k2 h
