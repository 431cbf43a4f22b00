/-! zrun by bare recursors: what the kernel reads quickest -/
abbrev zA : Type := Option (Option Value × xM)
abbrev zH : Type := zR → Nat → xL → List Value → xM → zA
noncomputable def zq1 (ih : zH) (r : zR) (o : Option xC) : zA := @Option.rec xC (fun _ => zA) none (fun q => @Prod.rec Nat (xL × List Value × xM) (fun _ => zA) (fun pc q2 => @Prod.rec xL (List Value × xM) (fun _ => zA) (fun L q3 => @Prod.rec (List Value) xM (fun _ => zA) (fun st M => ih r pc L st M) q3) q2) q) o
noncomputable def zqpop (n : Nat) : List Value → List Value → Option (List Value × List Value) := @Nat.rec (fun _ => List Value → List Value → Option (List Value × List Value)) (fun acc st => some (acc, st)) (fun _ ih acc st => @List.rec Value (fun _ => Option (List Value × List Value)) none (fun v st _ => ih (v :: acc) st) st) n
theorem zqpop_eq : ∀ (n : Nat) (acc st : List Value), zqpop n acc st = xpop n acc st
  | 0, _, _ => rfl
  | _ + 1, _, [] => rfl
  | n + 1, acc, v :: st => zqpop_eq n (v :: acc) st
noncomputable def zqcat (l : List Value) : Nat := @List.rec Value (fun _ => Nat) 0 (fun v _ ih => xcat v + ih) l
theorem zqcat_eq : ∀ l : List Value, zqcat l = xcats l
  | [] => rfl
  | v :: l => by
    show xcat v + zqcat l = _
    rw [zqcat_eq l]
    rfl
theorem zqcat8 : ∀ l : List Value, Nat.ble (zqcat l) 8 = xcat8 l := by
  intro l
  unfold xcat8
  congr 1
  induction l with
  | nil => rfl
  | cons v l ih =>
    show xcat v + zqcat l = _
    rw [ih, List.map_cons, List.sum_cons, xcat_eq]
noncomputable def zqargs (l : List Value) : Nat → xL := @List.rec Value (fun _ => Nat → xL) (fun _ => []) (fun v _ ih i => (i, v) :: ih (i + xcat v)) l
theorem zqargs_eq : ∀ (l : List Value) (i : Nat), zqargs l i = lv_args i l
  | [], _ => rfl
  | v :: l, i => by
    show (i, v) :: zqargs l (i + xcat v) = _
    rw [zqargs_eq l]
    simp only [lv_args, xcat_eq]
    rcases lv_cat v with h | h <;> simp [h]
noncomputable def zqm (zs : List (List zR)) (y : Nat) : Option zR := @Option.rec (List zR) (fun _ => Option zR) none (fun l => fnth l (y % 16)) (fnth zs (y / 16))
/-- a call -/
noncomputable def zq2 (zs : List (List zR)) (ih : zH) (r : zR) (e : xE) (pc : Nat) (L : xL) (st : List Value) (M : xM) : zA :=
  @Option.rec (List Value × List Value) (fun _ => zA) none (fun q => @Prod.rec (List Value) (List Value) (fun _ => zA) (fun as rest =>
    @Bool.rec (fun _ => zA) none (@Option.rec zR (fun _ => zA) none (fun r' => @Bool.rec (fun _ => zA) none (@Option.rec (Option Value × xM) (fun _ => zA) none (fun a => @Prod.rec (Option Value) xM (fun _ => zA) (fun v M1 => ih r (pc + 3) L (xpush v rest) M1) a) (ih r' 0 (zqargs as 0) [] M)) (Nat.ble (zqcat as) r'.2.1)) (zqm zs e.2.1)) (Nat.ble (zqcat rest) 8 && xrecv e as M)) q) (zqpop e.2.2.1 [] st)
noncomputable def zq3 (r : zR) (e : xE) (st : List Value) (M : xM) : zA := @Option.rec (Option Value) (fun _ => zA) none (fun v => some (v, M)) (xend r.2.2 e st)
noncomputable def zqs (zs : List (List zR)) (bx : List (Int × Int)) (sa : List Value) (ih : zH) (r : zR) (pc : Nat) (L : xL) (st : List Value) (M : xM) : zA :=
  @Option.rec (zF ⊕ xE) (fun _ => zA) none (fun x => @Sum.rec zF xE (fun _ => zA) (fun g => zq1 ih r (g bx sa pc L st M)) (fun e => @Bool.rec (fun _ => zA) (zq3 r e st M) (zq2 zs ih r e pc L st M) (Nat.beq (xkind e) 1)) x) (zat r.1 pc)
noncomputable def zq (zs : List (List zR)) (bx : List (Int × Int)) (sa : List Value) (f : Nat) : zH := @Nat.rec (fun _ => zH) (fun _ _ _ _ _ => none) (fun _ ih r pc L st M => zqs zs bx sa ih r pc L st M) f
theorem zqm_eq (y : Nat) : zqm zms y = zmeth y := by
  unfold zqm zmeth
  rw [fnth_eq]
  cases h : xnth zms (y / 16) with
  | none => rfl
  | some l => exact fnth_eq _ _
theorem zq_eq (bx : List (Int × Int)) (sa : List Value) : ∀ (f : Nat) (r : zR) (pc : Nat) (L : xL) (st : List Value) (M : xM), zq zms bx sa f r pc L st M = zrun zmeth bx sa f r pc L st M
  | 0, _, _, _, _, _ => rfl
  | f + 1, r, pc, L, st, M => by
    have ih := zq_eq bx sa f
    show zqs zms bx sa (zq zms bx sa f) r pc L st M = _
    simp only [zrun]
    unfold zqs
    cases h : zat r.1 pc with
    | none => rfl
    | some x =>
      cases x with
      | inl g =>
        dsimp only
        unfold zq1
        cases g bx sa pc L st M with
        | none => rfl
        | some q => exact ih _ _ _ _ _
      | inr e =>
        dsimp only
        cases hk : Nat.beq (xkind e) 1 with
        | false =>
          have hne : xkind e ≠ 1 := fun q => by rw [q] at hk; cases hk
          show zq3 r e st M = _
          unfold zq3
          split
          · rename_i q; exact absurd q hne
          · cases xend r.2.2 e st with
            | none => rfl
            | some v => rfl
        | true =>
          rw [Nat.eq_of_beq_eq_true hk]
          show zq2 zms (zq zms bx sa f) r e pc L st M = _
          unfold zq2
          rw [zqpop_eq]
          cases xpop e.2.2.1 [] st with
          | none => rfl
          | some q =>
            obtain ⟨ar, rest⟩ := q
            dsimp only
            rw [zqcat8]
            cases (xcat8 rest && xrecv e ar M) with
            | false => rfl
            | true =>
              simp only [cond_true]
              rw [zqm_eq]
              cases zmeth e.2.1 with
              | none => rfl
              | some r' =>
                dsimp only
                rw [zqcat_eq]
                cases Nat.ble (xcats ar) r'.2.1 with
                | false => rfl
                | true =>
                  simp only [cond_true]
                  rw [ih, zqargs_eq]
                  cases zrun zmeth bx sa f r' 0 (lv_args 0 ar) [] M with
                  | none => rfl
                  | some a => exact ih _ _ _ _ _
