/-! WHAT THE FACTS RULE OUT; A BRANCH THAT THEY DECIDE -/
def nmen (i j : Nat) (f : kF) : Bool := f.1.any (fun q => !Nat.beq q.2 0 && (Nat.beq q.2 i || Nat.beq q.2 j))
/-- the facts can't be: by one that speaks of the ids i, j, and at most one more -/
def nctr (i j : Nat) (x : nS) : Bool := (x.2.filter (nmen i j)).any (fun g => kdir x.1.1 (kngl g.1) (-1 - g.2) || x.2.any (fun h => kdir x.1.1 (kngl g.1 ++ kngl h.1) (-1 - g.2 - h.2)))
theorem nctr_kent {i j : Nat} {x : nS} (h : nctr i j x = true) : kent x.1.1 x.2 ([], -1) = true := by
  obtain ⟨g, hg, h1⟩ := List.any_eq_true.mp h
  have hg := (List.mem_filter.mp hg).1
  unfold kent
  rw [Bool.or_eq_true, Bool.or_eq_true]
  right
  rw [Bool.or_eq_true] at h1
  rcases h1 with h1 | h1
  · exact Or.inl (List.any_eq_true.mpr ⟨g, hg, h1⟩)
  · exact Or.inr (List.any_eq_true.mpr ⟨g, hg, h1⟩)
theorem nctr_ok {T : kT} {C : kQ} {sc : List Int32} {r : xR} {ρ0 : List Int} {pc i j : Nat} {x : nS} {Q : Option Value → xM → Prop} (h : nctr i j x = true) : nG T C sc r ρ0 pc x Q := by
  intro σ L st B I J hs hD hB hI
  obtain ⟨s, h1, h2⟩ := kent_ok hs.1 hD (nctr_kent h)
  simp only [kls, Option.some.injEq] at h1
  dsimp only at h2
  omega
/-- the ids of the two numbers that are compared -/
def ntop (x : nS) : Nat × Nat := match x.1.2.2.1 with
  | b :: a :: _ => (a.2.1, b.2.1)
  | [b] => (b.2.1, 0)
  | [] => (0, 0)
def nveq (x : nS) : Bool := match x.1.2.2.1 with
  | b :: a :: _ => (Nat.beq a.1 0 && Nat.beq b.1 0) && (kent x.1.1 x.2 ([(1, a.2.1), (-1, b.2.1)], b.2.2 - a.2.2) && kent x.1.1 x.2 ([(1, b.2.1), (-1, a.2.1)], a.2.2 - b.2.2))
  | _ => false
def nvie (e : xE) : Option Nat := match e with
  | (.if_icmp .eq _, t, 0, 0) => some t
  | _ => none
def nvfl (i j : Nat) (o : nX) : nX := match o with
  | some l => some (l.filter (fun q => !nctr i j q.2))
  | none => none
/-- a branch: ways that the facts rule out are left out; where two numbers are alike by facts, the way of 'alike' alone -/
def nvbX (T : kT) (P : Nat → Nat → Bool) : Nat → Nat → nS → nX := fun y pc x => bif P y pc then (match xmeth y with
  | some r => (match xat r.1 pc with
    | some e => bif Nat.beq (xkind e) 0 then (match nvie e with
      | some t => bif nveq x then some [(t, ((x.1.1, x.1.2.1, x.1.2.2.1.drop 2, x.1.2.2.2), x.2))] else nvfl (ntop x).1 (ntop x).2 (nstep T e pc x)
      | none => nvfl (ntop x).1 (ntop x).2 (nstep T e pc x)) else none
    | none => none)
  | none => none) else none
theorem nvfl_ok {T : kT} {C : kQ} {sc : List Int32} {r : xR} {ρ0 : List Int} {pc : Nat} {x : nS} {Q : Option Value → xM → Prop} {e : xE} {i j : Nat} {outs : List (Nat × nS)} (he : xat r.1 pc = some e) (hk : xkind e = 0) (h : nvfl i j (nstep T e pc x) = some outs) (hg : ∀ q ∈ outs, nG T C sc r ρ0 q.1 q.2 Q) : nG T C sc r ρ0 pc x Q := by
  unfold nvfl at h
  split at h
  · rename_i l hl
    cases h
    refine nstep_ok he hk l hl (fun q hq => ?_)
    cases hc : nctr i j q.2 with
    | true => exact nctr_ok hc
    | false => exact hg q (List.mem_filter.mpr ⟨hq, by rw [hc]; rfl⟩)
  · cases h
theorem knum_le {ρ : List Int} {E : kE} {D : List kF} {x y : kV} {p q : Int} (h : kin ρ E) (hD : kfs ρ D) (hx : knum ρ x p) (hy : knum ρ y q) (hk : kent E D ([(1, x.2.1), (-1, y.2.1)], y.2.2 - x.2.2) = true) : p ≤ q := by
  obtain ⟨s, h1, h2⟩ := kent_ok h hD hk
  obtain ⟨z, x1, x2⟩ := hx
  obtain ⟨w, y1, y2⟩ := hy
  rw [kls_two x1 y1] at h1
  cases h1
  dsimp only at h2
  omega
theorem nvbX_ok {T : kT} {C : kQ} {sc : List Int32} {P : Nat → Nat → Bool} : nXs T C sc (nvbX T P) := by
  intro y r pc x outs ρ0 Q hy h hg
  unfold nvbX at h
  replace h := (bif_n h).2
  rw [hy] at h
  dsimp only at h
  split at h
  · rename_i e he
    have hk := (bif_n h).1
    replace h := (bif_n h).2
    have hk := Nat.eq_of_beq_eq_true hk
    split at h
    · rename_i t ht
      cases hv : nveq x with
      | false => rw [hv] at h; exact nvfl_ok he hk h hg
      | true =>
        rw [hv] at h
        cases h
        unfold nvie at ht
        split at ht
        · rename_i off t0
          cases ht
          obtain ⟨⟨E, L, S, O⟩, D⟩ := x
          unfold nveq at hv
          dsimp only at hv
          split at hv
          · rename_i b a S'
            simp only [Bool.and_eq_true] at hv
            intro σ L' st B I J ⟨h1, h2, h3, h4⟩ hD hB hI
            obtain ⟨w1, st1, rfl, g1, w2, st2, rfl, g2, h3⟩ := h3
            obtain ⟨t1, j1, c1⟩ := a
            obtain ⟨t2, j2, c2⟩ := b
            have e1 := Nat.eq_of_beq_eq_true hv.1.1
            have e2 := Nat.eq_of_beq_eq_true hv.1.2
            dsimp only at e1 e2
            subst e1 e2
            obtain ⟨q, rfl, hq⟩ := id g1
            obtain ⟨p, rfl, hp⟩ := id g2
            have l1 := knum_le h1 hD hp hq hv.2.1
            have l2 := knum_le h1 hD hq hp hv.2.2
            refine te_ic he (fun hc => ?_) (fun hc => ?_)
            · exact hg _ List.mem_cons_self σ L' st2 B I J ⟨h1, h2, h3, h4⟩ hD hB hI
            · rw [tc_eq] at hc
              have := of_decide_eq_false hc
              omega
          · cases hv
        · cases ht
    · exact nvfl_ok he hk h hg
  · cases h
/-! THE LESS OF TWO, BY TWO WAYS -/
def nmnX (P : Nat → Nat → Bool) : Nat → Nat → nS → nX := fun y pc x => bif P y pc then (match xmeth y with
  | some r => (match xat r.1 pc with
    | some (.invokestatic _, 5003, _, _) => (match x.1.2.2.1 with
      | b :: a :: S => bif (Nat.beq a.1 0 && Nat.beq b.1 0) && Nat.ble (kcs S) 8 then some (nopt (kcmp .le x.1.1 a b) (pc + 3) x.1.2.1 (a :: S) x.1.2.2.2 (ncf .le a b ++ x.2) ++ nopt (kcmp .lt x.1.1 b a) (pc + 3) x.1.2.1 (b :: S) x.1.2.2.2 (ncf .lt b a ++ x.2)) else none
      | _ => none)
    | _ => none)
  | none => none) else none
theorem nmnX_ok {T : kT} {C : kQ} {sc : List Int32} {P : Nat → Nat → Bool} : nXs T C sc (nmnX P) := by
  intro y r pc x outs ρ0 Q hy h hg
  unfold nmnX at h
  replace h := (bif_n h).2
  rw [hy] at h
  dsimp only at h
  split at h
  · rename_i ix eb ez he
    obtain ⟨⟨E, L, S, O⟩, D⟩ := x
    dsimp only at h
    split at h
    · rename_i b a S'
      have hb := (bif_n h).1
      replace h := (bif_n h).2
      cases h
      simp only [Bool.and_eq_true] at hb
      intro σ L' st B I J ⟨h1, h2, h3, h4⟩ hD hB hI
      obtain ⟨w1, st1, rfl, g1, w2, st2, rfl, g2, h3⟩ := h3
      obtain ⟨t1, j1, c1⟩ := a
      obtain ⟨t2, j2, c2⟩ := b
      have e1 := Nat.eq_of_beq_eq_true hb.1.1
      have e2 := Nat.eq_of_beq_eq_true hb.1.2
      dsimp only at e1 e2
      subst e1 e2
      obtain ⟨q, rfl, hq⟩ := id g1
      obtain ⟨p, rfl, hp⟩ := id g2
      have hx : s1 xty xdf sc (.invokestatic ix, 5003, eb, ez) pc L' (.int q :: .int p :: st2) (tMem B I J) = some (pc + 3, L', .int (if q < p then q else p) :: st2, tMem B I J) := by
        refine s1_of ?_
        show (bif xcat8 st2 then some (pc + 3, L', Value.int (if q < p then q else p) :: st2, tMem B I J) else none) = _
        rw [kcat8 h3 hb.2]
        rfl
      by_cases hlt : q < p
      · have hl := Int32.lt_iff_toInt_lt.mp hlt
        have hcm : xcmp .lt q p = true := by rw [tc_lt]; exact decide_eq_true hl
        obtain ⟨E', k1, k2⟩ := kcmp_ok (x := (0, j2, c2)) (y := (0, j1, c1)) h1 hq hp hcm
        rw [if_pos hlt] at hx
        exact sw_x he rfl hx (hg _ (List.mem_append_right _ (nopt_in k1)) σ L' _ B I J ⟨k2, h2, ⟨_, _, rfl, g1, h3⟩, h4⟩ (kfs_app (ncf_ok hq hp hcm) hD) hB hI)
      · have hl : ¬ q.toInt < p.toInt := fun z => hlt (Int32.lt_iff_toInt_lt.mpr z)
        have hcm : xcmp .le p q = true := by rw [tc_le]; exact decide_eq_true (by omega)
        obtain ⟨E', k1, k2⟩ := kcmp_ok (x := (0, j1, c1)) (y := (0, j2, c2)) h1 hp hq hcm
        rw [if_neg hlt] at hx
        exact sw_x he rfl hx (hg _ (List.mem_append_left _ (nopt_in k1)) σ L' _ B I J ⟨k2, h2, ⟨_, _, rfl, g2, h3⟩, h4⟩ (kfs_app (ncf_ok hp hq hcm) hD) hB hI)
    · cases h
  · cases h
/-! NOT ALIKE: LESS OR MORE -/
def nneX (P : Nat → Nat → Bool) : Nat → Nat → nS → nX := fun y pc x => bif P y pc then (match xmeth y with
  | some r => (match xat r.1 pc with
    | some e => (match nvie e with
      | some t => (match x.1.2.2.1 with
        | b :: a :: S => bif Nat.beq a.1 0 && Nat.beq b.1 0 then some (nopt (kcmp .eq x.1.1 a b) t x.1.2.1 S x.1.2.2.2 (ncf .eq a b ++ x.2) ++ (nopt (kcmp .lt x.1.1 a b) (pc + 3) x.1.2.1 S x.1.2.2.2 (ncf .lt a b ++ x.2) ++ nopt (kcmp .gt x.1.1 a b) (pc + 3) x.1.2.1 S x.1.2.2.2 (ncf .gt a b ++ x.2))) else none
        | _ => none)
      | none => none)
    | none => none)
  | none => none) else none
theorem nneX_ok {T : kT} {C : kQ} {sc : List Int32} {P : Nat → Nat → Bool} : nXs T C sc (nneX P) := by
  intro y r pc x outs ρ0 Q hy h hg
  unfold nneX at h
  replace h := (bif_n h).2
  rw [hy] at h
  dsimp only at h
  split at h
  · rename_i e he
    split at h
    · rename_i t ht
      unfold nvie at ht
      split at ht
      · rename_i off t0
        cases ht
        obtain ⟨⟨E, L, S, O⟩, D⟩ := x
        dsimp only at h
        split at h
        · rename_i b a S'
          have hb := (bif_n h).1
          replace h := (bif_n h).2
          cases h
          simp only [Bool.and_eq_true] at hb
          intro σ L' st B I J ⟨h1, h2, h3, h4⟩ hD hB hI
          obtain ⟨w1, st1, rfl, g1, w2, st2, rfl, g2, h3⟩ := h3
          obtain ⟨t1, j1, c1⟩ := a
          obtain ⟨t2, j2, c2⟩ := b
          have e1 := Nat.eq_of_beq_eq_true hb.1
          have e2 := Nat.eq_of_beq_eq_true hb.2
          dsimp only at e1 e2
          subst e1 e2
          obtain ⟨q, rfl, hq⟩ := id g1
          obtain ⟨p, rfl, hp⟩ := id g2
          refine te_ic he (fun hc => ?_) (fun hc => ?_)
          · obtain ⟨E', k1, k2⟩ := kcmp_ok (x := (0, j1, c1)) (y := (0, j2, c2)) h1 hp hq hc
            exact hg _ (List.mem_append_left _ (nopt_in k1)) σ L' st2 B I J ⟨k2, h2, h3, h4⟩ (kfs_app (ncf_ok hp hq hc) hD) hB hI
          · rw [tc_eq] at hc
            have hne := of_decide_eq_false hc
            rcases Int.lt_or_gt_of_ne hne with hl | hl
            · have hcm : xcmp .lt p q = true := by rw [tc_lt]; exact decide_eq_true hl
              obtain ⟨E', k1, k2⟩ := kcmp_ok (x := (0, j1, c1)) (y := (0, j2, c2)) h1 hp hq hcm
              exact hg _ (List.mem_append_right _ (List.mem_append_left _ (nopt_in k1))) σ L' st2 B I J ⟨k2, h2, h3, h4⟩ (kfs_app (ncf_ok hp hq hcm) hD) hB hI
            · have hcm : xcmp .gt p q = true := by rw [tc_gt]; exact decide_eq_true hl
              obtain ⟨E', k1, k2⟩ := kcmp_ok (x := (0, j1, c1)) (y := (0, j2, c2)) h1 hp hq hcm
              exact hg _ (List.mem_append_right _ (List.mem_append_right _ (nopt_in k1))) σ L' st2 B I J ⟨k2, h2, h3, h4⟩ (kfs_app (ncf_ok hp hq hcm) hD) hB hI
        · cases h
      · cases ht
    · cases h
  · cases h
/-! FACTS ASKED FOR BY PLACES THAT LOCALS TELL -/
/-- source (6, object, local): the slot of the object that the local tells -/
def nhk (s : kS) (w : Nat × Nat × Nat) : Nat × Nat × Nat := match w.1 with
  | 6 => (match kfind s.2.1 w.2.2 with
    | some v => (2, w.2.1, v.2.2.toNat)
    | none => w)
  | _ => w
def nhs (s : kS) (t : nH) : nH := (t.1.map (fun q => (q.1, nhk s q.2)), t.2)
def nshare (f g : kF) : Bool := f.1.any (fun p => !Nat.beq p.2 0 && g.1.any (fun q => Nat.beq p.2 q.2))
/-- as kent, but that one of the two facts shares an id with f -/
def kentF (E : kE) (D : List kF) (f : kF) : Bool := kdir E f.1 f.2 || (D.filter (nshare f)).any (fun g => kdir E (f.1 ++ kngl g.1) (f.2 - g.2) || D.any (fun h => kdir E (f.1 ++ (kngl g.1 ++ kngl h.1)) (f.2 - g.2 - h.2)))
theorem kentF_kent {E : kE} {D : List kF} {f : kF} (h : kentF E D f = true) : kent E D f = true := by
  unfold kentF at h
  unfold kent
  rw [Bool.or_eq_true] at h
  rw [Bool.or_eq_true, Bool.or_eq_true]
  rcases h with h | h
  · exact Or.inl h
  · right
    obtain ⟨g, hg, h1⟩ := List.any_eq_true.mp h
    have hg := (List.mem_filter.mp hg).1
    rw [Bool.or_eq_true] at h1
    rcases h1 with h1 | h1
    · exact Or.inl (List.any_eq_true.mpr ⟨g, hg, h1⟩)
    · exact Or.inr (List.any_eq_true.mpr ⟨g, hg, h1⟩)
/-- the state with what follows put to it, and if there was any -/
def nhadd : List nH → nS → Option (nS × Bool)
  | [], x => some (x, false)
  | t :: l, x => match nres x.1 (nhs x.1 t).1 (nhs x.1 t).2 with
    | some f => bif !decide (f ∈ x.2) && kentF x.1.1 x.2 f then (match nsing f x.1.1 with
      | some E => (match nhadd l ((E, x.1.2), f :: x.2) with
        | some q => some (q.1, true)
        | none => none)
      | none => none) else nhadd l x
    | none => nhadd l x
theorem nhadd_ok {ρ : List Int} : ∀ {l : List nH} {x : nS}, kin ρ x.1.1 → kfs ρ x.2 → ∃ q, nhadd l x = some q ∧ kin ρ q.1.1.1 ∧ kfs ρ q.1.2 ∧ q.1.1.2 = x.1.2
  | [], x, h, hD => ⟨_, rfl, h, hD, rfl⟩
  | t :: l, x, h, hD => by
    simp only [nhadd]
    split
    · rename_i f hf
      cases hk : (!decide (f ∈ x.2) && kentF x.1.1 x.2 f) with
      | false => exact nhadd_ok h hD
      | true =>
        simp only [cond_true]
        rw [Bool.and_eq_true] at hk
        have hf := kent_ok h hD (kentF_kent hk.2)
        obtain ⟨E', e1, e2⟩ := nsing_ok h hf
        rw [e1]
        obtain ⟨q, q1, q2, q3, q4⟩ := nhadd_ok (l := l) (x := ((E', x.1.2), f :: x.2)) e2 (kfs_cons hf hD)
        refine ⟨(q.1, true), ?_, q2, q3, q4⟩
        dsimp only
        rw [q1]
    · exact nhadd_ok h hD
def nhxX (P : Nat → Nat → List nH) : Nat → Nat → nS → nX := fun y pc x => match P y pc with
  | [] => none
  | l => (match nhadd l x with
    | some q => bif q.2 then some [(pc, q.1)] else none
    | none => some [])
theorem nhxX_ok {T : kT} {C : kQ} {sc : List Int32} {P : Nat → Nat → List nH} : nXs T C sc (nhxX P) := by
  intro y r pc x outs ρ0 Q hy h hg
  intro σ L st B I J hs hD hB hI
  unfold nhxX at h
  split at h
  · cases h
  · obtain ⟨q, q1, q2, q3, q4⟩ := nhadd_ok (l := P y pc) hs.1 hD
    rw [q1] at h
    dsimp only at h
    replace h := (bif_n h).2
    cases h
    obtain ⟨⟨⟨E', s'⟩, D'⟩, bb⟩ := q
    dsimp only at q2 q3 q4
    subst q4
    exact hg _ List.mem_cons_self σ L st B I J ⟨q2, hs.2⟩ q3 hB hI
/-! FACTS DIVIDED BY FOUR -/
def nfr (f : kF) : Bool := f.1.all (fun q => decide (q.1 % 4 = 0))
def nfq (f : kF) : kF := (f.1.map (fun q => (q.1 / 4, q.2)), f.2 / 4)
def nrdX (P : Nat → Nat → Bool) : Nat → Nat → nS → nX := fun y pc x => bif P y pc then (match ((x.2.filter nfr).map nfq).filter (fun f => !decide (f ∈ x.2)) with
  | [] => none
  | f :: F => some [(pc, (x.1, (f :: F) ++ x.2))]) else none
theorem kls_q4 {ρ : List Int} : ∀ {l : List (Int × Nat)} {s : Int}, l.all (fun q => decide (q.1 % 4 = 0)) = true → kls ρ l = some s → ∃ t, kls ρ (l.map (fun q => (q.1 / 4, q.2))) = some t ∧ s = 4 * t
  | [], s, _, h => by cases h; exact ⟨0, rfl, rfl⟩
  | q :: l, s, ha, h => by
    rw [List.all_cons, Bool.and_eq_true] at ha
    simp only [kls] at h
    cases hz : xnth ρ q.2 with
    | none => rw [hz] at h; cases h
    | some z =>
      rw [hz] at h
      dsimp only at h
      cases hs : kls ρ l with
      | none => rw [hs] at h; cases h
      | some u =>
        rw [hs] at h
        cases h
        obtain ⟨t, t1, t2⟩ := kls_q4 ha.2 hs
        refine ⟨q.1 / 4 * z + t, ?_, ?_⟩
        · simp only [List.map_cons, kls, hz, t1]
        · obtain ⟨m, hm⟩ := Int.dvd_of_emod_eq_zero (of_decide_eq_true ha.1)
          rw [hm, Int.mul_ediv_cancel_left m (by decide), t2, Int.mul_assoc]
          omega
theorem nfq_ok {ρ : List Int} {f : kF} (h : nfr f = true) (hf : kfo ρ f) : kfo ρ (nfq f) := by
  obtain ⟨s, h1, h2⟩ := hf
  obtain ⟨t, t1, t2⟩ := kls_q4 h h1
  refine ⟨t, t1, ?_⟩
  show t ≤ f.2 / 4
  omega
theorem nrdX_ok {T : kT} {C : kQ} {sc : List Int32} {P : Nat → Nat → Bool} : nXs T C sc (nrdX P) := by
  intro y r pc x outs ρ0 Q hy h hg
  unfold nrdX at h
  replace h := (bif_n h).2
  split at h
  · cases h
  · rename_i f F hF
    cases h
    intro σ L st B I J hs hD hB hI
    refine hg _ List.mem_cons_self σ L st B I J hs (kfs_app (fun g hg2 => ?_) hD) hB hI
    rw [← hF] at hg2
    obtain ⟨g1, hg1, rfl⟩ := List.mem_map.mp (List.mem_filter.mp hg2).1
    obtain ⟨a1, a2⟩ := List.mem_filter.mp hg1
    exact nfq_ok a2 (hD g1 a1)
/-! THE LAW'S LOOP, WITH CELLS THAT ARE KNOWN AT FIRST -/
def lwchk2 (P : List ((Nat × Nat) × Int)) (ml : nMl) (K : List nC) (W : nOr) (f : Nat) : Bool := match xmeth 356 with
  | some r => (match nexec (ktT ml) ml K W f [] 356 r 18 (([(0, 0), (0, 999)], [(3, (0, 0, 0)), (2, (2, 185, 0)), (1, (2, 0, 0)), (0, (3, 0, 0))], [], ((186, 0, 5), (0, 1, 0)) :: P.map (fun q => ((q.1.1, 0, (q.1.2 : Int)), (0, 0, q.2)))), []) with
    | some outs => outs.all (fun q => match q.1.2.1 with
      | some v => Nat.beq v.1 0 && (match kiv q.1.1 v with
        | some b => decide (b = (1, 1))
        | none => false)
      | none => false)
    | none => false)
  | none => false
theorem lwchk2_ok {P : List ((Nat × Nat) × Int)} {sc : List Int32} {ml : nMl} {K : List nC} {W : nOr} {f : Nat} (hK : ∀ c ∈ K, nCon (ktN sc) sc c) (hX : ∀ Fr, nFr ml Fr → nXs (ktT ml) (nQ (ktN sc) Fr) sc W.1) (h : lwchk2 P ml K W f = true) {r : xR} (hr : xmeth 356 = some r) {B : xM} {I : tI} {J : tJ} (hO : nOk (ktN sc) B I) (h5 : (I 186 5).toInt ≤ 999) (hP : ∀ q ∈ P, (I q.1.1 q.1.2).toInt = q.2) : sw sc r 18 [(3, .int 0), (2, .ref 185), (1, .ref 0), (0, .retAddr 0)] [] (tMem B I J) (fun v M' => v = some (.int 1) ∧ ∃ B' I' J', M' = tMem B' I' J' ∧ kSz B B') := by
  unfold lwchk2 at h
  rw [hr] at h
  dsimp only at h
  split at h
  · rename_i outs ho
    have hF : nFr ml (fun B' _ _ => kSz B B') := fun _ _ _ _ _ _ h1 h2 => ⟨h2.2.2.1.trans h1.1, h2.2.2.2.trans h1.2⟩
    have b5 := (hO.2.1 186 (20, 3972) 5 rfl (by decide) rfl).1
    have b5 : 0 ≤ (I 186 5).toInt := b5
    refine nexec_ok (t := ktN sc) hF hK (hX _ hF) f [] 356 r 18 _ outs hr ho [0, (I 186 5).toInt] _ (fun v M' hp => ?_) (fun a ha => by cases ha) [] _ [] B I J ⟨?_, ?_, rfl, ?_⟩ (fun f hf => by cases hf) hO.1 ⟨hO.2.1, ⟨hO.2.2, rfl, rfl⟩, nLaw ktN_cl hF⟩
    · obtain ⟨q, hq, σ, B', I', J', e, hB', hI', k1, k2, kD, k3⟩ := hp
      have hh := List.all_eq_true.mp h q hq
      split at hh
      · rename_i u hu
        rw [hu] at k3
        obtain ⟨w, rfl, hw⟩ := k3
        rw [Bool.and_eq_true] at hh
        obtain ⟨y, rfl, hyn⟩ := kv_int hw hh.1
        have hb := hh.2
        split at hb
        · rename_i b hbv
          have := kiv_in k1 hyn hbv
          rw [of_decide_eq_true hb] at this
          dsimp only at this
          have ey : y = 1 := i32_eq (by have e : (1 : Int32).toInt = 1 := rfl; omega)
          subst ey
          exact ⟨rfl, B', I', J', e, hI'.2.1.2⟩
        · cases hb
      · cases hh
    · exact ⟨⟨Int.le_refl _, Int.le_refl _⟩, ⟨b5, h5⟩, trivial⟩
    · intro j v hv
      simp only [kfind] at hv
      cases h3 : Nat.beq 3 j with
      | true => rw [h3] at hv; cases hv; have := Nat.eq_of_beq_eq_true h3; subst this; exact ⟨_, rfl, ⟨0, rfl, ⟨0, rfl, rfl⟩⟩⟩
      | false =>
        rw [h3] at hv
        cases h2 : Nat.beq 2 j with
        | true => rw [h2] at hv; cases hv; have := Nat.eq_of_beq_eq_true h2; subst this; exact ⟨_, rfl, rfl⟩
        | false =>
          rw [h2] at hv
          cases h1 : Nat.beq 1 j with
          | true => rw [h1] at hv; cases hv; have := Nat.eq_of_beq_eq_true h1; subst this; exact ⟨_, rfl, rfl⟩
          | false =>
            rw [h1] at hv
            cases h0 : Nat.beq 0 j with
            | true => rw [h0] at hv; cases hv; have := Nat.eq_of_beq_eq_true h0; subst this; exact ⟨_, rfl, rfl⟩
            | false => rw [h0] at hv; cases hv
    · intro q hq
      rcases List.mem_cons.mp hq with rfl | hq
      · exact ⟨5, ⟨0, rfl, rfl⟩, ⟨_, rfl, by simp⟩⟩
      · obtain ⟨p, hp, rfl⟩ := List.mem_map.mp hq
        refine ⟨p.1.2, ⟨0, rfl, by simp⟩, ⟨0, rfl, ?_⟩⟩
        have := hP p hp
        dsimp only
        omega
  · cases h
