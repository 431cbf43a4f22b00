/-! STATES WITH FACTS -/
abbrev nS : Type := kS × List kF
abbrev nX : Type := Option (List (Nat × nS))
def nG (T : kT) (C : kQ) (sc : List Int32) (r : xR) (ρ0 : List Int) (pc : Nat) (x : nS) (Q : Option Value → xM → Prop) : Prop := ∀ σ L st B I J, kst (ρ0 ++ σ) x.1 L st I → kfs (ρ0 ++ σ) x.2 → kB T B → kI T C B I J → sw sc r pc L st (tMem B I J) Q
def nlift (D : List kF) (o : kX) : nX := match o with
  | some l => some (l.map fun q => (q.1, (q.2, D)))
  | none => none
section NL
variable {T : kT} {C : kQ} {sc : List Int32} {r : xR} {ρ0 : List Int} {pc : Nat} {s : kS} {D : List kF} {Q : Option Value → xM → Prop} {outs : List (Nat × nS)} {e : xE}
theorem nlift_ok (he : xat r.1 pc = some e) (hk : xkind e = 0) (h : nlift D (kstepA T e pc s) = some outs) (hg : ∀ q ∈ outs, nG T C sc r ρ0 q.1 q.2 Q) : nG T C sc r ρ0 pc (s, D) Q := by
  unfold nlift at h
  split at h
  · rename_i l hl
    cases h
    intro σ L st B I J hs hD hB hI
    refine kstepA_ok (ρ0 := ρ0 ++ σ) he hk hl (fun q hq => ?_) [] L st B I J (by simpa using hs) hB hI
    intro σ2 L2 st2 B2 I2 J2 h1 h2 h3
    rw [List.append_assoc] at h1
    refine hg (q.1, (q.2, D)) (List.mem_map.mpr ⟨q, hq, rfl⟩) (σ ++ σ2) L2 st2 B2 I2 J2 h1 ?_ h2 h3
    rw [← List.append_assoc]
    exact kfs_ap hD
  · cases h
/-- a step with two ints: what is known of it then -/
def nbok (g : Int32 → Int32 → Int32) (F : kE → kV → kV → Option (kE × kV × List kF)) : Prop := ∀ E x y E' v D', F E x y = some (E', v, D') → v.1 = 0 ∧ ∀ ρ p q, kin ρ E → knum ρ x (Int32.toInt p) → knum ρ y (Int32.toInt q) → ∃ σ, kin (ρ ++ σ) E' ∧ knum (ρ ++ σ) v (g p q).toInt ∧ kfs (ρ ++ σ) D'
def nb2 (F : kE → kV → kV → Option (kE × kV × List kF)) (pc : Nat) (x : nS) : nX := match x.1.2.2.1 with
  | y :: z :: S => bif Nat.beq z.1 0 && Nat.beq y.1 0 then (match F x.1.1 z y with
    | some q => some [(pc + 1, ((q.1, x.1.2.1, q.2.1 :: S, x.1.2.2.2), q.2.2 ++ x.2))]
    | none => none) else none
  | _ => none
theorem kfs_app {ρ : List Int} {D D' : List kF} (h : kfs ρ D) (h' : kfs ρ D') : kfs ρ (D ++ D') := fun f hf => by
  rcases List.mem_append.mp hf with hf | hf
  · exact h f hf
  · exact h' f hf
theorem nb2_ok {g : Int32 → Int32 → Int32} {F : kE → kV → kV → Option (kE × kV × List kF)} {x : nS} (hF : nbok g F) (he : xat r.1 pc = some e) (hk : xkind e = 0) (hx : ∀ L st M, x1 xty xdf sc e pc L st M = xii g pc L st M) (h : nb2 F pc x = some outs) (hg : ∀ q ∈ outs, nG T C sc r ρ0 q.1 q.2 Q) : nG T C sc r ρ0 pc x Q := by
  obtain ⟨⟨E, L, S, O⟩, D⟩ := x
  unfold nb2 at h
  dsimp only at h
  split at h
  · rename_i y z S'
    cases hb : (Nat.beq z.1 0 && Nat.beq y.1 0) with
    | false => rw [hb] at h; cases h
    | true =>
      rw [hb] at h
      simp only [cond_true] at h
      rw [Bool.and_eq_true] at hb
      split at h
      · rename_i q hq
        obtain ⟨E', v, D'⟩ := q
        cases h
        obtain ⟨tv, hF2⟩ := hF _ _ _ _ _ _ hq
        intro σ L' st B I J ⟨h1, h2, h3, h4⟩ hD hB hI
        obtain ⟨w1, st1, rfl, g1, w2, st2, rfl, g2, h3⟩ := h3
        obtain ⟨t1, j1, c1⟩ := z
        obtain ⟨t2, j2, c2⟩ := y
        have e1 := Nat.eq_of_beq_eq_true hb.1
        have e2 := Nat.eq_of_beq_eq_true hb.2
        dsimp only at e1 e2
        subst e1 e2
        obtain ⟨q, rfl, hq⟩ := id g1
        obtain ⟨p, rfl, hp⟩ := id g2
        obtain ⟨τ, k1, k2, k3⟩ := hF2 _ p q h1 hp hq
        obtain ⟨tv', vi, vc⟩ := v
        dsimp only at tv
        subst tv
        refine sw_0 he hk ?_ (hg _ List.mem_cons_self (σ ++ τ) L' (.int (g p q) :: st2) B I J ⟨?_, ?_, ?_, ?_⟩ ?_ hB hI)
        · rw [hx]; rfl
        · rw [← List.append_assoc]; exact k1
        · rw [← List.append_assoc]; exact kvl_ap h2
        · rw [← List.append_assoc]; exact ⟨_, _, rfl, ⟨_, rfl, k2⟩, kvs_ap h3⟩
        · rw [← List.append_assoc]; exact kov_ap h4
        · rw [← List.append_assoc]; exact kfs_app k3 (kfs_ap hD)
      · cases h
  · cases h
/-- facts of a compare that holds -/
def ncf (c : ClassFile.Cond) (x y : kV) : List kF := bif Nat.beq x.2.1 0 || Nat.beq y.2.1 0 then [] else match c with
  | .eq => [([(1, x.2.1), (-1, y.2.1)], y.2.2 - x.2.2), ([(1, y.2.1), (-1, x.2.1)], x.2.2 - y.2.2)]
  | .ne => []
  | .lt => [([(1, x.2.1), (-1, y.2.1)], y.2.2 - x.2.2 - 1)]
  | .le => [([(1, x.2.1), (-1, y.2.1)], y.2.2 - x.2.2)]
  | .gt => [([(1, y.2.1), (-1, x.2.1)], x.2.2 - y.2.2 - 1)]
  | .ge => [([(1, y.2.1), (-1, x.2.1)], x.2.2 - y.2.2)]
theorem kfo_two {ρ : List Int} {x y : kV} {p q d : Int} (hx : knum ρ x p) (hy : knum ρ y q) (hd : p - x.2.2 - (q - y.2.2) ≤ d) : kfo ρ ([(1, x.2.1), (-1, y.2.1)], d) := by
  obtain ⟨z, h1, h2⟩ := hx
  obtain ⟨w, h3, h4⟩ := hy
  exact ⟨_, kls_two h1 h3, by dsimp only; omega⟩
theorem ncf_ok {ρ : List Int} {c : ClassFile.Cond} {x y : kV} {p q : Int32} (hx : knum ρ x p.toInt) (hy : knum ρ y q.toInt) (hc : xcmp c p q = true) : kfs ρ (ncf c x y) := by
  unfold ncf
  cases hb : (Nat.beq x.2.1 0 || Nat.beq y.2.1 0) with
  | true => intro f hf; cases hf
  | false =>
    simp only [cond_false]
    cases c
    · rw [tc_eq] at hc
      have := of_decide_eq_true hc
      exact kfs_cons (kfo_two hx hy (by omega)) (kfs_cons (kfo_two hy hx (by omega)) (fun f hf => by cases hf))
    · intro f hf; cases hf
    · rw [tc_lt] at hc
      have := of_decide_eq_true hc
      exact kfs_cons (kfo_two hx hy (by omega)) (fun f hf => by cases hf)
    · rw [tc_ge] at hc
      have := of_decide_eq_true hc
      exact kfs_cons (kfo_two hy hx (by omega)) (fun f hf => by cases hf)
    · rw [tc_gt] at hc
      have := of_decide_eq_true hc
      exact kfs_cons (kfo_two hy hx (by omega)) (fun f hf => by cases hf)
    · rw [tc_le] at hc
      have := of_decide_eq_true hc
      exact kfs_cons (kfo_two hx hy (by omega)) (fun f hf => by cases hf)
def nopt (o : Option kE) (pc : Nat) (L : kL) (S : List kV) (O : kO) (D : List kF) : List (Nat × nS) := match o with
  | some E => [(pc, ((E, L, S, O), D))]
  | none => []
theorem nopt_in {o : Option kE} {pc : Nat} {L : kL} {S : List kV} {O : kO} {D : List kF} {E : kE} (h : o = some E) : (pc, ((E, L, S, O), D)) ∈ nopt o pc L S O D := by
  subst h
  exact List.mem_cons_self
def nbr2 (c : ClassFile.Cond) (pc t : Nat) (x : nS) : nX := match x.1.2.2.1 with
  | b :: a :: S => bif Nat.beq a.1 0 && Nat.beq b.1 0 then some (nopt (kcmp c x.1.1 a b) t x.1.2.1 S x.1.2.2.2 (ncf c a b ++ x.2) ++ nopt (kcmp (kneg c) x.1.1 a b) (pc + 3) x.1.2.1 S x.1.2.2.2 (ncf (kneg c) a b ++ x.2)) else none
  | _ => none
theorem nbr2_ok {c : ClassFile.Cond} {off : Int} {t : Nat} {x : nS} (he : xat r.1 pc = some (.if_icmp c off, t, 0, 0)) (h : nbr2 c pc t x = some outs) (hg : ∀ q ∈ outs, nG T C sc r ρ0 q.1 q.2 Q) : nG T C sc r ρ0 pc x Q := by
  obtain ⟨⟨E, L, S, O⟩, D⟩ := x
  unfold nbr2 at h
  dsimp only at h
  split at h
  · rename_i b a S'
    cases hb : (Nat.beq a.1 0 && Nat.beq b.1 0) with
    | false => rw [hb] at h; cases h
    | true =>
      rw [hb] at h
      cases h
      rw [Bool.and_eq_true] at hb
      intro σ L' st B I J ⟨h1, h2, h3, h4⟩ hD hB hI
      obtain ⟨w1, st1, rfl, g1, w2, st2, rfl, g2, h3⟩ := h3
      obtain ⟨t1, j1, c1⟩ := a
      obtain ⟨t2, j2, c2⟩ := b
      have e1 := Nat.eq_of_beq_eq_true hb.1
      have e2 := Nat.eq_of_beq_eq_true hb.2
      dsimp only at e1 e2
      subst e1 e2
      obtain ⟨q, rfl, hq⟩ := id g1
      obtain ⟨p, rfl, hp⟩ := id g2
      refine te_ic he (fun hc => ?_) (fun hc => ?_)
      · obtain ⟨E', e1, e2⟩ := kcmp_ok (x := (0, j1, c1)) (y := (0, j2, c2)) h1 hp hq hc
        exact hg _ (List.mem_append_left _ (nopt_in e1)) σ L' st2 B I J ⟨e2, h2, h3, h4⟩ (kfs_app (ncf_ok hp hq hc) hD) hB hI
      · obtain ⟨E', e1, e2⟩ := kcmp_ok (x := (0, j1, c1)) (y := (0, j2, c2)) h1 hp hq (xcmp_neg hc)
        exact hg _ (List.mem_append_right _ (nopt_in e1)) σ L' st2 B I J ⟨e2, h2, h3, h4⟩ (kfs_app (ncf_ok hp hq (xcmp_neg hc)) hD) hB hI
  · cases h
end NL
