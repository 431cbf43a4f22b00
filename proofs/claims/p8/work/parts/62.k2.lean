/-! STATES, AND ROWS OF THE CHECK: if what follows is good, it is good here -/
abbrev kT : Type := (Nat → Option (Nat × Nat)) × (Nat → Nat → Nat × Int × Int) × (Nat → Nat → Bool)
/-- what else is carried along: plain stores keep it -/
abbrev kQ : Type := xM → tI → tJ → Prop
abbrev kT.k (T : kT) : Nat → Option (Nat × Nat) := T.1
abbrev kT.b (T : kT) : Nat → Nat → Nat × Int × Int := T.2.1
/-- slots that a plain store may change -/
abbrev kT.m (T : kT) : Nat → Nat → Bool := T.2.2
/-- memories of the same size -/
def kSz (B B' : xM) : Prop := B'.length = B.length ∧ xz B' = xz B
theorem kxz_set : ∀ {M : xM} {a : Nat} {p q : xO}, xnth M a = some p → q.2.length = p.2.length → xz (M.set a q) = xz M
  | [], _, _, _, h, _ => by cases h
  | o :: M, 0, p, q, h, hl => by
    simp only [xnth, Option.some.injEq] at h
    subst h
    simp only [List.set_cons_zero, xz, hl]
  | o :: M, a + 1, p, q, h, hl => by
    simp only [xnth] at h
    simp only [List.set_cons_succ, xz]
    rw [kxz_set h hl]
def kLaw (T : kT) (C : kQ) : Prop := (∀ B I J o k, T.m o k = true → C B I J → (∀ v, C B (tup I o k v) J) ∧ (∀ v, C B I (tup J o k v))) ∧ (T.m 1000 0 = true → ∀ B I J B', kSz B B' → C B I J → C B' I J)
/-- the heap's shape: kinds and lengths by object; slots: 0 an int within bounds, 1 a long, 2 the object of that number -/
def kB (T : kT) (B : xM) : Prop := ∀ o kn, T.k o = some kn → ∃ sl, xarr B o kn.1 = some sl ∧ sl.length = kn.2 ∧ ∀ k, k < kn.2 → ∃ v, xnth sl k = some v ∧ ((T.b o k).1 = 0 → tyV v 0 = true) ∧ ((T.b o k).1 = 1 → tyV v 1 = true) ∧ ((T.b o k).1 = 2 → v = .ref (T.b o k).2.1.toNat) ∧ ((T.b o k).1 = 4 → v = .ref (T.b o k).2.1.toNat ∨ v = .ref (T.b o k).2.2.toNat)
def kI (T : kT) (C : kQ) (B : xM) (I : tI) (J : tJ) : Prop := (∀ o kn k, T.k o = some kn → k < kn.2 → (T.b o k).1 = 0 → (T.b o k).2.1 ≤ (I o k).toInt ∧ (I o k).toInt ≤ (T.b o k).2.2) ∧ C B I J ∧ kLaw T C
def kst (ρ : List Int) (s : kS) (L : xL) (st : List Value) (I : tI) : Prop := kin ρ s.1 ∧ kvl ρ s.2.1 L ∧ kvs ρ s.2.2.1 st ∧ kov ρ I s.2.2.2
def kG (T : kT) (C : kQ) (sc : List Int32) (r : xR) (ρ0 : List Int) (pc : Nat) (s : kS) (Q : Option Value → xM → Prop) : Prop := ∀ σ L st B I J, kst (ρ0 ++ σ) s L st I → kB T B → kI T C B I J → sw sc r pc L st (tMem B I J) Q
/-- what a store into local i leaves of the others: two words wide where wide -/
def kkeep (wide : Bool) (L : kL) (i j : Nat) : Bool := !Nat.beq j i && (!(wide && Nat.beq j (i + 1)) && !(Nat.beq (j + 1) i && (match kfind L j with
  | some v => Nat.beq v.1 1
  | none => false)))
def kflt (p : Nat → Bool) : kL → kL
  | [] => []
  | q :: l => bif p q.1 then q :: kflt p l else kflt p l
def kset (wide : Bool) (L : kL) (i : Nat) (v : kV) : kL := (i, v) :: kflt (kkeep wide L i) L
theorem kflt_find {p : Nat → Bool} {j : Nat} {v : kV} : ∀ {L : kL}, kfind (kflt p L) j = some v → p j = true ∧ kfind L j = some v
  | [], h => by cases h
  | (i, u) :: l, h => by
    simp only [kflt] at h
    cases hp : p i with
    | true =>
      rw [hp] at h
      simp only [cond_true, kfind] at h ⊢
      cases hb : Nat.beq i j with
      | true => rw [hb] at h; rw [← Nat.eq_of_beq_eq_true hb]; exact ⟨hp, h⟩
      | false => rw [hb] at h; exact kflt_find h
    | false =>
      rw [hp] at h
      simp only [cond_false] at h
      obtain ⟨h1, h2⟩ := kflt_find h
      refine ⟨h1, ?_⟩
      simp only [kfind]
      cases hb : Nat.beq i j with
      | true => rw [Nat.eq_of_beq_eq_true hb] at hp; rw [hp] at h1; cases h1
      | false => exact h2
theorem xfind_drop1 {i j : Nat} {w : Value} (hj : Nat.beq j i = false) (hc : (Nat.beq (j + 1) i && Nat.beq (xcat w) 2) = false) : ∀ {L : xL}, xfind L j = some w → xfind (xdrop1 i L) j = some w
  | [], h => by cases h
  | (k, u) :: l, h => by
    simp only [xfind] at h
    simp only [xdrop1]
    cases hb : Nat.beq k j with
    | true =>
      rw [hb] at h
      cases h
      rw [Nat.eq_of_beq_eq_true hb, hj, hc]
      simp only [Bool.or_self, cond_false, xfind, Nat.beq_refl, cond_true]
    | false =>
      rw [hb] at h
      have ih := xfind_drop1 hj hc h
      cases (Nat.beq k i || (Nat.beq (k + 1) i && Nat.beq (xcat u) 2)) with
      | true => exact ih
      | false =>
        simp only [cond_false, xfind, hb]
        exact ih
theorem xfind_drop2 {i j : Nat} {w : Value} (hj : Nat.beq j i = false) (hj2 : Nat.beq j (i + 1) = false) (hc : (Nat.beq (j + 1) i && Nat.beq (xcat w) 2) = false) : ∀ {L : xL}, xfind L j = some w → xfind (xdrop2 i L) j = some w
  | [], h => by cases h
  | (k, u) :: l, h => by
    simp only [xfind] at h
    simp only [xdrop2]
    cases hb : Nat.beq k j with
    | true =>
      rw [hb] at h
      cases h
      rw [Nat.eq_of_beq_eq_true hb, hj, hj2, hc]
      simp only [Bool.or_self, cond_false, xfind, Nat.beq_refl, cond_true]
    | false =>
      rw [hb] at h
      have ih := xfind_drop2 hj hj2 hc h
      cases (Nat.beq k i || (Nat.beq k (i + 1) || (Nat.beq (k + 1) i && Nat.beq (xcat u) 2))) with
      | true => exact ih
      | false =>
        simp only [cond_false, xfind, hb]
        exact ih
theorem kv_cat {ρ : List Int} {v : kV} {w : Value} (h : kv ρ v w) : Nat.beq (xcat w) 2 = Nat.beq v.1 1 := by
  obtain ⟨t, i, c⟩ := v
  unfold kv at h
  match t with
  | 0 => obtain ⟨x, rfl, -⟩ := h; rfl
  | 1 => obtain ⟨x, rfl, -⟩ := h; rfl
  | 2 => cases h; rfl
  | t + 3 =>
    cases h
    show Nat.beq 1 2 = Nat.beq (t + 3) 1
    rfl
theorem kvl_find {ρ : List Int} {L : kL} {L' : xL} {i : Nat} {v : kV} (h : kvl ρ L L') (hf : kfind L i = some v) : ∃ v', xfind L' i = some v' ∧ kv ρ v v' := h i v hf
theorem kvl_set1 {ρ : List Int} {L : kL} {L' : xL} {i : Nat} {v : kV} {w : Value} (h : kvl ρ L L') (hv : kv ρ v w) : kvl ρ (kset false L i v) (xst1 L' i w) := by
  intro j u hu
  unfold kset at hu
  unfold xst1
  simp only [kfind] at hu
  simp only [xfind]
  cases hb : Nat.beq i j with
  | true => rw [hb] at hu; cases hu; exact ⟨w, rfl, hv⟩
  | false =>
    rw [hb] at hu
    simp only [cond_false] at hu ⊢
    obtain ⟨h1, h2⟩ := kflt_find hu
    obtain ⟨w', h3, h4⟩ := h j u h2
    unfold kkeep at h1
    rw [h2] at h1
    simp only [Bool.and_eq_true, Bool.not_eq_true'] at h1
    refine ⟨w', xfind_drop1 h1.1 ?_ h3, h4⟩
    rw [kv_cat h4]
    exact h1.2.2
theorem kvl_set2 {ρ : List Int} {L : kL} {L' : xL} {i : Nat} {v : kV} {w : Value} (h : kvl ρ L L') (hv : kv ρ v w) : kvl ρ (kset true L i v) (xst2 L' i w) := by
  intro j u hu
  unfold kset at hu
  unfold xst2
  simp only [kfind] at hu
  simp only [xfind]
  cases hb : Nat.beq i j with
  | true => rw [hb] at hu; cases hu; exact ⟨w, rfl, hv⟩
  | false =>
    rw [hb] at hu
    simp only [cond_false] at hu ⊢
    obtain ⟨h1, h2⟩ := kflt_find hu
    obtain ⟨w', h3, h4⟩ := h j u h2
    unfold kkeep at h1
    rw [h2] at h1
    simp only [Bool.and_eq_true, Bool.not_eq_true', Bool.true_and] at h1
    refine ⟨w', xfind_drop2 h1.1 h1.2.1 ?_ h3, h4⟩
    rw [kv_cat h4]
    exact h1.2.2
theorem kadd_t {t : Nat} {lo hi s : Int} {E E' : kE} {x y v : kV} (h : kadd t lo hi s E x y = some (E', v)) : v.1 = t := by
  unfold kadd at h
  split at h
  · split at h
    · simp only [cond_eq_ite] at h
      repeat' split at h
      all_goals (cases h; rfl)
    · cases h
  · cases h
section KK
variable {T : kT} {C : kQ} {sc : List Int32} {r : xR} {ρ0 : List Int} {pc : Nat} {E : kE} {L : kL} {S : List kV} {O : kO} {Q : Option Value → xM → Prop}
/-- a step that pushes a value that is known -/
theorem kk_push {e : xE} {n : Nat} {w : Value} {v : kV} (he : xat r.1 pc = some e) (hk : xkind e = 0) (hx : ∀ L st M, s1 xty xdf sc e pc L st M = some (pc + n, L, w :: st, M)) (hv : ∀ ρ, kin ρ E → kv ρ v w) (h : kG T C sc r ρ0 (pc + n) (E, L, v :: S, O) Q) : kG T C sc r ρ0 pc (E, L, S, O) Q := by
  intro σ L' st B I J ⟨h1, h2, h3, h4⟩ hB hI
  exact sw_x he hk (hx _ _ _) (h σ _ _ B I J ⟨h1, h2, ⟨w, st, rfl, hv _ h1, h3⟩, h4⟩ hB hI)
theorem kk_iload {i n : Nat} {e : xE} {v : kV} (he : xat r.1 pc = some e) (hk : xkind e = 0) (hx : ∀ L st M, x1 xty xdf sc e pc L st M = xpI n pc i L st M) (hf : kfind L i = some v) (ht : v.1 = 0) (h : kG T C sc r ρ0 (pc + n) (E, L, v :: S, O) Q) : kG T C sc r ρ0 pc (E, L, S, O) Q := by
  intro σ L' st B I J ⟨h1, h2, h3, h4⟩ hB hI
  obtain ⟨w, g1, g2⟩ := kvl_find h2 hf
  obtain ⟨t, j, c⟩ := v
  subst ht
  obtain ⟨x, rfl, hx2⟩ := id g2
  refine sw_0 he hk ?_ (h σ L' (.int x :: st) B I J ⟨h1, h2, ⟨_, st, rfl, g2, h3⟩, h4⟩ hB hI)
  rw [hx]
  unfold xpI
  rw [g1]
theorem kk_aload {i n : Nat} {e : xE} {v : kV} (he : xat r.1 pc = some e) (hk : xkind e = 0) (hx : ∀ L st M, x1 xty xdf sc e pc L st M = xpA n pc i L st M) (hf : kfind L i = some v) (ht : v.1 = 2) (h : kG T C sc r ρ0 (pc + n) (E, L, v :: S, O) Q) : kG T C sc r ρ0 pc (E, L, S, O) Q := by
  intro σ L' st B I J ⟨h1, h2, h3, h4⟩ hB hI
  obtain ⟨w, g1, g2⟩ := kvl_find h2 hf
  obtain ⟨t, j, c⟩ := v
  subst ht
  have e2 : w = .ref j := g2
  subst e2
  refine sw_0 he hk ?_ (h σ L' (.ref j :: st) B I J ⟨h1, h2, ⟨_, st, rfl, g2, h3⟩, h4⟩ hB hI)
  rw [hx]
  unfold xpA
  rw [g1]
theorem kk_istore {i n : Nat} {e : xE} {v : kV} (he : xat r.1 pc = some e) (hk : xkind e = 0) (hx : ∀ L st M, x1 xty xdf sc e pc L st M = xsI n pc i L st M) (ht : v.1 = 0) (h : kG T C sc r ρ0 (pc + n) (E, kset false L i v, S, O) Q) : kG T C sc r ρ0 pc (E, L, v :: S, O) Q := by
  intro σ L' st B I J ⟨h1, h2, h3, h4⟩ hB hI
  obtain ⟨w, st', rfl, g2, h3⟩ := h3
  obtain ⟨t, j, c⟩ := v
  subst ht
  obtain ⟨x, rfl, hx2⟩ := id g2
  refine sw_0 he hk ?_ (h σ (xst1 L' i (.int x)) st' B I J ⟨h1, kvl_set1 h2 g2, h3, h4⟩ hB hI)
  rw [hx]
  rfl
/-- a step of two ints that makes one, in bounds that are found -/
theorem kk_ii {e : xE} {g : Int32 → Int32 → Int32} {x y v : kV} {E' : kE} (he : xat r.1 pc = some e) (hk : xkind e = 0) (hx : ∀ L st M, x1 xty xdf sc e pc L st M = xii g pc L st M) (tx : x.1 = 0) (ty : y.1 = 0) (hg : ∀ ρ p q, kin ρ E → knum ρ x (Int32.toInt p) → knum ρ y (Int32.toInt q) → ∃ σ, kin (ρ ++ σ) E' ∧ knum (ρ ++ σ) v (g p q).toInt) (tv : v.1 = 0) (h : kG T C sc r ρ0 (pc + 1) (E', L, v :: S, O) Q) : kG T C sc r ρ0 pc (E, L, y :: x :: S, O) Q := by
  intro σ L' st B I J ⟨h1, h2, h3, h4⟩ hB hI
  obtain ⟨w1, st1, rfl, g1, w2, st2, rfl, g2, h3⟩ := h3
  obtain ⟨t1, j1, c1⟩ := x
  obtain ⟨t2, j2, c2⟩ := y
  subst tx ty
  obtain ⟨q, rfl, hq⟩ := id g1
  obtain ⟨p, rfl, hp⟩ := id g2
  obtain ⟨τ, k1, k2⟩ := hg _ p q h1 hp hq
  refine sw_0 he hk ?_ (h (σ ++ τ) L' (.int (g p q) :: st2) B I J ⟨?_, ?_, ?_, ?_⟩ hB hI)
  · rw [hx]
    rfl
  · rw [← List.append_assoc]; exact k1
  · rw [← List.append_assoc]; exact kvl_ap h2
  · rw [← List.append_assoc]
    obtain ⟨t, j, c⟩ := v
    subst tv
    exact ⟨_, _, rfl, ⟨_, rfl, k2⟩, kvs_ap h3⟩
  · rw [← List.append_assoc]; exact kov_ap h4
theorem kk_add {e : xE} {x y v : kV} {E' : kE} (he : xat r.1 pc = some e) (hk : xkind e = 0) (hx : ∀ L st M, x1 xty xdf sc e pc L st M = xii (fun x y => x + y) pc L st M) (tx : x.1 = 0) (ty : y.1 = 0) (ha : kadd 0 (-2147483648) 2147483647 1 E x y = some (E', v)) (h : kG T C sc r ρ0 (pc + 1) (E', L, v :: S, O) Q) : kG T C sc r ρ0 pc (E, L, y :: x :: S, O) Q := by
  have tv : v.1 = 0 := kadd_t ha
  refine kk_ii he hk hx tx ty (fun ρ p q h1 hp hq => ?_) tv h
  have b := ti_bd (p + q)
  obtain ⟨σ, k1, k2, -⟩ := kadd_ok (r := (p + q).toInt) (Or.inl rfl) h1 hp hq (fun u1 u2 => by rw [Int.one_mul] at u1 u2 ⊢; exact ti_add (by omega) (by omega)) b.1 b.2 ha
  exact ⟨σ, k1, k2⟩
theorem kk_goto {t : Nat} {off : Int} {b c : Nat} {z : Int} (he : xat r.1 pc = some (.goto off, t, b, z)) (h : kG T C sc r ρ0 t (E, L, S, O) Q) : kG T C sc r ρ0 pc (E, L, S, O) Q := by
  intro σ L' st B I J hs hB hI
  exact sw_0 he rfl rfl (h σ L' st B I J hs hB hI)
theorem kk_ic {c : ClassFile.Cond} {off : Int} {t : Nat} {x y : kV} (he : xat r.1 pc = some (.if_icmp c off, t, 0, 0)) (tx : x.1 = 0) (ty : y.1 = 0) (k1 : ∀ E', kcmp c E x y = some E' → kG T C sc r ρ0 t (E', L, S, O) Q) (k2 : ∀ E', kcmp (kneg c) E x y = some E' → kG T C sc r ρ0 (pc + 3) (E', L, S, O) Q) : kG T C sc r ρ0 pc (E, L, y :: x :: S, O) Q := by
  intro σ L' st B I J ⟨h1, h2, h3, h4⟩ hB hI
  obtain ⟨w1, st1, rfl, g1, w2, st2, rfl, g2, h3⟩ := h3
  obtain ⟨t1, j1, c1⟩ := x
  obtain ⟨t2, j2, c2⟩ := y
  subst tx ty
  obtain ⟨q, rfl, hq⟩ := id g1
  obtain ⟨p, rfl, hp⟩ := id g2
  refine te_ic he (fun hc => ?_) (fun hc => ?_)
  · obtain ⟨E', e1, e2⟩ := kcmp_ok (x := (0, j1, c1)) (y := (0, j2, c2)) h1 hp hq hc
    exact k1 E' e1 σ L' st2 B I J ⟨e2, h2, h3, h4⟩ hB hI
  · obtain ⟨E', e1, e2⟩ := kcmp_ok (x := (0, j1, c1)) (y := (0, j2, c2)) h1 hp hq (xcmp_neg hc)
    exact k2 E' e1 σ L' st2 B I J ⟨e2, h2, h3, h4⟩ hB hI
theorem kk_if {c : ClassFile.Cond} {off : Int} {t : Nat} {x : kV} (he : xat r.1 pc = some (.ifCond c off, t, 0, 0)) (tx : x.1 = 0) (hz : kz E = true) (k1 : ∀ E', kcmp c E x (0, 0, 0) = some E' → kG T C sc r ρ0 t (E', L, S, O) Q) (k2 : ∀ E', kcmp (kneg c) E x (0, 0, 0) = some E' → kG T C sc r ρ0 (pc + 3) (E', L, S, O) Q) : kG T C sc r ρ0 pc (E, L, x :: S, O) Q := by
  intro σ L' st B I J ⟨h1, h2, h3, h4⟩ hB hI
  obtain ⟨w2, st2, rfl, g2, h3⟩ := h3
  obtain ⟨t1, j1, c1⟩ := x
  subst tx
  obtain ⟨p, rfl, hp⟩ := id g2
  have h0 : knum (ρ0 ++ σ) (0, 0, 0) (0 : Int32).toInt := kz_ok h1 hz 0 0
  refine te_if he (fun hc => ?_) (fun hc => ?_)
  · obtain ⟨E', e1, e2⟩ := kcmp_ok (x := (0, j1, c1)) (y := (0, 0, 0)) h1 hp h0 hc
    exact k1 E' e1 σ L' st2 B I J ⟨e2, h2, h3, h4⟩ hB hI
  · obtain ⟨E', e1, e2⟩ := kcmp_ok (x := (0, j1, c1)) (y := (0, 0, 0)) h1 hp h0 (xcmp_neg hc)
    exact k2 E' e1 σ L' st2 B I J ⟨e2, h2, h3, h4⟩ hB hI
end KK
