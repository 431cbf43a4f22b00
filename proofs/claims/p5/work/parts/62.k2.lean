/-! STATES, AND ROWS OF THE CHECK: if what follows is good, it is good here -/
abbrev kT : Type := List (Nat × Nat) × (Nat → Nat → Nat × Int × Int)
/-- the heap's shape: kinds and lengths by object; slots: 0 an int within bounds, 1 a long, 2 the object of that number -/
def kB (T : kT) (B : xM) : Prop := ∀ o kn, xnth T.1 o = some kn → ∃ sl, xarr B o kn.1 = some sl ∧ sl.length = kn.2 ∧ ∀ k, k < kn.2 → ∃ v, xnth sl k = some v ∧ ((T.2 o k).1 = 0 → tyV v 0 = true) ∧ ((T.2 o k).1 = 1 → tyV v 1 = true) ∧ ((T.2 o k).1 = 2 → v = .ref (T.2 o k).2.1.toNat)
def kI (T : kT) (I : tI) : Prop := ∀ o kn k, xnth T.1 o = some kn → k < kn.2 → (T.2 o k).1 = 0 → (T.2 o k).2.1 ≤ (I o k).toInt ∧ (I o k).toInt ≤ (T.2 o k).2.2
def kst (ρ : List Int) (s : kS) (L : xL) (st : List Value) (I : tI) : Prop := kin ρ s.1 ∧ kvl ρ s.2.1 L ∧ kvs ρ s.2.2.1 st ∧ kov ρ I s.2.2.2
def kG (T : kT) (sc : List Int32) (r : xR) (ρ0 : List Int) (pc : Nat) (s : kS) (Q : Option Value → xM → Prop) : Prop := ∀ σ L st B I J, kst (ρ0 ++ σ) s L st I → kB T B → kI T I → sw sc r pc L st (tMem B I J) Q
def kfind : kL → Nat → Option kV
  | [], _ => none
  | (j, v) :: l, i => bif Nat.beq j i then some v else kfind l i
def kdrop1 (i : Nat) : kL → kL
  | [] => []
  | (j, v) :: l => bif (Nat.beq j i || (Nat.beq (j + 1) i && Nat.beq v.1 1)) then kdrop1 i l else (j, v) :: kdrop1 i l
def kdrop2 (i : Nat) : kL → kL
  | [] => []
  | (j, v) :: l => bif (Nat.beq j i || (Nat.beq j (i + 1) || (Nat.beq (j + 1) i && Nat.beq v.1 1))) then kdrop2 i l else (j, v) :: kdrop2 i l
theorem kv_cat {ρ : List Int} {v : kV} {w : Value} (h : kv ρ v w) : Nat.beq (xcat w) 2 = Nat.beq v.1 1 := by
  obtain ⟨t, i, c⟩ := v
  unfold kv at h
  match t with
  | 0 => obtain ⟨x, rfl, -⟩ := h; rfl
  | 1 => obtain ⟨x, rfl, -⟩ := h; rfl
  | 2 => cases h; rfl
  | t + 3 =>
    cases h
    show Nat.beq 1 2 = Nat.beq (t + 3) 1
    rfl
theorem kvl_find {ρ : List Int} : ∀ {S : kL} {w : xL} {i : Nat} {v : kV}, kvl ρ S w → kfind S i = some v → ∃ v', xfind w i = some v' ∧ kv ρ v v'
  | [], _, _, _, _, h => by cases h
  | (j, u) :: S, _, i, v, ⟨v', S', h1, h2, h3⟩, h => by
    subst h1
    simp only [kfind] at h
    simp only [xfind]
    cases hb : Nat.beq j i with
    | true => rw [hb] at h; cases h; exact ⟨v', rfl, h2⟩
    | false => rw [hb] at h; exact kvl_find h3 h
theorem kvl_drop1 {ρ : List Int} (i : Nat) : ∀ {S : kL} {w : xL}, kvl ρ S w → kvl ρ (kdrop1 i S) (xdrop1 i w)
  | [], _, h => by cases h; rfl
  | (j, u) :: S, _, ⟨v', S', h1, h2, h3⟩ => by
    subst h1
    simp only [kdrop1, xdrop1]
    rw [kv_cat h2]
    cases (Nat.beq j i || (Nat.beq (j + 1) i && Nat.beq u.1 1)) with
    | true => exact kvl_drop1 i h3
    | false => exact ⟨v', _, rfl, h2, kvl_drop1 i h3⟩
theorem kvl_drop2 {ρ : List Int} (i : Nat) : ∀ {S : kL} {w : xL}, kvl ρ S w → kvl ρ (kdrop2 i S) (xdrop2 i w)
  | [], _, h => by cases h; rfl
  | (j, u) :: S, _, ⟨v', S', h1, h2, h3⟩ => by
    subst h1
    simp only [kdrop2, xdrop2]
    rw [kv_cat h2]
    cases (Nat.beq j i || (Nat.beq j (i + 1) || (Nat.beq (j + 1) i && Nat.beq u.1 1))) with
    | true => exact kvl_drop2 i h3
    | false => exact ⟨v', _, rfl, h2, kvl_drop2 i h3⟩
theorem kadd_t {t : Nat} {lo hi s : Int} {E E' : kE} {x y v : kV} (h : kadd t lo hi s E x y = some (E', v)) : v.1 = t := by
  unfold kadd at h
  split at h
  · split at h
    · simp only [cond_eq_ite] at h
      repeat' split at h
      all_goals (cases h; rfl)
    · cases h
  · cases h
section KK
variable {T : kT} {sc : List Int32} {r : xR} {ρ0 : List Int} {pc : Nat} {E : kE} {L : kL} {S : List kV} {O : kO} {Q : Option Value → xM → Prop}
/-- a step that pushes a value that is known -/
theorem kk_push {e : xE} {n : Nat} {w : Value} {v : kV} (he : xat r.1 pc = some e) (hk : xkind e = 0) (hx : ∀ L st M, s1 xty xdf sc e pc L st M = some (pc + n, L, w :: st, M)) (hv : ∀ ρ, kin ρ E → kv ρ v w) (h : kG T sc r ρ0 (pc + n) (E, L, v :: S, O) Q) : kG T sc r ρ0 pc (E, L, S, O) Q := by
  intro σ L' st B I J ⟨h1, h2, h3, h4⟩ hB hI
  exact sw_x he hk (hx _ _ _) (h σ _ _ B I J ⟨h1, h2, ⟨w, st, rfl, hv _ h1, h3⟩, h4⟩ hB hI)
theorem kk_iload {i n : Nat} {e : xE} {v : kV} (he : xat r.1 pc = some e) (hk : xkind e = 0) (hx : ∀ L st M, x1 xty xdf sc e pc L st M = xpI n pc i L st M) (hf : kfind L i = some v) (ht : v.1 = 0) (h : kG T sc r ρ0 (pc + n) (E, L, v :: S, O) Q) : kG T sc r ρ0 pc (E, L, S, O) Q := by
  intro σ L' st B I J ⟨h1, h2, h3, h4⟩ hB hI
  obtain ⟨w, g1, g2⟩ := kvl_find h2 hf
  obtain ⟨t, j, c⟩ := v
  subst ht
  obtain ⟨x, rfl, hx2⟩ := id g2
  refine sw_0 he hk ?_ (h σ L' (.int x :: st) B I J ⟨h1, h2, ⟨_, st, rfl, g2, h3⟩, h4⟩ hB hI)
  rw [hx]
  unfold xpI
  rw [g1]
theorem kk_aload {i n : Nat} {e : xE} {v : kV} (he : xat r.1 pc = some e) (hk : xkind e = 0) (hx : ∀ L st M, x1 xty xdf sc e pc L st M = xpA n pc i L st M) (hf : kfind L i = some v) (ht : v.1 = 2) (h : kG T sc r ρ0 (pc + n) (E, L, v :: S, O) Q) : kG T sc r ρ0 pc (E, L, S, O) Q := by
  intro σ L' st B I J ⟨h1, h2, h3, h4⟩ hB hI
  obtain ⟨w, g1, g2⟩ := kvl_find h2 hf
  obtain ⟨t, j, c⟩ := v
  subst ht
  have e2 : w = .ref j := g2
  subst e2
  refine sw_0 he hk ?_ (h σ L' (.ref j :: st) B I J ⟨h1, h2, ⟨_, st, rfl, g2, h3⟩, h4⟩ hB hI)
  rw [hx]
  unfold xpA
  rw [g1]
theorem kk_istore {i n : Nat} {e : xE} {v : kV} (he : xat r.1 pc = some e) (hk : xkind e = 0) (hx : ∀ L st M, x1 xty xdf sc e pc L st M = xsI n pc i L st M) (ht : v.1 = 0) (h : kG T sc r ρ0 (pc + n) (E, (i, v) :: kdrop1 i L, S, O) Q) : kG T sc r ρ0 pc (E, L, v :: S, O) Q := by
  intro σ L' st B I J ⟨h1, h2, h3, h4⟩ hB hI
  obtain ⟨w, st', rfl, g2, h3⟩ := h3
  obtain ⟨t, j, c⟩ := v
  subst ht
  obtain ⟨x, rfl, hx2⟩ := id g2
  refine sw_0 he hk ?_ (h σ (xst1 L' i (.int x)) st' B I J ⟨h1, ⟨_, _, rfl, g2, kvl_drop1 i h2⟩, h3, h4⟩ hB hI)
  rw [hx]
  rfl
/-- a step of two ints that makes one, in bounds that are found -/
theorem kk_ii {e : xE} {g : Int32 → Int32 → Int32} {x y v : kV} {E' : kE} (he : xat r.1 pc = some e) (hk : xkind e = 0) (hx : ∀ L st M, x1 xty xdf sc e pc L st M = xii g pc L st M) (tx : x.1 = 0) (ty : y.1 = 0) (hg : ∀ ρ p q, kin ρ E → knum ρ x (Int32.toInt p) → knum ρ y (Int32.toInt q) → ∃ σ, kin (ρ ++ σ) E' ∧ knum (ρ ++ σ) v (g p q).toInt) (tv : v.1 = 0) (h : kG T sc r ρ0 (pc + 1) (E', L, v :: S, O) Q) : kG T sc r ρ0 pc (E, L, y :: x :: S, O) Q := by
  intro σ L' st B I J ⟨h1, h2, h3, h4⟩ hB hI
  obtain ⟨w1, st1, rfl, g1, w2, st2, rfl, g2, h3⟩ := h3
  obtain ⟨t1, j1, c1⟩ := x
  obtain ⟨t2, j2, c2⟩ := y
  subst tx ty
  obtain ⟨q, rfl, hq⟩ := id g1
  obtain ⟨p, rfl, hp⟩ := id g2
  obtain ⟨τ, k1, k2⟩ := hg _ p q h1 hp hq
  refine sw_0 he hk ?_ (h (σ ++ τ) L' (.int (g p q) :: st2) B I J ⟨?_, ?_, ?_, ?_⟩ hB hI)
  · rw [hx]
    rfl
  · rw [← List.append_assoc]; exact k1
  · rw [← List.append_assoc]; exact kvl_ap h2
  · rw [← List.append_assoc]
    obtain ⟨t, j, c⟩ := v
    subst tv
    exact ⟨_, _, rfl, ⟨_, rfl, k2⟩, kvs_ap h3⟩
  · rw [← List.append_assoc]; exact kov_ap h4
theorem kk_add {e : xE} {x y v : kV} {E' : kE} (he : xat r.1 pc = some e) (hk : xkind e = 0) (hx : ∀ L st M, x1 xty xdf sc e pc L st M = xii (fun x y => x + y) pc L st M) (tx : x.1 = 0) (ty : y.1 = 0) (ha : kadd 0 (-2147483648) 2147483647 1 E x y = some (E', v)) (h : kG T sc r ρ0 (pc + 1) (E', L, v :: S, O) Q) : kG T sc r ρ0 pc (E, L, y :: x :: S, O) Q := by
  have tv : v.1 = 0 := kadd_t ha
  refine kk_ii he hk hx tx ty (fun ρ p q h1 hp hq => ?_) tv h
  have b := ti_bd (p + q)
  obtain ⟨σ, k1, k2, -⟩ := kadd_ok (r := (p + q).toInt) (Or.inl rfl) h1 hp hq (fun u1 u2 => by rw [Int.one_mul] at u1 u2 ⊢; exact ti_add (by omega) (by omega)) b.1 b.2 ha
  exact ⟨σ, k1, k2⟩
theorem kk_goto {t : Nat} {off : Int} {b c : Nat} {z : Int} (he : xat r.1 pc = some (.goto off, t, b, z)) (h : kG T sc r ρ0 t (E, L, S, O) Q) : kG T sc r ρ0 pc (E, L, S, O) Q := by
  intro σ L' st B I J hs hB hI
  exact sw_0 he rfl rfl (h σ L' st B I J hs hB hI)
theorem kk_ic {c : ClassFile.Cond} {off : Int} {t : Nat} {x y : kV} (he : xat r.1 pc = some (.if_icmp c off, t, 0, 0)) (tx : x.1 = 0) (ty : y.1 = 0) (k1 : ∀ E', kcmp c E x y = some E' → kG T sc r ρ0 t (E', L, S, O) Q) (k2 : ∀ E', kcmp (kneg c) E x y = some E' → kG T sc r ρ0 (pc + 3) (E', L, S, O) Q) : kG T sc r ρ0 pc (E, L, y :: x :: S, O) Q := by
  intro σ L' st B I J ⟨h1, h2, h3, h4⟩ hB hI
  obtain ⟨w1, st1, rfl, g1, w2, st2, rfl, g2, h3⟩ := h3
  obtain ⟨t1, j1, c1⟩ := x
  obtain ⟨t2, j2, c2⟩ := y
  subst tx ty
  obtain ⟨q, rfl, hq⟩ := id g1
  obtain ⟨p, rfl, hp⟩ := id g2
  refine te_ic he (fun hc => ?_) (fun hc => ?_)
  · obtain ⟨E', e1, e2⟩ := kcmp_ok (x := (0, j1, c1)) (y := (0, j2, c2)) h1 hp hq hc
    exact k1 E' e1 σ L' st2 B I J ⟨e2, h2, h3, h4⟩ hB hI
  · obtain ⟨E', e1, e2⟩ := kcmp_ok (x := (0, j1, c1)) (y := (0, j2, c2)) h1 hp hq (xcmp_neg hc)
    exact k2 E' e1 σ L' st2 B I J ⟨e2, h2, h3, h4⟩ hB hI
theorem kk_if {c : ClassFile.Cond} {off : Int} {t : Nat} {x : kV} (he : xat r.1 pc = some (.ifCond c off, t, 0, 0)) (tx : x.1 = 0) (hz : kz E = true) (k1 : ∀ E', kcmp c E x (0, 0, 0) = some E' → kG T sc r ρ0 t (E', L, S, O) Q) (k2 : ∀ E', kcmp (kneg c) E x (0, 0, 0) = some E' → kG T sc r ρ0 (pc + 3) (E', L, S, O) Q) : kG T sc r ρ0 pc (E, L, x :: S, O) Q := by
  intro σ L' st B I J ⟨h1, h2, h3, h4⟩ hB hI
  obtain ⟨w2, st2, rfl, g2, h3⟩ := h3
  obtain ⟨t1, j1, c1⟩ := x
  subst tx
  obtain ⟨p, rfl, hp⟩ := id g2
  have h0 : knum (ρ0 ++ σ) (0, 0, 0) (0 : Int32).toInt := kz_ok h1 hz 0 0
  refine te_if he (fun hc => ?_) (fun hc => ?_)
  · obtain ⟨E', e1, e2⟩ := kcmp_ok (x := (0, j1, c1)) (y := (0, 0, 0)) h1 hp h0 hc
    exact k1 E' e1 σ L' st2 B I J ⟨e2, h2, h3, h4⟩ hB hI
  · obtain ⟨E', e1, e2⟩ := kcmp_ok (x := (0, j1, c1)) (y := (0, 0, 0)) h1 hp h0 (xcmp_neg hc)
    exact k2 E' e1 σ L' st2 B I J ⟨e2, h2, h3, h4⟩ hB hI
end KK
