/-! FACTS ASKED FOR; FORKS; LOOPS WITH FACTS -/
/-- a fact by its sources: (coefficient, (0, local), (2, object, slot) or (3, place on the stack)) -/
abbrev nH : Type := List (Int × Nat × Nat × Nat) × Int
def nsrc (s : kS) (w : Nat × Nat × Nat) : Option kV := match w.1 with
  | 4 => some (0, w.2.1, 0)
  | 3 => xnth s.2.2.1 w.2.1
  | 2 => kol s.2.2.2 w.2.1 0 (w.2.2 : Int)
  | _ => kfind s.2.1 w.2.1
def nres (s : kS) : List (Int × Nat × Nat × Nat) → Int → Option kF
  | [], d => some ([], d)
  | q :: l, d => match nsrc s q.2 with
    | some v => (match nres s l (d - q.1 * v.2.2) with
      | some f => some ((q.1, v.2.1) :: f.1, f.2)
      | none => none)
    | none => none
def nsing1 (q : Int × Nat) (d : Int) (E : kE) : Option kE := match xnth E q.2 with
  | some b => bif decide (q.1 = 1) then kref E (0, q.2, 0) b.1 d else bif decide (q.1 = -1) then kref E (0, q.2, 0) (-d) b.2 else some E
  | none => some E
def nsing (f : kF) (E : kE) : Option kE := match kmgs f.1 with
  | [q] => nsing1 q f.2 E
  | [q, p] => (match kub E [(-p.1, p.2)] with
    | some u => (match nsing1 q (f.2 + u) E with
      | some E1 => (match kub E1 [(-q.1, q.2)] with
        | some u' => nsing1 p (f.2 + u') E1
        | none => some E1)
      | none => none)
    | none => some E)
  | _ => some E
theorem nsing1_ok {ρ : List Int} {E : kE} {q : Int × Nat} {d : Int} (h : kin ρ E) (hf : kfo ρ ([q], d)) : ∃ E', nsing1 q d E = some E' ∧ kin ρ E' := by
  unfold nsing1
  obtain ⟨s, h1, h2⟩ := hf
  simp only [kls] at h1
  split
  · rename_i b hb
    obtain ⟨z, z1, z2, z3⟩ := kin_get h hb
    rw [z1] at h1
    cases h1
    have hn : knum ρ (0, q.2, 0) z := ⟨z, z1, by simp⟩
    dsimp only at h2
    cases hc : decide (q.1 = 1) with
    | true =>
      have := of_decide_eq_true hc
      rw [this] at h2
      simp only [cond_true]
      exact kref_ok h hn z2 (by omega)
    | false =>
      simp only [cond_false]
      cases hc2 : decide (q.1 = -1) with
      | true =>
        have := of_decide_eq_true hc2
        rw [this] at h2
        simp only [cond_true]
        exact kref_ok h hn (by omega) z3
      | false => exact ⟨E, rfl, h⟩
  · exact ⟨E, rfl, h⟩
theorem kls_mv {ρ : List Int} {E : kE} {q p : Int × Nat} {s u d : Int} (h : kin ρ E) (hs : kls ρ [q, p] = some s) (hd : s ≤ d) (hu : kub E [(-p.1, p.2)] = some u) : kfo ρ ([q], d + u) := by
  obtain ⟨a, a1, a2⟩ := kub_ok h hu
  simp only [kls] at hs a1 ⊢
  cases hq : xnth ρ q.2 with
  | none => rw [hq] at hs; cases hs
  | some z =>
    rw [hq] at hs
    cases hp : xnth ρ p.2 with
    | none => rw [hp] at hs; cases hs
    | some w =>
      rw [hp] at hs a1
      cases hs
      cases a1
      refine ⟨q.1 * z + 0, by simp only [kls, hq], ?_⟩
      rw [Int.neg_mul] at a2
      dsimp only
      omega
theorem kls_sw {ρ : List Int} {q p : Int × Nat} {s : Int} (hs : kls ρ [q, p] = some s) : kls ρ [p, q] = some s := by
  simp only [kls] at hs ⊢
  cases hq : xnth ρ q.2 with
  | none => rw [hq] at hs; cases hs
  | some z =>
    rw [hq] at hs
    cases hp : xnth ρ p.2 with
    | none => rw [hp] at hs; cases hs
    | some w =>
      rw [hp] at hs
      cases hs
      dsimp only
      congr 1
      omega
theorem nsing_ok {ρ : List Int} {E : kE} {f : kF} (h : kin ρ E) (hf : kfo ρ f) : ∃ E', nsing f E = some E' ∧ kin ρ E' := by
  unfold nsing
  split
  · rename_i q hq
    obtain ⟨s, h1, h2⟩ := hf
    rw [← kmgs_ok, hq] at h1
    exact nsing1_ok h ⟨s, h1, h2⟩
  · rename_i q p hq
    obtain ⟨s, h1, h2⟩ := hf
    rw [← kmgs_ok, hq] at h1
    split
    · rename_i u hu
      obtain ⟨E1, e1, e2⟩ := nsing1_ok h (kls_mv h h1 h2 hu)
      rw [e1]
      dsimp only
      split
      · rename_i u' hu'
        exact nsing1_ok e2 (kls_mv e2 (kls_sw h1) h2 hu')
      · exact ⟨E1, rfl, e2⟩
    · exact ⟨E, rfl, h⟩
  · exact ⟨E, rfl, h⟩
def nhint : List nH → nS → Option nS
  | [], x => some x
  | t :: l, x => match nres x.1 t.1 t.2 with
    | some f => bif kent x.1.1 x.2 f then (match nsing f x.1.1 with
      | some E => nhint l ((E, x.1.2), f :: x.2)
      | none => none) else nhint l x
    | none => nhint l x
theorem nhint_ok {ρ : List Int} : ∀ {l : List nH} {x : nS}, kin ρ x.1.1 → kfs ρ x.2 → ∃ x', nhint l x = some x' ∧ kin ρ x'.1.1 ∧ kfs ρ x'.2 ∧ x'.1.2 = x.1.2
  | [], x, h, hD => ⟨x, rfl, h, hD, rfl⟩
  | t :: l, x, h, hD => by
    simp only [nhint]
    split
    · rename_i f hf
      cases hk : kent x.1.1 x.2 f with
      | false => exact nhint_ok h hD
      | true =>
        simp only [cond_true]
        have hf := kent_ok h hD hk
        obtain ⟨E', e1, e2⟩ := nsing_ok h hf
        rw [e1]
        exact nhint_ok (x := ((E', x.1.2), f :: x.2)) e2 (kfs_cons hf hD)
    · exact nhint_ok h hD
def nfk (E : kE) (v : kV) : Int → Nat → List kE
  | a, 0 => (match kref E v a a with
    | some E' => [E']
    | none => [])
  | a, n + 1 => (match kref E v a a with
    | some E' => E' :: nfk E v (a + 1) n
    | none => nfk E v (a + 1) n)
theorem nfk_in {E E' : kE} {v : kV} : ∀ (n : Nat) (a k : Int), a ≤ k → k ≤ a + n → kref E v k k = some E' → E' ∈ nfk E v a n
  | 0, a, k, h1, h2, h => by
    have e : k = a := by omega
    subst e
    simp only [nfk]
    rw [h]
    exact List.mem_cons_self
  | n + 1, a, k, h1, h2, h => by
    simp only [nfk]
    by_cases e : k = a
    · subst e
      rw [h]
      exact List.mem_cons_self
    · have ih := nfk_in n (a + 1) k (by omega) (by omega) h
      split
      · exact List.mem_cons_of_mem _ ih
      · exact ih
/-- an id that is known: its number in its place -/
def nsv (i : Nat) (c : Int) (u : kV) : kV := bif Nat.ble u.1 1 && Nat.beq u.2.1 i then (u.1, 0, c + u.2.2) else u
def nsq (i : Nat) (c : Int) (q : (Nat × Nat × Int) × kV) : (Nat × Nat × Int) × kV := (bif Nat.beq q.1.2.1 i then (q.1.1, 0, c + q.1.2.2) else q.1, nsv i c q.2)
def nsS (i : Nat) (c : Int) (s : kL × List kV × kO) : kL × List kV × kO := (s.1.map (fun q => (q.1, nsv i c q.2)), s.2.1.map (nsv i c), s.2.2.map (nsq i c))
theorem knum_sv {ρ : List Int} {i : Nat} {c : Int} {t : Nat} {d x : Int} (h0 : xnth ρ 0 = some 0) (hi : xnth ρ i = some c) (h : knum ρ (t, i, d) x) : knum ρ (t, 0, c + d) x := by
  obtain ⟨z, h1, h2⟩ := h
  dsimp only at h1 h2
  rw [hi] at h1
  cases h1
  exact ⟨0, h0, by dsimp only; omega⟩
theorem nsv_num {ρ : List Int} {i : Nat} {c : Int} {u : kV} {x : Int} (h0 : xnth ρ 0 = some 0) (hi : xnth ρ i = some c) (h : knum ρ u x) : knum ρ (nsv i c u) x := by
  unfold nsv
  cases hb : (Nat.ble u.1 1 && Nat.beq u.2.1 i) with
  | false => exact h
  | true =>
    rw [Bool.and_eq_true] at hb
    obtain ⟨t, j, d⟩ := u
    have e := Nat.eq_of_beq_eq_true hb.2
    dsimp only at e
    subst e
    exact knum_sv h0 hi h
theorem nsv_ok {ρ : List Int} {i : Nat} {c : Int} {u : kV} {w : Value} (h0 : xnth ρ 0 = some 0) (hi : xnth ρ i = some c) (h : kv ρ u w) : kv ρ (nsv i c u) w := by
  unfold nsv
  cases hb : (Nat.ble u.1 1 && Nat.beq u.2.1 i) with
  | false => exact h
  | true =>
    rw [Bool.and_eq_true] at hb
    obtain ⟨t, j, d⟩ := u
    have e := Nat.eq_of_beq_eq_true hb.2
    have ht := hb.1
    dsimp only at e ht
    subst e
    match t, h, ht with
    | 0, ⟨x, h1, h2⟩, _ => exact ⟨x, h1, knum_sv h0 hi h2⟩
    | 1, ⟨x, h1, h2⟩, _ => exact ⟨x, h1, knum_sv h0 hi h2⟩
    | t + 2, _, ht => cases ht
theorem nsL_find {i : Nat} {c : Int} : ∀ {L : kL} {j : Nat} {v : kV}, kfind (L.map (fun q => (q.1, nsv i c q.2))) j = some v → ∃ u, kfind L j = some u ∧ v = nsv i c u
  | [], _, _, h => by cases h
  | (k, u) :: L, j, v, h => by
    simp only [List.map_cons, kfind] at h ⊢
    cases hb : Nat.beq k j with
    | true => rw [hb] at h; cases h; exact ⟨u, rfl, rfl⟩
    | false => rw [hb] at h; exact nsL_find h
theorem nsS_vs {ρ : List Int} {i : Nat} {c : Int} (h0 : xnth ρ 0 = some 0) (hi : xnth ρ i = some c) : ∀ {S : List kV} {w : List Value}, kvs ρ S w → kvs ρ (S.map (nsv i c)) w
  | [], _, h => h
  | _ :: _, _, ⟨v', S', h1, h2, h3⟩ => ⟨v', S', h1, nsv_ok h0 hi h2, nsS_vs h0 hi h3⟩
theorem nsS_ok {ρ : List Int} {E : kE} {i : Nat} {c : Int} {s : kL × List kV × kO} {L : xL} {st : List Value} {I : tI} (h0 : xnth ρ 0 = some 0) (hi : xnth ρ i = some c) (h : kst ρ (E, s) L st I) : kst ρ (E, nsS i c s) L st I := by
  refine ⟨h.1, fun j v hv => ?_, nsS_vs h0 hi h.2.2.1, fun q hq => ?_⟩
  · obtain ⟨u, h1, rfl⟩ := nsL_find hv
    obtain ⟨w, h2, h3⟩ := h.2.1 j u h1
    exact ⟨w, h2, nsv_ok h0 hi h3⟩
  · obtain ⟨q0, h1, rfl⟩ := List.mem_map.mp hq
    obtain ⟨k, k1, k2⟩ := h.2.2.2 q0 h1
    unfold nsq
    cases hb : Nat.beq q0.1.2.1 i with
    | false => exact ⟨k, k1, nsv_num h0 hi k2⟩
    | true =>
      have e := Nat.eq_of_beq_eq_true hb
      rw [e] at k1
      exact ⟨k, knum_sv h0 hi k1, nsv_num h0 hi k2⟩
def nfk1 (x : nS) (v : kV) (E : kE) : nS := match xnth E v.2.1 with
  | some b => bif (Nat.beq v.2.1 0 || !kz E) || !decide (b.1 = b.2) then ((E, x.1.2), x.2) else ((E, nsS v.2.1 b.1 x.1.2), x.2)
  | none => ((E, x.1.2), x.2)
def nfork (w : Option (Nat × Nat × Nat)) (x : nS) : List nS := match w with
  | none => [x]
  | some w => (match nsrc x.1 w with
    | some v => (match kiv x.1.1 v with
      | some b => bif decide (b.2 - b.1 ≤ 200) then (nfk x.1.1 v b.1 (b.2 - b.1).toNat).map (nfk1 x v) else [x]
      | none => [x])
    | none => [x])
theorem nfk1_ok {ρ : List Int} {x : nS} {v : kV} {E : kE} {L : xL} {st : List Value} {I : tI} (h : kin ρ E) (hs : kst ρ x.1 L st I) : kst ρ (nfk1 x v E).1 L st I ∧ (nfk1 x v E).2 = x.2 := by
  unfold nfk1
  have hE : kst ρ (E, x.1.2) L st I := ⟨h, hs.2⟩
  split
  · rename_i b hb
    cases hc : ((Nat.beq v.2.1 0 || !kz E) || !decide (b.1 = b.2)) with
    | true => exact ⟨hE, rfl⟩
    | false =>
      simp only [Bool.or_eq_false_iff, Bool.not_eq_false', decide_eq_true_eq] at hc
      obtain ⟨z, z1, z2, z3⟩ := kin_get h hb
      obtain ⟨z0, y1, y2⟩ := kz_ok h hc.1.2 0 0
      dsimp only at y1 y2
      refine ⟨nsS_ok (by rw [y1, show z0 = 0 by omega]) (by rw [z1, show z = b.1 by omega]) hE, rfl⟩
  · exact ⟨hE, rfl⟩
theorem nfork_ok {ρ : List Int} {w : Option (Nat × Nat × Nat)} {x : nS} {L : xL} {st : List Value} {I : tI} (hs : kst ρ x.1 L st I) : ∃ y ∈ nfork w x, kst ρ y.1 L st I ∧ y.2 = x.2 := by
  have h := hs.1
  unfold nfork
  split
  · exact ⟨x, List.mem_cons_self, hs, rfl⟩
  · split
    · rename_i v hv
      split
      · rename_i b hb
        cases hd : decide (b.2 - b.1 ≤ 200) with
        | false => exact ⟨x, List.mem_cons_self, hs, rfl⟩
        | true =>
          simp only [cond_true]
          have hb' := hb
          unfold kiv at hb'
          split at hb'
          · rename_i c hc
            cases hb'
            obtain ⟨z, z1, z2, z3⟩ := kin_get h hc
            have hn : knum ρ v (z + v.2.2) := ⟨z, z1, rfl⟩
            obtain ⟨E', e1, e2⟩ := kref_ok (lo := z + v.2.2) (hi := z + v.2.2) h hn (Int.le_refl _) (Int.le_refl _)
            exact ⟨nfk1 x v E', List.mem_map.mpr ⟨E', nfk_in _ _ _ (by dsimp only; omega) (by dsimp only; omega) e1, rfl⟩, nfk1_ok e2 hs⟩
          · cases hb'
      · exact ⟨x, List.mem_cons_self, hs, rfl⟩
    · exact ⟨x, List.mem_cons_self, hs, rfl⟩
/-- an open loop: as in kA; what stays known of the memory; facts at its head; where it ends -/
abbrev nA : Type := kA × kO × List kF × Nat
def nt (E : kE) (W : List kWs) (La : kL) (n : Nat) (Oa : kO) : kS := (E ++ kwE W, kwL n W ++ La, [], kwO n W ++ Oa)
theorem nt_ok {ρ τ : List Int} {E : kE} {W : List kWs} {La : kL} {Oa : kO} {L : xL} {I : tI} (h : kin ρ E) (h0 : xnth ρ 0 = some 0) (hLa : ∀ j v, kfind La j = some v → ∃ w, xfind L j = some w ∧ kv ρ v w) (hO : kov ρ I Oa) (hw : knws L I W τ) : kst (ρ ++ τ) (nt E W La ρ.length Oa) L [] I := by
  obtain ⟨a, b, c, d⟩ := kt_ok (La := La) h h0 hLa hw
  refine ⟨a, b, c, fun q hq => ?_⟩
  rcases List.mem_append.mp hq with hq | hq
  · exact d q hq
  · exact kov_ap hO q hq
/-- a fact at the head, by what stands there now -/
def nsb (s : kS) (W : List kWs) (n : Nat) : List (Int × Nat) → Int → Option kF
  | [], d => some ([], d)
  | q :: l, d => bif Nat.blt q.2 n then (match nsb s W n l d with
      | some f => some (q :: f.1, f.2)
      | none => none) else
    (match xnth W (q.2 - n) with
    | some w => (match ksrc s w.1 with
      | some u => (match nsb s W n l (d - q.1 * u.2.2) with
        | some f => some ((q.1, u.2.1) :: f.1, f.2)
        | none => none)
      | none => none)
    | none => none)
theorem nsb_ok {ρ1 ρ2 τ : List Int} {s : kS} {L : xL} {st : List Value} {I : tI} {W : List kWs} {n : Nat} (hz : kz s.1 = true) (h : kst (ρ1 ++ ρ2) s L st I) (hn : ρ1.length = n) (hw : knws L I W τ) : ∀ {l : List (Int × Nat)} {d : Int} {f : kF} {a : Int}, nsb s W n l d = some f → kls (ρ1 ++ ρ2) f.1 = some a → ∃ b, kls (ρ1 ++ τ) l = some b ∧ b = a + (d - f.2)
  | [], d, f, a, hs, ha => by
    cases hs
    cases ha
    exact ⟨0, rfl, by dsimp only; omega⟩
  | q :: l, d, f, a, hs, ha => by
    simp only [nsb] at hs
    cases hb : Nat.blt q.2 n with
    | true =>
      rw [hb] at hs
      simp only [cond_true] at hs
      have hlt : q.2 < ρ1.length := by have := Nat.blt_eq.mp hb; omega
      split at hs
      · rename_i g hg
        cases hs
        simp only [kls] at ha ⊢
        have e1 : xnth (ρ1 ++ ρ2) q.2 = xnth (ρ1 ++ τ) q.2 := by
          rw [xnth_eq, xnth_eq, List.getElem?_append_left hlt, List.getElem?_append_left hlt]
        rw [e1] at ha
        split at ha
        · rename_i z hzz
          try rw [hzz]
          split at ha
          · rename_i a' ha'
            cases ha
            obtain ⟨b', b1, b2⟩ := nsb_ok hz h hn hw hg ha'
            rw [b1]
            exact ⟨_, rfl, by omega⟩
          · cases ha
        · cases ha
      · cases hs
    | false =>
      rw [hb] at hs
      simp only [cond_false] at hs
      have hge : ρ1.length ≤ q.2 := by
        have : ¬ q.2 < n := fun hh => by rw [Nat.blt_eq.mpr hh] at hb; cases hb
        omega
      split at hs
      · rename_i w hw0
        split at hs
        · rename_i u hu
          split at hs
          · rename_i g hg
            cases hs
            obtain ⟨z, z1, z2⟩ := ksrc_ok hz h hu
            obtain ⟨z', y1, y2, -, -⟩ := knws_at hw hw0
            have ez := knw_one z1 y2
            subst ez
            obtain ⟨p, p1, p2⟩ := z2
            simp only [kls] at ha ⊢
            rw [p1] at ha
            dsimp only at ha
            have e1 : xnth (ρ1 ++ τ) q.2 = some z := by
              rw [xnth_eq, List.getElem?_append_right hge, hn, ← xnth_eq]
              exact y1
            rw [e1]
            dsimp only
            split at ha
            · rename_i a' ha'
              cases ha
              obtain ⟨b', b1, b2⟩ := nsb_ok hz h hn hw hg ha'
              rw [b1]
              refine ⟨_, rfl, ?_⟩
              rw [p2, Int.mul_add]
              try dsimp only at b2
              try dsimp only
              omega
            · cases ha
          · cases hs
        · cases hs
      · cases hs
theorem nsb_fo {ρ1 ρ2 τ : List Int} {s : kS} {L : xL} {st : List Value} {I : tI} {W : List kWs} {n : Nat} {f g : kF} (hz : kz s.1 = true) (h : kst (ρ1 ++ ρ2) s L st I) (hn : ρ1.length = n) (hw : knws L I W τ) (hs : nsb s W n f.1 f.2 = some g) (hg : kfo (ρ1 ++ ρ2) g) : kfo (ρ1 ++ τ) f := by
  obtain ⟨a, a1, a2⟩ := hg
  obtain ⟨b, b1, b2⟩ := nsb_ok hz h hn hw hs a1
  exact ⟨b, b1, by omega⟩
/-- what is asked of a state that comes to a loop's head -/
def nhd (T : kT) (x : nS) (W : List kWs) (n : Nat) (Fa : List kF) : Bool := (kz x.1.1 && x.1.2.2.1.isEmpty) && (W.all (kwb T x.1) && Fa.all (fun f => match nsb x.1 W n f.1 f.2 with
  | some g => kent x.1.1 x.2 g
  | none => false))
def nback (T : kT) (a : nA) (x : nS) : Bool := nhd T x a.1.2.2.2.1 a.1.2.1 a.2.2.1 && ((a.1.2.2.1.all (fun q => match kfind x.1.2.1 q.1 with
  | some u => ksame u q.2 a.1.2.1
  | none => false) && a.2.1.all (fun q => match kol x.1.2.2.2 q.1.1 q.1.2.1 q.1.2.2 with
  | some u => ksame u q.2 a.1.2.1 && (Nat.blt q.1.2.1 a.1.2.1 && Nat.blt q.2.2.1 a.1.2.1)
  | none => false)) && (match xnth a.1.2.2.2.1 a.1.2.2.2.2.1 with
  | some w => (match ksrc x.1 w.1 with
    | some u => bif a.1.2.2.2.2.2 then kent x.1.1 x.2 ([(1, a.1.2.1 + a.1.2.2.2.2.1), (-1, u.2.1)], u.2.2 - 1) else kent x.1.1 x.2 ([(-1, a.1.2.1 + a.1.2.2.2.2.1), (1, u.2.1)], -1 - u.2.2)
    | none => false)
  | none => false))
def nHyp (T : kT) (C : kQ) (sc : List Int32) (r : xR) (a : nA) (ρ0 : List Int) (Q : Option Value → xM → Prop) : Prop := ∃ ρ1 τ ρ2 E1, ρ0 = (ρ1 ++ τ) ++ ρ2 ∧ ρ1.length = a.1.2.1 ∧ kin ρ1 E1 ∧ xnth ρ1 0 = some 0 ∧ τ.length = a.1.2.2.2.1.length ∧ ∀ τ' L' B I J, kst (ρ1 ++ τ') (nt E1 a.1.2.2.2.1 a.1.2.2.1 a.1.2.1 a.2.1) L' [] I → kfs (ρ1 ++ τ') a.2.2.1 → kB T B → kI T C B I J → krank a.1.2.2.2.1 a.1.2.2.2.2.1 a.1.2.2.2.2.2 τ' < krank a.1.2.2.2.1 a.1.2.2.2.2.1 a.1.2.2.2.2.2 τ → sw sc r a.1.1 L' [] (tMem B I J) Q
theorem nHyp_ap {T : kT} {C : kQ} {sc : List Int32} {r : xR} {a : nA} {ρ0 σ : List Int} {Q : Option Value → xM → Prop} (h : nHyp T C sc r a ρ0 Q) : nHyp T C sc r a (ρ0 ++ σ) Q := by
  obtain ⟨ρ1, τ, ρ2, E1, h1, h2⟩ := h
  exact ⟨ρ1, τ, ρ2 ++ σ, E1, by rw [h1, List.append_assoc], h2⟩
theorem knum_cut {ρ σ : List Int} {v : kV} {x : Int} (hv : v.2.1 < ρ.length) (h : knum (ρ ++ σ) v x) : knum ρ v x := by
  obtain ⟨z, h1, h2⟩ := h
  refine ⟨z, ?_, h2⟩
  rw [xnth_eq] at h1 ⊢
  rw [List.getElem?_append_left hv] at h1
  exact h1
theorem nhd_ok {T : kT} {C : kQ} {ρ1 ρ2 : List Int} {x : nS} {L : xL} {st : List Value} {B : xM} {I : tI} {J : tJ} {W : List kWs} {n : Nat} {Fa : List kF} (hn : ρ1.length = n) (h : nhd T x W n Fa = true) (hs : kst (ρ1 ++ ρ2) x.1 L st I) (hD : kfs (ρ1 ++ ρ2) x.2) (hI : kI T C B I J) : st = [] ∧ kz x.1.1 = true ∧ ∃ τ, knws L I W τ ∧ kfs (ρ1 ++ τ) Fa := by
  unfold nhd at h
  simp only [Bool.and_eq_true] at h
  obtain ⟨⟨hz, hS⟩, hW, hF⟩ := h
  have hst : st = [] := by
    have h3 := hs.2.2.1
    rw [List.isEmpty_iff.mp hS] at h3
    exact h3
  obtain ⟨τ, hτ⟩ := knws_ex hz hs hI hW
  refine ⟨hst, hz, τ, hτ, fun f hf => ?_⟩
  have := List.all_eq_true.mp hF f hf
  split at this
  · rename_i g hg
    exact nsb_fo hz hs hn hτ hg (kent_ok hs.1 hD this)
  · cases this
theorem nback_ok {T : kT} {C : kQ} {sc : List Int32} {r : xR} {a : nA} {ρ0 : List Int} {x : nS} {Q : Option Value → xM → Prop} (h : nback T a x = true) (hh : nHyp T C sc r a ρ0 Q) : nG T C sc r ρ0 a.1.1 x Q := by
  intro σ L st B I J hs hD hB hI
  obtain ⟨ρ1, τ, ρ2, E1, e0, hn, hE1, hz1, hτ, H⟩ := hh
  obtain ⟨⟨pc, n, La, W, rk, up⟩, Oa, Fa, hi⟩ := a
  dsimp only at hn hτ H ⊢
  unfold nback at h
  dsimp only at h
  simp only [Bool.and_eq_true] at h
  obtain ⟨hhd, ⟨hLa, hOa⟩, hr⟩ := h
  have er : ρ0 ++ σ = ρ1 ++ (τ ++ ρ2 ++ σ) := by rw [e0]; simp [List.append_assoc]
  have hs' := hs
  have hD' := hD
  rw [er] at hs' hD'
  obtain ⟨hst, hz, τ', hτ', hF'⟩ := nhd_ok hn hhd hs' hD' hI
  subst hst
  have key : kst (ρ1 ++ τ') (nt E1 W La n Oa) L [] I := by
    rw [← hn]
    refine nt_ok hE1 hz1 (fun j v hv => ?_) (fun q hq => ?_) hτ'
    · have := List.all_eq_true.mp hLa _ (kfind_mem hv)
      dsimp only at this
      split at this
      · rename_i u hu
        obtain ⟨e, hv2⟩ := ksame_ok this
        subst e
        obtain ⟨w, g1, g2⟩ := hs'.2.1 j u hu
        exact ⟨w, g1, kv_cut (by rw [hn]; exact hv2) g2⟩
      · cases this
    · have := List.all_eq_true.mp hOa q hq
      split at this
      · rename_i u hu
        simp only [Bool.and_eq_true] at this
        obtain ⟨e, -⟩ := ksame_ok this.1
        subst e
        obtain ⟨k, k1, k2⟩ := hs'.2.2.2 _ (kol_in hu)
        exact ⟨k, knum_cut (by rw [hn]; exact Nat.blt_eq.mp this.2.1) k1, knum_cut (by rw [hn]; exact Nat.blt_eq.mp this.2.2) k2⟩
      · cases this
  refine H τ' L B I J key hF' hB hI ?_
  split at hr
  · rename_i w hw
    split at hr
    · rename_i u hu
      obtain ⟨z, g1, g2⟩ := ksrc_ok hz hs' hu
      obtain ⟨z', k1, k2, k3, k4⟩ := knws_at hτ' hw
      have ez := knw_one g1 k2
      subst ez
      have hlw : rk < W.length := flen_some hw
      obtain ⟨zo, hzo⟩ : ∃ zo, xnth τ rk = some zo := ⟨τ[rk]'(by omega), by rw [xnth_eq]; exact List.getElem?_eq_getElem (by omega)⟩
      obtain ⟨y, y1, y2⟩ := g2
      have hzo' : xnth (ρ1 ++ (τ ++ ρ2 ++ σ)) (n + rk) = some zo := by
        rw [xnth_eq] at hzo ⊢
        rw [List.getElem?_append_right (by omega), show n + rk - ρ1.length = rk by omega, List.append_assoc, List.getElem?_append_left (by omega)]
        exact hzo
      unfold krank
      rw [hw]
      dsimp only
      rw [k1, hzo]
      dsimp only
      cases up with
      | true =>
        obtain ⟨s, s1, s2⟩ := kent_ok hs'.1 hD' hr
        rw [kls_two hzo' y1] at s1
        cases s1
        dsimp only at s2
        simp only [cond_true]
        omega
      | false =>
        obtain ⟨s, s1, s2⟩ := kent_ok hs'.1 hD' hr
        rw [kls_two hzo' y1] at s1
        cases s1
        dsimp only at s2
        simp only [cond_false]
        omega
    · cases hr
  · cases hr
