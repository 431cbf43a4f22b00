/-! MEMORY -/
section TX
variable {sc : List Int32} {r : xR} {pc : Nat} {L : xL} {st : List Value} {Q : Option Value → xM → Prop} {B : xM} {I : tI} {J : tJ}
theorem tx_iald {o : Nat} {j : Int32} (he : xat r.1 pc = some (.iaload, 0, 0, 0)) (h : tSlot B o 20 j.toNatClampNeg 0 = true) (h0 : 0 ≤ j.toInt) (kk : sw sc r (pc + 1) L (.int (I o j.toNatClampNeg) :: st) (tMem B I J) Q) : sw sc r pc L (.int j :: .ref o :: st) (tMem B I J) Q := by
  obtain ⟨sl, g1, g2, g3, -⟩ := tput_i (I := I) (J := J) (v := 0) h
  refine sw_0 he rfl (?_ : xiald sc pc L (.int j :: .ref o :: st) (tMem B I J) = _) kk
  show xald 20 pc L (.int j :: .ref o :: st) (tMem B I J) = _
  unfold xald
  dsimp only
  rw [g1]
  dsimp only
  rw [xix_yes (ti_pos h0) g2]
  dsimp only
  rw [g3]
theorem tx_iast {o : Nat} {j v : Int32} (he : xat r.1 pc = some (.iastore, 0, 0, 0)) (h : tSlot B o 20 j.toNatClampNeg 0 = true) (h0 : 0 ≤ j.toInt) (kk : sw sc r (pc + 1) L st (tMem B (tup I o j.toNatClampNeg v) J) Q) : sw sc r pc L (.int v :: .int j :: .ref o :: st) (tMem B I J) Q := by
  obtain ⟨sl, g1, g2, g3, g4⟩ := tput_i (I := I) (J := J) (v := v) h
  refine sw_0 he rfl (?_ : xast 20 xgI pc L (.int v :: .int j :: .ref o :: st) (tMem B I J) = _) kk
  unfold xast xgI
  dsimp only
  rw [g1]
  dsimp only
  rw [xix_yes (ti_pos h0) g2]
  dsimp only
  rw [g4]
end TX
theorem kB_slot {T : kT} {B : xM} {o c m k : Nat} (h : kB T B) (ho : T.k o = some (c, m)) (hk : k < m) (ht : (T.b o k).1 = 0) : tSlot B o c k 0 = true := by
  obtain ⟨sl, h1, h2, h3⟩ := h o _ ho
  obtain ⟨v, g1, g2, -⟩ := h3 k hk
  unfold tSlot
  dsimp only at h1
  rw [h1]
  dsimp only
  rw [g1]
  exact g2 ht
theorem kB_ref {T : kT} {B : xM} {o c m k : Nat} (h : kB T B) (ho : T.k o = some (c, m)) (hk : k < m) (ht : (T.b o k).1 = 2) : tRef B o c k (T.b o k).2.1.toNat = true := by
  obtain ⟨sl, h1, h2, h3⟩ := h o _ ho
  obtain ⟨v, g1, -, -, g2, -⟩ := h3 k hk
  unfold tRef
  dsimp only at h1
  rw [h1]
  dsimp only
  rw [g1, g2 ht]
  exact Nat.beq_refl _
theorem kI_putJ {T : kT} {C : kQ} {B : xM} {I : tI} {J : tJ} {o k : Nat} {v : Int64} (h : kI T C B I J) (hm : T.m o k = true) : kI T C B I (tup J o k v) := ⟨h.1, (h.2.2.1 B I J o k hm h.2.1).2 v, h.2.2⟩
theorem kI_put {T : kT} {C : kQ} {B : xM} {I : tI} {J : tJ} {o k : Nat} {v : Int32} (h : kI T C B I J) (hm : T.m o k = true) (hv : (T.b o k).1 = 0 → (T.b o k).2.1 ≤ v.toInt ∧ v.toInt ≤ (T.b o k).2.2) : kI T C B (tup I o k v) J := by
  refine ⟨?_, (h.2.2.1 B I J o k hm h.2.1).1 v, h.2.2⟩
  intro o' kn k' h1 h2 h3
  by_cases e : o' = o ∧ k' = k
  · obtain ⟨rfl, rfl⟩ := e
    rw [tup_eq]
    exact hv h3
  · rw [tup_ne e]
    exact h.1 o' kn k' h1 h2 h3
def kol : kO → Nat → Nat → Int → Option kV
  | [], _, _, _ => none
  | q :: O, n, i, c => bif Nat.beq q.1.1 n && (Nat.beq q.1.2.1 i && decide (q.1.2.2 = c)) then some q.2 else kol O n i c
theorem kol_in : ∀ {O : kO} {n i : Nat} {c : Int} {v : kV}, kol O n i c = some v → ((n, i, c), v) ∈ O
  | [], _, _, _, _, h => by cases h
  | q :: O, n, i, c, v, h => by
    simp only [kol] at h
    cases hb : (Nat.beq q.1.1 n && (Nat.beq q.1.2.1 i && decide (q.1.2.2 = c))) with
    | true =>
      rw [hb] at h
      cases h
      simp only [Bool.and_eq_true, decide_eq_true_eq] at hb
      obtain ⟨⟨n0, i0, c0⟩, v0⟩ := q
      obtain ⟨b1, b2, b3⟩ := hb
      have e1 := Nat.eq_of_beq_eq_true b1
      have e2 := Nat.eq_of_beq_eq_true b2
      dsimp only at e1 e2 b3
      subst e1 e2 b3
      exact List.mem_cons_self
    | false => rw [hb] at h; exact List.mem_cons_of_mem _ (kol_in h)
theorem kol_ok {ρ : List Int} {I : tI} {O : kO} {n i : Nat} {c : Int} {v : kV} {k : Nat} (h : kov ρ I O) (hl : kol O n i c = some v) (hk : knum ρ (0, i, c) (k : Int)) : knum ρ v (I n k).toInt := by
  obtain ⟨k', h1, h2⟩ := h _ (kol_in hl)
  obtain ⟨z, g1, g2⟩ := hk
  obtain ⟨z', g3, g4⟩ := h1
  dsimp only at g1 g2 g3 g4 h2
  rw [g3] at g1
  cases g1
  have e : k' = k := by omega
  subst e
  exact h2
/-- what stays known behind a store at object o, place (i, c), which is between a and b -/
def kkill (E : kE) (o i : Nat) (c a b : Int) : kO → kO
  | [] => []
  | q :: O => bif !Nat.beq q.1.1 o || ((Nat.beq q.1.2.1 i && !decide (q.1.2.2 = c)) || (match kiv E (0, q.1.2.1, q.1.2.2) with
    | some w => decide (w.2 < a) || decide (b < w.1)
    | none => false)) then q :: kkill E o i c a b O else kkill E o i c a b O
theorem kkill_ok {ρ : List Int} {E : kE} {I : tI} {o i k : Nat} {c a b : Int} {x : Int32} (h : kin ρ E) (hk : knum ρ (0, i, c) (k : Int)) (ha : a ≤ (k : Int)) (hb : (k : Int) ≤ b) : ∀ {O : kO}, kov ρ I O → kov ρ (tup I o k x) (kkill E o i c a b O)
  | [], _ => fun q hq => by cases hq
  | q :: O, hO => by
    have ih := kkill_ok (x := x) (o := o) h hk ha hb (O := O) (fun q hq => hO q (List.mem_cons_of_mem _ hq))
    simp only [kkill]
    cases hc : (!Nat.beq q.1.1 o || ((Nat.beq q.1.2.1 i && !decide (q.1.2.2 = c)) || (match kiv E (0, q.1.2.1, q.1.2.2) with
      | some w => decide (w.2 < a) || decide (b < w.1)
      | none => false))) with
    | false => exact ih
    | true =>
      intro q' hq'
      rcases List.mem_cons.mp hq' with rfl | hq'
      · obtain ⟨k', g1, g2⟩ := hO q' List.mem_cons_self
        refine ⟨k', g1, ?_⟩
        have hne : ¬ (q'.1.1 = o ∧ k' = k) := by
          rintro ⟨e1, e2⟩
          subst e2
          rw [Bool.or_eq_true, Bool.or_eq_true] at hc
          rcases hc with hc | hc | hc
          · rw [e1, Nat.beq_refl] at hc
            cases hc
          · simp only [Bool.and_eq_true, Bool.not_eq_true', decide_eq_false_iff_not] at hc
            have := knum_eq (x := (0, q'.1.2.1, q'.1.2.2)) (y := (0, i, c)) (Nat.eq_of_beq_eq_true hc.1) g1 hk
            dsimp only at this
            exact hc.2 (by omega)
          · split at hc
            · rename_i w hw
              have := kiv_in h g1 hw
              simp only [Bool.or_eq_true, decide_eq_true_eq] at hc
              omega
            · cases hc
        rw [tup_ne hne]
        exact g2
      · exact ih q' hq'
/-- the bounds of all slots from a on, n + 1 of them -/
def kjn (T : kT) (o : Nat) : Nat → Nat → Option (Int × Int)
  | a, 0 => bif Nat.beq (T.b o a).1 0 then some (T.b o a).2 else none
  | a, n + 1 => bif Nat.beq (T.b o a).1 0 then (match kjn T o (a + 1) n with
    | some b => some (min (T.b o a).2.1 b.1, max (T.b o a).2.2 b.2)
    | none => none) else none
theorem kjn_ok {T : kT} {o : Nat} : ∀ (n a : Nat) {b : Int × Int}, kjn T o a n = some b → ∀ k, a ≤ k → k ≤ a + n → (T.b o k).1 = 0 ∧ b.1 ≤ (T.b o k).2.1 ∧ (T.b o k).2.2 ≤ b.2
  | 0, a, b, h, k, h1, h2 => by
    have e : k = a := by omega
    subst e
    simp only [kjn] at h
    cases hb : Nat.beq (T.b o k).1 0 with
    | false => rw [hb] at h; cases h
    | true => rw [hb] at h; cases h; exact ⟨Nat.eq_of_beq_eq_true hb, Int.le_refl _, Int.le_refl _⟩
  | n + 1, a, b, h, k, h1, h2 => by
    simp only [kjn] at h
    cases hb : Nat.beq (T.b o a).1 0 with
    | false => rw [hb] at h; cases h
    | true =>
      rw [hb] at h
      simp only [cond_true] at h
      split at h
      · rename_i b' hb'
        cases h
        by_cases e : k = a
        · subst e
          exact ⟨Nat.eq_of_beq_eq_true hb, by dsimp only; omega, by dsimp only; omega⟩
        · obtain ⟨g1, g2, g3⟩ := kjn_ok n (a + 1) hb' k (by omega) (by omega)
          exact ⟨g1, by dsimp only; omega, by dsimp only; omega⟩
      · cases h
/-- all slots from a on, n + 1 of them, take what is between lo and hi -/
def kmt (T : kT) (o : Nat) (lo hi : Int) : Nat → Nat → Bool
  | a, 0 => Nat.beq (T.b o a).1 0 && (decide ((T.b o a).2.1 ≤ lo) && (decide (hi ≤ (T.b o a).2.2) && T.m o a))
  | a, n + 1 => (Nat.beq (T.b o a).1 0 && (decide ((T.b o a).2.1 ≤ lo) && (decide (hi ≤ (T.b o a).2.2) && T.m o a))) && kmt T o lo hi (a + 1) n
theorem kmt_ok {T : kT} {o : Nat} {lo hi : Int} : ∀ (n a : Nat), kmt T o lo hi a n = true → ∀ k, a ≤ k → k ≤ a + n → (T.b o k).1 = 0 ∧ (T.b o k).2.1 ≤ lo ∧ hi ≤ (T.b o k).2.2 ∧ T.m o k = true
  | 0, a, h, k, h1, h2 => by
    have e : k = a := by omega
    subst e
    simp only [kmt, Bool.and_eq_true, decide_eq_true_eq] at h
    exact ⟨Nat.eq_of_beq_eq_true h.1, h.2.1, h.2.2.1, h.2.2.2⟩
  | n + 1, a, h, k, h1, h2 => by
    simp only [kmt] at h
    rw [Bool.and_eq_true] at h
    by_cases e : k = a
    · subst e
      have g := h.1
      simp only [Bool.and_eq_true, decide_eq_true_eq] at g
      exact ⟨Nat.eq_of_beq_eq_true g.1, g.2.1, g.2.2.1, g.2.2.2⟩
    · exact kmt_ok n (a + 1) h.2 k (by omega) (by omega)
section KM
variable {T : kT} {C : kQ} {sc : List Int32} {r : xR} {ρ0 : List Int} {pc : Nat} {E : kE} {L : kL} {S : List kV} {O : kO} {Q : Option Value → xM → Prop}
theorem kk_getO {i o c m k : Nat} {z d : Int} {v : kV} (he : xat r.1 pc = some (.getfield i, c, k, z)) (ho : T.k o = some (c, m)) (hk : k < m) (ht : (T.b o k).1 = 0) (hz : kz E = true) (hl : kol O o 0 (k : Int) = some v) (tv : v.1 = 0) (h : kG T C sc r ρ0 (pc + 3) (E, L, v :: S, O) Q) : kG T C sc r ρ0 pc (E, L, (2, o, d) :: S, O) Q := by
  intro σ L' st B I J ⟨h1, h2, h3, h4⟩ hB hI
  obtain ⟨w, st', rfl, g1, h3⟩ := h3
  have e : w = .ref o := g1
  subst e
  refine te_geti he (kB_slot hB ho hk ht) (h σ L' _ B I J ⟨h1, h2, ⟨_, _, rfl, ?_, h3⟩, h4⟩ hB hI)
  obtain ⟨t, j, c0⟩ := v
  subst tv
  exact ⟨_, rfl, kol_ok h4 hl (kz_ok h1 hz (k : Int) 0)⟩
theorem kk_getN {i o c m k : Nat} {z d : Int} (he : xat r.1 pc = some (.getfield i, c, k, z)) (ho : T.k o = some (c, m)) (hk : k < m) (ht : (T.b o k).1 = 0) (hz : kz E = true) (h : kG T C sc r ρ0 (pc + 3) (E ++ [(T.b o k).2], L, (0, E.length, 0) :: S, ((o, 0, (k : Int)), (0, E.length, 0)) :: O) Q) : kG T C sc r ρ0 pc (E, L, (2, o, d) :: S, O) Q := by
  intro σ L' st B I J ⟨h1, h2, h3, h4⟩ hB hI
  obtain ⟨w, st', rfl, g1, h3⟩ := h3
  have e : w = .ref o := g1
  subst e
  have hb := hI.1 o _ k ho hk ht
  have hn : knum (ρ0 ++ (σ ++ [(I o k).toInt])) (0, E.length, 0) (I o k).toInt := ⟨(I o k).toInt, by rw [← List.append_assoc]; exact kin_new h1, by simp⟩
  refine te_geti he (kB_slot hB ho hk ht) (h (σ ++ [(I o k).toInt]) L' _ B I J ⟨?_, ?_, ⟨_, _, rfl, ⟨_, rfl, hn⟩, ?_⟩, ?_⟩ hB hI)
  · rw [← List.append_assoc]; exact kin_app h1 hb.1 hb.2
  · rw [← List.append_assoc]; exact kvl_ap h2
  · rw [← List.append_assoc]; exact kvs_ap h3
  · intro q hq
    rcases List.mem_cons.mp hq with rfl | hq
    · refine ⟨k, ?_, hn⟩
      rw [← List.append_assoc]
      exact knum_ap (kz_ok h1 hz (k : Int) 0)
    · rw [← List.append_assoc]
      exact kov_ap h4 q hq
theorem kk_getR {i o c m k : Nat} {z d : Int} (he : xat r.1 pc = some (.getfield i, c, k, z)) (ho : T.k o = some (c, m)) (hk : k < m) (ht : (T.b o k).1 = 2) (h : kG T C sc r ρ0 (pc + 3) (E, L, (2, (T.b o k).2.1.toNat, 0) :: S, O) Q) : kG T C sc r ρ0 pc (E, L, (2, o, d) :: S, O) Q := by
  intro σ L' st B I J ⟨h1, h2, h3, h4⟩ hB hI
  obtain ⟨w, st', rfl, g1, h3⟩ := h3
  have e : w = .ref o := g1
  subst e
  exact te_getr he (kB_ref hB ho hk ht) (h σ L' _ B I J ⟨h1, h2, ⟨_, _, rfl, rfl, h3⟩, h4⟩ hB hI)
theorem kk_puti {i o c m k : Nat} {z d : Int} {v : kV} {b : Int × Int} (he : xat r.1 pc = some (.putfield i, c, k, z)) (ho : T.k o = some (c, m)) (hk : k < m) (hz : kz E = true) (tv : v.1 = 0) (hb : kiv E v = some b) (hm : kmt T o b.1 b.2 k 0 = true) (hty : xty c k = .int ∨ (xty c k = .boolean ∧ 0 ≤ b.1 ∧ b.2 ≤ 1)) (h : kG T C sc r ρ0 (pc + 3) (E, L, S, ((o, 0, (k : Int)), v) :: kkill E o 0 (k : Int) (k : Int) (k : Int) O) Q) : kG T C sc r ρ0 pc (E, L, v :: (2, o, d) :: S, O) Q := by
  intro σ L' st B I J ⟨h1, h2, h3, h4⟩ hB hI
  obtain ⟨w0, st0, rfl, g0, w, st', rfl, g1, h3⟩ := h3
  have e : w = .ref o := g1
  subst e
  obtain ⟨t, j, c0⟩ := v
  subst tv
  obtain ⟨x, rfl, hx⟩ := id g0
  obtain ⟨m1, m2, m3, m4⟩ := kmt_ok 0 k hm k (Nat.le_refl _) (Nat.le_refl _)
  have hxb := kiv_in h1 hx hb
  have hfit : xfit (xty c k) (.int x) = true := by
    rcases hty with q | ⟨q, q1, q2⟩
    · rw [q]; rfl
    · rw [q]
      show (decide (x = 0) || decide (x = 1)) = true
      have : x.toInt = 0 ∨ x.toInt = 1 := by omega
      rcases this with u | u
      · rw [decide_eq_true (Int32.toInt_inj.mp (by rw [u]; rfl))]; rfl
      · rw [decide_eq_true (show x = 1 from Int32.toInt_inj.mp (by rw [u]; rfl)), Bool.or_true]
  have hkn : knum (ρ0 ++ σ) (0, 0, (k : Int)) (k : Int) := kz_ok h1 hz (k : Int) 0
  refine te_puti he (kB_slot hB ho hk m1) hfit (h σ L' st' B (tup I o k x) J ⟨h1, h2, h3, ?_⟩ hB (kI_put hI m4 (fun _ => ⟨by omega, by omega⟩)))
  intro q hq
  rcases List.mem_cons.mp hq with rfl | hq
  · refine ⟨k, hkn, ?_⟩
    dsimp only
    rw [tup_eq]
    exact hx
  · exact kkill_ok h1 hkn (Int.le_refl _) (Int.le_refl _) h4 q hq
theorem kk_idx {ρ : List Int} {v : kV} {b : Int × Int} {j : Int32} (h : kin ρ E) (hj : knum ρ v j.toInt) (hb : kiv E v = some b) (h0 : 0 ≤ b.1) : (j.toNatClampNeg : Int) = j.toInt ∧ b.1.toNat ≤ j.toNatClampNeg ∧ j.toNatClampNeg ≤ b.1.toNat + (b.2 - b.1).toNat := by
  have h1 := kiv_in h hj hb
  have e : j.toNatClampNeg = j.toInt.toNat := rfl
  rw [e]
  omega
theorem kk_iald {o m : Nat} {d : Int} {j : kV} {b w : Int × Int} (he : xat r.1 pc = some (.iaload, 0, 0, 0)) (ho : T.k o = some (20, m)) (tj : j.1 = 0) (hb : kiv E j = some b) (h0 : 0 ≤ b.1) (h1 : b.2 < m) (hw : kjn T o b.1.toNat (b.2 - b.1).toNat = some w) (h : kG T C sc r ρ0 (pc + 1) (E ++ [w], L, (0, E.length, 0) :: S, ((o, j.2.1, j.2.2), (0, E.length, 0)) :: O) Q) : kG T C sc r ρ0 pc (E, L, j :: (2, o, d) :: S, O) Q := by
  intro σ L' st B I J ⟨k1, k2, k3, k4⟩ hB hI
  obtain ⟨w0, st0, rfl, g0, w1, st', rfl, g1, k3⟩ := k3
  have e : w1 = .ref o := g1
  subst e
  obtain ⟨t, ji, jc⟩ := j
  subst tj
  obtain ⟨x, rfl, hx⟩ := id g0
  obtain ⟨q1, q2, q3⟩ := kk_idx k1 hx hb h0
  have hlt : x.toNatClampNeg < m := by
    have := kiv_in k1 hx hb
    omega
  obtain ⟨m1, m2, m3⟩ := kjn_ok _ _ hw x.toNatClampNeg q2 q3
  have hbd := hI.1 o _ x.toNatClampNeg ho hlt m1
  have hn : knum (ρ0 ++ (σ ++ [(I o x.toNatClampNeg).toInt])) (0, E.length, 0) (I o x.toNatClampNeg).toInt := ⟨(I o x.toNatClampNeg).toInt, by rw [← List.append_assoc]; exact kin_new k1, by simp⟩
  refine tx_iald he (kB_slot hB ho hlt m1) (by omega) (h (σ ++ [(I o x.toNatClampNeg).toInt]) L' _ B I J ⟨?_, ?_, ⟨_, _, rfl, ⟨_, rfl, hn⟩, ?_⟩, ?_⟩ hB hI)
  · rw [← List.append_assoc]; exact kin_app k1 (by omega) (by omega)
  · rw [← List.append_assoc]; exact kvl_ap k2
  · rw [← List.append_assoc]; exact kvs_ap k3
  · intro q hq
    rcases List.mem_cons.mp hq with rfl | hq
    · refine ⟨x.toNatClampNeg, ?_, hn⟩
      rw [← List.append_assoc, q1]
      exact knum_ap hx
    · rw [← List.append_assoc]
      exact kov_ap k4 q hq
theorem kk_ialdO {o m : Nat} {d : Int} {j v : kV} {b w : Int × Int} (he : xat r.1 pc = some (.iaload, 0, 0, 0)) (ho : T.k o = some (20, m)) (tj : j.1 = 0) (hb : kiv E j = some b) (h0 : 0 ≤ b.1) (h1 : b.2 < m) (hw : kjn T o b.1.toNat (b.2 - b.1).toNat = some w) (hl : kol O o j.2.1 j.2.2 = some v) (tv : v.1 = 0) (h : kG T C sc r ρ0 (pc + 1) (E, L, v :: S, O) Q) : kG T C sc r ρ0 pc (E, L, j :: (2, o, d) :: S, O) Q := by
  intro σ L' st B I J ⟨k1, k2, k3, k4⟩ hB hI
  obtain ⟨w0, st0, rfl, g0, w1, st', rfl, g1, k3⟩ := k3
  have e : w1 = .ref o := g1
  subst e
  obtain ⟨t, ji, jc⟩ := j
  subst tj
  obtain ⟨x, rfl, hx⟩ := id g0
  obtain ⟨q1, q2, q3⟩ := kk_idx k1 hx hb h0
  have hlt : x.toNatClampNeg < m := by
    have := kiv_in k1 hx hb
    omega
  obtain ⟨m1, m2, m3⟩ := kjn_ok _ _ hw x.toNatClampNeg q2 q3
  refine tx_iald he (kB_slot hB ho hlt m1) (by omega) (h σ L' _ B I J ⟨k1, k2, ⟨_, _, rfl, ?_, k3⟩, k4⟩ hB hI)
  obtain ⟨t, vi, vc⟩ := v
  subst tv
  exact ⟨_, rfl, kol_ok k4 hl (by rw [q1]; exact hx)⟩
theorem kk_iast {o m : Nat} {d : Int} {j v : kV} {b w : Int × Int} (he : xat r.1 pc = some (.iastore, 0, 0, 0)) (ho : T.k o = some (20, m)) (tj : j.1 = 0) (tv : v.1 = 0) (hb : kiv E j = some b) (h0 : 0 ≤ b.1) (h1 : b.2 < m) (hw : kiv E v = some w) (hm : kmt T o w.1 w.2 b.1.toNat (b.2 - b.1).toNat = true) (h : kG T C sc r ρ0 (pc + 1) (E, L, S, ((o, j.2.1, j.2.2), v) :: kkill E o j.2.1 j.2.2 b.1 b.2 O) Q) : kG T C sc r ρ0 pc (E, L, v :: j :: (2, o, d) :: S, O) Q := by
  intro σ L' st B I J ⟨k1, k2, k3, k4⟩ hB hI
  obtain ⟨wv, stv, rfl, gv, w0, st0, rfl, g0, w1, st', rfl, g1, k3⟩ := k3
  have e : w1 = .ref o := g1
  subst e
  obtain ⟨t, ji, jc⟩ := j
  subst tj
  obtain ⟨x, rfl, hx⟩ := id g0
  obtain ⟨t, vi, vc⟩ := v
  subst tv
  obtain ⟨y, rfl, hy⟩ := id gv
  obtain ⟨q1, q2, q3⟩ := kk_idx k1 hx hb h0
  have hxb := kiv_in k1 hx hb
  have hyb := kiv_in k1 hy hw
  have hlt : x.toNatClampNeg < m := by omega
  obtain ⟨m1, m2, m3, m4⟩ := kmt_ok _ _ hm x.toNatClampNeg q2 q3
  have hkn : knum (ρ0 ++ σ) (0, ji, jc) (x.toNatClampNeg : Int) := by rw [q1]; exact hx
  refine tx_iast he (kB_slot hB ho hlt m1) (by omega) (h σ L' st' B (tup I o x.toNatClampNeg y) J ⟨k1, k2, k3, ?_⟩ hB (kI_put hI m4 (fun _ => ⟨by omega, by omega⟩)))
  intro q hq
  rcases List.mem_cons.mp hq with rfl | hq
  · refine ⟨x.toNatClampNeg, hkn, ?_⟩
    dsimp only
    rw [tup_eq]
    exact hy
  · exact kkill_ok k1 hkn (by omega) (by omega) k4 q hq
end KM
