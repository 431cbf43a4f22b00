/-! THE PURE INTERPRETER: ints and longs as functions of object and place; nothing is held against bounds.
What it answers is what a run answers, where both come to an end (pur_ok). -/
abbrev pC : Type := Nat × xL × List Value × tI × tJ
/-- instructions that look at the memory, or make some -/
def pmm (e : xE) : Bool := match e.1 with
  | .iaload => true
  | .baload => true
  | .laload => true
  | .aaload => true
  | .iastore => true
  | .bastore => true
  | .lastore => true
  | .aastore => true
  | .arraylength => true
  | .newarray _ => true
  | .anewarray _ => true
  | .multianewarray _ _ => true
  | .new _ => true
  | .getfield _ => true
  | .putfield _ => true
  | .invokestatic _ => Nat.beq e.2.1 5001
  | .invokevirtual _ => Nat.beq e.2.1 5006
  | _ => false
def pkd (a k : Nat) : Bool := match ktK a with
  | some kn => Nat.beq kn.1 k
  | none => false
def pald (f : Nat → Nat → Value) (kd pc : Nat) (L : xL) (st : List Value) (I : tI) (J : tJ) : Option pC := match st with
  | .int j :: .ref a :: r => bif pkd a kd then some (pc + 1, L, f a j.toNatClampNeg :: r, I, J) else none
  | _ => none
def pgt (k pc : Nat) (L : xL) (st : List Value) (I : tI) (J : tJ) : Option pC := match st with
  | .ref a :: r => (match ktK a with
    | some _ => (match (ktB a k).1 with
      | 0 => some (pc + 3, L, .int (I a k) :: r, I, J)
      | 1 => some (pc + 3, L, .long (J a k) :: r, I, J)
      | 2 => some (pc + 3, L, .ref (ktB a k).2.1.toNat :: r, I, J)
      | _ => none)
    | none => none)
  | _ => none
def ppt (k pc : Nat) (L : xL) (st : List Value) (I : tI) (J : tJ) : Option pC := match st with
  | .int x :: .ref a :: r => (match ktK a with
    | some _ => bif Nat.beq (ktB a k).1 0 then some (pc + 3, L, r, tup I a k x, J) else none
    | none => none)
  | .long x :: .ref a :: r => (match ktK a with
    | some _ => bif Nat.beq (ktB a k).1 1 then some (pc + 3, L, r, I, tup J a k x) else none
    | none => none)
  | _ => none
def pm1 (sc : List Int32) (e : xE) (pc : Nat) (L : xL) (st : List Value) (I : tI) (J : tJ) : Option pC := match e.1 with
  | .iaload => (match st with
    | .int j :: .retAddr 0 :: r => some (pc + 1, L, .int (sc.getD j.toNatClampNeg 0) :: r, I, J)
    | _ => pald (fun a k => .int (I a k)) 20 pc L st I J)
  | .baload => pald (fun a k => .int (I a k)) 21 pc L st I J
  | .laload => pald (fun a k => .long (J a k)) 22 pc L st I J
  | .iastore => (match st with
    | .int v :: .int j :: .ref a :: r => bif pkd a 20 then some (pc + 1, L, r, tup I a j.toNatClampNeg v, J) else none
    | _ => none)
  | .bastore => (match st with
    | .int v :: .int j :: .ref a :: r => bif pkd a 21 then some (pc + 1, L, r, tup I a j.toNatClampNeg v.toInt8.toInt32, J) else none
    | _ => none)
  | .lastore => (match st with
    | .long v :: .int j :: .ref a :: r => bif pkd a 22 then some (pc + 1, L, r, I, tup J a j.toNatClampNeg v) else none
    | _ => none)
  | .arraylength => (match st with
    | .retAddr 0 :: r => some (pc + 1, L, .int (Int32.ofNat sc.length) :: r, I, J)
    | .ref a :: r => (match ktK a with
      | some kn => some (pc + 1, L, .int (Int32.ofNat kn.2) :: r, I, J)
      | none => none)
    | _ => none)
  | .getfield _ => pgt e.2.2.1 pc L st I J
  | .putfield _ => ppt e.2.2.1 pc L st I J
  | .invokestatic _ => (match st with
    | .int n :: .int dp :: .ref d :: .int sp :: .ref s :: r => bif pkd d 20 && pkd s 20 then some (pc + 3, L, r, tcp I d dp.toNatClampNeg s sp.toNatClampNeg n.toNatClampNeg, J) else bif pkd d 22 && pkd s 22 then some (pc + 3, L, r, I, tcp J d dp.toNatClampNeg s sp.toNatClampNeg n.toNatClampNeg) else none
    | _ => none)
  | .invokevirtual _ => (match st with
    | .int j :: .retAddr (k + 1) :: r => some (pc + 3, L, .int ((xsB.getD k []).getD j.toNatClampNeg 0) :: r, I, J)
    | _ => none)
  | _ => none
def p1 (sc : List Int32) (e : xE) (pc : Nat) (L : xL) (st : List Value) (I : tI) (J : tJ) : Option pC := match pmm e with
  | true => pm1 sc e pc L st I J
  | false => (match s1 xty xdf sc e pc L st [] with
    | some q => some (q.1, q.2.1, q.2.2.1, I, J)
    | none => none)
/-! all elements of a row are of the row's sort -/
def pTag : Bool := (List.range 203).all (fun o => match ktK o with
  | some kn => bif Nat.beq kn.1 20 || Nat.beq kn.1 21 then (List.range kn.2).all (fun k => Nat.beq (ktB o k).1 0) else bif Nat.beq kn.1 22 then (List.range kn.2).all (fun k => Nat.beq (ktB o k).1 1) else true
  | none => true)
set_option maxRecDepth 1000000 in
theorem pTag_ok : pTag = true := by decide +kernel
theorem pTag_at {o : Nat} {kn : Nat × Nat} (h : ktK o = some kn) : ((kn.1 = 20 ∨ kn.1 = 21) → ∀ k, k < kn.2 → (ktB o k).1 = 0) ∧ (kn.1 = 22 → ∀ k, k < kn.2 → (ktB o k).1 = 1) := by
  have h1 := List.all_eq_true.mp pTag_ok o (List.mem_range.mpr (ktK_lt h))
  rw [h] at h1
  dsimp only at h1
  refine ⟨fun hk k hl => ?_, fun hk k hl => ?_⟩
  · have hb : (Nat.beq kn.1 20 || Nat.beq kn.1 21) = true := by
      rcases hk with hk | hk <;> rw [hk] <;> rfl
    rw [hb] at h1
    exact Nat.eq_of_beq_eq_true (List.all_eq_true.mp h1 k (List.mem_range.mpr hl))
  · rw [hk] at h1
    exact Nat.eq_of_beq_eq_true (List.all_eq_true.mp h1 k (List.mem_range.mpr hl))
theorem pkd_in {a k : Nat} (h : pkd a k = true) : ∃ n, ktK a = some (k, n) := by
  unfold pkd at h
  split at h
  · rename_i kn hkn
    have e := Nat.eq_of_beq_eq_true h
    exact ⟨kn.2, by rw [hkn, ← e]⟩
  · cases h
def pT : kT := (ktK, ktB, fun _ _ => true)
section PU
variable {sc : List Int32} {B : xM} {I : tI} {J : tJ}
theorem pB_of {m : Nat → Nat → Bool} (h : kB (ktK, ktB, m) B) : kB pT B := h
theorem p_slotI {o c m k : Nat} (hB : kB pT B) (ho : ktK o = some (c, m)) (hk : k < m) (ht : (ktB o k).1 = 0) : tSlot B o c k 0 = true := kB_slot (T := pT) hB ho hk ht
theorem p_slotL {o c m k : Nat} (hB : kB pT B) (ho : ktK o = some (c, m)) (hk : k < m) (ht : (ktB o k).1 = 1) : tSlot B o c k 1 = true := kB_slotL (T := pT) hB ho hk ht
theorem p_arrL {o c m : Nat} (hB : kB pT B) (ho : ktK o = some (c, m)) : ∃ sl, xarr (tMem B I J) o c = some sl ∧ sl.length = m := by
  obtain ⟨sl, h1, h2, -⟩ := hB o _ ho
  exact ⟨_, tarr h1, by rw [tS_len]; exact h2⟩
/-- a load out of a row -/
theorem pald_ok {f : Nat → Nat → Value} {kd pc : Nat} {L : xL} {st : List Value} {q : xC} {q' : pC} (hB : kB pT B) (hv : ∀ a n k sl v, ktK a = some (kd, n) → k < n → xarr (tMem B I J) a kd = some sl → xnth sl k = some v → v = f a k) (h : xald kd pc L st (tMem B I J) = some q) (h' : pald f kd pc L st I J = some q') : q = (q'.1, q'.2.1, q'.2.2.1, tMem B q'.2.2.2.1 q'.2.2.2.2) := by
  unfold pald at h'
  split at h'
  · rename_i j a r
    obtain ⟨hk, h'⟩ := bif_n h'
    cases h'
    obtain ⟨n, hn⟩ := pkd_in hk
    unfold xald at h
    dsimp only at h
    split at h
    · rename_i sl hsl
      split at h
      · rename_i i hi
        obtain ⟨-, rfl, g3⟩ := xix_eq hi
        split at h
        · rename_i v hv'
          cases h
          obtain ⟨sl', e1, e2⟩ := p_arrL (I := I) (J := J) hB hn
          rw [hsl] at e1
          cases e1
          rw [hv a n _ sl v hn (by omega) hsl hv']
        · cases h
      · cases h
    · cases h
  · cases h'
theorem p_valI {a c n k : Nat} {sl : List Value} {v : Value} (hB : kB pT B) (hn : ktK a = some (c, n)) (hk : k < n) (ht : (ktB a k).1 = 0) (hsl : xarr (tMem B I J) a c = some sl) (hv : xnth sl k = some v) : v = .int (I a k) := by
  obtain ⟨sl', e1, -, e3, -⟩ := tput_i (I := I) (J := J) (v := 0) (p_slotI hB hn hk ht)
  rw [hsl] at e1
  cases e1
  rw [hv] at e3
  exact Option.some.inj e3
theorem p_valL {a c n k : Nat} {sl : List Value} {v : Value} (hB : kB pT B) (hn : ktK a = some (c, n)) (hk : k < n) (ht : (ktB a k).1 = 1) (hsl : xarr (tMem B I J) a c = some sl) (hv : xnth sl k = some v) : v = .long (J a k) := by
  obtain ⟨sl', e1, -, e3, -⟩ := tput_l (I := I) (J := J) (v := 0) (p_slotL hB hn hk ht)
  rw [hsl] at e1
  cases e1
  rw [hv] at e3
  exact Option.some.inj e3
/-- a store into a row -/
theorem past_okI {g : Value → Option Value} {w x : Int32} {kd pc : Nat} {L : xL} {j : Int32} {a : Nat} {r : List Value} {q : xC} (hB : kB pT B) (hk : pkd a kd = true) (h2 : kd = 20 ∨ kd = 21) (hg : g (.int x) = some (.int w)) (h : xast kd g pc L (.int x :: .int j :: .ref a :: r) (tMem B I J) = some q) : q = (pc + 1, L, r, tMem B (tup I a j.toNatClampNeg w) J) := by
  obtain ⟨n, hn⟩ := pkd_in hk
  unfold xast at h
  dsimp only at h
  rw [hg] at h
  dsimp only at h
  split at h
  · rename_i sl hsl
    split at h
    · rename_i i hi
      cases h
      obtain ⟨-, rfl, g3⟩ := xix_eq hi
      obtain ⟨sl', e1, e2⟩ := p_arrL (I := I) (J := J) hB hn
      rw [hsl] at e1
      cases e1
      obtain ⟨sl', e1, -, -, e4⟩ := tput_i (I := I) (J := J) (v := w) (p_slotI (k := j.toNatClampNeg) hB hn (by omega) ((pTag_at hn).1 h2 _ (by dsimp only; omega)))
      rw [hsl] at e1
      cases e1
      rw [e4]
    · cases h
  · cases h
theorem past_okL {x : Int64} {pc : Nat} {L : xL} {j : Int32} {a : Nat} {r : List Value} {q : xC} (hB : kB pT B) (hk : pkd a 22 = true) (h : xast 22 xgL pc L (.long x :: .int j :: .ref a :: r) (tMem B I J) = some q) : q = (pc + 1, L, r, tMem B I (tup J a j.toNatClampNeg x)) := by
  obtain ⟨n, hn⟩ := pkd_in hk
  unfold xast at h
  dsimp only [xgL] at h
  split at h
  · rename_i sl hsl
    split at h
    · rename_i i hi
      cases h
      obtain ⟨-, rfl, g3⟩ := xix_eq hi
      obtain ⟨sl', e1, e2⟩ := p_arrL (I := I) (J := J) hB hn
      rw [hsl] at e1
      cases e1
      obtain ⟨sl', e1, -, -, e4⟩ := tput_l (I := I) (J := J) (v := x) (p_slotL (k := j.toNatClampNeg) hB hn (by omega) ((pTag_at hn).2 rfl _ (by dsimp only; omega)))
      rw [hsl] at e1
      cases e1
      rw [e4]
    · cases h
  · cases h
theorem pB_kind {a c : Nat} {kn : Nat × Nat} {sl : List Value} (hB : kB pT B) (hn : ktK a = some kn) (h : xarr (tMem B I J) a c = some sl) : kn.1 = c ∧ sl.length = kn.2 := by
  obtain ⟨sl', e1, e2⟩ := p_arrL (I := I) (J := J) (c := kn.1) (m := kn.2) hB hn
  have h1 := xarr_nth h
  have h2 := xarr_nth e1
  rw [h1] at h2
  cases h2
  exact ⟨rfl, e2⟩
theorem pgt_ok {c k pc : Nat} {L : xL} {st : List Value} {q : xC} {q' : pC} (hB : kB pT B) (h : xget c k pc L st (tMem B I J) = some q) (h' : pgt k pc L st I J = some q') : q = (q'.1, q'.2.1, q'.2.2.1, tMem B q'.2.2.2.1 q'.2.2.2.2) := by
  unfold pgt at h'
  split at h'
  · rename_i a r
    split at h'
    · rename_i kn hn
      unfold xget at h
      dsimp only at h
      split at h
      · rename_i sl hsl
        obtain ⟨hc, hl⟩ := pB_kind hB hn hsl
        split at h
        · rename_i v hv
          have hkl : k < kn.2 := by have := flen_some hv; omega
          obtain ⟨c0, n0⟩ := kn
          dsimp only at hc hl hkl
          subst hc
          cases h
          split at h'
          · rename_i ht
            cases h'
            rw [p_valI hB hn hkl ht hsl hv]
          · rename_i ht
            cases h'
            rw [p_valL hB hn hkl ht hsl hv]
          · rename_i ht
            cases h'
            have hr := kB_ref (T := pT) (k := k) hB hn hkl ht
            obtain ⟨sl', e1, e2⟩ := tget_r (I := I) (J := J) hr
            rw [hsl] at e1
            cases e1
            rw [hv] at e2
            cases e2
            rfl
          · cases h'
        · cases h
      · cases h
    · cases h'
  · cases h'
theorem ppt_ok {c k pc : Nat} {L : xL} {st : List Value} {q : xC} {q' : pC} (hB : kB pT B) (h : xput xty c k pc L st (tMem B I J) = some q) (h' : ppt k pc L st I J = some q') : q = (q'.1, q'.2.1, q'.2.2.1, tMem B q'.2.2.2.1 q'.2.2.2.2) := by
  unfold ppt at h'
  split at h'
  · rename_i x a r
    split at h'
    · rename_i kn hn
      have ht := (bif_n h').1
      replace h' := (bif_n h').2
      cases h'
      unfold xput at h
      dsimp only at h
      replace h := (bif_n h).2
      split at h
      · rename_i sl hsl
        obtain ⟨hc, hl⟩ := pB_kind hB hn hsl
        have hb := (bif_n h).1
        replace h := (bif_n h).2
        cases h
        have hkl : k < kn.2 := by have := Nat.blt_eq.mp hb; omega
        obtain ⟨c0, n0⟩ := kn
        dsimp only at hc hl hkl
        subst hc
        obtain ⟨sl', e1, -, -, e4⟩ := tput_i (I := I) (J := J) (v := x) (p_slotI hB hn hkl (Nat.eq_of_beq_eq_true ht))
        rw [hsl] at e1
        cases e1
        rw [e4]
      · cases h
    · cases h'
  · rename_i x a r
    split at h'
    · rename_i kn hn
      have ht := (bif_n h').1
      replace h' := (bif_n h').2
      cases h'
      unfold xput at h
      dsimp only at h
      replace h := (bif_n h).2
      split at h
      · rename_i sl hsl
        obtain ⟨hc, hl⟩ := pB_kind hB hn hsl
        have hb := (bif_n h).1
        replace h := (bif_n h).2
        cases h
        have hkl : k < kn.2 := by have := Nat.blt_eq.mp hb; omega
        obtain ⟨c0, n0⟩ := kn
        dsimp only at hc hl hkl
        subst hc
        obtain ⟨sl', e1, -, -, e4⟩ := tput_l (I := I) (J := J) (v := x) (p_slotL hB hn hkl (Nat.eq_of_beq_eq_true ht))
        rw [hsl] at e1
        cases e1
        rw [e4]
      · cases h
    · cases h'
  · cases h'
theorem pbe {α : Type} {c : Bool} {a : Option α} {x : α} (h : (bif c then none else a) = some x) : c = false ∧ a = some x := by
  cases c
  · exact ⟨rfl, h⟩
  · cases h
theorem pcp_okI {pc : Nat} {L : xL} {n dp sp : Int32} {d s : Nat} {r : List Value} {q : xC} (hB : kB pT B) (hd : pkd d 20 = true) (hs : pkd s 20 = true) (h : (match xacopy 20 pc L n dp sp d s r (tMem B I J) with
    | some q => some q
    | none => xacopy 22 pc L n dp sp d s r (tMem B I J)) = some q) : q = (pc + 3, L, r, tMem B (tcp I d dp.toNatClampNeg s sp.toNatClampNeg n.toNatClampNeg) J) := by
  obtain ⟨nd, hd⟩ := pkd_in hd
  obtain ⟨ns, hs⟩ := pkd_in hs
  obtain ⟨sl, s1, s2, s3⟩ := hB s _ hs
  obtain ⟨dl, d1, d2, d3⟩ := hB d _ hd
  dsimp only at s1 s2 s3 d1 d2 d3
  cases hq : xacopy 20 pc L n dp sp d s r (tMem B I J) with
  | none =>
    rw [hq] at h
    dsimp only at h
    unfold xacopy at h
    rw [xarr_no (tarr s1) rfl] at h
    cases h
  | some q0 =>
    rw [hq] at h
    cases h
    unfold xacopy at hq
    rw [tarr s1] at hq
    dsimp only at hq
    rw [tarr d1] at hq
    dsimp only at hq
    obtain ⟨hc, hq⟩ := pbe hq
    cases hq
    simp only [Bool.or_eq_false_iff, tS_len] at hc
    obtain ⟨⟨⟨⟨-, -⟩, -⟩, c4⟩, c5⟩ := hc
    have l1 : sp.toNatClampNeg + n.toNatClampNeg ≤ sl.length := by
      rcases Nat.lt_or_ge sl.length (sp.toNatClampNeg + n.toNatClampNeg) with z | z
      · rw [Nat.blt_eq.mpr z] at c4
        cases c4
      · exact z
    have l2 : dp.toNatClampNeg + n.toNatClampNeg ≤ dl.length := by
      rcases Nat.lt_or_ge dl.length (dp.toNatClampNeg + n.toNatClampNeg) with z | z
      · rw [Nat.blt_eq.mpr z] at c5
        cases c5
      · exact z
    rw [tcpI (I := I) (J := J) s1 d1 l1 l2 (fun k hk => by
      obtain ⟨v, v1, v2, -⟩ := s3 (sp.toNatClampNeg + k) (by omega)
      exact ⟨v, v1, v2 ((pTag_at hs).1 (Or.inl rfl) _ (by dsimp only; omega))⟩) (fun k hk => by
      obtain ⟨v, v1, v2, -⟩ := d3 (dp.toNatClampNeg + k) (by omega)
      exact ⟨v, v1, v2 ((pTag_at hd).1 (Or.inl rfl) _ (by dsimp only; omega))⟩)]
theorem pcp_okL {pc : Nat} {L : xL} {n dp sp : Int32} {d s : Nat} {r : List Value} {q : xC} (hB : kB pT B) (hd : pkd d 22 = true) (hs : pkd s 22 = true) (h : (match xacopy 20 pc L n dp sp d s r (tMem B I J) with
    | some q => some q
    | none => xacopy 22 pc L n dp sp d s r (tMem B I J)) = some q) : q = (pc + 3, L, r, tMem B I (tcp J d dp.toNatClampNeg s sp.toNatClampNeg n.toNatClampNeg)) := by
  obtain ⟨nd, hd⟩ := pkd_in hd
  obtain ⟨ns, hs⟩ := pkd_in hs
  obtain ⟨sl, s1, s2, s3⟩ := hB s _ hs
  obtain ⟨dl, d1, d2, d3⟩ := hB d _ hd
  dsimp only at s1 s2 s3 d1 d2 d3
  have h20 : xacopy 20 pc L n dp sp d s r (tMem B I J) = none := by
    unfold xacopy
    rw [xarr_no (tarr s1) rfl]
  rw [h20] at h
  dsimp only at h
  unfold xacopy at h
  rw [tarr s1] at h
  dsimp only at h
  rw [tarr d1] at h
  dsimp only at h
  obtain ⟨hc, h⟩ := pbe h
  cases h
  simp only [Bool.or_eq_false_iff, tS_len] at hc
  obtain ⟨⟨⟨⟨-, -⟩, -⟩, c4⟩, c5⟩ := hc
  have l1 : sp.toNatClampNeg + n.toNatClampNeg ≤ sl.length := by
    rcases Nat.lt_or_ge sl.length (sp.toNatClampNeg + n.toNatClampNeg) with z | z
    · rw [Nat.blt_eq.mpr z] at c4
      cases c4
    · exact z
  have l2 : dp.toNatClampNeg + n.toNatClampNeg ≤ dl.length := by
    rcases Nat.lt_or_ge dl.length (dp.toNatClampNeg + n.toNatClampNeg) with z | z
    · rw [Nat.blt_eq.mpr z] at c5
      cases c5
    · exact z
  rw [tcpJ (I := I) (J := J) s1 d1 l1 l2 (fun k hk => by
    obtain ⟨v, v1, -, v2, -⟩ := s3 (sp.toNatClampNeg + k) (by omega)
    exact ⟨v, v1, v2 ((pTag_at hs).2 rfl _ (by dsimp only; omega))⟩) (fun k hk => by
    obtain ⟨v, v1, -, v2, -⟩ := d3 (dp.toNatClampNeg + k) (by omega)
    exact ⟨v, v1, v2 ((pTag_at hd).2 rfl _ (by dsimp only; omega))⟩)]
def pvi (e : xE) : Bool := match e.1 with
  | .invokevirtual _ => true
  | _ => false
theorem s1_mem {e : xE} {pc : Nat} {L : xL} {st : List Value} {M : xM} {q : xC} (hm : pmm e = true) (hv : pvi e = false) (h : s1 xty xdf sc e pc L st M = some q) : x1 xty xdf sc e pc L st M = some q := by
  rcases s1_cases h with h | h
  · exact h
  · obtain ⟨ins, a, b, z⟩ := e
    cases ins <;> first | (cases hm; done) | (cases hv; done) | (cases h; done)
theorem pm1_ok {e : xE} {pc : Nat} {L : xL} {st : List Value} {q : xC} {q' : pC} (hB : kB pT B) (hm : pmm e = true) (h : s1 xty xdf sc e pc L st (tMem B I J) = some q) (h' : pm1 sc e pc L st I J = some q') : q = (q'.1, q'.2.1, q'.2.2.1, tMem B q'.2.2.2.1 q'.2.2.2.2) := by
  cases hv : pvi e with
  | true =>
    obtain ⟨ins, ea, eb, ez⟩ := e
    cases ins <;> first | (cases hv; done) | skip
    have e6 := Nat.eq_of_beq_eq_true hm
    dsimp only at e6
    subst e6
    have h : xschar pc L st (tMem B I J) = some q := h
    simp only [pm1] at h'
    split at h'
    · rename_i j k r
      cases h'
      unfold xschar at h
      dsimp only at h
      replace h := (bif_n h).2
      split at h
      · rename_i i hi
        obtain ⟨-, rfl, -⟩ := xix_eq hi
        cases h
        rfl
      · cases h
    · cases h'
  | false =>
  have h := s1_mem hm hv h
  obtain ⟨ins, ea, eb, ez⟩ := e
  cases ins
  case iaload =>
    have h : xiald sc pc L st (tMem B I J) = some q := h
    have h' : (match (generalizing := false) st with
      | .int j :: .retAddr 0 :: r => some (pc + 1, L, Value.int (sc.getD j.toNatClampNeg 0) :: r, I, J)
      | _ => pald (fun a k => .int (I a k)) 20 pc L st I J) = some q' := h'
    unfold xiald at h
    split at h
    · rename_i j r
      cases h'
      split at h
      · rename_i i hi
        obtain ⟨-, rfl, -⟩ := xix_eq hi
        cases h
        rfl
      · cases h
    · rename_i hne
      split at h'
      · rename_i j r
        exact absurd rfl (hne _ _)
      · exact pald_ok hB (fun a n k sl v hn hk hsl hv => p_valI hB hn hk ((pTag_at hn).1 (Or.inl rfl) k hk) hsl hv) h h'
  case baload =>
    have h : xald 21 pc L st (tMem B I J) = some q := h
    exact pald_ok hB (fun a n k sl v hn hk hsl hv => p_valI hB hn hk ((pTag_at hn).1 (Or.inr rfl) k hk) hsl hv) h h'
  case laload =>
    have h : xald 22 pc L st (tMem B I J) = some q := h
    exact pald_ok hB (fun a n k sl v hn hk hsl hv => p_valL hB hn hk ((pTag_at hn).2 rfl k hk) hsl hv) h h'
  case iastore =>
    have h : xast 20 xgI pc L st (tMem B I J) = some q := h
    simp only [pm1] at h'
    split at h'
    · have hk := (bif_n h').1
      replace h' := (bif_n h').2
      cases h'
      exact past_okI hB hk (Or.inl rfl) rfl h
    · cases h'
  case bastore =>
    have h : xast 21 xgB pc L st (tMem B I J) = some q := h
    simp only [pm1] at h'
    split at h'
    · have hk := (bif_n h').1
      replace h' := (bif_n h').2
      cases h'
      exact past_okI hB hk (Or.inr rfl) rfl h
    · cases h'
  case lastore =>
    have h : xast 22 xgL pc L st (tMem B I J) = some q := h
    simp only [pm1] at h'
    split at h'
    · have hk := (bif_n h').1
      replace h' := (bif_n h').2
      cases h'
      exact past_okL hB hk h
    · cases h'
  case arraylength =>
    have h : xlen sc pc L st (tMem B I J) = some q := h
    simp only [pm1] at h'
    split at h'
    · cases h'
      cases h
      rfl
    · rename_i a r
      split at h'
      · rename_i kn hn
        cases h'
        unfold xlen at h
        dsimp only at h
        split at h
        · rename_i o ho
          replace h := (bif_n h).2
          cases h
          obtain ⟨sl', e1, e2⟩ := p_arrL (I := I) (J := J) (c := kn.1) (m := kn.2) hB hn
          have h2 := xarr_nth e1
          rw [ho] at h2
          cases h2
          rw [e2]
        · cases h
      · cases h'
    · cases h'
  case invokestatic idx =>
    have e1 := Nat.eq_of_beq_eq_true hm
    dsimp only at e1
    subst e1
    have h : xcopy pc L st (tMem B I J) = some q := h
    simp only [pm1] at h'
    split at h'
    · rename_i n dp d sp s r _
      unfold xcopy at h
      dsimp only at h
      replace h := (bif_n h).2
      cases h20 : (pkd d 20 && pkd s 20) with
      | true =>
        rw [h20, cond_true] at h'
        cases h'
        rw [Bool.and_eq_true] at h20
        exact pcp_okI hB h20.1 h20.2 h
      | false =>
        rw [h20, cond_false] at h'
        have hk := (bif_n h').1
        replace h' := (bif_n h').2
        cases h'
        rw [Bool.and_eq_true] at hk
        exact pcp_okL hB hk.1 hk.2 h
    · cases h'
  case getfield idx =>
    have h : xget ea eb pc L st (tMem B I J) = some q := h
    exact pgt_ok hB h h'
  case putfield idx =>
    have h : xput xty ea eb pc L st (tMem B I J) = some q := h
    exact ppt_ok hB h h'
  all_goals first | (cases h'; done) | (cases hm; done) | (cases hv; done)
end PU
/-! INSTRUCTIONS THAT DON'T LOOK AT THE MEMORY -/
theorem cond_mapO {α β : Type} {c : Bool} {a b : Option α} {f : α → β} : (bif c then a else b).map f = bif c then a.map f else b.map f := by cases c <;> rfl
section PN
variable {sc : List Int32} {pc : Nat} {L : xL} {st : List Value}
def pM (M : xM) (q : xC) : xC := (q.1, q.2.1, q.2.2.1, M)
theorem xii_no {g : Int32 → Int32 → Int32} {M : xM} : xii g pc L st M = (xii g pc L st []).map (pM M) := by
  unfold xii
  split <;> rfl
theorem xll_no {g : Int64 → Int64 → Int64} {M : xM} : xll g pc L st M = (xll g pc L st []).map (pM M) := by
  unfold xll
  split <;> rfl
theorem xli_no {g : Int64 → Int32 → Int64} {M : xM} : xli g pc L st M = (xli g pc L st []).map (pM M) := by
  unfold xli
  split <;> rfl
theorem xi_no {g : Int32 → Int32} {M : xM} : xi g pc L st M = (xi g pc L st []).map (pM M) := by
  unfold xi
  split <;> rfl
theorem xpI_no {n i : Nat} {M : xM} : xpI n pc i L st M = (xpI n pc i L st []).map (pM M) := by
  unfold xpI
  split <;> rfl
theorem xpL_no {n i : Nat} {M : xM} : xpL n pc i L st M = (xpL n pc i L st []).map (pM M) := by
  unfold xpL
  split <;> rfl
theorem xpA_no {n i : Nat} {M : xM} : xpA n pc i L st M = (xpA n pc i L st []).map (pM M) := by
  unfold xpA
  split <;> rfl
theorem xsA1_no {n i : Nat} {M : xM} : xsA1 n pc i L st M = (xsA1 n pc i L st []).map (pM M) := by
  unfold xsA1
  split <;> rfl
theorem xsI_no {n i : Nat} {M : xM} : xsI n pc i L st M = (xsI n pc i L st []).map (pM M) := by
  unfold xsI
  split <;> rfl
theorem xsL_no {n i : Nat} {M : xM} : xsL n pc i L st M = (xsL n pc i L st []).map (pM M) := by
  unfold xsL
  split <;> rfl
theorem xsA_no {n i : Nat} {M : xM} : xsA n pc i L st M = (xsA n pc i L st []).map (pM M) := by
  unfold xsA
  split <;> rfl
theorem xsw_no {d lo hi : Int} {o : Array Int} {M : xM} : xsw d lo hi o pc L st M = (xsw d lo hi o pc L st []).map (pM M) := by
  unfold xsw
  split
  · rw [cond_mapO]
    congr 1
    split <;> rfl
  · rfl
theorem xmath_no {g : Int32 → Int32 → Int32} {M : xM} : xmath g pc L st M = (xmath g pc L st []).map (pM M) := by
  unfold xmath
  split
  · rw [cond_mapO]; rfl
  · rfl
theorem x1_no {e : xE} {M : xM} (hm : pmm e = false) : x1 xty xdf sc e pc L st M = (x1 xty xdf sc e pc L st []).map (pM M) := by
  obtain ⟨ins, ea, eb, ez⟩ := e
  cases ins
  case ldc i => simp only [x1]; rw [cond_mapO]; rfl
  case ldc_w i => simp only [x1]; rw [cond_mapO]; rfl
  case iload i => exact xpI_no
  case iload_n i => exact xpI_no
  case lload i => exact xpL_no
  case lload_n i => exact xpL_no
  case aload i => exact xpA_no
  case aload_n i => exact xpA_no
  case istore i => exact xsI_no
  case istore_n i => exact xsI_no
  case lstore i => exact xsL_no
  case lstore_n i => exact xsL_no
  case astore i => exact xsA_no
  case astore_n i => exact xsA_no
  case iinc i n => simp only [x1]; split <;> rfl
  case iadd => exact xii_no
  case isub => exact xii_no
  case imul => exact xii_no
  case iand => exact xii_no
  case ior => exact xii_no
  case ixor => exact xii_no
  case ishl => exact xii_no
  case ishr => exact xii_no
  case iushr => exact xii_no
  case idiv =>
    simp only [x1]
    split
    · rw [cond_mapO]; rfl
    · rfl
  case irem =>
    simp only [x1]
    split
    · rw [cond_mapO]; rfl
    · rfl
  case ineg => exact xi_no
  case i2b => exact xi_no
  case i2s => exact xi_no
  case i2l => simp only [x1]; split <;> rfl
  case l2i => simp only [x1]; split <;> rfl
  case ladd => exact xll_no
  case lsub => exact xll_no
  case lmul => exact xll_no
  case land => exact xll_no
  case lor => exact xll_no
  case lxor => exact xll_no
  case ldiv =>
    simp only [x1]
    split
    · rw [cond_mapO]; rfl
    · rfl
  case lrem =>
    simp only [x1]
    split
    · rw [cond_mapO]; rfl
    · rfl
  case lshl => exact xli_no
  case lshr => exact xli_no
  case lushr => exact xli_no
  case lcmp => simp only [x1]; split <;> rfl
  case dup =>
    simp only [x1]
    split
    · rw [cond_mapO]; rfl
    · rfl
  case dup2 =>
    simp only [x1]
    split
    · rw [cond_mapO, cond_mapO]; rfl
    · rfl
  case pop =>
    simp only [x1]
    split
    · rw [cond_mapO]; rfl
    · rfl
  case if_icmp c o => simp only [x1]; split <;> rfl
  case ifCond c o => simp only [x1]; split <;> rfl
  case tableswitch d lo hi o => exact xsw_no
  case invokespecial i =>
    simp only [x1]
    split
    · rw [cond_mapO]; rfl
    · rfl
  case invokestatic i =>
    simp only [x1]
    split
    · cases hm
    · exact xmath_no
    · exact xmath_no
    · split
      · rw [cond_mapO]; rfl
      · rfl
    · rfl
  all_goals first | rfl | (cases hm; done)
theorem s0_no {e : xE} {M : xM} : s0 e pc L st M = (s0 e pc L st []).map (pM M) := by
  obtain ⟨ins, ea, eb, ez⟩ := e
  cases ins
  case ldc i => simp only [s0]; rw [cond_mapO, cond_mapO]; rfl
  case aload i => exact xsA1_no
  case aload_n i => exact xsA1_no
  case pop2 => simp only [s0]; split <;> rfl
  case invokevirtual i =>
    simp only [s0]
    rw [cond_mapO, cond_mapO]
    congr 1
    · unfold xslen
      split
      · rw [cond_mapO]; rfl
      · rfl
    · congr 1
      unfold xschar
      split
      · rw [cond_mapO]
        congr 1
        split <;> rfl
      · rfl
  all_goals rfl
theorem s1_no {e : xE} {M : xM} (hm : pmm e = false) : s1 xty xdf sc e pc L st M = (s1 xty xdf sc e pc L st []).map (pM M) := by
  unfold s1
  rw [x1_no (M := M) hm]
  cases h : x1 xty xdf sc e pc L st [] with
  | some q => rfl
  | none => exact s0_no
end PN
theorem p1_ok {sc : List Int32} {B : xM} {I : tI} {J : tJ} {e : xE} {pc : Nat} {L : xL} {st : List Value} {q : xC} {q' : pC} (hB : kB pT B) (h : s1 xty xdf sc e pc L st (tMem B I J) = some q) (h' : p1 sc e pc L st I J = some q') : q = (q'.1, q'.2.1, q'.2.2.1, tMem B q'.2.2.2.1 q'.2.2.2.2) := by
  unfold p1 at h'
  split at h'
  · rename_i hm
    exact pm1_ok hB hm h h'
  · rename_i hm
    rw [s1_no hm] at h
    split at h'
    · rename_i q0 h0
      cases h'
      rw [h0] at h
      cases h
      rfl
    · cases h'
/-- so many steps in a row, no call and no end among them -/
def pseg (sc : List Int32) (r : xR) : Nat → pC → Option pC
  | 0, q => some q
  | n + 1, q => match xat r.1 q.1 with
    | some e => (match xkind e with
      | 0 => (match p1 sc e q.1 q.2.1 q.2.2.1 q.2.2.2.1 q.2.2.2.2 with
        | some q' => pseg sc r n q'
        | none => none)
      | _ => none)
    | none => none
/-! THE ORDER OF LOCALS DOESN'T MATTER -/
def lnd : xL → Prop
  | [] => True
  | (i, _) :: l => xfind l i = none ∧ lnd l
/-- what is found in the one is found in the other -/
def lek (L L' : xL) : Prop := ∀ i v, xfind L i = some v → xfind L' i = some v
theorem lnd_drop {p : Nat → Value → Bool} {f : xL → xL} (hf0 : f [] = []) (hf : ∀ j v l, f ((j, v) :: l) = bif p j v then f l else (j, v) :: f l) : ∀ {L : xL}, lnd L → lnd (f L) ∧ ∀ j, xfind (f L) j = (match xfind L j with
    | some v => bif p j v then none else some v
    | none => none)
  | [], _ => by
    rw [hf0]
    exact ⟨trivial, fun j => rfl⟩
  | (i, u) :: l, ⟨h1, h2⟩ => by
    obtain ⟨a, b⟩ := lnd_drop hf0 hf h2
    rw [hf]
    cases hp : p i u with
    | true =>
      simp only [cond_true]
      refine ⟨a, fun j => ?_⟩
      rw [b]
      simp only [xfind]
      cases hb : Nat.beq i j with
      | true =>
        have e := Nat.eq_of_beq_eq_true hb
        subst e
        rw [h1]
        simp only [cond_true, hp]
      | false => simp only [cond_false]
    | false =>
      simp only [cond_false]
      refine ⟨⟨by rw [b, h1], a⟩, fun j => ?_⟩
      simp only [xfind]
      cases hb : Nat.beq i j with
      | true =>
        have e := Nat.eq_of_beq_eq_true hb
        subst e
        simp only [cond_true, hp, cond_false]
      | false =>
        simp only [cond_false]
        exact b j
theorem lnd_1 {L : xL} (i : Nat) (h : lnd L) : lnd (xdrop1 i L) ∧ ∀ j, xfind (xdrop1 i L) j = (match xfind L j with
    | some v => bif (Nat.beq j i || (Nat.beq (j + 1) i && Nat.beq (xcat v) 2)) then none else some v
    | none => none) := lnd_drop (p := fun j v => Nat.beq j i || (Nat.beq (j + 1) i && Nat.beq (xcat v) 2)) rfl (fun _ _ _ => rfl) h
theorem lnd_2 {L : xL} (i : Nat) (h : lnd L) : lnd (xdrop2 i L) ∧ ∀ j, xfind (xdrop2 i L) j = (match xfind L j with
    | some v => bif (Nat.beq j i || (Nat.beq j (i + 1) || (Nat.beq (j + 1) i && Nat.beq (xcat v) 2))) then none else some v
    | none => none) := lnd_drop (p := fun j v => Nat.beq j i || (Nat.beq j (i + 1) || (Nat.beq (j + 1) i && Nat.beq (xcat v) 2))) rfl (fun _ _ _ => rfl) h
/-- locals alike, each named once -/
def leqn (L L' : xL) : Prop := lek L L' ∧ lnd L ∧ lnd L'
theorem leqn_1 {L L' : xL} (i : Nat) (v : Value) (h : leqn L L') : leqn (xst1 L i v) (xst1 L' i v) := by
  obtain ⟨h1, h2, h3⟩ := h
  obtain ⟨a, b⟩ := lnd_1 i h2
  obtain ⟨a', b'⟩ := lnd_1 i h3
  have z : ∀ (w : Option Value), (match w with
    | some v => bif (Nat.beq i i || (Nat.beq (i + 1) i && Nat.beq (xcat v) 2)) then none else some v
    | none => none) = none := fun w => by
    cases w with
    | none => rfl
    | some v => simp only [Nat.beq_refl, Bool.true_or, cond_true]
  refine ⟨fun j w hw => ?_, ⟨by rw [b, z], a⟩, ⟨by rw [b', z], a'⟩⟩
  unfold xst1 at hw ⊢
  simp only [xfind] at hw ⊢
  cases hb : Nat.beq i j with
  | true => rw [hb] at hw; exact hw
  | false =>
    rw [hb] at hw
    simp only [cond_false] at hw ⊢
    rw [b] at hw
    rw [b']
    cases hf : xfind L j with
    | none => rw [hf] at hw; cases hw
    | some u =>
      rw [hf] at hw
      rw [h1 j u hf]
      exact hw
theorem leqn_2 {L L' : xL} (i : Nat) (v : Value) (h : leqn L L') : leqn (xst2 L i v) (xst2 L' i v) := by
  obtain ⟨h1, h2, h3⟩ := h
  obtain ⟨a, b⟩ := lnd_2 i h2
  obtain ⟨a', b'⟩ := lnd_2 i h3
  have z : ∀ (w : Option Value), (match w with
    | some v => bif (Nat.beq i i || (Nat.beq i (i + 1) || (Nat.beq (i + 1) i && Nat.beq (xcat v) 2))) then none else some v
    | none => none) = none := fun w => by
    cases w with
    | none => rfl
    | some v => simp only [Nat.beq_refl, Bool.true_or, cond_true]
  refine ⟨fun j w hw => ?_, ⟨by rw [b, z], a⟩, ⟨by rw [b', z], a'⟩⟩
  unfold xst2 at hw ⊢
  simp only [xfind] at hw ⊢
  cases hb : Nat.beq i j with
  | true => rw [hb] at hw; exact hw
  | false =>
    rw [hb] at hw
    simp only [cond_false] at hw ⊢
    rw [b] at hw
    rw [b']
    cases hf : xfind L j with
    | none => rw [hf] at hw; cases hw
    | some u =>
      rw [hf] at hw
      rw [h1 j u hf]
      exact hw
/-- what a step does to locals that are alike -/
def pLr (q q' : pC) : Prop := q.1 = q'.1 ∧ leqn q.2.1 q'.2.1 ∧ q.2.2 = q'.2.2
def pLo (o o' : Option pC) : Prop := ∀ q, o = some q → ∃ q', o' = some q' ∧ pLr q q'
theorem pLo_none {o : Option pC} : pLo none o := fun _ h => by cases h
theorem pLo_some {q q' : pC} (h : pLr q q') : pLo (some q) (some q') := fun p hp => by
  cases hp
  exact ⟨q', rfl, h⟩
def p1L (e : xE) : Bool := match e.1 with
  | .iload _ => true
  | .iload_n _ => true
  | .lload _ => true
  | .lload_n _ => true
  | .aload _ => true
  | .aload_n _ => true
  | .istore _ => true
  | .istore_n _ => true
  | .lstore _ => true
  | .lstore_n _ => true
  | .astore _ => true
  | .astore_n _ => true
  | .iinc _ _ => true
  | _ => false
section PNL
variable {sc : List Int32} {pc : Nat} {L : xL} {st : List Value}
def pL (L : xL) (q : xC) : xC := (q.1, L, q.2.2)
theorem xii_nl {g : Int32 → Int32 → Int32} : xii g pc L st [] = (xii g pc [] st []).map (pL L) := by
  unfold xii
  split <;> rfl
theorem xll_nl {g : Int64 → Int64 → Int64} : xll g pc L st [] = (xll g pc [] st []).map (pL L) := by
  unfold xll
  split <;> rfl
theorem xli_nl {g : Int64 → Int32 → Int64} : xli g pc L st [] = (xli g pc [] st []).map (pL L) := by
  unfold xli
  split <;> rfl
theorem xi_nl {g : Int32 → Int32} : xi g pc L st [] = (xi g pc [] st []).map (pL L) := by
  unfold xi
  split <;> rfl
theorem xsw_nl {d lo hi : Int} {o : Array Int} : xsw d lo hi o pc L st [] = (xsw d lo hi o pc [] st []).map (pL L) := by
  unfold xsw
  split
  · rw [cond_mapO]
    congr 1
    split <;> rfl
  · rfl
theorem xmath_nl {g : Int32 → Int32 → Int32} : xmath g pc L st [] = (xmath g pc [] st []).map (pL L) := by
  unfold xmath
  split
  · rw [cond_mapO]; rfl
  · rfl
theorem x1_nl {e : xE} (hm : pmm e = false) (hl : p1L e = false) : x1 xty xdf sc e pc L st [] = (x1 xty xdf sc e pc [] st []).map (pL L) := by
  obtain ⟨ins, ea, eb, ez⟩ := e
  cases ins
  case ldc i => simp only [x1]; rw [cond_mapO]; rfl
  case ldc_w i => simp only [x1]; rw [cond_mapO]; rfl
  case iadd => exact xii_nl
  case isub => exact xii_nl
  case imul => exact xii_nl
  case iand => exact xii_nl
  case ior => exact xii_nl
  case ixor => exact xii_nl
  case ishl => exact xii_nl
  case ishr => exact xii_nl
  case iushr => exact xii_nl
  case idiv =>
    simp only [x1]
    split
    · rw [cond_mapO]; rfl
    · rfl
  case irem =>
    simp only [x1]
    split
    · rw [cond_mapO]; rfl
    · rfl
  case ineg => exact xi_nl
  case i2b => exact xi_nl
  case i2s => exact xi_nl
  case i2l => simp only [x1]; split <;> rfl
  case l2i => simp only [x1]; split <;> rfl
  case ladd => exact xll_nl
  case lsub => exact xll_nl
  case lmul => exact xll_nl
  case land => exact xll_nl
  case lor => exact xll_nl
  case lxor => exact xll_nl
  case ldiv =>
    simp only [x1]
    split
    · rw [cond_mapO]; rfl
    · rfl
  case lrem =>
    simp only [x1]
    split
    · rw [cond_mapO]; rfl
    · rfl
  case lshl => exact xli_nl
  case lshr => exact xli_nl
  case lushr => exact xli_nl
  case lcmp => simp only [x1]; split <;> rfl
  case dup =>
    simp only [x1]
    split
    · rw [cond_mapO]; rfl
    · rfl
  case dup2 =>
    simp only [x1]
    split
    · rw [cond_mapO, cond_mapO]; rfl
    · rfl
  case pop =>
    simp only [x1]
    split
    · rw [cond_mapO]; rfl
    · rfl
  case if_icmp c o => simp only [x1]; split <;> rfl
  case ifCond c o => simp only [x1]; split <;> rfl
  case tableswitch d lo hi o => exact xsw_nl
  case invokespecial i =>
    simp only [x1]
    split
    · rw [cond_mapO]; rfl
    · rfl
  case invokestatic i =>
    simp only [x1]
    split
    · cases hm
    · exact xmath_nl
    · exact xmath_nl
    · split
      · rw [cond_mapO]; rfl
      · rfl
    · rfl
  all_goals first | rfl | (cases hm; done) | (cases hl; done)
theorem s0_nl {e : xE} (hl : p1L e = false) : s0 e pc L st [] = (s0 e pc [] st []).map (pL L) := by
  obtain ⟨ins, ea, eb, ez⟩ := e
  cases ins
  case ldc i => simp only [s0]; rw [cond_mapO, cond_mapO]; rfl
  case pop2 => simp only [s0]; split <;> rfl
  case invokevirtual i =>
    simp only [s0]
    rw [cond_mapO, cond_mapO]
    congr 1
    · unfold xslen
      split
      · rw [cond_mapO]; rfl
      · rfl
    · congr 1
      unfold xschar
      split
      · rw [cond_mapO]
        congr 1
        split <;> rfl
      · rfl
  all_goals first | rfl | (cases hl; done)
theorem s1_nl {e : xE} (hm : pmm e = false) (hl : p1L e = false) : s1 xty xdf sc e pc L st [] = (s1 xty xdf sc e pc [] st []).map (pL L) := by
  unfold s1
  rw [x1_nl (L := L) hm hl]
  cases h : x1 xty xdf sc e pc [] st [] with
  | some q => rfl
  | none => exact s0_nl hl
end PNL
section PNP
variable {sc : List Int32} {pc : Nat} {L L' : xL} {st : List Value} {I : tI} {J : tJ}
def pLp (L : xL) (q : pC) : pC := (q.1, L, q.2.2)
theorem pald_nl {f : Nat → Nat → Value} {k : Nat} : pald f k pc L st I J = (pald f k pc [] st I J).map (pLp L) := by
  unfold pald
  split
  · rw [cond_mapO]; rfl
  · rfl
theorem pgt_nl {k : Nat} : pgt k pc L st I J = (pgt k pc [] st I J).map (pLp L) := by
  unfold pgt
  split
  · split
    · split <;> rfl
    · rfl
  · rfl
theorem ppt_nl {k : Nat} : ppt k pc L st I J = (ppt k pc [] st I J).map (pLp L) := by
  unfold ppt
  split
  · split
    · rw [cond_mapO]; rfl
    · rfl
  · split
    · rw [cond_mapO]; rfl
    · rfl
  · rfl
theorem pm1_nl {e : xE} : pm1 sc e pc L st I J = (pm1 sc e pc [] st I J).map (pLp L) := by
  obtain ⟨ins, ea, eb, ez⟩ := e
  cases ins
  case iaload =>
    simp only [pm1]
    split
    · rfl
    · exact pald_nl
  case baload => simp only [pm1]; exact pald_nl
  case laload => simp only [pm1]; exact pald_nl
  case iastore =>
    simp only [pm1]
    split
    · rw [cond_mapO]; rfl
    · rfl
  case bastore =>
    simp only [pm1]
    split
    · rw [cond_mapO]; rfl
    · rfl
  case lastore =>
    simp only [pm1]
    split
    · rw [cond_mapO]; rfl
    · rfl
  case arraylength =>
    simp only [pm1]
    split
    · rfl
    · split <;> rfl
    · rfl
  case getfield i => exact pgt_nl
  case putfield i => exact ppt_nl
  case invokestatic i =>
    simp only [pm1]
    split
    · rw [cond_mapO, cond_mapO]; rfl
    · rfl
  case invokevirtual i =>
    simp only [pm1]
    split <;> rfl
  all_goals rfl
theorem pLo_rf {o : Option pC} (f : xL → pC → pC) (hf : f = fun L q => (q.1, L, q.2.2)) (h : leqn L L') : pLo (o.map (f L)) (o.map (f L')) := by
  subst hf
  cases o with
  | none => exact pLo_none
  | some q => exact pLo_some ⟨rfl, h, rfl⟩
def pof (o : Option xC) (I : tI) (J : tJ) : Option pC := match o with
  | some q => some (q.1, q.2.1, q.2.2.1, I, J)
  | none => none
theorem p1_of {e : xE} (hm : pmm e = false) : p1 sc e pc L st I J = pof (s1 xty xdf sc e pc L st []) I J := by
  unfold p1 pof
  rw [hm]
theorem p1_leq {e : xE} (h : leqn L L') : pLo (p1 sc e pc L st I J) (p1 sc e pc L' st I J) := by
  cases hm : pmm e with
  | true =>
    have e1 : ∀ L, p1 sc e pc L st I J = pm1 sc e pc L st I J := fun L => by unfold p1; rw [hm]
    rw [e1, e1, pm1_nl (L := L), pm1_nl (L := L')]
    exact pLo_rf pLp rfl h
  | false =>
    rw [p1_of hm, p1_of hm]
    cases hl : p1L e with
    | false =>
      rw [s1_nl (L := L) hm hl, s1_nl (L := L') hm hl]
      cases s1 xty xdf sc e pc [] st [] with
      | none => exact pLo_none
      | some q => exact pLo_some ⟨rfl, h, rfl⟩
    | true =>
      have lI : ∀ n i, pLo (pof (xpI n pc i L st []) I J) (pof (xpI n pc i L' st []) I J) := fun n i => by
        unfold xpI
        cases hf : xfind L i with
        | none => exact pLo_none
        | some v =>
          rw [h.1 i v hf]
          cases v <;> first | exact pLo_some ⟨rfl, h, rfl⟩ | exact pLo_none
      have lL : ∀ n i, pLo (pof (xpL n pc i L st []) I J) (pof (xpL n pc i L' st []) I J) := fun n i => by
        unfold xpL
        cases hf : xfind L i with
        | none => exact pLo_none
        | some v =>
          rw [h.1 i v hf]
          cases v <;> first | exact pLo_some ⟨rfl, h, rfl⟩ | exact pLo_none
      have lA : ∀ n i, pLo (pof (match xpA n pc i L st [] with
          | some q => some q
          | none => xsA1 n pc i L st []) I J) (pof (match xpA n pc i L' st [] with
          | some q => some q
          | none => xsA1 n pc i L' st []) I J) := fun n i => by
        unfold xpA xsA1
        cases hf : xfind L i with
        | none => exact pLo_none
        | some v =>
          rw [h.1 i v hf]
          cases v with
          | ref a => exact pLo_some ⟨rfl, h, rfl⟩
          | retAddr k =>
            match k with
            | 0 => exact pLo_some ⟨rfl, h, rfl⟩
            | k + 1 => exact pLo_some ⟨rfl, h, rfl⟩
          | _ => exact pLo_none
      have sI : ∀ n i, pLo (pof (xsI n pc i L st []) I J) (pof (xsI n pc i L' st []) I J) := fun n i => by
        unfold xsI
        split
        · exact pLo_some ⟨rfl, leqn_1 _ _ h, rfl⟩
        · exact pLo_none
      have sL : ∀ n i, pLo (pof (xsL n pc i L st []) I J) (pof (xsL n pc i L' st []) I J) := fun n i => by
        unfold xsL
        split
        · exact pLo_some ⟨rfl, leqn_2 _ _ h, rfl⟩
        · exact pLo_none
      have sA : ∀ n i, pLo (pof (xsA n pc i L st []) I J) (pof (xsA n pc i L' st []) I J) := fun n i => by
        unfold xsA
        split
        · exact pLo_some ⟨rfl, leqn_1 _ _ h, rfl⟩
        · exact pLo_none
      have no0 : ∀ o : Option xC, (match o with
          | some q => some q
          | none => none) = o := fun o => by cases o <;> rfl
      obtain ⟨ins, ea, eb, ez⟩ := e
      cases ins
      case iload i => show pLo (pof (match xpI 2 pc i L st [] with | some q => some q | none => none) I J) (pof (match xpI 2 pc i L' st [] with | some q => some q | none => none) I J); rw [no0, no0]; exact lI 2 i
      case iload_n i => show pLo (pof (match xpI 1 pc i L st [] with | some q => some q | none => none) I J) (pof (match xpI 1 pc i L' st [] with | some q => some q | none => none) I J); rw [no0, no0]; exact lI 1 i
      case lload i => show pLo (pof (match xpL 2 pc i L st [] with | some q => some q | none => none) I J) (pof (match xpL 2 pc i L' st [] with | some q => some q | none => none) I J); rw [no0, no0]; exact lL 2 i
      case lload_n i => show pLo (pof (match xpL 1 pc i L st [] with | some q => some q | none => none) I J) (pof (match xpL 1 pc i L' st [] with | some q => some q | none => none) I J); rw [no0, no0]; exact lL 1 i
      case aload i => exact lA 2 i
      case aload_n i => exact lA 1 i
      case istore i => show pLo (pof (match xsI 2 pc i L st [] with | some q => some q | none => none) I J) (pof (match xsI 2 pc i L' st [] with | some q => some q | none => none) I J); rw [no0, no0]; exact sI 2 i
      case istore_n i => show pLo (pof (match xsI 1 pc i L st [] with | some q => some q | none => none) I J) (pof (match xsI 1 pc i L' st [] with | some q => some q | none => none) I J); rw [no0, no0]; exact sI 1 i
      case lstore i => show pLo (pof (match xsL 2 pc i L st [] with | some q => some q | none => none) I J) (pof (match xsL 2 pc i L' st [] with | some q => some q | none => none) I J); rw [no0, no0]; exact sL 2 i
      case lstore_n i => show pLo (pof (match xsL 1 pc i L st [] with | some q => some q | none => none) I J) (pof (match xsL 1 pc i L' st [] with | some q => some q | none => none) I J); rw [no0, no0]; exact sL 1 i
      case astore i => show pLo (pof (match xsA 2 pc i L st [] with | some q => some q | none => none) I J) (pof (match xsA 2 pc i L' st [] with | some q => some q | none => none) I J); rw [no0, no0]; exact sA 2 i
      case astore_n i => show pLo (pof (match xsA 1 pc i L st [] with | some q => some q | none => none) I J) (pof (match xsA 1 pc i L' st [] with | some q => some q | none => none) I J); rw [no0, no0]; exact sA 1 i
      case iinc i n =>
        show pLo (pof (match (match xfind L i with
          | some (.int v) => some (pc + 3, xst1 L i (.int (v + Int32.ofInt n)), st, [])
          | _ => none) with | some q => some q | none => none) I J) (pof (match (match xfind L' i with
          | some (.int v) => some (pc + 3, xst1 L' i (.int (v + Int32.ofInt n)), st, [])
          | _ => none) with | some q => some q | none => none) I J)
        have key : ∀ (o o' : Option Value), (∀ v, o = some v → o' = some v) → pLo (pof (match (match o with
          | some (.int v) => some (pc + 3, xst1 L i (.int (v + Int32.ofInt n)), st, [])
          | _ => none) with | some q => some q | none => none) I J) (pof (match (match o' with
          | some (.int v) => some (pc + 3, xst1 L' i (.int (v + Int32.ofInt n)), st, [])
          | _ => none) with | some q => some q | none => none) I J) := fun o o' hh => by
          cases o with
          | none => exact pLo_none
          | some v =>
            rw [hh v rfl]
            cases v <;> first | exact pLo_some ⟨rfl, leqn_1 _ _ h, rfl⟩ | exact pLo_none
        exact key _ _ (h.1 i)
      all_goals (cases hl; done)
end PNP
def lall (L' : xL) : xL → Prop
  | [] => True
  | q :: l => xfind L' q.1 = some q.2 ∧ lall L' l
theorem lall_find {L' : xL} : ∀ {L : xL} {i : Nat} {v : Value}, lall L' L → xfind L i = some v → xfind L' i = some v
  | [], _, _, _, h => by cases h
  | (j, u) :: l, i, v, ⟨h1, h2⟩, h => by
    simp only [xfind] at h
    cases hb : Nat.beq j i with
    | true =>
      rw [hb] at h
      cases h
      rw [← Nat.eq_of_beq_eq_true hb]
      exact h1
    | false =>
      rw [hb] at h
      exact lall_find h2 h
theorem leqn_of {L L' : xL} (h1 : lall L' L) (n1 : lnd L) (n2 : lnd L') : leqn L L' := ⟨fun _ _ h => lall_find h1 h, n1, n2⟩
theorem leqn_tr {L L' L'' : xL} (h : leqn L L') (k : leqn L' L'') : leqn L L'' := ⟨fun i v hv => k.1 i v (h.1 i v hv), h.2.1, k.2.2⟩
theorem lnd_args : ∀ (i : Nat) (as : List Value), lnd (lv_args i as) ∧ ∀ j, j < i → xfind (lv_args i as) j = none
  | _, [] => ⟨trivial, fun _ _ => rfl⟩
  | i, v :: as => by
    have hc : i + 1 ≤ (if v.category = 2 then i + 2 else i + 1) := by split <;> omega
    obtain ⟨a, b⟩ := lnd_args (if v.category = 2 then i + 2 else i + 1) as
    refine ⟨⟨b i (by omega), a⟩, fun j hj => ?_⟩
    simp only [lv_args, xfind]
    cases hb : Nat.beq i j with
    | true => have := Nat.eq_of_beq_eq_true hb; omega
    | false =>
      simp only [cond_false]
      exact b j (by omega)
theorem leqn_args (i : Nat) (as : List Value) : leqn (lv_args i as) (lv_args i as) := ⟨fun _ _ h => h, (lnd_args i as).1, (lnd_args i as).1⟩
/-- each run from here, of at most n steps, that ends, ends so: ints and longs are functions again, and Q holds of the answer and of these -/
def pq (sc : List Int32) (B : xM) (n : Nat) (r : xR) (pc : Nat) (L : xL) (st : List Value) (I : tI) (J : tJ) (Q : Option Value → tI → tJ → Prop) : Prop := ∀ L', leqn L L' → ∀ g, g ≤ n → ∀ v M', srun xmeth xty xdf sc g r pc L' st (tMem B I J) = some (v, M') → ∃ I1 J1, M' = tMem B I1 J1 ∧ Q v I1 J1
section PQ
variable {sc : List Int32} {B : xM} {n : Nat} {r : xR} {pc : Nat} {L : xL} {st : List Value} {I : tI} {J : tJ} {Q : Option Value → tI → tJ → Prop}
theorem pq_le {m : Nat} (hm : m ≤ n) (h : pq sc B n r pc L st I J Q) : pq sc B m r pc L st I J Q := fun L' hL g hg v M' hr => h L' hL g (by omega) v M' hr
theorem pq_mono {Q' : Option Value → tI → tJ → Prop} (h : pq sc B n r pc L st I J Q) (k : ∀ v I1 J1, Q v I1 J1 → Q' v I1 J1) : pq sc B n r pc L st I J Q' := fun L' hL g hg v M' hr => by
  obtain ⟨I1, J1, h1, h2⟩ := h L' hL g hg v M' hr
  exact ⟨I1, J1, h1, k _ _ _ h2⟩
theorem pq_zero : pq sc B 0 r pc L st I J Q := fun L' hL g hg v M' hr => by
  have e : g = 0 := by omega
  subst e
  simp [srun] at hr
theorem pq_perm {L0 : xL} (h : leqn L L0) (k : pq sc B n r pc L st I J Q) : pq sc B n r pc L0 st I J Q := fun L' hL g hg v M' hr => k L' (leqn_tr h hL) g hg v M' hr
theorem pq_0 {e : xE} {q : pC} (hB : kB pT B) (he : xat r.1 pc = some e) (hk : xkind e = 0) (hx : p1 sc e pc L st I J = some q) (h : pq sc B n r q.1 q.2.1 q.2.2.1 q.2.2.2.1 q.2.2.2.2 Q) : pq sc B (n + 1) r pc L st I J Q := by
  intro L' hL g hg v M' hr
  match g with
  | 0 => simp [srun] at hr
  | g + 1 =>
    simp only [srun, he, hk] at hr
    split at hr
    · cases hr
    · rename_i q1 hq1
      obtain ⟨q', h2, e1, e2, e3⟩ := p1_leq (sc := sc) (e := e) (pc := pc) (st := st) (I := I) (J := J) hL q hx
      have e4 := p1_ok hB hq1 h2
      subst e4
      obtain ⟨a1, L1, b1⟩ := q
      obtain ⟨a2, L2, b2⟩ := q'
      dsimp only at e1 e2 e3 h hr
      subst e1 e3
      exact h L2 e2 g (by omega) v M' hr
theorem pq_seg (hB : kB pT B) : ∀ (k : Nat) {q q' : pC}, pseg sc r k q = some q' → pq sc B n r q'.1 q'.2.1 q'.2.2.1 q'.2.2.2.1 q'.2.2.2.2 Q → pq sc B (n + k) r q.1 q.2.1 q.2.2.1 q.2.2.2.1 q.2.2.2.2 Q
  | 0, q, q', h, k => by
    cases h
    exact k
  | m + 1, q, q', h, k => by
    simp only [pseg] at h
    split at h
    · rename_i e he
      split at h
      · rename_i hk
        split at h
        · rename_i q1 hq1
          exact pq_0 hB he hk hq1 (pq_seg hB m h k)
        · cases h
      · cases h
    · cases h
/-- some steps: the bound may stay -/
theorem pq_s (hB : kB pT B) (k : Nat) {pc' : Nat} {L' : xL} {st' : List Value} {I' : tI} {J' : tJ} (h : pseg sc r k (pc, L, st, I, J) = some (pc', L', st', I', J')) (hq : pq sc B n r pc' L' st' I' J' Q) : pq sc B n r pc L st I J Q := pq_le (Nat.le_add_right n k) (pq_seg hB k h hq)
/-- at least one step: the bound goes down -/
theorem pq_s1 (hB : kB pT B) (k : Nat) {pc' : Nat} {L' : xL} {st' : List Value} {I' : tI} {J' : tJ} (h : pseg sc r (k + 1) (pc, L, st, I, J) = some (pc', L', st', I', J')) (hq : pq sc B n r pc' L' st' I' J' Q) : pq sc B (n + 1) r pc L st I J Q := pq_le (by omega) (pq_seg hB (k + 1) h hq)
theorem pq_1 {e : xE} {as rest : List Value} {r' : xR} {Q1 : Option Value → tI → tJ → Prop} (he : xat r.1 pc = some e) (hk : xkind e = 1) (hp : xpop e.2.2.1 [] st = some (as, rest)) (hm : xmeth e.2.1 = some r') (ha : pq sc B n r' 0 (lv_args 0 as) [] I J Q1) (h : ∀ v I1 J1, Q1 v I1 J1 → pq sc B n r (pc + 3) L (xpush v rest) I1 J1 Q) : pq sc B n r pc L st I J Q := by
  intro L' hL g hg v M' hr
  match g with
  | 0 => simp [srun] at hr
  | g + 1 =>
    simp only [srun, he, hk, hp] at hr
    replace hr := (bif_n hr).2
    rw [hm] at hr
    dsimp only at hr
    replace hr := (bif_n hr).2
    split at hr
    · cases hr
    · rename_i q hq
      obtain ⟨v1, M1⟩ := q
      obtain ⟨I1, J1, e1, h1⟩ := ha _ (leqn_args 0 as) g (by omega) v1 M1 hq
      subst e1
      exact h v1 I1 J1 h1 L' hL g (by omega) v M' hr
theorem pq_2 {e : xE} {v : Option Value} (he : xat r.1 pc = some e) (hk : xkind e = 2) (hv : xend r.2.2 e st = some v) (h : Q v I J) : pq sc B n r pc L st I J Q := by
  intro L' hL g hg v' M' hr
  match g with
  | 0 => simp [srun] at hr
  | g + 1 =>
    simp only [srun, he, hk, hv, Option.some.injEq, Prod.mk.injEq] at hr
    obtain ⟨rfl, rfl⟩ := hr
    exact ⟨I, J, rfl, h⟩
/-- an int answered: where the machine refuses it (a boolean's room), no run ends -/
theorem pq_2i {a b : Nat} {z : Int} {x : Int32} (he : xat r.1 pc = some (.ireturn, a, b, z)) (h : Q (some (.int x)) I J) : pq sc B n r pc L [.int x] I J Q := by
  have hk : xkind (.ireturn, a, b, z) = 2 := rfl
  have hx : xend r.2.2 (.ireturn, a, b, z) [.int x] = some (some (.int x)) ∨ xend r.2.2 (.ireturn, a, b, z) [.int x] = none := by
    unfold xend
    dsimp only
    cases (Nat.beq r.2.2 1 || (Nat.beq r.2.2 3 && (decide (x = 0) || decide (x = 1)))) with
    | true => exact Or.inl rfl
    | false => exact Or.inr rfl
  rcases hx with hx | hx
  · exact pq_2 he hk hx h
  · intro L' hL g hg v' M' hr
    match g with
    | 0 => simp [srun] at hr
    | g + 1 => simp [srun, he, hk, hx] at hr
theorem pq_ic {c : ClassFile.Cond} {off : Int} {t : Nat} {x y : Int32} (hB : kB pT B) (he : xat r.1 pc = some (.if_icmp c off, t, 0, 0)) (k1 : xcmp c x y = true → pq sc B n r t L st I J Q) (k2 : xcmp c x y = false → pq sc B n r (pc + 3) L st I J Q) : pq sc B (n + 1) r pc L (.int y :: .int x :: st) I J Q := by
  cases h : xcmp c x y with
  | true =>
    refine pq_0 (q := (t, L, st, I, J)) hB he rfl ?_ (k1 h)
    show some ((bif xcmp c x y then t else pc + 3), L, st, I, J) = _
    rw [h]
    rfl
  | false =>
    refine pq_0 (q := (pc + 3, L, st, I, J)) hB he rfl ?_ (k2 h)
    show some ((bif xcmp c x y then t else pc + 3), L, st, I, J) = _
    rw [h]
    rfl
theorem pq_if {c : ClassFile.Cond} {off : Int} {t : Nat} {x : Int32} (hB : kB pT B) (he : xat r.1 pc = some (.ifCond c off, t, 0, 0)) (k1 : xcmp c x 0 = true → pq sc B n r t L st I J Q) (k2 : xcmp c x 0 = false → pq sc B n r (pc + 3) L st I J Q) : pq sc B (n + 1) r pc L (.int x :: st) I J Q := by
  cases h : xcmp c x 0 with
  | true =>
    refine pq_0 (q := (t, L, st, I, J)) hB he rfl ?_ (k1 h)
    show some ((bif xcmp c x 0 then t else pc + 3), L, st, I, J) = _
    rw [h]
    rfl
  | false =>
    refine pq_0 (q := (pc + 3, L, st, I, J)) hB he rfl ?_ (k2 h)
    show some ((bif xcmp c x 0 then t else pc + 3), L, st, I, J) = _
    rw [h]
    rfl
theorem pq_icn {c : ClassFile.Cond} {off : Int} {t : Nat} {x y : Int32} (hB : kB pT B) (he : xat r.1 pc = some (.if_icmp c off, t, 0, 0)) (k1 : xcmp c x y = true → pq sc B n r t L st I J Q) (k2 : xcmp c x y = false → pq sc B n r (pc + 3) L st I J Q) : pq sc B n r pc L (.int y :: .int x :: st) I J Q := pq_le (Nat.le_succ n) (pq_ic hB he k1 k2)
theorem pq_ifn {c : ClassFile.Cond} {off : Int} {t : Nat} {x : Int32} (hB : kB pT B) (he : xat r.1 pc = some (.ifCond c off, t, 0, 0)) (k1 : xcmp c x 0 = true → pq sc B n r t L st I J Q) (k2 : xcmp c x 0 = false → pq sc B n r (pc + 3) L st I J Q) : pq sc B n r pc L (.int x :: st) I J Q := pq_le (Nat.le_succ n) (pq_if hB he k1 k2)
end PQ
/-- a run that ends, and what each run that ends comes to -/
theorem sw_pq {sc : List Int32} {r : xR} {pc : Nat} {L : xL} {st : List Value} {B : xM} {I : tI} {J : tJ} {Q : Option Value → xM → Prop} {R : Nat → Option Value → tI → tJ → Prop} (hL : lnd L) (h : sw sc r pc L st (tMem B I J) Q) (k : ∀ n, pq sc B n r pc L st I J (R n)) : sw sc r pc L st (tMem B I J) (fun v M' => (∃ n I1 J1, M' = tMem B I1 J1 ∧ R n v I1 J1) ∧ Q v M') := by
  obtain ⟨g, v, M', hg, hq⟩ := h
  obtain ⟨I1, J1, h1, h2⟩ := k g L ⟨fun _ _ h => h, hL, hL⟩ g (Nat.le_refl _) v M' hg
  exact ⟨g, v, M', hg, ⟨g, I1, J1, h1, h2⟩, hq⟩
/-! SWITCHES -/
def tswc (d : Int) (cs : List Int32) : Int → List Int → Bool
  | _, [] => true
  | lo, o :: os => (decide (o = d) || decide (Int32.ofInt lo ∈ cs)) && tswc d cs (lo + 1) os
theorem tswc_in {d : Int} {cs : List Int32} : ∀ {lo : Int} {os : List Int} {k : Nat} {o : Int}, tswc d cs lo os = true → xnth os k = some o → o = d ∨ Int32.ofInt (lo + k) ∈ cs
  | _, [], _, _, _, h => by cases h
  | lo, o :: os, 0, _, h, hk => by
    simp only [xnth, Option.some.injEq] at hk
    subst hk
    simp only [tswc, Bool.and_eq_true, Bool.or_eq_true, decide_eq_true_eq] at h
    rw [show lo + ((0 : Nat) : Int) = lo by omega]
    exact h.1
  | lo, o :: os, k + 1, _, h, hk => by
    simp only [xnth] at hk
    simp only [tswc, Bool.and_eq_true] at h
    have := tswc_in h.2 hk
    rw [show lo + 1 + (k : Int) = lo + ((k + 1 : Nat) : Int) by omega] at this
    exact this
section TSW
variable {sc : List Int32} {B : xM} {n : Nat} {r : xR} {pc : Nat} {L : xL} {st : List Value} {I : tI} {J : tJ} {Q : Option Value → tI → tJ → Prop} {d lo hi z : Int} {offs : Array Int} {a b : Nat} {x : Int32}
theorem pq_tsw_k {c : Int32} {t : Nat} (hB : kB pT B) (he : xat r.1 pc = some (.tableswitch d lo hi offs, a, b, z)) (hx : xcmp .eq x c = true) (h : xsw d lo hi offs pc L (.int c :: st) [] = some (t, L, st, [])) (k : pq sc B n r t L st I J Q) : pq sc B n r pc L (.int x :: st) I J Q := by
  have e : x = c := of_decide_eq_true hx
  subst e
  refine pq_le (Nat.le_succ n) (pq_0 (q := (t, L, st, I, J)) hB he rfl ?_ k)
  rw [p1_of rfl]
  show pof (match xsw d lo hi offs pc L (.int x :: st) [] with
    | some q => some q
    | none => none) I J = _
  rw [h]
  rfl
theorem pq_tsw_d {cs : List Int32} (hB : kB pT B) (he : xat r.1 pc = some (.tableswitch d lo hi offs, a, b, z)) (hn : offs.toList.length = (hi - lo + 1).toNat) (hc : tswc d cs lo offs.toList = true) (hx : ∀ c ∈ cs, xcmp .eq x c = false) (k : pq sc B n r ((pc : Int) + d).toNat L st I J Q) : pq sc B n r pc L (.int x :: st) I J Q := by
  have h : xsw d lo hi offs pc L (.int x :: st) [] = some (((pc : Int) + d).toNat, L, st, []) := by
    unfold xsw
    dsimp only
    cases hb : (decide (x.toInt < lo) || decide (hi < x.toInt)) with
    | true => rfl
    | false =>
      simp only [cond_false]
      rw [Bool.or_eq_false_iff, decide_eq_false_iff_not, decide_eq_false_iff_not] at hb
      obtain ⟨o, ho⟩ := mnth_lt (l := offs.toList) (i := (x.toInt - lo).toNat) (by omega)
      rw [ho]
      dsimp only
      rcases tswc_in hc ho with rfl | hm
      · rfl
      · rw [show lo + ((x.toInt - lo).toNat : Int) = x.toInt by omega, Int32.ofInt_toInt] at hm
        have := hx x hm
        exact absurd rfl (of_decide_eq_false this)
  refine pq_le (Nat.le_succ n) (pq_0 (q := (((pc : Int) + d).toNat, L, st, I, J)) hB he rfl ?_ k)
  rw [p1_of rfl]
  show pof (match xsw d lo hi offs pc L (.int x :: st) [] with
    | some q => some q
    | none => none) I J = _
  rw [h]
  rfl
end TSW
