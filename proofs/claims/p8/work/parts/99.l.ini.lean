/-! WHAT THE FRESH MEMORY HOLDS -/
def mI0 (o k : Nat) : Int32 := (bif Nat.blt o 113 then (bif Nat.blt o 33 then (bif Nat.blt o 8 then (bif Nat.blt o 6 then (bif Nat.beq o 0 then (bif Nat.blt k 8 then 0 else (bif Nat.blt k 12 then (-1) else 0)) else 0) else (bif Nat.beq o 6 then (-1) else 0)) else (bif Nat.blt o 10 then (bif Nat.beq o 8 then (bif Nat.blt k 8 then (bif Nat.blt k 5 then 0 else (bif Nat.blt k 7 then (-1) else 0)) else (bif Nat.blt k 9 then (-1) else (bif Nat.blt k 10 then 0 else (-1)))) else 0) else (bif Nat.beq o 10 then (bif Nat.blt k 5 then (bif Nat.blt k 4 then 0 else 5) else (bif Nat.blt k 6 then 1 else 0)) else 0))) else (bif Nat.blt o 59 then (bif Nat.blt o 36 then (bif Nat.beq o 33 then (-1) else 0) else (bif Nat.beq o 36 then (bif Nat.blt k 5 then (bif Nat.blt k 4 then 0 else 5) else (bif Nat.blt k 6 then 1 else 0)) else 0)) else (bif Nat.blt o 68 then (bif Nat.beq o 59 then (-1) else 0) else (bif Nat.blt o 91 then (bif Nat.beq o 68 then (bif Nat.blt k 5 then (bif Nat.blt k 4 then 0 else 5) else (bif Nat.blt k 6 then 1 else 0)) else 0) else (bif Nat.beq o 91 then (-1) else 0))))) else (bif Nat.blt o 161 then (bif Nat.blt o 137 then (bif Nat.blt o 136 then (bif Nat.beq o 113 then (bif Nat.blt k 5 then (bif Nat.blt k 4 then 0 else 5) else (bif Nat.blt k 6 then 1 else 0)) else 0) else (bif Nat.beq o 136 then (-1) else 0)) else (bif Nat.blt o 160 then (bif Nat.beq o 137 then (bif Nat.blt k 5 then (bif Nat.blt k 4 then 0 else 5) else (bif Nat.blt k 6 then 1 else 0)) else 0) else (bif Nat.beq o 160 then (-1) else 0))) else (bif Nat.blt o 185 then (bif Nat.blt o 184 then (bif Nat.beq o 161 then (bif Nat.blt k 5 then (bif Nat.blt k 4 then 0 else 5) else (bif Nat.blt k 6 then 1 else 0)) else 0) else (bif Nat.beq o 184 then (-1) else 0)) else (bif Nat.blt o 186 then (bif Nat.beq o 185 then (bif Nat.blt k 16 then 0 else (bif Nat.blt k 18 then (-1) else 0)) else 0) else (bif Nat.blt o 189 then (bif Nat.beq o 186 then (bif Nat.blt k 8 then (bif Nat.blt k 6 then 0 else (bif Nat.blt k 7 then 5 else 1)) else (bif Nat.blt k 132 then (bif Nat.blt k 9 then (-1) else 0) else (bif Nat.blt k 252 then (-1) else 0))) else 0) else (bif Nat.beq o 189 then (-1) else 0))))))
def mJ0 (o k : Nat) : Int64 := (bif Nat.blt o 185 then (bif Nat.beq o 0 then (bif Nat.blt k 7 then 0 else 1) else 0) else (bif Nat.beq o 185 then (bif Nat.blt k 4 then 0 else 1) else 0))
def mI (sc : List Int32) : tI := fun o k => bif Nat.beq o 999 then scv sc k else mI0 o k
def mCell (o k : Nat) (b : Nat × Int × Int) (v : Value) : Bool := match v with
  | .int x => decide (x = mI0 o k) && (!Nat.beq b.1 1 && (!Nat.beq b.1 2 && (!Nat.beq b.1 4 && (!Nat.beq b.1 0 || (decide (b.2.1 ≤ x.toInt) && decide (x.toInt ≤ b.2.2))))))
  | .long x => decide (x = mJ0 o k) && (!Nat.beq b.1 0 && (!Nat.beq b.1 2 && !Nat.beq b.1 4))
  | .ref a => !Nat.beq b.1 0 && (!Nat.beq b.1 1 && ((!Nat.beq b.1 2 || Nat.beq a b.2.1.toNat) && (!Nat.beq b.1 4 || (Nat.beq a b.2.1.toNat || Nat.beq a b.2.2.toNat))))
  | _ => false
def mRow (o : Nat) : Nat → List Value → Bool
  | _, [] => true
  | k, v :: l => mCell o k (ktB o k) v && mRow o (k + 1) l
def mAll : Nat → xM → Bool
  | _, [] => true
  | o, p :: M => (match ktK o with
    | some kn => Nat.beq p.1 kn.1 && (Nat.beq p.2.length kn.2 && mRow o 0 p.2)
    | none => false) && mAll (o + 1) M
theorem mRow_nth {o : Nat} : ∀ {k : Nat} {l : List Value} {i : Nat} {v : Value}, mRow o k l = true → xnth l i = some v → mCell o (k + i) (ktB o (k + i)) v = true
  | _, [], _, _, _, h => by cases h
  | k, w :: l, 0, v, h, hx => by
    simp only [mRow, Bool.and_eq_true] at h
    simp only [xnth, Option.some.injEq] at hx
    subst hx
    exact h.1
  | k, w :: l, i + 1, v, h, hx => by
    simp only [mRow, Bool.and_eq_true] at h
    simp only [xnth] at hx
    have := mRow_nth h.2 hx
    rw [show k + 1 + i = k + (i + 1) by omega] at this
    exact this
theorem mAll_nth : ∀ {o : Nat} {M : xM} {a : Nat} {p : xO}, mAll o M = true → xnth M a = some p → ∃ kn, ktK (o + a) = some kn ∧ p.1 = kn.1 ∧ p.2.length = kn.2 ∧ mRow (o + a) 0 p.2 = true
  | _, [], _, _, _, h => by cases h
  | o, q :: M, 0, p, h, hx => by
    simp only [mAll, Bool.and_eq_true] at h
    simp only [xnth, Option.some.injEq] at hx
    subst hx
    obtain ⟨h, -⟩ := h
    cases hk : ktK o with
    | none => rw [hk] at h; cases h
    | some kn =>
      rw [hk] at h
      simp only [Bool.and_eq_true] at h
      exact ⟨kn, rfl, Nat.eq_of_beq_eq_true h.1, Nat.eq_of_beq_eq_true h.2.1, h.2.2⟩
  | o, q :: M, a + 1, p, h, hx => by
    simp only [mAll, Bool.and_eq_true] at h
    simp only [xnth] at hx
    have := mAll_nth h.2 hx
    rw [show o + 1 + a = o + (a + 1) by omega] at this
    exact this
set_option maxRecDepth 1000000 in
theorem mAll_ok : mAll 0 mOne = true := by decide +kernel
theorem mnth_lt {α : Type} : ∀ {l : List α} {i : Nat}, i < l.length → ∃ v, xnth l i = some v
  | [], _, h => by cases h
  | v :: l, 0, _ => ⟨v, rfl⟩
  | v :: l, i + 1, h => by
    simp only [List.length_cons] at h
    exact mnth_lt (l := l) (i := i) (by omega)
theorem ktK_lt {o : Nat} {kn : Nat × Nat} (h : ktK o = some kn) : o < 203 := by
  unfold ktK at h
  cases hb : Nat.blt o 203 with
  | true => exact Nat.blt_eq.mp hb
  | false => rw [hb] at h; cases h
theorem mrow_of {o : Nat} {kn : Nat × Nat} (h : ktK o = some kn) : ∃ p, xnth mOne o = some p ∧ p.1 = kn.1 ∧ p.2.length = kn.2 ∧ mRow o 0 p.2 = true := by
  have hl := ktK_lt h
  obtain ⟨p, hp⟩ := mnth_lt (l := mOne) (i := o) (by rw [one_len]; exact hl)
  obtain ⟨kn', h1, h2, h3, h4⟩ := mAll_nth mAll_ok hp
  rw [Nat.zero_add] at h1 h4
  rw [h] at h1
  cases h1
  exact ⟨p, hp, h2, h3, h4⟩
theorem mcell_of {o k : Nat} {kn : Nat × Nat} {l : List Value} (hr : mRow o 0 l = true) (hl : l.length = kn.2) (hk : k < kn.2) : ∃ v, xnth l k = some v ∧ mCell o k (ktB o k) v = true := by
  obtain ⟨v, hv⟩ := mnth_lt (l := l) (i := k) (by omega)
  have := mRow_nth hr hv
  rw [Nat.zero_add] at this
  exact ⟨v, hv, this⟩
theorem mcell_int {o k : Nat} {b : Nat × Int × Int} {v : Value} (h : mCell o k b v = true) (hb : b.1 = 0) : v = .int (mI0 o k) ∧ b.2.1 ≤ (mI0 o k).toInt ∧ (mI0 o k).toInt ≤ b.2.2 := by
  unfold mCell at h
  rw [hb] at h
  split at h
  · simp only [Bool.and_eq_true, decide_eq_true_eq] at h
    obtain ⟨rfl, -, -, -, h⟩ := h
    have h : (decide (b.2.1 ≤ (mI0 o k).toInt) && decide ((mI0 o k).toInt ≤ b.2.2)) = true := h
    simp only [Bool.and_eq_true, decide_eq_true_eq] at h
    exact ⟨rfl, h⟩
  · simp only [Bool.and_eq_true] at h
    exact absurd h.2.1 (by decide)
  · simp only [Bool.and_eq_true] at h
    exact absurd h.1 (by decide)
  · cases h
theorem m_kB {sc : List Int32} : kB (nTm (ktN sc) []) mOne := by
  intro o kn ho
  have ho : ktK o = some kn := ho
  obtain ⟨p, hp, h1, h2, h3⟩ := mrow_of ho
  refine ⟨p.2, ?_, h2, fun k hk => ?_⟩
  · unfold xarr
    rw [hp]
    dsimp only
    rw [h1, Nat.beq_refl]
    rfl
  · obtain ⟨v, hv, hc⟩ := mcell_of h3 h2 hk
    refine ⟨v, hv, ?_, ?_, ?_, ?_⟩ <;> intro hb
    · have hb : (ktB o k).1 = 0 := hb
      rw [(mcell_int hc hb).1]
      rfl
    · have hb : (ktB o k).1 = 1 := hb
      unfold mCell at hc
      rw [hb] at hc
      split at hc
      · simp only [Bool.and_eq_true] at hc; exact absurd hc.2.1 (by decide)
      · rfl
      · simp only [Bool.and_eq_true] at hc; exact absurd hc.2.1 (by decide)
      · cases hc
    · have hb : (ktB o k).1 = 2 := hb
      show v = .ref (ktB o k).2.1.toNat
      unfold mCell at hc
      rw [hb] at hc
      split at hc
      · simp only [Bool.and_eq_true] at hc; exact absurd hc.2.2.1 (by decide)
      · simp only [Bool.and_eq_true] at hc; exact absurd hc.2.2.1 (by decide)
      · simp only [Bool.and_eq_true] at hc
        have h := hc.2.2.1
        rw [show (!Nat.beq 2 2) = false from rfl, Bool.false_or] at h
        rw [Nat.eq_of_beq_eq_true h]
      · cases hc
    · have hb : (ktB o k).1 = 4 := hb
      show v = .ref (ktB o k).2.1.toNat ∨ v = .ref (ktB o k).2.2.toNat
      unfold mCell at hc
      rw [hb] at hc
      split at hc
      · simp only [Bool.and_eq_true] at hc; exact absurd hc.2.2.2.1 (by decide)
      · simp only [Bool.and_eq_true] at hc; exact absurd hc.2.2.2 (by decide)
      · simp only [Bool.and_eq_true] at hc
        have h := hc.2.2.2
        rw [show (!Nat.beq 4 4) = false from rfl, Bool.false_or, Bool.or_eq_true] at h
        rcases h with h | h
        · exact Or.inl (by rw [Nat.eq_of_beq_eq_true h])
        · exact Or.inr (by rw [Nat.eq_of_beq_eq_true h])
      · cases hc
theorem mI_lt {sc : List Int32} {o k : Nat} (h : o < 999) : mI sc o k = mI0 o k := by
  unfold mI
  have : Nat.beq o 999 = false := by
    cases hb : Nat.beq o 999 with
    | false => rfl
    | true => have := Nat.eq_of_beq_eq_true hb; omega
  rw [this]
  rfl
theorem m_nBd {sc : List Int32} : nBd (ktN sc) (mI sc) := by
  intro o kn k ho hk hb
  have ho : ktK o = some kn := ho
  have hb : (ktB o k).1 = 0 := hb
  obtain ⟨p, hp, h1, h2, h3⟩ := mrow_of ho
  obtain ⟨v, hv, hc⟩ := mcell_of h3 h2 hk
  have hl := ktK_lt ho
  show (ktB o k).2.1 ≤ (mI sc o k).toInt ∧ (mI sc o k).toInt ≤ (ktB o k).2.2
  rw [mI_lt (by omega)]
  exact (mcell_int hc hb).2
def ngIni : Bool := ngA.all (fun c => Nat.blt c.1.1 999 && (Nat.blt c.1.2 999 && (List.range (c.2.1.2.1 - c.2.1.1 + 1)).all (fun i => !Nat.beq (i % c.2.1.2.2.2) 0 || (!(decide (c.2.2.1.1 ≤ (mI0 c.1.1 (c.2.1.1 + i)).toInt) && decide ((mI0 c.1.1 (c.2.1.1 + i)).toInt ≤ c.2.2.1.2)) || (decide (c.2.2.2.1 ≤ (mI0 c.1.2 (c.2.1.1 + i + c.2.1.2.2.1)).toInt) && decide ((mI0 c.1.2 (c.2.1.1 + i + c.2.1.2.2.1)).toInt ≤ c.2.2.2.2))))))
set_option maxRecDepth 1000000 in
theorem ngIni_ok : ngIni = true := by decide +kernel
theorem m_nCnd {sc : List Int32} : nCnd ngA (mI sc) := by
  intro c hc k h1 h2 h3 l1 l2
  have a := List.all_eq_true.mp ngIni_ok c hc
  rw [Bool.and_eq_true, Bool.and_eq_true] at a
  obtain ⟨a1, a2, a3⟩ := a
  have b := List.all_eq_true.mp a3 (k - c.2.1.1) (List.mem_range.mpr (by omega))
  rw [h3, Nat.beq_refl, show c.2.1.1 + (k - c.2.1.1) = k by omega] at b
  rw [mI_lt (Nat.blt_eq.mp a1)] at l1 l2
  rw [mI_lt (Nat.blt_eq.mp a2)]
  rw [decide_eq_true l1, decide_eq_true l2] at b
  simp only [Bool.not_true, Bool.and_self, Bool.false_or, Bool.and_eq_true, decide_eq_true_eq] at b
  exact b
theorem m_nScr {sc : List Int32} : nScr sc (mI sc) := fun _ _ => rfl
theorem m_nOk (sc : List Int32) : nOk (ktN sc) mOne (mI sc) := ⟨m_kB, m_nBd, m_nCnd, m_nScr⟩
theorem tS_self {I : tI} {J : tJ} {o : Nat} : ∀ {k : Nat} {l : List Value}, (∀ i v, xnth l i = some v → tV v (I o (k + i)) (J o (k + i)) = v) → tS I J o k l = l
  | _, [], _ => rfl
  | k, v :: l, h => by
    simp only [tS]
    have h0 := h 0 v rfl
    rw [Nat.add_zero] at h0
    rw [h0, tS_self (fun i w hw => by
      have := h (i + 1) w hw
      rw [show k + 1 + i = k + (i + 1) by omega]
      exact this)]
theorem tM_self {I : tI} {J : tJ} : ∀ {o : Nat} {M : xM}, (∀ a p, xnth M a = some p → tS I J (o + a) 0 p.2 = p.2) → tM I J o M = M
  | _, [], _ => rfl
  | o, p :: M, h => by
    simp only [tM]
    have h0 := h 0 p rfl
    rw [Nat.add_zero] at h0
    rw [h0, tM_self (fun a q hq => by
      have := h (a + 1) q hq
      rw [show o + 1 + a = o + (a + 1) by omega]
      exact this)]
theorem m_self (sc : List Int32) : tMem mOne (mI sc) mJ0 = mOne := by
  unfold tMem
  refine tM_self (fun a p hp => ?_)
  obtain ⟨kn, h1, -, -, h4⟩ := mAll_nth mAll_ok hp
  rw [Nat.zero_add] at h1 h4 ⊢
  have hl := ktK_lt h1
  refine tS_self (fun i v hv => ?_)
  have hc := mRow_nth h4 hv
  rw [Nat.zero_add] at hc ⊢
  rw [mI_lt (by omega)]
  unfold mCell at hc
  split at hc
  · simp only [Bool.and_eq_true, decide_eq_true_eq] at hc
    rw [← hc.1]
    rfl
  · simp only [Bool.and_eq_true, decide_eq_true_eq] at hc
    rw [← hc.1]
    rfl
  · rfl
  · cases hc
