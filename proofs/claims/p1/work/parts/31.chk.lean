/-! p1: ONE CALL ON FRESH OBJECTS, by intervals of its arguments -/
noncomputable def cLaw (bx : List (Int × Int)) (sa : List Value) (f : Nat) : Bool := match wr wms bx sa f rLaw 18 [(3, .int 0), (2, .ref 185), (1, .ref 0), (0, .retAddr 0)] [] wOne with
  | some (some (.int v), _) => Nat.beq (fno v) 2147483649
  | _ => false
def cTok : Nat → List (Int × Int) → List Value
  | _, [] => []
  | n, q :: l => (bif decide (q.1 = q.2) then .int (Int32.ofInt q.1) else .float (UInt32.ofNat n)) :: cTok (n + 1) l
noncomputable def cLeaf (k : Nat) (ex : List (Int × Int)) (f : Nat) (reg : List (Int × Int)) : Bool := cLaw ((0, 0) :: (0, 1) :: (-1, 0) :: (ex ++ reg)) (.retAddr (k + 1) :: cTok (3 + ex.length) reg) f
/-- a tree of cuts, as a row: (j, c) cuts the j-th interval behind c; j above 4: a leaf -/
noncomputable def cTree (k : Nat) (ex : List (Int × Int)) (fl : Nat) : Nat → List (Nat × Int) → List (Int × Int) → Option (List (Nat × Int))
  | 0, _, _ => none
  | _ + 1, [], _ => none
  | f + 1, q :: t, reg => bif Nat.blt 4 q.1 then (bif cLeaf k ex fl reg then some t else none) else
      (match xnth reg q.1 with
        | none => none
        | some i => match cTree k ex fl f t (reg.set q.1 (i.1, q.2)) with
          | none => none
          | some t' => cTree k ex fl f t' (reg.set q.1 (q.2 + 1, i.2)))
def cIn : List Int32 → List (Int × Int) → Prop
  | [], [] => True
  | x :: xs, q :: l => (q.1 ≤ x.toInt ∧ x.toInt ≤ q.2) ∧ cIn xs l
  | _, _ => False
noncomputable def rLawX : xR := match xmeth 356 with
  | some r => r
  | none => ([], 0, 0)
theorem rLawX_ok : xmeth 356 = some rLawX := rfl
theorem rLaw_rel : wrel rLaw rLawX := by
  obtain ⟨r, h1, h2⟩ := wmeth_ok 356 rLaw rfl
  rw [rLawX_ok] at h1
  cases h1
  exact h2
def lOne : xL := [(3, .int 0), (2, .ref 185), (1, .ref 0), (0, .retAddr 0)]
def cFree (v : Value) : Bool := match v with
  | .float _ => false
  | .double _ => false
  | .retAddr _ => false
  | _ => true
theorem yrv_free {bx : List (Int × Int)} {v w : Value} (h : cFree v = true) : yrv bx v w ↔ w = v := by
  cases v <;> first | (cases h; done) | exact Iff.rfl
theorem mOne_free : mOne.all (fun o => o.2.all cFree) = true := by decide +kernel
def wokb : List (List Value) → Bool
  | [] => true
  | [_] => true
  | a :: b :: l => Nat.beq a.length 64 && wokb (b :: l)
theorem wokb_ok : ∀ {cs : List (List Value)}, wokb cs = true → wok cs
  | [], _ => trivial
  | [_], _ => trivial
  | a :: b :: l, h => by
    simp only [wokb, Bool.and_eq_true] at h
    exact ⟨Nat.eq_of_beq_eq_true h.1, wokb_ok h.2⟩
def vokb : List (List wO) → Bool
  | [] => true
  | [_] => true
  | a :: b :: l => Nat.beq a.length 16 && vokb (b :: l)
theorem vokb_ok : ∀ {cs : List (List wO)}, vokb cs = true → vok cs
  | [], _ => trivial
  | [_], _ => trivial
  | a :: b :: l, h => by
    simp only [vokb, Bool.and_eq_true] at h
    exact ⟨Nat.eq_of_beq_eq_true h.1, vokb_ok h.2⟩
theorem wOne_b : (vokb wOne && wOne.flatten.all (fun o => wokb o.2)) = true := by decide +kernel
theorem wOne_ok : wwf wOne := by
  have h := wOne_b
  rw [Bool.and_eq_true] at h
  exact ⟨vokb_ok h.1, fun o ho => wokb_ok (List.all_eq_true.mp h.2 o ho)⟩
theorem mOne_self (bx : List (Int × Int)) : yrm bx mOne mOne := yrm_refl (fun o ho v hv => (yrv_free (List.all_eq_true.mp (List.all_eq_true.mp mOne_free o ho) v hv)).mpr rfl)
theorem xdf_self (bx : List (Int × Int)) : ∀ (k : Nat) (v : Value), v ∈ xdf k → yrv bx v v := by
  intro k v hv
  rcases xdf_in v hv with rfl | rfl | rfl <;> rfl
/-- the law from its loop's head on, over any script that the intervals stand for -/
theorem cLaw_ok {bx : List (Int × Int)} {sa : List Value} {f : Nat} {sc : List Int32} (hb1 : ybd bx 1 = (0, 1)) (hb2 : ybd bx 2 = (-1, 0)) (h : cLaw bx sa f = true) (hsa : yrs bx sa (sc.map Value.int)) :
    ∃ Mf, xrun xmeth xty xdf sc f rLawX 18 lOne [] mOne = some (some (.int 1), Mf) ∧ (Mf.length = mOne.length ∧ xz Mf = xz mOne) := by
  unfold cLaw at h
  split at h
  · rename_i v Mf hz
    have hy := (wr_ok wmeth_ok f rLaw_rel wOne_ok hz).1
    have hsz := wr_sz wmeth_ok f rLaw_rel wOne_ok hz
    obtain ⟨Mf', h1, -, h3⟩ := yrun_ok hb1 hb2 (xdf_self bx) (Or.inr hsa) f hy (L' := lOne) (st' := []) (M' := mOne) ⟨_, _, rfl, rfl, _, _, rfl, rfl, _, _, rfl, rfl, _, _, rfl, rfl, rfl⟩ rfl (mOne_self bx)
    have hv : v = 1 := by
      have e := fno_int v
      rw [Nat.eq_of_beq_eq_true h] at e
      exact Int32.toInt_inj.mp (by
        have : (1 : Int32).toInt = 1 := by decide
        omega)
    subst hv
    exact ⟨Mf', h1, (yrm_len h3).trans hsz.1, (yrm_z h3).trans hsz.2⟩
  · cases h
theorem xnth_app {α : Type} : ∀ (l m : List α) (a : α), xnth (l ++ a :: m) l.length = some a
  | [], _, _ => rfl
  | _ :: l, m, a => xnth_app l m a
theorem cTok_ok : ∀ (reg : List (Int × Int)) (xs : List Int32) (pre : List (Int × Int)), pre.length + reg.length < 4294967296 → cIn xs reg → yrs (pre ++ reg) (cTok pre.length reg) (xs.map Value.int)
  | [], [], _, _, _ => rfl
  | [], _ :: _, _, _, h => h.elim
  | q :: l, [], _, _, h => h.elim
  | q :: l, x :: xs, pre, hl, h => by
    have hl2 : pre.length + (l.length + 1) < 4294967296 := hl
    refine ⟨.int x, xs.map Value.int, rfl, ?_, ?_⟩
    · cases hc : decide (q.1 = q.2) with
      | true =>
        have := of_decide_eq_true hc
        show Value.int x = .int (Int32.ofInt q.1)
        have hx : x.toInt = q.1 := by have := h.1; omega
        rw [← hx, Int32.ofInt_toInt]
      | false =>
        refine ⟨x, rfl, Or.inr ?_⟩
        have hn : (UInt32.ofNat pre.length).toNat = pre.length := by
          rw [UInt32.toNat_ofNat']
          exact Nat.mod_eq_of_lt (by omega)
        rw [hn]
        unfold ybd
        rw [xnth_app]
        exact h.1
    · have := cTok_ok l xs (pre ++ [q]) (by simp; omega) h.2
      simpa using this
/-- what is wanted of call k with arguments of these intervals -/
def cGood (k : Nat) (reg : List (Int × Int)) : Prop := ∀ (x0 : Int32) (xs : List Int32), x0 &&& 63 = Int32.ofNat k → cIn xs reg → ∃ f Mf, xrun xmeth xty xdf (x0 :: xs) f rLawX 18 lOne [] mOne = some (some (.int 1), Mf) ∧ (Mf.length = mOne.length ∧ xz Mf = xz mOne)
theorem cLeaf_ok {k : Nat} {ex : List (Int × Int)} {f : Nat} {reg : List (Int × Int)} (hl : ex.length + reg.length < 1000) (h : cLeaf k ex f reg = true) : cGood k reg := by
  intro x0 xs hx hin
  unfold cLeaf at h
  obtain ⟨Mf, h1⟩ := cLaw_ok (sc := x0 :: xs) rfl rfl h ⟨.int x0, xs.map Value.int, rfl, ⟨x0, rfl, hx⟩, by
    have := cTok_ok reg xs ((0, 0) :: (0, 1) :: (-1, 0) :: ex) (by simp; omega) hin
    rw [show ((0, 0) :: (0, 1) :: (-1, 0) :: ex : List (Int × Int)).length = 3 + ex.length by simp; omega] at this
    simpa using this⟩
  exact ⟨f, Mf, h1⟩
theorem cIn_cut : ∀ (j : Nat) {xs : List Int32} {reg : List (Int × Int)} {i : Int × Int} {c : Int}, xnth reg j = some i → cIn xs reg → cIn xs (reg.set j (i.1, c)) ∨ cIn xs (reg.set j (c + 1, i.2))
  | _, [], [], _, _, h, _ => by simp [xnth] at h
  | _, [], _ :: _, _, _, _, h => h.elim
  | _, _ :: _, [], _, _, _, h => h.elim
  | 0, x :: xs, q :: l, i, c, h, hin => by
    simp only [xnth, Option.some.injEq] at h
    subst h
    by_cases hc : x.toInt ≤ c
    · exact Or.inl ⟨⟨hin.1.1, hc⟩, hin.2⟩
    · exact Or.inr ⟨⟨by omega, hin.1.2⟩, hin.2⟩
  | j + 1, x :: xs, q :: l, i, c, h, hin => by
    simp only [xnth] at h
    rcases cIn_cut j (c := c) h hin.2 with h2 | h2
    · exact Or.inl ⟨hin.1, h2⟩
    · exact Or.inr ⟨hin.1, h2⟩
theorem cGood_cut {k j : Nat} {reg : List (Int × Int)} {i : Int × Int} {c : Int} (h : xnth reg j = some i) (h1 : cGood k (reg.set j (i.1, c))) (h2 : cGood k (reg.set j (c + 1, i.2))) : cGood k reg := by
  intro x0 xs hx hin
  rcases cIn_cut j (c := c) h hin with g | g
  · exact h1 x0 xs hx g
  · exact h2 x0 xs hx g
theorem cTree_ok {k : Nat} {ex : List (Int × Int)} {fl : Nat} : ∀ (f : Nat) {t t' : List (Nat × Int)} {reg : List (Int × Int)}, ex.length + reg.length < 1000 → cTree k ex fl f t reg = some t' → cGood k reg
  | 0, _, _, _, _, h => by simp [cTree] at h
  | _ + 1, [], _, _, _, h => by simp [cTree] at h
  | f + 1, q :: t, t', reg, hl, h => by
    simp only [cTree] at h
    cases hb : Nat.blt 4 q.1 with
    | true =>
      rw [hb] at h
      simp only [cond_true] at h
      cases hc : cLeaf k ex fl reg with
      | false => rw [hc] at h; cases h
      | true => exact cLeaf_ok hl hc
    | false =>
      rw [hb] at h
      simp only [cond_false] at h
      split at h
      · cases h
      · rename_i i hi
        split at h
        · cases h
        · rename_i t2 ht2
          exact cGood_cut hi (cTree_ok f (by simpa using hl) ht2) (cTree_ok f (by simpa using hl) h)
/-- a check of a whole tree -/
noncomputable def cAll (k : Nat) (ex : List (Int × Int)) (fl : Nat) (t : List (Nat × Int)) (reg : List (Int × Int)) : Bool := Nat.blt (ex.length + reg.length) 1000 && (match cTree k ex fl 100000 t reg with
  | some _ => true
  | none => false)
theorem cAll_ok {k : Nat} {ex : List (Int × Int)} {fl : Nat} {t : List (Nat × Int)} {reg : List (Int × Int)} (h : cAll k ex fl t reg = true) : cGood k reg := by
  unfold cAll at h
  rw [Bool.and_eq_true] at h
  cases hc : cTree k ex fl 100000 t reg with
  | none => rw [hc] at h; cases h.2
  | some t' => exact cTree_ok 100000 (Nat.blt_eq.mp h.1) hc
abbrev cX : Int × Int := (-2147483648, 2147483647)
