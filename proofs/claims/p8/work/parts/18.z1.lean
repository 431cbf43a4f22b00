/-! THE INTERPRETER OVER INTERVALS: '.float u' is some int, '.double u' some long, within the bounds of number u (0: any); '.retAddr (k + 1)' some int whose rest by 64 is k. What it finds of a state it finds of every state that it stands for. -/
def ybd (bx : List (Int × Int)) (u : Nat) : Int × Int := match xnth bx u with
  | some q => q
  | none => (0, -1)
def yin (bx : List (Int × Int)) (u : Nat) (x : Int) : Prop := u = 0 ∨ ((ybd bx u).1 ≤ x ∧ x ≤ (ybd bx u).2)
def yrv (bx : List (Int × Int)) (v w : Value) : Prop := match v with
  | .float u => ∃ x : Int32, w = .int x ∧ yin bx u.toNat x.toInt
  | .double u => ∃ x : Int64, w = .long x ∧ yin bx u.toNat x.toInt
  | .retAddr n => (match n with
    | 0 => w = .retAddr 0
    | k + 1 => ∃ x : Int32, w = .int x ∧ x &&& 63 = Int32.ofNat k)
  | v => w = v
def yrs (bx : List (Int × Int)) : List Value → List Value → Prop
  | [], w => w = []
  | v :: st, w => ∃ v' st', w = v' :: st' ∧ yrv bx v v' ∧ yrs bx st st'
def yrl (bx : List (Int × Int)) : xL → xL → Prop
  | [], w => w = []
  | (i, v) :: l, w => ∃ v' l', w = (i, v') :: l' ∧ yrv bx v v' ∧ yrl bx l l'
def yrm (bx : List (Int × Int)) : xM → xM → Prop
  | [], w => w = []
  | o :: M, w => ∃ sl' M', w = (o.1, sl') :: M' ∧ yrs bx o.2 sl' ∧ yrm bx M M'
def yrc (bx : List (Int × Int)) (q q' : xC) : Prop := q'.1 = q.1 ∧ yrl bx q.2.1 q'.2.1 ∧ yrs bx q.2.2.1 q'.2.2.1 ∧ yrm bx q.2.2.2 q'.2.2.2
section YS
variable {bx : List (Int × Int)}
theorem yrv_cat {v w : Value} (h : yrv bx v w) : xcat w = xcat v := by
  cases v with
  | float u => obtain ⟨x, rfl, -⟩ := h; rfl
  | double u => obtain ⟨x, rfl, -⟩ := h; rfl
  | retAddr n =>
    cases n with
    | zero => cases h; rfl
    | succ k => obtain ⟨x, rfl, -⟩ := h; rfl
  | _ => cases h; rfl
theorem yrv_cat' {v w : Value} (h : yrv bx v w) : w.category = v.category := by rw [← xcat_eq, ← xcat_eq]; exact yrv_cat h
theorem yrs_len : ∀ {l w : List Value}, yrs bx l w → w.length = l.length
  | [], _, h => by cases h; rfl
  | _ :: _, _, ⟨_, _, h1, _, h3⟩ => by subst h1; simp [yrs_len h3]
theorem yrs_refl : ∀ {l : List Value}, (∀ v ∈ l, yrv bx v v) → yrs bx l l
  | [], _ => rfl
  | v :: l, h => ⟨v, l, rfl, h v List.mem_cons_self, yrs_refl (fun w hw => h w (List.mem_cons_of_mem _ hw))⟩
theorem yrs_nth : ∀ {l w : List Value} {i : Nat} {v : Value}, yrs bx l w → xnth l i = some v → ∃ v', xnth w i = some v' ∧ yrv bx v v'
  | [], _, _, _, _, h => by simp [xnth] at h
  | u :: l, _, 0, v, ⟨v', l', h1, h2, _⟩, h => by
    subst h1
    simp only [xnth, Option.some.injEq] at h
    subst h
    exact ⟨v', rfl, h2⟩
  | u :: l, _, i + 1, v, ⟨v', l', h1, _, h3⟩, h => by
    subst h1
    simp only [xnth] at h ⊢
    exact yrs_nth h3 h
theorem yrs_set {v v' : Value} (hv : yrv bx v v') : ∀ {l w : List Value} (k : Nat), yrs bx l w → yrs bx (l.set k v) (w.set k v')
  | [], _, _, h => by cases h; simp [yrs]
  | u :: st, _, 0, ⟨u', st', h1, _, h3⟩ => by subst h1; exact ⟨v', st', rfl, hv, h3⟩
  | u :: st, _, k + 1, ⟨u', st', h1, h2, h3⟩ => by subst h1; exact ⟨u', _, rfl, h2, yrs_set hv k h3⟩
theorem yrs_app : ∀ {s1 w1 s2 w2 : List Value}, yrs bx s1 w1 → yrs bx s2 w2 → yrs bx (s1 ++ s2) (w1 ++ w2)
  | [], _, _, _, h, h2 => by cases h; exact h2
  | _ :: _, _, _, _, ⟨v', st', h1, h3, h4⟩, h2 => by subst h1; exact ⟨v', _, rfl, h3, yrs_app h4 h2⟩
theorem yrs_take : ∀ (n : Nat) {l w : List Value}, yrs bx l w → yrs bx (l.take n) (w.take n)
  | 0, _, _, _ => by simp [yrs]
  | n + 1, [], _, h => by cases h; simp [yrs]
  | n + 1, v :: l, _, ⟨v', l', h1, h2, h3⟩ => by subst h1; exact ⟨v', _, rfl, h2, yrs_take n h3⟩
theorem yrs_drop : ∀ (n : Nat) {l w : List Value}, yrs bx l w → yrs bx (l.drop n) (w.drop n)
  | 0, _, _, h => by simpa using h
  | n + 1, [], _, h => by cases h; simp [yrs]
  | n + 1, v :: l, _, ⟨v', l', h1, h2, h3⟩ => by subst h1; simpa using yrs_drop n h3
theorem yrs_cat8 {l w : List Value} (h : yrs bx l w) : xcat8 w = xcat8 l := by
  have : ∀ {l w : List Value}, yrs bx l w → (w.map Value.category) = (l.map Value.category) := by
    intro l
    induction l with
    | nil => intro w h; cases h; rfl
    | cons v l ih =>
      intro w h
      obtain ⟨v', l', rfl, h2, h3⟩ := h
      simp [ih h3, yrv_cat' h2]
  unfold xcat8
  rw [this h]
theorem yrs_cats : ∀ {l w : List Value}, yrs bx l w → xcats w = xcats l
  | [], _, h => by cases h; rfl
  | v :: l, _, ⟨v', l', h1, h2, h3⟩ => by subst h1; simp [xcats, yrs_cats h3, yrv_cat h2]
theorem yrl_find : ∀ {l w : xL} {i : Nat} {v : Value}, yrl bx l w → xfind l i = some v → ∃ v', xfind w i = some v' ∧ yrv bx v v'
  | [], _, _, _, _, h => by simp [xfind] at h
  | (j, u) :: l, _, i, v, ⟨v', l', h1, h2, h3⟩, h => by
    subst h1
    cases hb : Nat.beq j i with
    | true =>
      simp only [xfind, hb, cond_true, Option.some.injEq] at h ⊢
      subst h
      exact ⟨v', rfl, h2⟩
    | false =>
      simp only [xfind, hb, cond_false] at h ⊢
      exact yrl_find h3 h
theorem yrl_drop1 (i : Nat) : ∀ {l w : xL}, yrl bx l w → yrl bx (xdrop1 i l) (xdrop1 i w)
  | [], _, h => by cases h; rfl
  | (j, u) :: l, _, ⟨v', l', h1, h2, h3⟩ => by
    subst h1
    have hc := yrv_cat h2
    simp only [xdrop1, hc]
    cases hb : (Nat.beq j i || (Nat.beq (j + 1) i && Nat.beq (xcat u) 2)) with
    | true => exact yrl_drop1 i h3
    | false => exact ⟨v', _, rfl, h2, yrl_drop1 i h3⟩
theorem yrl_drop2 (i : Nat) : ∀ {l w : xL}, yrl bx l w → yrl bx (xdrop2 i l) (xdrop2 i w)
  | [], _, h => by cases h; rfl
  | (j, u) :: l, _, ⟨v', l', h1, h2, h3⟩ => by
    subst h1
    have hc := yrv_cat h2
    simp only [xdrop2, hc]
    cases hb : (Nat.beq j i || (Nat.beq j (i + 1) || (Nat.beq (j + 1) i && Nat.beq (xcat u) 2))) with
    | true => exact yrl_drop2 i h3
    | false => exact ⟨v', _, rfl, h2, yrl_drop2 i h3⟩
theorem yrl_st1 {L L' : xL} {v v' : Value} (i : Nat) (h : yrl bx L L') (hv : yrv bx v v') : yrl bx (xst1 L i v) (xst1 L' i v') := ⟨v', _, rfl, hv, yrl_drop1 i h⟩
theorem yrl_st2 {L L' : xL} {v v' : Value} (i : Nat) (h : yrl bx L L') (hv : yrv bx v v') : yrl bx (xst2 L i v) (xst2 L' i v') := ⟨v', _, rfl, hv, yrl_drop2 i h⟩
theorem yrl_args : ∀ (i : Nat) {l w : List Value}, yrs bx l w → yrl bx (lv_args i l) (lv_args i w)
  | _, [], _, h => by cases h; rfl
  | i, v :: l, _, ⟨v', l', h1, h2, h3⟩ => by
    subst h1
    simp only [lv_args, yrv_cat' h2]
    exact ⟨v', _, rfl, h2, yrl_args _ h3⟩
theorem yrm_len : ∀ {M N : xM}, yrm bx M N → N.length = M.length
  | [], _, h => by cases h; rfl
  | _ :: _, _, ⟨_, _, h1, _, h3⟩ => by subst h1; simp [yrm_len h3]
theorem yrm_z : ∀ {M N : xM}, yrm bx M N → xz N = xz M
  | [], _, h => by cases h; rfl
  | _ :: _, _, ⟨_, _, h1, h2, h3⟩ => by subst h1; simp [xz, yrm_z h3, yrs_len h2]
theorem yrm_nth : ∀ {M N : xM} {a : Nat} {o : xO}, yrm bx M N → xnth M a = some o → ∃ sl', xnth N a = some (o.1, sl') ∧ yrs bx o.2 sl'
  | [], _, _, _, _, h => by simp [xnth] at h
  | u :: l, _, 0, o, ⟨sl', l', h1, h2, _⟩, h => by
    subst h1
    simp only [xnth, Option.some.injEq] at h
    subst h
    exact ⟨sl', rfl, h2⟩
  | u :: l, _, i + 1, o, ⟨sl', l', h1, _, h3⟩, h => by
    subst h1
    simp only [xnth] at h ⊢
    exact yrm_nth h3 h
theorem yrm_arr {M N : xM} {a k : Nat} {sl : List Value} (h : yrm bx M N) (ha : xarr M a k = some sl) : ∃ sl', xarr N a k = some sl' ∧ yrs bx sl sl' := by
  have h1 := xarr_eq ha
  rw [← xnth_eq] at h1
  obtain ⟨sl', h2, h3⟩ := yrm_nth h h1
  refine ⟨sl', ?_, h3⟩
  unfold xarr
  rw [h2]
  simp
theorem yrm_set : ∀ {M N : xM} {k : Nat} {sl sl' : List Value} (a : Nat), yrm bx M N → yrs bx sl sl' → yrm bx (M.set a (k, sl)) (N.set a (k, sl'))
  | [], _, _, _, _, _, h, _ => by cases h; simp [yrm]
  | u :: l, _, k, sl, sl', 0, ⟨_, l', h1, _, h3⟩, h => by subst h1; exact ⟨sl', l', rfl, h, h3⟩
  | u :: l, _, k, sl, sl', a + 1, ⟨s0, l', h1, h2, h3⟩, h => by subst h1; exact ⟨s0, _, rfl, h2, yrm_set a h3 h⟩
theorem yrm_app : ∀ {M N M2 N2 : xM}, yrm bx M N → yrm bx M2 N2 → yrm bx (M ++ M2) (N ++ N2)
  | [], _, _, _, h, h2 => by cases h; exact h2
  | _ :: _, _, _, _, ⟨v', st', h1, h3, h4⟩, h2 => by subst h1; exact ⟨v', _, rfl, h3, yrm_app h4 h2⟩
theorem yrm_refl : ∀ {M : xM}, (∀ o ∈ M, ∀ v ∈ o.2, yrv bx v v) → yrm bx M M
  | [], _ => rfl
  | o :: M, h => ⟨o.2, M, rfl, yrs_refl (h o List.mem_cons_self), yrm_refl (fun p hp => h p (List.mem_cons_of_mem _ hp))⟩
theorem ypop : ∀ (n : Nat) {acc st ar rest acc' st' : List Value}, xpop n acc st = some (ar, rest) → yrs bx acc acc' → yrs bx st st' → ∃ ar' rest', xpop n acc' st' = some (ar', rest') ∧ yrs bx ar ar' ∧ yrs bx rest rest'
  | 0, acc, st, ar, rest, acc', st', h, h1, h2 => by
    simp only [xpop, Option.some.injEq, Prod.mk.injEq] at h
    obtain ⟨rfl, rfl⟩ := h
    exact ⟨acc', st', rfl, h1, h2⟩
  | n + 1, acc, [], ar, rest, acc', st', h, _, _ => by simp [xpop] at h
  | n + 1, acc, v :: st, ar, rest, acc', _, h, h1, ⟨v', st', e, h2, h3⟩ => by
    subst e
    simp only [xpop] at h ⊢
    exact ypop n h ⟨v', acc', rfl, h2, h1⟩ h3
end YS
/-- what an interval decides -/
def ylt (bx : List (Int × Int)) (v w : Value) : Option (Int × Int × Int × Int) := match v, w with
  | .int x, .float u => bif Nat.beq u.toNat 0 then none else some (x.toInt, x.toInt, (ybd bx u.toNat).1, (ybd bx u.toNat).2)
  | .float u, .int y => bif Nat.beq u.toNat 0 then none else some ((ybd bx u.toNat).1, (ybd bx u.toNat).2, y.toInt, y.toInt)
  | _, _ => none
/-- x within a .. b, y within c .. d: what of the comparison? -/
def ydec (cnd : ClassFile.Cond) (a b c d : Int) : Option Bool := match cnd with
  | .eq => bif decide (b < c) || decide (d < a) then some false else none
  | .ne => bif decide (b < c) || decide (d < a) then some true else none
  | .lt => bif decide (b < c) then some true else bif decide (d ≤ a) then some false else none
  | .ge => bif decide (d ≤ a) then some true else bif decide (b < c) then some false else none
  | .gt => bif decide (d < a) then some true else bif decide (b ≤ c) then some false else none
  | .le => bif decide (b ≤ c) then some true else bif decide (d < a) then some false else none
theorem ydec_ok {cnd : ClassFile.Cond} {a b c d : Int} {r : Bool} {x y : Int32} (h : ydec cnd a b c d = some r) (h1 : a ≤ x.toInt) (h2 : x.toInt ≤ b) (h3 : c ≤ y.toInt) (h4 : y.toInt ≤ d) : xcmp cnd x y = r := by
  have e1 : (x = y) = (x.toInt = y.toInt) := propext ⟨fun h => by rw [h], fun h => Int32.toInt_inj.mp h⟩
  have e2 : (x < y) = (x.toInt < y.toInt) := propext Int32.lt_iff_toInt_lt
  have e3 : (y < x) = (y.toInt < x.toInt) := propext Int32.lt_iff_toInt_lt
  have e4 : (x ≤ y) = (x.toInt ≤ y.toInt) := propext Int32.le_iff_toInt_le
  have e5 : (y ≤ x) = (y.toInt ≤ x.toInt) := propext Int32.le_iff_toInt_le
  cases cnd <;> simp only [ydec, cond_eq_ite, Bool.or_eq_true, decide_eq_true_eq] at h <;> simp only [xcmp]
  · split at h
    · cases h
      simp only [e1, decide_eq_false_iff_not]
      omega
    · cases h
  · split at h
    · cases h
      simp only [e1, Bool.not_eq_true', decide_eq_false_iff_not]
      omega
    · cases h
  · split at h
    · cases h
      simp only [e2, decide_eq_true_eq]
      omega
    · split at h
      · cases h
        simp only [e2, decide_eq_false_iff_not]
        omega
      · cases h
  · split at h
    · cases h
      simp only [e5, decide_eq_true_eq]
      omega
    · split at h
      · cases h
        simp only [e5, decide_eq_false_iff_not]
        omega
      · cases h
  · split at h
    · cases h
      simp only [e3, decide_eq_true_eq]
      omega
    · split at h
      · cases h
        simp only [e3, decide_eq_false_iff_not]
        omega
      · cases h
  · split at h
    · cases h
      simp only [e4, decide_eq_true_eq]
      omega
    · split at h
      · cases h
        simp only [e4, decide_eq_false_iff_not]
        omega
      · cases h
