/-! TYPED MEMORY: the shape of a base memory B, its references as they are there, ints by I, longs by J -/
abbrev tI : Type := Nat → Nat → Int32
abbrev tJ : Type := Nat → Nat → Int64
def tup {α : Type} (f : Nat → Nat → α) (o k : Nat) (v : α) : Nat → Nat → α := fun o' k' => if o' = o ∧ k' = k then v else f o' k'
theorem tup_eq {α : Type} {f : Nat → Nat → α} {o k : Nat} {v : α} : tup f o k v o k = v := by unfold tup; rw [if_pos ⟨rfl, rfl⟩]
theorem tup_ne {α : Type} {f : Nat → Nat → α} {o k o' k' : Nat} {v : α} (h : ¬ (o' = o ∧ k' = k)) : tup f o k v o' k' = f o' k' := by unfold tup; rw [if_neg h]
def tV (v : Value) (x : Int32) (y : Int64) : Value := match v with
  | .int _ => .int x
  | .long _ => .long y
  | v => v
def tS (I : tI) (J : tJ) (o : Nat) : Nat → List Value → List Value
  | _, [] => []
  | k, v :: l => tV v (I o k) (J o k) :: tS I J o (k + 1) l
def tM (I : tI) (J : tJ) : Nat → xM → xM
  | _, [] => []
  | o, p :: M => (p.1, tS I J o 0 p.2) :: tM I J (o + 1) M
def tMem (B : xM) (I : tI) (J : tJ) : xM := tM I J 0 B
section TM
variable {B : xM} {I : tI} {J : tJ}
theorem tS_len (o : Nat) : ∀ (k : Nat) (l : List Value), (tS I J o k l).length = l.length
  | _, [] => rfl
  | k, _ :: l => by simp [tS, tS_len o (k + 1) l]
theorem tS_nth (o : Nat) : ∀ (k : Nat) (l : List Value) (i : Nat), xnth (tS I J o k l) i = (xnth l i).map (fun v => tV v (I o (k + i)) (J o (k + i)))
  | _, [], _ => rfl
  | k, v :: l, 0 => rfl
  | k, v :: l, i + 1 => by
    simp only [tS, xnth]
    rw [tS_nth o (k + 1) l i, show k + 1 + i = k + (i + 1) by omega]
theorem tM_nth : ∀ (o : Nat) (M : xM) (a : Nat), xnth (tM I J o M) a = (xnth M a).map (fun p => (p.1, tS I J (o + a) 0 p.2))
  | _, [], _ => rfl
  | o, p :: M, 0 => rfl
  | o, p :: M, a + 1 => by
    simp only [tM, xnth]
    rw [tM_nth (o + 1) M a, show o + 1 + a = o + (a + 1) by omega]
theorem tM_len : ∀ (o : Nat) (M : xM), (tM I J o M).length = M.length
  | _, [] => rfl
  | o, p :: M => by simp [tM, tM_len (o + 1) M]
theorem tarr {a k : Nat} {sl : List Value} (h : xarr B a k = some sl) : xarr (tMem B I J) a k = some (tS I J a 0 sl) := by
  unfold xarr at h ⊢
  unfold tMem
  rw [tM_nth]
  cases h1 : xnth B a with
  | none => rw [h1] at h; cases h
  | some p =>
    rw [h1] at h
    dsimp only at h
    simp only [Option.map_some, Nat.zero_add]
    cases hb : Nat.beq p.1 k with
    | false => rw [hb] at h; cases h
    | true => rw [hb] at h; cases h; rfl
theorem tS_upI {o o' k' : Nat} {v : Int32} : ∀ (k : Nat) (l : List Value), (o' ≠ o ∨ k' < k) → tS (tup I o' k' v) J o k l = tS I J o k l
  | _, [], _ => rfl
  | k, w :: l, h => by
    simp only [tS]
    rw [tS_upI (k + 1) l (by omega), tup_ne (by omega)]
theorem tS_setI {o : Nat} {v : Int32} : ∀ (k : Nat) (l : List Value) (i : Nat) (x : Int32), xnth l i = some (.int x) → (tS I J o k l).set i (.int v) = tS (tup I o (k + i) v) J o k l
  | _, [], _, _, h => by cases h
  | k, w :: l, 0, x, h => by
    simp only [xnth, Option.some.injEq] at h
    subst h
    simp only [tS, List.set_cons_zero, Nat.add_zero]
    rw [tS_upI (k + 1) l (Or.inr (by omega)), tup_eq]
    rfl
  | k, w :: l, i + 1, x, h => by
    simp only [tS, List.set_cons_succ]
    rw [tS_setI (k + 1) l i x h, tup_ne (by omega), show k + 1 + i = k + (i + 1) by omega]
theorem tM_upI {o' k' : Nat} {v : Int32} : ∀ (o : Nat) (M : xM), o' < o → tM (tup I o' k' v) J o M = tM I J o M
  | _, [], _ => rfl
  | o, p :: M, h => by
    simp only [tM]
    rw [tM_upI (o + 1) M (by omega), tS_upI 0 p.2 (Or.inl (by omega))]
theorem tM_setI {v : Int32} : ∀ (o : Nat) (M : xM) (a i : Nat) (p : xO) (x : Int32), xnth M a = some p → xnth p.2 i = some (.int x) → (tM I J o M).set a (p.1, (tS I J (o + a) 0 p.2).set i (.int v)) = tM (tup I (o + a) i v) J o M
  | _, [], _, _, _, _, h, _ => by cases h
  | o, q :: M, 0, i, p, x, h, hx => by
    simp only [xnth, Option.some.injEq] at h
    subst h
    simp only [tM, List.set_cons_zero, Nat.add_zero]
    rw [tM_upI (o + 1) M (by omega), tS_setI 0 q.2 i x hx, Nat.zero_add]
  | o, q :: M, a + 1, i, p, x, h, hx => by
    simp only [tM, List.set_cons_succ]
    rw [show o + (a + 1) = o + 1 + a by omega, tM_setI (o + 1) M a i p x h hx, tS_upI 0 q.2 (Or.inl (by omega))]
end TM
/-! LONGS AND REFERENCES LIKEWISE -/
section TM2
variable {B : xM} {I : tI} {J : tJ}
theorem tS_upJ {o o' k' : Nat} {v : Int64} : ∀ (k : Nat) (l : List Value), (o' ≠ o ∨ k' < k) → tS I (tup J o' k' v) o k l = tS I J o k l
  | _, [], _ => rfl
  | k, w :: l, h => by
    simp only [tS]
    rw [tS_upJ (k + 1) l (by omega), tup_ne (by omega)]
theorem tS_setJ {o : Nat} {v : Int64} : ∀ (k : Nat) (l : List Value) (i : Nat) (x : Int64), xnth l i = some (.long x) → (tS I J o k l).set i (.long v) = tS I (tup J o (k + i) v) o k l
  | _, [], _, _, h => by cases h
  | k, w :: l, 0, x, h => by
    simp only [xnth, Option.some.injEq] at h
    subst h
    simp only [tS, List.set_cons_zero, Nat.add_zero]
    rw [tS_upJ (k + 1) l (Or.inr (by omega)), tup_eq]
    rfl
  | k, w :: l, i + 1, x, h => by
    simp only [tS, List.set_cons_succ]
    rw [tS_setJ (k + 1) l i x h, tup_ne (by omega), show k + 1 + i = k + (i + 1) by omega]
theorem tM_upJ {o' k' : Nat} {v : Int64} : ∀ (o : Nat) (M : xM), o' < o → tM I (tup J o' k' v) o M = tM I J o M
  | _, [], _ => rfl
  | o, p :: M, h => by
    simp only [tM]
    rw [tM_upJ (o + 1) M (by omega), tS_upJ 0 p.2 (Or.inl (by omega))]
theorem tM_setJ {v : Int64} : ∀ (o : Nat) (M : xM) (a i : Nat) (p : xO) (x : Int64), xnth M a = some p → xnth p.2 i = some (.long x) → (tM I J o M).set a (p.1, (tS I J (o + a) 0 p.2).set i (.long v)) = tM I (tup J (o + a) i v) o M
  | _, [], _, _, _, _, h, _ => by cases h
  | o, q :: M, 0, i, p, x, h, hx => by
    simp only [xnth, Option.some.injEq] at h
    subst h
    simp only [tM, List.set_cons_zero, Nat.add_zero]
    rw [tM_upJ (o + 1) M (by omega), tS_setJ 0 q.2 i x hx, Nat.zero_add]
  | o, q :: M, a + 1, i, p, x, h, hx => by
    simp only [tM, List.set_cons_succ]
    rw [show o + (a + 1) = o + 1 + a by omega, tM_setJ (o + 1) M a i p x h hx, tS_upJ 0 q.2 (Or.inl (by omega))]
/-- what a slot of the heap is: 0 an int, 1 a long, 2 a reference -/
def tyV (v : Value) (t : Nat) : Bool := match v with
  | .int _ => Nat.beq t 0
  | .long _ => Nat.beq t 1
  | .ref _ => Nat.beq t 2
  | _ => false
def tSlot (B : xM) (o c k t : Nat) : Bool := match xarr B o c with
  | some sl => (match xnth sl k with
    | some v => tyV v t
    | none => false)
  | none => false
def tArr (B : xM) (o c n t : Nat) : Bool := match xarr B o c with
  | some sl => Nat.beq sl.length n && sl.all (fun v => tyV v t)
  | none => false
theorem tyV_i {v : Value} (h : tyV v 0 = true) : ∃ x, v = .int x := by
  cases v <;> first | exact ⟨_, rfl⟩ | (cases h; done)
theorem tyV_l {v : Value} (h : tyV v 1 = true) : ∃ x, v = .long x := by
  cases v <;> first | exact ⟨_, rfl⟩ | (cases h; done)
theorem tyV_r {v : Value} (h : tyV v 2 = true) : ∃ x, v = .ref x := by
  cases v <;> first | exact ⟨_, rfl⟩ | (cases h; done)
theorem tSlot_in {o c k t : Nat} (h : tSlot B o c k t = true) : ∃ sl v, xarr B o c = some sl ∧ xnth sl k = some v ∧ tyV v t = true := by
  unfold tSlot at h
  split at h
  · rename_i sl hsl
    split at h
    · rename_i v hv
      exact ⟨sl, v, hsl, hv, h⟩
    · cases h
  · cases h
theorem tArr_in {o c n t : Nat} (h : tArr B o c n t = true) : ∃ sl, xarr B o c = some sl ∧ sl.length = n ∧ ∀ i, i < n → ∃ v, xnth sl i = some v ∧ tyV v t = true := by
  unfold tArr at h
  split at h
  · rename_i sl hsl
    rw [Bool.and_eq_true] at h
    have hn := Nat.eq_of_beq_eq_true h.1
    refine ⟨sl, hsl, hn, fun i hi => ?_⟩
    have hl : i < sl.length := by omega
    refine ⟨sl[i], by rw [xnth_eq]; exact List.getElem?_eq_getElem hl, List.all_eq_true.mp h.2 _ (List.getElem_mem hl)⟩
  · cases h
theorem xarr_nth {M : xM} {a k : Nat} {sl : List Value} (h : xarr M a k = some sl) : xnth M a = some (k, sl) := by rw [xnth_eq]; exact xarr_eq h
theorem tput_i {o c k : Nat} {v : Int32} (h : tSlot B o c k 0 = true) : ∃ sl, xarr (tMem B I J) o c = some sl ∧ k < sl.length ∧ xnth sl k = some (.int (I o k)) ∧ xwr (tMem B I J) o c k sl (.int v) = tMem B (tup I o k v) J := by
  obtain ⟨sl, w, h1, h2, h3⟩ := tSlot_in h
  obtain ⟨x, rfl⟩ := tyV_i h3
  refine ⟨_, tarr h1, ?_, ?_, ?_⟩
  · rw [tS_len]; exact flen_some h2
  · rw [tS_nth, h2]; simp [tV]
  · have := tM_setI (I := I) (J := J) (v := v) 0 B o k (c, sl) x (xarr_nth h1) h2
    rw [Nat.zero_add] at this
    exact this
theorem tput_l {o c k : Nat} {v : Int64} (h : tSlot B o c k 1 = true) : ∃ sl, xarr (tMem B I J) o c = some sl ∧ k < sl.length ∧ xnth sl k = some (.long (J o k)) ∧ xwr (tMem B I J) o c k sl (.long v) = tMem B I (tup J o k v) := by
  obtain ⟨sl, w, h1, h2, h3⟩ := tSlot_in h
  obtain ⟨x, rfl⟩ := tyV_l h3
  refine ⟨_, tarr h1, ?_, ?_, ?_⟩
  · rw [tS_len]; exact flen_some h2
  · rw [tS_nth, h2]; simp [tV]
  · have := tM_setJ (I := I) (J := J) (v := v) 0 B o k (c, sl) x (xarr_nth h1) h2
    rw [Nat.zero_add] at this
    exact this
def tRef (B : xM) (o c k r : Nat) : Bool := match xarr B o c with
  | some sl => (match xnth sl k with
    | some (.ref a) => Nat.beq a r
    | _ => false)
  | none => false
theorem tget_r {o c k a : Nat} (h : tRef B o c k a = true) : ∃ sl, xarr (tMem B I J) o c = some sl ∧ xnth sl k = some (.ref a) := by
  unfold tRef at h
  split at h
  · rename_i sl hsl
    split at h
    · rename_i a' hv
      have e := Nat.eq_of_beq_eq_true h
      subst e
      refine ⟨_, tarr hsl, ?_⟩
      rw [tS_nth, hv]
      simp [tV]
    · cases h
  · cases h
theorem tarr_slot {o c n t i : Nat} (h : tArr B o c n t = true) (hi : i < n) : tSlot B o c i t = true := by
  obtain ⟨sl, h1, h2, h3⟩ := tArr_in h
  obtain ⟨v, h4, h5⟩ := h3 i hi
  unfold tSlot
  rw [h1]
  dsimp only
  rw [h4]
  exact h5
theorem tarr_len {o c n t : Nat} (h : tArr B o c n t = true) : ∃ sl, xarr (tMem B I J) o c = some sl ∧ sl.length = n := by
  obtain ⟨sl, h1, h2, h3⟩ := tArr_in h
  exact ⟨_, tarr h1, by rw [tS_len]; exact h2⟩
end TM2
