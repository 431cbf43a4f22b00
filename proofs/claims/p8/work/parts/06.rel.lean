/-! WHAT THE INTERPRETER's STATE SAYS OF THE MACHINE's -/
def xz : xM → Nat
  | [] => 0
  | o :: M => o.2.length + xz M
def xrv (b : Nat → Nat) (as : List Nat) (v w : Value) : Prop := match v with
  | .int x => w = .int x
  | .long x => w = .long x
  | .null => w = .null
  | .ref i => ∃ a, as[i]? = some a ∧ w = .ref a
  | .retAddr n => w = .ref (b n)
  | _ => False
def xrs (b : Nat → Nat) (as : List Nat) : List Value → List Value → Prop
  | [], w => w = []
  | v :: st, w => ∃ v' st', w = v' :: st' ∧ xrv b as v v' ∧ xrs b as st st'
def xrl (b : Nat → Nat) (as : List Nat) : xL → xL → Prop
  | [], w => w = []
  | (i, v) :: l, w => ∃ v' l', w = (i, v') :: l' ∧ xrv b as v v' ∧ xrl b as l l'
def xre (b : Nat → Nat) (as : List Nat) (tys : List (ClassId × FieldType)) (o : xO) (e : va_E) : Prop :=
  (o.1 = 20 ∧ ∃ (cA : ClassId) (t0 : Nat) (f : Nat → Int32), tys[t0]? = some (cA, .int) ∧ e = .inl (cA, o.2.length, .inl f) ∧ ∀ (j : Nat) (v : Value), o.2[j]? = some v → v = .int (f j)) ∨
  (o.1 = 21 ∧ ∃ (cA : ClassId) (t0 : Nat) (f : Nat → Int32), tys[t0]? = some (cA, .byte) ∧ e = .inl (cA, o.2.length, .inl f) ∧ ∀ (j : Nat) (v : Value), o.2[j]? = some v → v = .int (f j)) ∨
  (o.1 = 22 ∧ ∃ (cA : ClassId) (t0 : Nat) (f : Nat → Int64), tys[t0]? = some (cA, .long) ∧ e = .inl (cA, o.2.length, .inr (.inl f)) ∧ ∀ (j : Nat) (v : Value), o.2[j]? = some v → v = .long (f j)) ∨
  (o.1 = 23 ∧ ∃ (cA : ClassId) (t0 : Nat) (f : Nat → Option Nat), tys[t0]? = some (cA, .object "LaterPrints$World") ∧ e = .inl (cA, o.2.length, .inr (.inr (.inr (.inr f)))) ∧ ∀ (j : Nat) (v : Value), o.2[j]? = some v → xrv b as v (va_rf (f j))) ∨
  (o.1 = 24 ∧ ∃ (cA : ClassId) (t0 : Nat) (f : Nat → Option Nat), tys[t0]? = some (cA, .array .long) ∧ e = .inl (cA, o.2.length, .inr (.inr (.inr (.inr f)))) ∧ ∀ (j : Nat) (v : Value), o.2[j]? = some v → xrv b as v (va_rf (f j))) ∨
  (o.1 < 20 ∧ ∃ fs : List Value, e = .inr (o.1, fs) ∧ xrs b as o.2 fs)
def xrm (b : Nat → Nat) (as : List Nat) (tys : List (ClassId × FieldType)) (M : xM) (ws : va_W) : Prop :=
  ws.map (fun q => q.1) = as ∧ M.length = ws.length ∧ ∀ (i : Nat) (o : xO), M[i]? = some o → ∀ q : Nat × va_E, ws[i]? = some q → xre b as tys o q.2
theorem xrv_mono {b : Nat → Nat} {as ex : List Nat} {v w : Value} (h : xrv b as v w) : xrv b (as ++ ex) v w := by
  cases v with
  | ref i =>
    obtain ⟨a, h1, h2⟩ := h
    refine ⟨a, ?_, h2⟩
    rw [List.getElem?_append_left (List.getElem?_eq_some_iff.mp h1).1]
    exact h1
  | _ => exact h
theorem xrs_mono {b : Nat → Nat} {as ex : List Nat} : ∀ {st w : List Value}, xrs b as st w → xrs b (as ++ ex) st w
  | [], _, h => h
  | _ :: _, _, ⟨v', st', h1, h2, h3⟩ => ⟨v', st', h1, xrv_mono h2, xrs_mono h3⟩
theorem xrl_mono {b : Nat → Nat} {as ex : List Nat} : ∀ {l w : xL}, xrl b as l w → xrl b (as ++ ex) l w
  | [], _, h => h
  | (_, _) :: _, _, ⟨v', st', h1, h2, h3⟩ => ⟨v', st', h1, xrv_mono h2, xrl_mono h3⟩
theorem xre_mono {b : Nat → Nat} {as ex : List Nat} {tys tx : List (ClassId × FieldType)} {o : xO} {e : va_E} (h : xre b as tys o e) : xre b (as ++ ex) (tys ++ tx) o e := by
  have ht : ∀ {t0 : Nat} {x : ClassId × FieldType}, tys[t0]? = some x → (tys ++ tx)[t0]? = some x := fun {t0 x} h1 => by
    rw [List.getElem?_append_left (List.getElem?_eq_some_iff.mp h1).1]
    exact h1
  rcases h with ⟨h0, cA, t0, f, h1, h2, h3⟩ | ⟨h0, cA, t0, f, h1, h2, h3⟩ | ⟨h0, cA, t0, f, h1, h2, h3⟩ | ⟨h0, cA, t0, f, h1, h2, h3⟩ | ⟨h0, cA, t0, f, h1, h2, h3⟩ | ⟨h0, fs, h1, h2⟩
  · exact Or.inl ⟨h0, cA, t0, f, ht h1, h2, h3⟩
  · exact Or.inr (Or.inl ⟨h0, cA, t0, f, ht h1, h2, h3⟩)
  · exact Or.inr (Or.inr (Or.inl ⟨h0, cA, t0, f, ht h1, h2, h3⟩))
  · exact Or.inr (Or.inr (Or.inr (Or.inl ⟨h0, cA, t0, f, ht h1, h2, fun j v h => xrv_mono (h3 j v h)⟩)))
  · exact Or.inr (Or.inr (Or.inr (Or.inr (Or.inl ⟨h0, cA, t0, f, ht h1, h2, fun j v h => xrv_mono (h3 j v h)⟩))))
  · exact Or.inr (Or.inr (Or.inr (Or.inr (Or.inr ⟨h0, fs, h1, xrs_mono h2⟩))))
theorem xnth_eq {α : Type} : ∀ (l : List α) (n : Nat), xnth l n = l[n]?
  | [], n => by simp [xnth]
  | a :: l, 0 => by simp [xnth]
  | a :: l, n + 1 => by simp [xnth, xnth_eq l n]
theorem xcat_eq (v : Value) : xcat v = v.category := by cases v <;> rfl
theorem xrv_cat {b : Nat → Nat} {as : List Nat} {v w : Value} (h : xrv b as v w) : w.category = xcat v := by
  cases v with
  | ref i => obtain ⟨a, -, rfl⟩ := h; rfl
  | retAddr n => cases h; rfl
  | int x => cases h; rfl
  | long x => cases h; rfl
  | null => cases h; rfl
  | _ => exact h.elim
theorem xrs_cats {b : Nat → Nat} {as : List Nat} : ∀ {st w : List Value}, xrs b as st w → (w.map fun v => v.category).sum = (st.map Value.category).sum
  | [], _, h => by cases h; rfl
  | v :: st, _, ⟨v', st', h1, h2, h3⟩ => by
    subst h1
    simp only [List.map_cons, List.sum_cons, xrs_cats h3, xrv_cat h2, xcat_eq]
theorem xrl_find {b : Nat → Nat} {as : List Nat} : ∀ {l w : xL} {i : Nat} {v : Value}, xrl b as l w → xfind l i = some v → ∃ (k : Nat) (v' : Value), w[k]? = some (i, v') ∧ xrv b as v v'
  | [], _, _, _, _, h => by simp [xfind] at h
  | (j, u) :: l, _, i, v, ⟨v', l', h1, h2, h3⟩, h => by
    subst h1
    by_cases hj : j = i
    · subst hj
      simp [xfind] at h
      subst h
      exact ⟨0, v', by simp, h2⟩
    · have hb : Nat.beq j i = false := by
        cases hq : Nat.beq j i with
        | false => rfl
        | true => exact absurd (Nat.eq_of_beq_eq_true hq) hj
      simp only [xfind, hb, cond_false] at h
      obtain ⟨k, u', g1, g2⟩ := xrl_find h3 h
      exact ⟨k + 1, u', by simpa using g1, g2⟩
theorem xrl_drop1 {b : Nat → Nat} {as : List Nat} (i : Nat) : ∀ {l w : xL}, xrl b as l w → xrl b as (xdrop1 i l) (w.filter (fun q => !(q.1 == i) && !(q.1 + 1 == i && q.2.category == 2)))
  | [], _, h => by cases h; rfl
  | (j, u) :: l, _, ⟨v', l', h1, h2, h3⟩ => by
    subst h1
    have ih := xrl_drop1 i h3
    have hc := xrv_cat h2
    by_cases hh : (Nat.beq j i || (Nat.beq (j + 1) i && Nat.beq (xcat u) 2)) = true
    · have h5 : (!(j == i) && !(j + 1 == i && v'.category == 2)) = false := by
        rw [hc]
        simp only [Bool.or_eq_true, Bool.and_eq_true, Nat.beq_eq] at hh
        rcases hh with hh | ⟨g1, g2⟩
        · simp [hh]
        · simp [g1, g2]
      simp only [xdrop1, hh, cond_true]
      rw [List.filter_cons_of_neg (by simpa using h5)]
      exact ih
    · have h5 : (!(j == i) && !(j + 1 == i && v'.category == 2)) = true := by
        rw [hc]
        simp only [Bool.or_eq_true, Bool.and_eq_true, Nat.beq_eq, not_or, not_and] at hh
        obtain ⟨g1, g2⟩ := hh
        simp only [Bool.and_eq_true, Bool.not_eq_true', beq_eq_false_iff_ne, ne_eq, Bool.and_eq_false_iff]
        refine ⟨g1, ?_⟩
        by_cases g3 : j + 1 = i
        · exact Or.inr (g2 g3)
        · exact Or.inl g3
      simp only [xdrop1, Bool.not_eq_true] at hh ⊢
      rw [hh, List.filter_cons_of_pos (by simpa using h5)]
      exact ⟨v', _, rfl, h2, ih⟩
theorem xrl_drop2 {b : Nat → Nat} {as : List Nat} (i : Nat) : ∀ {l w : xL}, xrl b as l w → xrl b as (xdrop2 i l) (w.filter (fun q => !(q.1 == i) && (!(q.1 == i + 1) && !(q.1 + 1 == i && q.2.category == 2))))
  | [], _, h => by cases h; rfl
  | (j, u) :: l, _, ⟨v', l', h1, h2, h3⟩ => by
    subst h1
    have ih := xrl_drop2 i h3
    have hc := xrv_cat h2
    by_cases hh : (Nat.beq j i || (Nat.beq j (i + 1) || (Nat.beq (j + 1) i && Nat.beq (xcat u) 2))) = true
    · have h5 : (!(j == i) && (!(j == i + 1) && !(j + 1 == i && v'.category == 2))) = false := by
        rw [hc]
        simp only [Bool.or_eq_true, Bool.and_eq_true, Nat.beq_eq] at hh
        rcases hh with hh | hh | ⟨g1, g2⟩
        · simp [hh]
        · simp [hh]
        · simp [g1, g2]
      simp only [xdrop2, hh, cond_true]
      rw [List.filter_cons_of_neg (by simpa using h5)]
      exact ih
    · have h5 : (!(j == i) && (!(j == i + 1) && !(j + 1 == i && v'.category == 2))) = true := by
        rw [hc]
        simp only [Bool.or_eq_true, Bool.and_eq_true, Nat.beq_eq, not_or, not_and] at hh
        obtain ⟨g1, g0, g2⟩ := hh
        simp only [Bool.and_eq_true, Bool.not_eq_true', beq_eq_false_iff_ne, ne_eq, Bool.and_eq_false_iff]
        refine ⟨g1, g0, ?_⟩
        by_cases g3 : j + 1 = i
        · exact Or.inr (g2 g3)
        · exact Or.inl g3
      simp only [xdrop2, Bool.not_eq_true] at hh ⊢
      rw [hh, List.filter_cons_of_pos (by simpa using h5)]
      exact ⟨v', _, rfl, h2, ih⟩
theorem xrl_args {b : Nat → Nat} {as : List Nat} : ∀ (i : Nat) {l w : List Value}, xrs b as l w → xrl b as (lv_args i l) (lv_args i w)
  | _, [], _, h => by cases h; rfl
  | i, v :: l, _, ⟨v', l', h1, h2, h3⟩ => by
    subst h1
    have hc : v'.category = v.category := by rw [xrv_cat h2, xcat_eq]
    simp only [lv_args, hc]
    exact ⟨v', _, rfl, h2, xrl_args _ h3⟩
theorem xrs_len {b : Nat → Nat} {as : List Nat} : ∀ {st w : List Value}, xrs b as st w → w.length = st.length
  | [], _, h => by cases h; rfl
  | _ :: _, _, ⟨v', st', h1, _, h3⟩ => by subst h1; simp [xrs_len h3]
theorem xrs_get {b : Nat → Nat} {as : List Nat} : ∀ {st w : List Value} {k : Nat} {v : Value}, xrs b as st w → st[k]? = some v → ∃ v', w[k]? = some v' ∧ xrv b as v v'
  | [], _, _, _, _, h => by simp at h
  | u :: st, _, 0, v, ⟨v', st', h1, h2, _⟩, h => by
    subst h1
    simp at h
    subst h
    exact ⟨v', by simp, h2⟩
  | u :: st, _, k + 1, v, ⟨v', st', h1, _, h3⟩, h => by
    subst h1
    simp at h
    simpa using xrs_get h3 h
theorem xrs_set {b : Nat → Nat} {as : List Nat} {v v' : Value} (hv : xrv b as v v') : ∀ {st w : List Value} (k : Nat), xrs b as st w → xrs b as (st.set k v) (w.set k v')
  | [], _, _, h => by cases h; simp [xrs]
  | u :: st, _, 0, ⟨u', st', h1, _, h3⟩ => by subst h1; exact ⟨v', st', rfl, hv, h3⟩
  | u :: st, _, k + 1, ⟨u', st', h1, h2, h3⟩ => by subst h1; exact ⟨u', _, rfl, h2, xrs_set hv k h3⟩
theorem xrs_app {b : Nat → Nat} {as : List Nat} : ∀ {s1 w1 s2 w2 : List Value}, xrs b as s1 w1 → xrs b as s2 w2 → xrs b as (s1 ++ s2) (w1 ++ w2)
  | [], _, _, _, h, h2 => by cases h; exact h2
  | _ :: _, _, _, _, ⟨v', st', h1, h3, h4⟩, h2 => by subst h1; exact ⟨v', _, rfl, h3, xrs_app h4 h2⟩
theorem xpop_ok {b : Nat → Nat} {as : List Nat} : ∀ (n : Nat) {acc st ar rest acc' st' : List Value}, xpop n acc st = some (ar, rest) → xrs b as acc acc' → xrs b as st st' →
    ∃ ar' rest', xrs b as ar ar' ∧ xrs b as rest rest' ∧ acc'.reverse ++ ar'.reverse = acc'.reverse ++ ar'.reverse ∧ st' = (ar'.take (ar'.length - acc'.length)).reverse ++ rest' ∧ ar'.drop (ar'.length - acc'.length) = acc' ∧ ar'.length = n + acc'.length
  | 0, acc, st, ar, rest, acc', st', h, h1, h2 => by
    simp [xpop] at h
    obtain ⟨rfl, rfl⟩ := h
    exact ⟨acc', st', h1, h2, rfl, by simp, by simp, by simp⟩
  | n + 1, acc, [], ar, rest, acc', st', h, _, _ => by simp [xpop] at h
  | n + 1, acc, v :: st, ar, rest, acc', _, h, h1, ⟨v', st', e, h2, h3⟩ => by
    subst e
    simp only [xpop] at h
    obtain ⟨ar', rest', g1, g2, -, g4, g5, g6⟩ := xpop_ok (acc' := v' :: acc') n h ⟨v', acc', rfl, h2, h1⟩ h3
    refine ⟨ar', rest', g1, g2, rfl, ?_, ?_, ?_⟩
    · simp only [List.length_cons] at g4 g5 g6
      have hl : ar'.length - acc'.length = (ar'.length - (acc'.length + 1)) + 1 := by omega
      rw [hl, List.take_succ, g4]
      have : ar'[ar'.length - (acc'.length + 1)]? = some v' := by
        have := congrArg (fun z => z[0]?) g5
        simpa [List.getElem?_drop] using this
      simp [this]
    · simp only [List.length_cons] at g5 g6
      have hl : ar'.length - acc'.length = (ar'.length - (acc'.length + 1)) + 1 := by omega
      rw [hl, ← List.drop_drop, g5]
      rfl
    · simp only [List.length_cons] at g6
      omega
theorem xrm_at {b : Nat → Nat} {as : List Nat} {tys : List (ClassId × FieldType)} {M : xM} {ws : va_W} (h : xrm b as tys M ws) {i : Nat} {o : xO} (hi : M[i]? = some o) : ∃ (a : Nat) (e : va_E), ws[i]? = some (a, e) ∧ as[i]? = some a ∧ xre b as tys o e := by
  obtain ⟨h1, h2, h3⟩ := h
  have hl : i < ws.length := by rw [← h2]; exact (List.getElem?_eq_some_iff.mp hi).1
  obtain ⟨⟨a, e⟩, hq⟩ : ∃ q, ws[i]? = some q := ⟨ws[i], List.getElem?_eq_getElem hl⟩
  exact ⟨a, e, hq, by rw [← h1, List.getElem?_map, hq]; rfl, h3 i o hi _ hq⟩
theorem xrm_set {b : Nat → Nat} {as : List Nat} {tys : List (ClassId × FieldType)} {M : xM} {ws : va_W} (h : xrm b as tys M ws) {i : Nat} {a : Nat} {e e' : va_E} {o : xO} (hw : ws[i]? = some (a, e)) (he : xre b as tys o e') : xrm b as tys (M.set i o) (ws.set i (a, e')) := by
  obtain ⟨h1, h2, h3⟩ := h
  refine ⟨?_, by simpa using h2, fun j o' hj q hq => ?_⟩
  · rw [← h1]
    apply List.ext_getElem?
    intro j
    simp only [List.getElem?_map, List.getElem?_set]
    by_cases hij : i = j
    · subst hij
      obtain ⟨hl, hg⟩ := List.getElem?_eq_some_iff.mp hw
      simp [hl, hg]
    · simp [hij]
  · rw [List.getElem?_set] at hj hq
    by_cases hij : i = j
    · subst hij
      have hl := (List.getElem?_eq_some_iff.mp hw).1
      have hl2 : i < M.length := by rw [h2]; exact hl
      simp [hl] at hq
      simp [hl2] at hj
      subst hq; subst hj
      exact he
    · simp only [hij, if_false] at hj hq
      exact h3 j o' hj q hq
theorem xrm_push {b : Nat → Nat} {as : List Nat} {tys tx : List (ClassId × FieldType)} {M : xM} {ws : va_W} (h : xrm b as tys M ws) {q : Nat} {e : va_E} {o : xO} (he : xre b (as ++ [q]) (tys ++ tx) o e) : xrm b (as ++ [q]) (tys ++ tx) (M ++ [o]) (ws ++ [(q, e)]) := by
  obtain ⟨h1, h2, h3⟩ := h
  refine ⟨by rw [List.map_append, h1]; rfl, by simp [h2], fun j o' hj x hx => ?_⟩
  by_cases hl : j < M.length
  · rw [List.getElem?_append_left hl] at hj
    rw [List.getElem?_append_left (by omega)] at hx
    exact xre_mono (h3 j o' hj x hx)
  · rw [List.getElem?_append_right (by omega)] at hj hx
    have hz : j - M.length = 0 := by
      have := (List.getElem?_eq_some_iff.mp hj).1
      simp at this
      omega
    rw [h2] at hz
    rw [h2, hz] at hj
    rw [hz] at hx
    simp at hj hx
    subst hj; subst hx
    exact he
theorem xz_set : ∀ {M : xM} {a : Nat} {o o' : xO}, M[a]? = some o → o'.2.length = o.2.length → xz (M.set a o') = xz M
  | [], _, _, _, h, _ => by simp at h
  | x :: M, 0, o, o', h, h2 => by
    simp at h
    subst h
    simp [xz, h2]
  | x :: M, a + 1, o, o', h, h2 => by
    simp at h
    simp [xz, xz_set h h2]
theorem xz_app : ∀ (M N : xM), xz (M ++ N) = xz M + xz N
  | [], N => by simp [xz]
  | x :: M, N => by simp [xz, xz_app M N]; omega
theorem xarr_eq {M : xM} {a k : Nat} {sl : List Value} (h : xarr M a k = some sl) : M[a]? = some (k, sl) := by
  unfold xarr at h
  rw [xnth_eq] at h
  split at h
  · rename_i o ho
    cases hk : Nat.beq o.1 k with
    | false => simp [hk] at h
    | true =>
      simp [hk] at h
      have := Nat.eq_of_beq_eq_true hk
      rw [ho]
      obtain ⟨x, y⟩ := o
      simp at this h
      rw [this, h]
  · cases h
theorem xix_eq {j : Int32} {n i : Nat} (h : xix j n = some i) : vp_in j n ∧ i = j.toNatClampNeg ∧ j.toNatClampNeg < n := by
  unfold xix at h
  cases hc : (decide (j < 0) || Nat.ble n j.toNatClampNeg) with
  | true => simp [hc] at h
  | false =>
    simp [hc] at h
    simp only [Bool.or_eq_false_iff, decide_eq_false_iff_not] at hc
    have h2 : ¬ n ≤ j.toNatClampNeg := fun q => by
      have := Nat.ble_eq.mpr q
      rw [hc.2] at this
      cases this
    refine ⟨?_, h.symm, by omega⟩
    intro q
    rcases q with q | q
    · exact hc.1 q
    · exact h2 q
