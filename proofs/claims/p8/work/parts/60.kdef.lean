/-! A CHECK OF METHODS BY INTERVALS: ids stand for integers within bounds; a value is an id and an offset.
tags: 0 an int, 1 a long (both: the id's number and the offset), 2 the object of that number, 3 '.retAddr' of that number -/
abbrev kV : Type := Nat × Nat × Int
abbrev kE : Type := List (Int × Int)
abbrev kL : Type := List (Nat × kV)
abbrev kO : Type := List ((Nat × Nat × Int) × kV)
abbrev kS : Type := kE × kL × List kV × kO
/-- what an id's number is -/
def kin : List Int → kE → Prop
  | [], [] => True
  | z :: ρ, b :: E => (b.1 ≤ z ∧ z ≤ b.2) ∧ kin ρ E
  | _, _ => False
def knum (ρ : List Int) (v : kV) (x : Int) : Prop := ∃ z, xnth ρ v.2.1 = some z ∧ x = z + v.2.2
def kv (ρ : List Int) (v : kV) (w : Value) : Prop := match v.1 with
  | 0 => ∃ x : Int32, w = .int x ∧ knum ρ v x.toInt
  | 1 => ∃ x : Int64, w = .long x ∧ knum ρ v x.toInt
  | 2 => w = .ref v.2.1
  | _ => w = .retAddr v.2.1
def kvs (ρ : List Int) : List kV → List Value → Prop
  | [], w => w = []
  | v :: S, w => ∃ v' S', w = v' :: S' ∧ kv ρ v v' ∧ kvs ρ S S'
def kfind : kL → Nat → Option kV
  | [], _ => none
  | (j, v) :: l, i => bif Nat.beq j i then some v else kfind l i
/-- of a local that is known: what it is -/
def kvl (ρ : List Int) (L : kL) (L' : xL) : Prop := ∀ i v, kfind L i = some v → ∃ w, xfind L' i = some w ∧ kv ρ v w
/-- what is known of the memory: object, index (id and offset), value -/
def kov (ρ : List Int) (I : tI) (O : kO) : Prop := ∀ q ∈ O, ∃ k : Nat, knum ρ (0, q.1.2.1, q.1.2.2) (k : Int) ∧ knum ρ q.2 (I q.1.1 k).toInt
theorem xnth_ap {α : Type} {l m : List α} {i : Nat} {a : α} (h : xnth l i = some a) : xnth (l ++ m) i = some a := by
  rw [xnth_eq] at h ⊢
  rw [List.getElem?_append_left (List.getElem?_eq_some_iff.mp h).1]
  exact h
theorem kin_len : ∀ {ρ : List Int} {E : kE}, kin ρ E → ρ.length = E.length
  | [], [], _ => rfl
  | _ :: _, _ :: _, h => by simp [kin_len h.2]
  | [], _ :: _, h => h.elim
  | _ :: _, [], h => h.elim
theorem kin_at : ∀ {ρ : List Int} {E : kE} {i : Nat} {z : Int}, kin ρ E → xnth ρ i = some z → ∃ b, xnth E i = some b ∧ b.1 ≤ z ∧ z ≤ b.2
  | [], [], _, _, _, h => by cases h
  | z :: _, b :: _, 0, _, h, h2 => by
    simp only [xnth, Option.some.injEq] at h2
    subst h2
    exact ⟨b, rfl, h.1⟩
  | _ :: _, _ :: _, i + 1, _, h, h2 => kin_at (i := i) h.2 h2
  | [], _ :: _, _, _, h, _ => h.elim
  | _ :: _, [], _, _, h, _ => h.elim
theorem kin_app : ∀ {ρ : List Int} {E : kE} {z : Int} {b : Int × Int}, kin ρ E → b.1 ≤ z → z ≤ b.2 → kin (ρ ++ [z]) (E ++ [b])
  | [], [], _, _, _, h1, h2 => ⟨⟨h1, h2⟩, trivial⟩
  | _ :: _, _ :: _, _, _, h, h1, h2 => ⟨h.1, kin_app h.2 h1 h2⟩
  | [], _ :: _, _, _, h, _, _ => h.elim
  | _ :: _, [], _, _, h, _, _ => h.elim
theorem kin_set : ∀ {ρ : List Int} {E : kE} {i : Nat} {z : Int} {b : Int × Int}, kin ρ E → xnth ρ i = some z → b.1 ≤ z → z ≤ b.2 → kin ρ (E.set i b)
  | [], [], _, _, _, _, h, _, _ => by cases h
  | _ :: _, _ :: _, 0, _, _, h, h0, h1, h2 => by
    simp only [xnth, Option.some.injEq] at h0
    subst h0
    exact ⟨⟨h1, h2⟩, h.2⟩
  | _ :: _, _ :: _, i + 1, _, _, h, h0, h1, h2 => ⟨h.1, kin_set (i := i) h.2 h0 h1 h2⟩
  | [], _ :: _, _, _, _, h, _, _, _ => h.elim
  | _ :: _, [], _, _, _, h, _, _, _ => h.elim
theorem xnth_app {α : Type} : ∀ (l m : List α) (a : α), xnth (l ++ a :: m) l.length = some a
  | [], _, _ => rfl
  | _ :: l, m, a => xnth_app l m a
theorem kin_new {ρ : List Int} {E : kE} {z : Int} (h : kin ρ E) : xnth (ρ ++ [z]) E.length = some z := by
  rw [← kin_len h]
  exact xnth_app ρ [] z
theorem knum_ap {ρ σ : List Int} {v : kV} {x : Int} (h : knum ρ v x) : knum (ρ ++ σ) v x := by
  obtain ⟨z, h1, h2⟩ := h
  exact ⟨z, xnth_ap h1, h2⟩
theorem kv_ap {ρ σ : List Int} {v : kV} {w : Value} (h : kv ρ v w) : kv (ρ ++ σ) v w := by
  obtain ⟨t, i, c⟩ := v
  unfold kv at h ⊢
  match t with
  | 0 => obtain ⟨x, h1, h2⟩ := h; exact ⟨x, h1, knum_ap h2⟩
  | 1 => obtain ⟨x, h1, h2⟩ := h; exact ⟨x, h1, knum_ap h2⟩
  | 2 => exact h
  | _ + 3 => exact h
theorem kvs_ap {ρ σ : List Int} : ∀ {S : List kV} {w : List Value}, kvs ρ S w → kvs (ρ ++ σ) S w
  | [], _, h => h
  | _ :: _, _, ⟨v', S', h1, h2, h3⟩ => ⟨v', S', h1, kv_ap h2, kvs_ap h3⟩
theorem kvl_ap {ρ σ : List Int} {L : kL} {L' : xL} (h : kvl ρ L L') : kvl (ρ ++ σ) L L' := fun i v hv => by
  obtain ⟨w, h1, h2⟩ := h i v hv
  exact ⟨w, h1, kv_ap h2⟩
theorem kov_ap {ρ σ : List Int} {I : tI} {O : kO} (h : kov ρ I O) : kov (ρ ++ σ) I O := fun q hq => by
  obtain ⟨k, h2, h3⟩ := h q hq
  exact ⟨k, knum_ap h2, knum_ap h3⟩
/-- the bounds of a value -/
def kiv (E : kE) (v : kV) : Option (Int × Int) := match xnth E v.2.1 with
  | some b => some (b.1 + v.2.2, b.2 + v.2.2)
  | none => none
theorem kiv_ok {ρ : List Int} {E : kE} {v : kV} {x : Int} (h : kin ρ E) (hx : knum ρ v x) : ∃ b, kiv E v = some b ∧ b.1 ≤ x ∧ x ≤ b.2 := by
  obtain ⟨z, h1, rfl⟩ := hx
  obtain ⟨b, h2, h3, h4⟩ := kin_at h h1
  refine ⟨(b.1 + v.2.2, b.2 + v.2.2), ?_, by dsimp only; omega, by dsimp only; omega⟩
  unfold kiv
  rw [h2]
theorem kiv_in {ρ : List Int} {E : kE} {v : kV} {x : Int} {b : Int × Int} (h : kin ρ E) (hx : knum ρ v x) (hb : kiv E v = some b) : b.1 ≤ x ∧ x ≤ b.2 := by
  obtain ⟨b', h1, h2⟩ := kiv_ok h hx
  rw [h1] at hb
  cases hb
  exact h2
/-- bounds made narrower: a value is between lo and hi; none where that can't be -/
def kref (E : kE) (v : kV) (lo hi : Int) : Option kE := match xnth E v.2.1 with
  | some b => bif decide (max b.1 (lo - v.2.2) ≤ min b.2 (hi - v.2.2)) then some (E.set v.2.1 (max b.1 (lo - v.2.2), min b.2 (hi - v.2.2))) else none
  | none => none
theorem kref_ok {ρ : List Int} {E : kE} {v : kV} {x lo hi : Int} (h : kin ρ E) (hx : knum ρ v x) (h1 : lo ≤ x) (h2 : x ≤ hi) : ∃ E', kref E v lo hi = some E' ∧ kin ρ E' := by
  obtain ⟨z, g1, rfl⟩ := hx
  obtain ⟨b, g2, g3, g4⟩ := kin_at h g1
  unfold kref
  rw [g2]
  dsimp only
  rw [decide_eq_true (by omega : max b.1 (lo - v.2.2) ≤ min b.2 (hi - v.2.2))]
  exact ⟨_, rfl, kin_set h g1 (by dsimp only; omega) (by dsimp only; omega)⟩
