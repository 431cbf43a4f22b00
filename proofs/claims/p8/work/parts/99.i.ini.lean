/-! MEMORIES COMPARED BY THE KERNEL -/
def veq (v w : Value) : Bool := match v, w with
  | .int a, .int b => decide (a = b)
  | .long a, .long b => decide (a = b)
  | .ref a, .ref b => Nat.beq a b
  | .null, .null => true
  | _, _ => false
theorem veq_ok {v w : Value} (h : veq v w = true) : v = w := by
  cases v <;> cases w <;> first | rfl | (cases h; done) | (simp only [veq, decide_eq_true_eq] at h; rw [h]) | (rw [Nat.eq_of_beq_eq_true h])
def leq : List Value → List Value → Bool
  | [], [] => true
  | v :: l, w :: m => veq v w && leq l m
  | _, _ => false
theorem leq_ok : ∀ {l m : List Value}, leq l m = true → l = m
  | [], [], _ => rfl
  | [], _ :: _, h => by cases h
  | _ :: _, [], h => by cases h
  | v :: l, w :: m, h => by
    simp only [leq, Bool.and_eq_true] at h
    rw [veq_ok h.1, leq_ok h.2]
def meq : xM → xM → Bool
  | [], [] => true
  | o :: l, p :: m => Nat.beq o.1 p.1 && (leq o.2 p.2 && meq l m)
  | _, _ => false
theorem meq_ok : ∀ {l m : xM}, meq l m = true → l = m
  | [], [], _ => rfl
  | [], _ :: _, h => by cases h
  | _ :: _, [], h => by cases h
  | o :: l, p :: m, h => by
    simp only [meq, Bool.and_eq_true] at h
    obtain ⟨h1, h2, h3⟩ := h
    have e1 := Nat.eq_of_beq_eq_true h1
    have e2 := leq_ok h2
    obtain ⟨a, b⟩ := o
    obtain ⟨c, d⟩ := p
    dsimp only at e1 e2
    rw [e1, e2, meq_ok h3]
