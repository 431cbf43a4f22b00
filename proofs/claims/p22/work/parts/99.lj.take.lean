/-! WORLDS COPIED -/
theorem tcp_ne {α : Type} {f : Nat → Nat → α} {d dp s sp n o k : Nat} (h : ¬ (o = d ∧ dp ≤ k ∧ k < dp + n)) : tcp f d dp s sp n o k = f o k := by
  unfold tcp
  rw [if_neg h]
theorem tcp_i0 {α : Type} {f : Nat → Nat → α} {d s n k : Nat} (h : k < n) : tcp f d 0 s 0 n d k = f s k := by
  unfold tcp
  rw [if_pos ⟨rfl, Nat.zero_le _, by omega⟩, Nat.zero_add, Nat.sub_zero]
theorem take_10_36 {I I1 : tI} {J J1 : tJ} {u : Unit} (h : f105_10_36 I J = (u, I1, J1)) : (∀ j k, cpI j k → I1 (10 + j) k = I (36 + j) k) ∧ (∀ j k, cpJ j k → J1 (10 + j) k = J (36 + j) k) ∧ ∀ o k, ¬ (10 ≤ o ∧ o ≤ 33) → I1 o k = I o k ∧ J1 o k = J o k := by
  unfold f105_10_36 f42_11_37 f10_12_38 f91_21_47 f72_26_52 at h
  dsimp only at h
  cases h
  refine ⟨fun j k hk => ?_, fun j k hk => ?_, fun o k hn => ⟨?_, ?_⟩⟩
  · have hj : j = 0 ∨ j = 1 ∨ j = 2 ∨ j = 4 ∨ j = 5 ∨ j = 6 ∨ j = 7 ∨ j = 8 ∨ j = 9 ∨ j = 10 ∨ j = 11 ∨ j = 13 ∨ j = 14 ∨ j = 15 ∨ j = 16 ∨ j = 17 ∨ j = 18 ∨ j = 19 ∨ j = 20 ∨ j = 22 ∨ j = 23 := by
      unfold cpI at hk
      omega
    have q0 : j = 0 → k = 4 ∨ k = 5 ∨ k = 6 := by
      unfold cpI at hk
      omega
    have q1 : j = 1 ∨ j = 2 → k = 0 ∨ k = 1 := by
      unfold cpI at hk
      omega
    have q11 : j = 11 → k = 0 := by
      unfold cpI at hk
      omega
    have q16 : j = 16 → k = 0 ∨ k = 1 ∨ k = 2 := by
      unfold cpI at hk
      omega
    have q5 : ((4 ≤ j ∧ j ≤ 7) ∨ j = 9 ∨ j = 10) → k < 5 := by
      unfold cpI at hk
      omega
    have q8 : j = 8 → k < 40 := by
      unfold cpI at hk
      omega
    have q13 : (13 ≤ j ∧ j ≤ 15) → k < 6 := by
      unfold cpI at hk
      omega
    have q17 : (17 ≤ j ∧ j ≤ 20) → k < 60 := by
      unfold cpI at hk
      omega
    have q22 : (j = 22 → k < 4) ∧ (j = 23 → k < 121) := by
      unfold cpI at hk
      omega
    clear hk
    rcases hj with rfl | rfl | rfl | rfl | rfl | rfl | rfl | rfl | rfl | rfl | rfl | rfl | rfl | rfl | rfl | rfl | rfl | rfl | rfl | rfl | rfl
    · rcases q0 rfl with rfl | rfl | rfl <;> (simp only [Nat.reduceAdd, Nat.add_zero]) <;> (repeat (first | rw [tcp_ne (by omega)] | rw [tup_ne (by omega)])) <;> (first | rw [tcp_i0 (by omega)] | rw [tup_eq] | skip) <;> (repeat (first | rw [tcp_ne (by omega)] | rw [tup_ne (by omega)]))
    · rcases q1 (Or.inl rfl) with rfl | rfl <;> (simp only [Nat.reduceAdd]) <;> (repeat (first | rw [tcp_ne (by omega)] | rw [tup_ne (by omega)])) <;> (first | rw [tcp_i0 (by omega)] | rw [tup_eq] | skip) <;> (repeat (first | rw [tcp_ne (by omega)] | rw [tup_ne (by omega)]))
    · rcases q1 (Or.inr rfl) with rfl | rfl <;> (simp only [Nat.reduceAdd]) <;> (repeat (first | rw [tcp_ne (by omega)] | rw [tup_ne (by omega)])) <;> (first | rw [tcp_i0 (by omega)] | rw [tup_eq] | skip) <;> (repeat (first | rw [tcp_ne (by omega)] | rw [tup_ne (by omega)]))
    · have hk := q5 (by omega)
      simp only [Nat.reduceAdd]
      (repeat (first | rw [tcp_ne (by omega)] | rw [tup_ne (by omega)])) <;> (first | rw [tcp_i0 (by omega)] | rw [tup_eq] | skip) <;> (repeat (first | rw [tcp_ne (by omega)] | rw [tup_ne (by omega)]))
    · have hk := q5 (by omega)
      simp only [Nat.reduceAdd]
      (repeat (first | rw [tcp_ne (by omega)] | rw [tup_ne (by omega)])) <;> (first | rw [tcp_i0 (by omega)] | rw [tup_eq] | skip) <;> (repeat (first | rw [tcp_ne (by omega)] | rw [tup_ne (by omega)]))
    · have hk := q5 (by omega)
      simp only [Nat.reduceAdd]
      (repeat (first | rw [tcp_ne (by omega)] | rw [tup_ne (by omega)])) <;> (first | rw [tcp_i0 (by omega)] | rw [tup_eq] | skip) <;> (repeat (first | rw [tcp_ne (by omega)] | rw [tup_ne (by omega)]))
    · have hk := q5 (by omega)
      simp only [Nat.reduceAdd]
      (repeat (first | rw [tcp_ne (by omega)] | rw [tup_ne (by omega)])) <;> (first | rw [tcp_i0 (by omega)] | rw [tup_eq] | skip) <;> (repeat (first | rw [tcp_ne (by omega)] | rw [tup_ne (by omega)]))
    · have hk := q8 rfl
      simp only [Nat.reduceAdd]
      (repeat (first | rw [tcp_ne (by omega)] | rw [tup_ne (by omega)])) <;> (first | rw [tcp_i0 (by omega)] | rw [tup_eq] | skip) <;> (repeat (first | rw [tcp_ne (by omega)] | rw [tup_ne (by omega)]))
    · have hk := q5 (by omega)
      simp only [Nat.reduceAdd]
      (repeat (first | rw [tcp_ne (by omega)] | rw [tup_ne (by omega)])) <;> (first | rw [tcp_i0 (by omega)] | rw [tup_eq] | skip) <;> (repeat (first | rw [tcp_ne (by omega)] | rw [tup_ne (by omega)]))
    · have hk := q5 (by omega)
      simp only [Nat.reduceAdd]
      (repeat (first | rw [tcp_ne (by omega)] | rw [tup_ne (by omega)])) <;> (first | rw [tcp_i0 (by omega)] | rw [tup_eq] | skip) <;> (repeat (first | rw [tcp_ne (by omega)] | rw [tup_ne (by omega)]))
    · have hk := q11 rfl
      subst hk
      simp only [Nat.reduceAdd]
      (repeat (first | rw [tcp_ne (by omega)] | rw [tup_ne (by omega)])) <;> (first | rw [tcp_i0 (by omega)] | rw [tup_eq] | skip) <;> (repeat (first | rw [tcp_ne (by omega)] | rw [tup_ne (by omega)]))
    · have hk := q13 (by omega)
      simp only [Nat.reduceAdd]
      (repeat (first | rw [tcp_ne (by omega)] | rw [tup_ne (by omega)])) <;> (first | rw [tcp_i0 (by omega)] | rw [tup_eq] | skip) <;> (repeat (first | rw [tcp_ne (by omega)] | rw [tup_ne (by omega)]))
    · have hk := q13 (by omega)
      simp only [Nat.reduceAdd]
      (repeat (first | rw [tcp_ne (by omega)] | rw [tup_ne (by omega)])) <;> (first | rw [tcp_i0 (by omega)] | rw [tup_eq] | skip) <;> (repeat (first | rw [tcp_ne (by omega)] | rw [tup_ne (by omega)]))
    · have hk := q13 (by omega)
      simp only [Nat.reduceAdd]
      (repeat (first | rw [tcp_ne (by omega)] | rw [tup_ne (by omega)])) <;> (first | rw [tcp_i0 (by omega)] | rw [tup_eq] | skip) <;> (repeat (first | rw [tcp_ne (by omega)] | rw [tup_ne (by omega)]))
    · rcases q16 rfl with rfl | rfl | rfl <;> (simp only [Nat.reduceAdd]) <;> (repeat (first | rw [tcp_ne (by omega)] | rw [tup_ne (by omega)])) <;> (first | rw [tcp_i0 (by omega)] | rw [tup_eq] | skip) <;> (repeat (first | rw [tcp_ne (by omega)] | rw [tup_ne (by omega)]))
    · have hk := q17 (by omega)
      simp only [Nat.reduceAdd]
      (repeat (first | rw [tcp_ne (by omega)] | rw [tup_ne (by omega)])) <;> (first | rw [tcp_i0 (by omega)] | rw [tup_eq] | skip) <;> (repeat (first | rw [tcp_ne (by omega)] | rw [tup_ne (by omega)]))
    · have hk := q17 (by omega)
      simp only [Nat.reduceAdd]
      (repeat (first | rw [tcp_ne (by omega)] | rw [tup_ne (by omega)])) <;> (first | rw [tcp_i0 (by omega)] | rw [tup_eq] | skip) <;> (repeat (first | rw [tcp_ne (by omega)] | rw [tup_ne (by omega)]))
    · have hk := q17 (by omega)
      simp only [Nat.reduceAdd]
      (repeat (first | rw [tcp_ne (by omega)] | rw [tup_ne (by omega)])) <;> (first | rw [tcp_i0 (by omega)] | rw [tup_eq] | skip) <;> (repeat (first | rw [tcp_ne (by omega)] | rw [tup_ne (by omega)]))
    · have hk := q17 (by omega)
      simp only [Nat.reduceAdd]
      (repeat (first | rw [tcp_ne (by omega)] | rw [tup_ne (by omega)])) <;> (first | rw [tcp_i0 (by omega)] | rw [tup_eq] | skip) <;> (repeat (first | rw [tcp_ne (by omega)] | rw [tup_ne (by omega)]))
    · have hk := q22.1 rfl
      simp only [Nat.reduceAdd]
      (repeat (first | rw [tcp_ne (by omega)] | rw [tup_ne (by omega)])) <;> (first | rw [tcp_i0 (by omega)] | rw [tup_eq] | skip) <;> (repeat (first | rw [tcp_ne (by omega)] | rw [tup_ne (by omega)]))
    · have hk := q22.2 rfl
      simp only [Nat.reduceAdd]
      (repeat (first | rw [tcp_ne (by omega)] | rw [tup_ne (by omega)])) <;> (first | rw [tcp_i0 (by omega)] | rw [tup_eq] | skip) <;> (repeat (first | rw [tcp_ne (by omega)] | rw [tup_ne (by omega)]))
  · have hj : (j = 1 ∧ k = 2) ∨ j = 3 ∨ j = 12 ∨ j = 21 := by
      unfold cpJ at hk
      omega
    have q3 : (j = 3 → k < 5) ∧ (j = 12 → k < 6) ∧ (j = 21 → k < 4) := by
      unfold cpJ at hk
      omega
    clear hk
    rcases hj with ⟨rfl, rfl⟩ | rfl | rfl | rfl
    · simp only [Nat.reduceAdd]
      (repeat (first | rw [tcp_ne (by omega)] | rw [tup_ne (by omega)])) <;> (first | rw [tcp_i0 (by omega)] | rw [tup_eq] | skip) <;> (repeat (first | rw [tcp_ne (by omega)] | rw [tup_ne (by omega)]))
    · have hk := q3.1 rfl
      simp only [Nat.reduceAdd]
      (repeat (first | rw [tcp_ne (by omega)] | rw [tup_ne (by omega)])) <;> (first | rw [tcp_i0 (by omega)] | rw [tup_eq] | skip) <;> (repeat (first | rw [tcp_ne (by omega)] | rw [tup_ne (by omega)]))
    · have hk := q3.2.1 rfl
      simp only [Nat.reduceAdd]
      (repeat (first | rw [tcp_ne (by omega)] | rw [tup_ne (by omega)])) <;> (first | rw [tcp_i0 (by omega)] | rw [tup_eq] | skip) <;> (repeat (first | rw [tcp_ne (by omega)] | rw [tup_ne (by omega)]))
    · have hk := q3.2.2 rfl
      simp only [Nat.reduceAdd]
      (repeat (first | rw [tcp_ne (by omega)] | rw [tup_ne (by omega)])) <;> (first | rw [tcp_i0 (by omega)] | rw [tup_eq] | skip) <;> (repeat (first | rw [tcp_ne (by omega)] | rw [tup_ne (by omega)]))
  · repeat (first | rw [tcp_ne (by omega)] | rw [tup_ne (by omega)])
  · repeat (first | rw [tcp_ne (by omega)] | rw [tup_ne (by omega)])
