/-! WORLDS COPIED: marks -/
theorem take_113_10 {I I1 : tI} {J J1 : tJ} {u : Unit} (h : f105_113_10 I J = (u, I1, J1)) : (∀ j k, cpI j k → I1 (113 + j) k = I (10 + j) k) ∧ (∀ j k, cpJ j k → J1 (113 + j) k = J (10 + j) k) ∧ ∀ o k, ¬ (113 ≤ o ∧ o ≤ 136) → I1 o k = I o k ∧ J1 o k = J o k := by
  unfold f105_113_10 f42_114_11 f10_115_12 f91_124_21 f72_129_26 at h
  dsimp only at h
  cases h
  refine ⟨fun j k hk => ?_, fun j k hk => ?_, fun o k hn => ⟨?_, ?_⟩⟩
  · have hj : j = 0 ∨ j = 1 ∨ j = 2 ∨ j = 4 ∨ j = 5 ∨ j = 6 ∨ j = 7 ∨ j = 8 ∨ j = 9 ∨ j = 10 ∨ j = 11 ∨ j = 13 ∨ j = 14 ∨ j = 15 ∨ j = 16 ∨ j = 17 ∨ j = 18 ∨ j = 19 ∨ j = 20 ∨ j = 22 ∨ j = 23 := by
      unfold cpI at hk
      omega
    have q0 : j = 0 → k = 4 ∨ k = 5 ∨ k = 6 := by
      unfold cpI at hk
      omega
    have q1 : j = 1 ∨ j = 2 → k = 0 ∨ k = 1 := by
      unfold cpI at hk
      omega
    have q11 : j = 11 → k = 0 := by
      unfold cpI at hk
      omega
    have q16 : j = 16 → k = 0 ∨ k = 1 ∨ k = 2 := by
      unfold cpI at hk
      omega
    have q5 : ((4 ≤ j ∧ j ≤ 7) ∨ j = 9 ∨ j = 10) → k < 5 := by
      unfold cpI at hk
      omega
    have q8 : j = 8 → k < 40 := by
      unfold cpI at hk
      omega
    have q13 : (13 ≤ j ∧ j ≤ 15) → k < 6 := by
      unfold cpI at hk
      omega
    have q17 : (17 ≤ j ∧ j ≤ 20) → k < 60 := by
      unfold cpI at hk
      omega
    have q22 : (j = 22 → k < 4) ∧ (j = 23 → k < 121) := by
      unfold cpI at hk
      omega
    clear hk
    rcases hj with rfl | rfl | rfl | rfl | rfl | rfl | rfl | rfl | rfl | rfl | rfl | rfl | rfl | rfl | rfl | rfl | rfl | rfl | rfl | rfl | rfl
    · rcases q0 rfl with rfl | rfl | rfl <;> (simp only [Nat.reduceAdd, Nat.add_zero]) <;> (repeat (first | rw [tcp_ne (by omega)] | rw [tup_ne (by omega)])) <;> (first | rw [tcp_i0 (by omega)] | rw [tup_eq] | skip) <;> (repeat (first | rw [tcp_ne (by omega)] | rw [tup_ne (by omega)]))
    · rcases q1 (Or.inl rfl) with rfl | rfl <;> (simp only [Nat.reduceAdd]) <;> (repeat (first | rw [tcp_ne (by omega)] | rw [tup_ne (by omega)])) <;> (first | rw [tcp_i0 (by omega)] | rw [tup_eq] | skip) <;> (repeat (first | rw [tcp_ne (by omega)] | rw [tup_ne (by omega)]))
    · rcases q1 (Or.inr rfl) with rfl | rfl <;> (simp only [Nat.reduceAdd]) <;> (repeat (first | rw [tcp_ne (by omega)] | rw [tup_ne (by omega)])) <;> (first | rw [tcp_i0 (by omega)] | rw [tup_eq] | skip) <;> (repeat (first | rw [tcp_ne (by omega)] | rw [tup_ne (by omega)]))
    · have hk := q5 (by omega)
      simp only [Nat.reduceAdd]
      (repeat (first | rw [tcp_ne (by omega)] | rw [tup_ne (by omega)])) <;> (first | rw [tcp_i0 (by omega)] | rw [tup_eq] | skip) <;> (repeat (first | rw [tcp_ne (by omega)] | rw [tup_ne (by omega)]))
    · have hk := q5 (by omega)
      simp only [Nat.reduceAdd]
      (repeat (first | rw [tcp_ne (by omega)] | rw [tup_ne (by omega)])) <;> (first | rw [tcp_i0 (by omega)] | rw [tup_eq] | skip) <;> (repeat (first | rw [tcp_ne (by omega)] | rw [tup_ne (by omega)]))
    · have hk := q5 (by omega)
      simp only [Nat.reduceAdd]
      (repeat (first | rw [tcp_ne (by omega)] | rw [tup_ne (by omega)])) <;> (first | rw [tcp_i0 (by omega)] | rw [tup_eq] | skip) <;> (repeat (first | rw [tcp_ne (by omega)] | rw [tup_ne (by omega)]))
    · have hk := q5 (by omega)
      simp only [Nat.reduceAdd]
      (repeat (first | rw [tcp_ne (by omega)] | rw [tup_ne (by omega)])) <;> (first | rw [tcp_i0 (by omega)] | rw [tup_eq] | skip) <;> (repeat (first | rw [tcp_ne (by omega)] | rw [tup_ne (by omega)]))
    · have hk := q8 rfl
      simp only [Nat.reduceAdd]
      (repeat (first | rw [tcp_ne (by omega)] | rw [tup_ne (by omega)])) <;> (first | rw [tcp_i0 (by omega)] | rw [tup_eq] | skip) <;> (repeat (first | rw [tcp_ne (by omega)] | rw [tup_ne (by omega)]))
    · have hk := q5 (by omega)
      simp only [Nat.reduceAdd]
      (repeat (first | rw [tcp_ne (by omega)] | rw [tup_ne (by omega)])) <;> (first | rw [tcp_i0 (by omega)] | rw [tup_eq] | skip) <;> (repeat (first | rw [tcp_ne (by omega)] | rw [tup_ne (by omega)]))
    · have hk := q5 (by omega)
      simp only [Nat.reduceAdd]
      (repeat (first | rw [tcp_ne (by omega)] | rw [tup_ne (by omega)])) <;> (first | rw [tcp_i0 (by omega)] | rw [tup_eq] | skip) <;> (repeat (first | rw [tcp_ne (by omega)] | rw [tup_ne (by omega)]))
    · have hk := q11 rfl
      subst hk
      simp only [Nat.reduceAdd]
      (repeat (first | rw [tcp_ne (by omega)] | rw [tup_ne (by omega)])) <;> (first | rw [tcp_i0 (by omega)] | rw [tup_eq] | skip) <;> (repeat (first | rw [tcp_ne (by omega)] | rw [tup_ne (by omega)]))
    · have hk := q13 (by omega)
      simp only [Nat.reduceAdd]
      (repeat (first | rw [tcp_ne (by omega)] | rw [tup_ne (by omega)])) <;> (first | rw [tcp_i0 (by omega)] | rw [tup_eq] | skip) <;> (repeat (first | rw [tcp_ne (by omega)] | rw [tup_ne (by omega)]))
    · have hk := q13 (by omega)
      simp only [Nat.reduceAdd]
      (repeat (first | rw [tcp_ne (by omega)] | rw [tup_ne (by omega)])) <;> (first | rw [tcp_i0 (by omega)] | rw [tup_eq] | skip) <;> (repeat (first | rw [tcp_ne (by omega)] | rw [tup_ne (by omega)]))
    · have hk := q13 (by omega)
      simp only [Nat.reduceAdd]
      (repeat (first | rw [tcp_ne (by omega)] | rw [tup_ne (by omega)])) <;> (first | rw [tcp_i0 (by omega)] | rw [tup_eq] | skip) <;> (repeat (first | rw [tcp_ne (by omega)] | rw [tup_ne (by omega)]))
    · rcases q16 rfl with rfl | rfl | rfl <;> (simp only [Nat.reduceAdd]) <;> (repeat (first | rw [tcp_ne (by omega)] | rw [tup_ne (by omega)])) <;> (first | rw [tcp_i0 (by omega)] | rw [tup_eq] | skip) <;> (repeat (first | rw [tcp_ne (by omega)] | rw [tup_ne (by omega)]))
    · have hk := q17 (by omega)
      simp only [Nat.reduceAdd]
      (repeat (first | rw [tcp_ne (by omega)] | rw [tup_ne (by omega)])) <;> (first | rw [tcp_i0 (by omega)] | rw [tup_eq] | skip) <;> (repeat (first | rw [tcp_ne (by omega)] | rw [tup_ne (by omega)]))
    · have hk := q17 (by omega)
      simp only [Nat.reduceAdd]
      (repeat (first | rw [tcp_ne (by omega)] | rw [tup_ne (by omega)])) <;> (first | rw [tcp_i0 (by omega)] | rw [tup_eq] | skip) <;> (repeat (first | rw [tcp_ne (by omega)] | rw [tup_ne (by omega)]))
    · have hk := q17 (by omega)
      simp only [Nat.reduceAdd]
      (repeat (first | rw [tcp_ne (by omega)] | rw [tup_ne (by omega)])) <;> (first | rw [tcp_i0 (by omega)] | rw [tup_eq] | skip) <;> (repeat (first | rw [tcp_ne (by omega)] | rw [tup_ne (by omega)]))
    · have hk := q17 (by omega)
      simp only [Nat.reduceAdd]
      (repeat (first | rw [tcp_ne (by omega)] | rw [tup_ne (by omega)])) <;> (first | rw [tcp_i0 (by omega)] | rw [tup_eq] | skip) <;> (repeat (first | rw [tcp_ne (by omega)] | rw [tup_ne (by omega)]))
    · have hk := q22.1 rfl
      simp only [Nat.reduceAdd]
      (repeat (first | rw [tcp_ne (by omega)] | rw [tup_ne (by omega)])) <;> (first | rw [tcp_i0 (by omega)] | rw [tup_eq] | skip) <;> (repeat (first | rw [tcp_ne (by omega)] | rw [tup_ne (by omega)]))
    · have hk := q22.2 rfl
      simp only [Nat.reduceAdd]
      (repeat (first | rw [tcp_ne (by omega)] | rw [tup_ne (by omega)])) <;> (first | rw [tcp_i0 (by omega)] | rw [tup_eq] | skip) <;> (repeat (first | rw [tcp_ne (by omega)] | rw [tup_ne (by omega)]))
  · have hj : (j = 1 ∧ k = 2) ∨ j = 3 ∨ j = 12 ∨ j = 21 := by
      unfold cpJ at hk
      omega
    have q3 : (j = 3 → k < 5) ∧ (j = 12 → k < 6) ∧ (j = 21 → k < 4) := by
      unfold cpJ at hk
      omega
    clear hk
    rcases hj with ⟨rfl, rfl⟩ | rfl | rfl | rfl
    · simp only [Nat.reduceAdd]
      (repeat (first | rw [tcp_ne (by omega)] | rw [tup_ne (by omega)])) <;> (first | rw [tcp_i0 (by omega)] | rw [tup_eq] | skip) <;> (repeat (first | rw [tcp_ne (by omega)] | rw [tup_ne (by omega)]))
    · have hk := q3.1 rfl
      simp only [Nat.reduceAdd]
      (repeat (first | rw [tcp_ne (by omega)] | rw [tup_ne (by omega)])) <;> (first | rw [tcp_i0 (by omega)] | rw [tup_eq] | skip) <;> (repeat (first | rw [tcp_ne (by omega)] | rw [tup_ne (by omega)]))
    · have hk := q3.2.1 rfl
      simp only [Nat.reduceAdd]
      (repeat (first | rw [tcp_ne (by omega)] | rw [tup_ne (by omega)])) <;> (first | rw [tcp_i0 (by omega)] | rw [tup_eq] | skip) <;> (repeat (first | rw [tcp_ne (by omega)] | rw [tup_ne (by omega)]))
    · have hk := q3.2.2 rfl
      simp only [Nat.reduceAdd]
      (repeat (first | rw [tcp_ne (by omega)] | rw [tup_ne (by omega)])) <;> (first | rw [tcp_i0 (by omega)] | rw [tup_eq] | skip) <;> (repeat (first | rw [tcp_ne (by omega)] | rw [tup_ne (by omega)]))
  · repeat (first | rw [tcp_ne (by omega)] | rw [tup_ne (by omega)])
  · repeat (first | rw [tcp_ne (by omega)] | rw [tup_ne (by omega)])
theorem take_137_10 {I I1 : tI} {J J1 : tJ} {u : Unit} (h : f105_137_10 I J = (u, I1, J1)) : (∀ j k, cpI j k → I1 (137 + j) k = I (10 + j) k) ∧ (∀ j k, cpJ j k → J1 (137 + j) k = J (10 + j) k) ∧ ∀ o k, ¬ (137 ≤ o ∧ o ≤ 160) → I1 o k = I o k ∧ J1 o k = J o k := by
  unfold f105_137_10 f42_138_11 f10_139_12 f91_148_21 f72_153_26 at h
  dsimp only at h
  cases h
  refine ⟨fun j k hk => ?_, fun j k hk => ?_, fun o k hn => ⟨?_, ?_⟩⟩
  · have hj : j = 0 ∨ j = 1 ∨ j = 2 ∨ j = 4 ∨ j = 5 ∨ j = 6 ∨ j = 7 ∨ j = 8 ∨ j = 9 ∨ j = 10 ∨ j = 11 ∨ j = 13 ∨ j = 14 ∨ j = 15 ∨ j = 16 ∨ j = 17 ∨ j = 18 ∨ j = 19 ∨ j = 20 ∨ j = 22 ∨ j = 23 := by
      unfold cpI at hk
      omega
    have q0 : j = 0 → k = 4 ∨ k = 5 ∨ k = 6 := by
      unfold cpI at hk
      omega
    have q1 : j = 1 ∨ j = 2 → k = 0 ∨ k = 1 := by
      unfold cpI at hk
      omega
    have q11 : j = 11 → k = 0 := by
      unfold cpI at hk
      omega
    have q16 : j = 16 → k = 0 ∨ k = 1 ∨ k = 2 := by
      unfold cpI at hk
      omega
    have q5 : ((4 ≤ j ∧ j ≤ 7) ∨ j = 9 ∨ j = 10) → k < 5 := by
      unfold cpI at hk
      omega
    have q8 : j = 8 → k < 40 := by
      unfold cpI at hk
      omega
    have q13 : (13 ≤ j ∧ j ≤ 15) → k < 6 := by
      unfold cpI at hk
      omega
    have q17 : (17 ≤ j ∧ j ≤ 20) → k < 60 := by
      unfold cpI at hk
      omega
    have q22 : (j = 22 → k < 4) ∧ (j = 23 → k < 121) := by
      unfold cpI at hk
      omega
    clear hk
    rcases hj with rfl | rfl | rfl | rfl | rfl | rfl | rfl | rfl | rfl | rfl | rfl | rfl | rfl | rfl | rfl | rfl | rfl | rfl | rfl | rfl | rfl
    · rcases q0 rfl with rfl | rfl | rfl <;> (simp only [Nat.reduceAdd, Nat.add_zero]) <;> (repeat (first | rw [tcp_ne (by omega)] | rw [tup_ne (by omega)])) <;> (first | rw [tcp_i0 (by omega)] | rw [tup_eq] | skip) <;> (repeat (first | rw [tcp_ne (by omega)] | rw [tup_ne (by omega)]))
    · rcases q1 (Or.inl rfl) with rfl | rfl <;> (simp only [Nat.reduceAdd]) <;> (repeat (first | rw [tcp_ne (by omega)] | rw [tup_ne (by omega)])) <;> (first | rw [tcp_i0 (by omega)] | rw [tup_eq] | skip) <;> (repeat (first | rw [tcp_ne (by omega)] | rw [tup_ne (by omega)]))
    · rcases q1 (Or.inr rfl) with rfl | rfl <;> (simp only [Nat.reduceAdd]) <;> (repeat (first | rw [tcp_ne (by omega)] | rw [tup_ne (by omega)])) <;> (first | rw [tcp_i0 (by omega)] | rw [tup_eq] | skip) <;> (repeat (first | rw [tcp_ne (by omega)] | rw [tup_ne (by omega)]))
    · have hk := q5 (by omega)
      simp only [Nat.reduceAdd]
      (repeat (first | rw [tcp_ne (by omega)] | rw [tup_ne (by omega)])) <;> (first | rw [tcp_i0 (by omega)] | rw [tup_eq] | skip) <;> (repeat (first | rw [tcp_ne (by omega)] | rw [tup_ne (by omega)]))
    · have hk := q5 (by omega)
      simp only [Nat.reduceAdd]
      (repeat (first | rw [tcp_ne (by omega)] | rw [tup_ne (by omega)])) <;> (first | rw [tcp_i0 (by omega)] | rw [tup_eq] | skip) <;> (repeat (first | rw [tcp_ne (by omega)] | rw [tup_ne (by omega)]))
    · have hk := q5 (by omega)
      simp only [Nat.reduceAdd]
      (repeat (first | rw [tcp_ne (by omega)] | rw [tup_ne (by omega)])) <;> (first | rw [tcp_i0 (by omega)] | rw [tup_eq] | skip) <;> (repeat (first | rw [tcp_ne (by omega)] | rw [tup_ne (by omega)]))
    · have hk := q5 (by omega)
      simp only [Nat.reduceAdd]
      (repeat (first | rw [tcp_ne (by omega)] | rw [tup_ne (by omega)])) <;> (first | rw [tcp_i0 (by omega)] | rw [tup_eq] | skip) <;> (repeat (first | rw [tcp_ne (by omega)] | rw [tup_ne (by omega)]))
    · have hk := q8 rfl
      simp only [Nat.reduceAdd]
      (repeat (first | rw [tcp_ne (by omega)] | rw [tup_ne (by omega)])) <;> (first | rw [tcp_i0 (by omega)] | rw [tup_eq] | skip) <;> (repeat (first | rw [tcp_ne (by omega)] | rw [tup_ne (by omega)]))
    · have hk := q5 (by omega)
      simp only [Nat.reduceAdd]
      (repeat (first | rw [tcp_ne (by omega)] | rw [tup_ne (by omega)])) <;> (first | rw [tcp_i0 (by omega)] | rw [tup_eq] | skip) <;> (repeat (first | rw [tcp_ne (by omega)] | rw [tup_ne (by omega)]))
    · have hk := q5 (by omega)
      simp only [Nat.reduceAdd]
      (repeat (first | rw [tcp_ne (by omega)] | rw [tup_ne (by omega)])) <;> (first | rw [tcp_i0 (by omega)] | rw [tup_eq] | skip) <;> (repeat (first | rw [tcp_ne (by omega)] | rw [tup_ne (by omega)]))
    · have hk := q11 rfl
      subst hk
      simp only [Nat.reduceAdd]
      (repeat (first | rw [tcp_ne (by omega)] | rw [tup_ne (by omega)])) <;> (first | rw [tcp_i0 (by omega)] | rw [tup_eq] | skip) <;> (repeat (first | rw [tcp_ne (by omega)] | rw [tup_ne (by omega)]))
    · have hk := q13 (by omega)
      simp only [Nat.reduceAdd]
      (repeat (first | rw [tcp_ne (by omega)] | rw [tup_ne (by omega)])) <;> (first | rw [tcp_i0 (by omega)] | rw [tup_eq] | skip) <;> (repeat (first | rw [tcp_ne (by omega)] | rw [tup_ne (by omega)]))
    · have hk := q13 (by omega)
      simp only [Nat.reduceAdd]
      (repeat (first | rw [tcp_ne (by omega)] | rw [tup_ne (by omega)])) <;> (first | rw [tcp_i0 (by omega)] | rw [tup_eq] | skip) <;> (repeat (first | rw [tcp_ne (by omega)] | rw [tup_ne (by omega)]))
    · have hk := q13 (by omega)
      simp only [Nat.reduceAdd]
      (repeat (first | rw [tcp_ne (by omega)] | rw [tup_ne (by omega)])) <;> (first | rw [tcp_i0 (by omega)] | rw [tup_eq] | skip) <;> (repeat (first | rw [tcp_ne (by omega)] | rw [tup_ne (by omega)]))
    · rcases q16 rfl with rfl | rfl | rfl <;> (simp only [Nat.reduceAdd]) <;> (repeat (first | rw [tcp_ne (by omega)] | rw [tup_ne (by omega)])) <;> (first | rw [tcp_i0 (by omega)] | rw [tup_eq] | skip) <;> (repeat (first | rw [tcp_ne (by omega)] | rw [tup_ne (by omega)]))
    · have hk := q17 (by omega)
      simp only [Nat.reduceAdd]
      (repeat (first | rw [tcp_ne (by omega)] | rw [tup_ne (by omega)])) <;> (first | rw [tcp_i0 (by omega)] | rw [tup_eq] | skip) <;> (repeat (first | rw [tcp_ne (by omega)] | rw [tup_ne (by omega)]))
    · have hk := q17 (by omega)
      simp only [Nat.reduceAdd]
      (repeat (first | rw [tcp_ne (by omega)] | rw [tup_ne (by omega)])) <;> (first | rw [tcp_i0 (by omega)] | rw [tup_eq] | skip) <;> (repeat (first | rw [tcp_ne (by omega)] | rw [tup_ne (by omega)]))
    · have hk := q17 (by omega)
      simp only [Nat.reduceAdd]
      (repeat (first | rw [tcp_ne (by omega)] | rw [tup_ne (by omega)])) <;> (first | rw [tcp_i0 (by omega)] | rw [tup_eq] | skip) <;> (repeat (first | rw [tcp_ne (by omega)] | rw [tup_ne (by omega)]))
    · have hk := q17 (by omega)
      simp only [Nat.reduceAdd]
      (repeat (first | rw [tcp_ne (by omega)] | rw [tup_ne (by omega)])) <;> (first | rw [tcp_i0 (by omega)] | rw [tup_eq] | skip) <;> (repeat (first | rw [tcp_ne (by omega)] | rw [tup_ne (by omega)]))
    · have hk := q22.1 rfl
      simp only [Nat.reduceAdd]
      (repeat (first | rw [tcp_ne (by omega)] | rw [tup_ne (by omega)])) <;> (first | rw [tcp_i0 (by omega)] | rw [tup_eq] | skip) <;> (repeat (first | rw [tcp_ne (by omega)] | rw [tup_ne (by omega)]))
    · have hk := q22.2 rfl
      simp only [Nat.reduceAdd]
      (repeat (first | rw [tcp_ne (by omega)] | rw [tup_ne (by omega)])) <;> (first | rw [tcp_i0 (by omega)] | rw [tup_eq] | skip) <;> (repeat (first | rw [tcp_ne (by omega)] | rw [tup_ne (by omega)]))
  · have hj : (j = 1 ∧ k = 2) ∨ j = 3 ∨ j = 12 ∨ j = 21 := by
      unfold cpJ at hk
      omega
    have q3 : (j = 3 → k < 5) ∧ (j = 12 → k < 6) ∧ (j = 21 → k < 4) := by
      unfold cpJ at hk
      omega
    clear hk
    rcases hj with ⟨rfl, rfl⟩ | rfl | rfl | rfl
    · simp only [Nat.reduceAdd]
      (repeat (first | rw [tcp_ne (by omega)] | rw [tup_ne (by omega)])) <;> (first | rw [tcp_i0 (by omega)] | rw [tup_eq] | skip) <;> (repeat (first | rw [tcp_ne (by omega)] | rw [tup_ne (by omega)]))
    · have hk := q3.1 rfl
      simp only [Nat.reduceAdd]
      (repeat (first | rw [tcp_ne (by omega)] | rw [tup_ne (by omega)])) <;> (first | rw [tcp_i0 (by omega)] | rw [tup_eq] | skip) <;> (repeat (first | rw [tcp_ne (by omega)] | rw [tup_ne (by omega)]))
    · have hk := q3.2.1 rfl
      simp only [Nat.reduceAdd]
      (repeat (first | rw [tcp_ne (by omega)] | rw [tup_ne (by omega)])) <;> (first | rw [tcp_i0 (by omega)] | rw [tup_eq] | skip) <;> (repeat (first | rw [tcp_ne (by omega)] | rw [tup_ne (by omega)]))
    · have hk := q3.2.2 rfl
      simp only [Nat.reduceAdd]
      (repeat (first | rw [tcp_ne (by omega)] | rw [tup_ne (by omega)])) <;> (first | rw [tcp_i0 (by omega)] | rw [tup_eq] | skip) <;> (repeat (first | rw [tcp_ne (by omega)] | rw [tup_ne (by omega)]))
  · repeat (first | rw [tcp_ne (by omega)] | rw [tup_ne (by omega)])
  · repeat (first | rw [tcp_ne (by omega)] | rw [tup_ne (by omega)])
theorem take_161_10 {I I1 : tI} {J J1 : tJ} {u : Unit} (h : f105_161_10 I J = (u, I1, J1)) : (∀ j k, cpI j k → I1 (161 + j) k = I (10 + j) k) ∧ (∀ j k, cpJ j k → J1 (161 + j) k = J (10 + j) k) ∧ ∀ o k, ¬ (161 ≤ o ∧ o ≤ 184) → I1 o k = I o k ∧ J1 o k = J o k := by
  unfold f105_161_10 f42_162_11 f10_163_12 f91_172_21 f72_177_26 at h
  dsimp only at h
  cases h
  refine ⟨fun j k hk => ?_, fun j k hk => ?_, fun o k hn => ⟨?_, ?_⟩⟩
  · have hj : j = 0 ∨ j = 1 ∨ j = 2 ∨ j = 4 ∨ j = 5 ∨ j = 6 ∨ j = 7 ∨ j = 8 ∨ j = 9 ∨ j = 10 ∨ j = 11 ∨ j = 13 ∨ j = 14 ∨ j = 15 ∨ j = 16 ∨ j = 17 ∨ j = 18 ∨ j = 19 ∨ j = 20 ∨ j = 22 ∨ j = 23 := by
      unfold cpI at hk
      omega
    have q0 : j = 0 → k = 4 ∨ k = 5 ∨ k = 6 := by
      unfold cpI at hk
      omega
    have q1 : j = 1 ∨ j = 2 → k = 0 ∨ k = 1 := by
      unfold cpI at hk
      omega
    have q11 : j = 11 → k = 0 := by
      unfold cpI at hk
      omega
    have q16 : j = 16 → k = 0 ∨ k = 1 ∨ k = 2 := by
      unfold cpI at hk
      omega
    have q5 : ((4 ≤ j ∧ j ≤ 7) ∨ j = 9 ∨ j = 10) → k < 5 := by
      unfold cpI at hk
      omega
    have q8 : j = 8 → k < 40 := by
      unfold cpI at hk
      omega
    have q13 : (13 ≤ j ∧ j ≤ 15) → k < 6 := by
      unfold cpI at hk
      omega
    have q17 : (17 ≤ j ∧ j ≤ 20) → k < 60 := by
      unfold cpI at hk
      omega
    have q22 : (j = 22 → k < 4) ∧ (j = 23 → k < 121) := by
      unfold cpI at hk
      omega
    clear hk
    rcases hj with rfl | rfl | rfl | rfl | rfl | rfl | rfl | rfl | rfl | rfl | rfl | rfl | rfl | rfl | rfl | rfl | rfl | rfl | rfl | rfl | rfl
    · rcases q0 rfl with rfl | rfl | rfl <;> (simp only [Nat.reduceAdd, Nat.add_zero]) <;> (repeat (first | rw [tcp_ne (by omega)] | rw [tup_ne (by omega)])) <;> (first | rw [tcp_i0 (by omega)] | rw [tup_eq] | skip) <;> (repeat (first | rw [tcp_ne (by omega)] | rw [tup_ne (by omega)]))
    · rcases q1 (Or.inl rfl) with rfl | rfl <;> (simp only [Nat.reduceAdd]) <;> (repeat (first | rw [tcp_ne (by omega)] | rw [tup_ne (by omega)])) <;> (first | rw [tcp_i0 (by omega)] | rw [tup_eq] | skip) <;> (repeat (first | rw [tcp_ne (by omega)] | rw [tup_ne (by omega)]))
    · rcases q1 (Or.inr rfl) with rfl | rfl <;> (simp only [Nat.reduceAdd]) <;> (repeat (first | rw [tcp_ne (by omega)] | rw [tup_ne (by omega)])) <;> (first | rw [tcp_i0 (by omega)] | rw [tup_eq] | skip) <;> (repeat (first | rw [tcp_ne (by omega)] | rw [tup_ne (by omega)]))
    · have hk := q5 (by omega)
      simp only [Nat.reduceAdd]
      (repeat (first | rw [tcp_ne (by omega)] | rw [tup_ne (by omega)])) <;> (first | rw [tcp_i0 (by omega)] | rw [tup_eq] | skip) <;> (repeat (first | rw [tcp_ne (by omega)] | rw [tup_ne (by omega)]))
    · have hk := q5 (by omega)
      simp only [Nat.reduceAdd]
      (repeat (first | rw [tcp_ne (by omega)] | rw [tup_ne (by omega)])) <;> (first | rw [tcp_i0 (by omega)] | rw [tup_eq] | skip) <;> (repeat (first | rw [tcp_ne (by omega)] | rw [tup_ne (by omega)]))
    · have hk := q5 (by omega)
      simp only [Nat.reduceAdd]
      (repeat (first | rw [tcp_ne (by omega)] | rw [tup_ne (by omega)])) <;> (first | rw [tcp_i0 (by omega)] | rw [tup_eq] | skip) <;> (repeat (first | rw [tcp_ne (by omega)] | rw [tup_ne (by omega)]))
    · have hk := q5 (by omega)
      simp only [Nat.reduceAdd]
      (repeat (first | rw [tcp_ne (by omega)] | rw [tup_ne (by omega)])) <;> (first | rw [tcp_i0 (by omega)] | rw [tup_eq] | skip) <;> (repeat (first | rw [tcp_ne (by omega)] | rw [tup_ne (by omega)]))
    · have hk := q8 rfl
      simp only [Nat.reduceAdd]
      (repeat (first | rw [tcp_ne (by omega)] | rw [tup_ne (by omega)])) <;> (first | rw [tcp_i0 (by omega)] | rw [tup_eq] | skip) <;> (repeat (first | rw [tcp_ne (by omega)] | rw [tup_ne (by omega)]))
    · have hk := q5 (by omega)
      simp only [Nat.reduceAdd]
      (repeat (first | rw [tcp_ne (by omega)] | rw [tup_ne (by omega)])) <;> (first | rw [tcp_i0 (by omega)] | rw [tup_eq] | skip) <;> (repeat (first | rw [tcp_ne (by omega)] | rw [tup_ne (by omega)]))
    · have hk := q5 (by omega)
      simp only [Nat.reduceAdd]
      (repeat (first | rw [tcp_ne (by omega)] | rw [tup_ne (by omega)])) <;> (first | rw [tcp_i0 (by omega)] | rw [tup_eq] | skip) <;> (repeat (first | rw [tcp_ne (by omega)] | rw [tup_ne (by omega)]))
    · have hk := q11 rfl
      subst hk
      simp only [Nat.reduceAdd]
      (repeat (first | rw [tcp_ne (by omega)] | rw [tup_ne (by omega)])) <;> (first | rw [tcp_i0 (by omega)] | rw [tup_eq] | skip) <;> (repeat (first | rw [tcp_ne (by omega)] | rw [tup_ne (by omega)]))
    · have hk := q13 (by omega)
      simp only [Nat.reduceAdd]
      (repeat (first | rw [tcp_ne (by omega)] | rw [tup_ne (by omega)])) <;> (first | rw [tcp_i0 (by omega)] | rw [tup_eq] | skip) <;> (repeat (first | rw [tcp_ne (by omega)] | rw [tup_ne (by omega)]))
    · have hk := q13 (by omega)
      simp only [Nat.reduceAdd]
      (repeat (first | rw [tcp_ne (by omega)] | rw [tup_ne (by omega)])) <;> (first | rw [tcp_i0 (by omega)] | rw [tup_eq] | skip) <;> (repeat (first | rw [tcp_ne (by omega)] | rw [tup_ne (by omega)]))
    · have hk := q13 (by omega)
      simp only [Nat.reduceAdd]
      (repeat (first | rw [tcp_ne (by omega)] | rw [tup_ne (by omega)])) <;> (first | rw [tcp_i0 (by omega)] | rw [tup_eq] | skip) <;> (repeat (first | rw [tcp_ne (by omega)] | rw [tup_ne (by omega)]))
    · rcases q16 rfl with rfl | rfl | rfl <;> (simp only [Nat.reduceAdd]) <;> (repeat (first | rw [tcp_ne (by omega)] | rw [tup_ne (by omega)])) <;> (first | rw [tcp_i0 (by omega)] | rw [tup_eq] | skip) <;> (repeat (first | rw [tcp_ne (by omega)] | rw [tup_ne (by omega)]))
    · have hk := q17 (by omega)
      simp only [Nat.reduceAdd]
      (repeat (first | rw [tcp_ne (by omega)] | rw [tup_ne (by omega)])) <;> (first | rw [tcp_i0 (by omega)] | rw [tup_eq] | skip) <;> (repeat (first | rw [tcp_ne (by omega)] | rw [tup_ne (by omega)]))
    · have hk := q17 (by omega)
      simp only [Nat.reduceAdd]
      (repeat (first | rw [tcp_ne (by omega)] | rw [tup_ne (by omega)])) <;> (first | rw [tcp_i0 (by omega)] | rw [tup_eq] | skip) <;> (repeat (first | rw [tcp_ne (by omega)] | rw [tup_ne (by omega)]))
    · have hk := q17 (by omega)
      simp only [Nat.reduceAdd]
      (repeat (first | rw [tcp_ne (by omega)] | rw [tup_ne (by omega)])) <;> (first | rw [tcp_i0 (by omega)] | rw [tup_eq] | skip) <;> (repeat (first | rw [tcp_ne (by omega)] | rw [tup_ne (by omega)]))
    · have hk := q17 (by omega)
      simp only [Nat.reduceAdd]
      (repeat (first | rw [tcp_ne (by omega)] | rw [tup_ne (by omega)])) <;> (first | rw [tcp_i0 (by omega)] | rw [tup_eq] | skip) <;> (repeat (first | rw [tcp_ne (by omega)] | rw [tup_ne (by omega)]))
    · have hk := q22.1 rfl
      simp only [Nat.reduceAdd]
      (repeat (first | rw [tcp_ne (by omega)] | rw [tup_ne (by omega)])) <;> (first | rw [tcp_i0 (by omega)] | rw [tup_eq] | skip) <;> (repeat (first | rw [tcp_ne (by omega)] | rw [tup_ne (by omega)]))
    · have hk := q22.2 rfl
      simp only [Nat.reduceAdd]
      (repeat (first | rw [tcp_ne (by omega)] | rw [tup_ne (by omega)])) <;> (first | rw [tcp_i0 (by omega)] | rw [tup_eq] | skip) <;> (repeat (first | rw [tcp_ne (by omega)] | rw [tup_ne (by omega)]))
  · have hj : (j = 1 ∧ k = 2) ∨ j = 3 ∨ j = 12 ∨ j = 21 := by
      unfold cpJ at hk
      omega
    have q3 : (j = 3 → k < 5) ∧ (j = 12 → k < 6) ∧ (j = 21 → k < 4) := by
      unfold cpJ at hk
      omega
    clear hk
    rcases hj with ⟨rfl, rfl⟩ | rfl | rfl | rfl
    · simp only [Nat.reduceAdd]
      (repeat (first | rw [tcp_ne (by omega)] | rw [tup_ne (by omega)])) <;> (first | rw [tcp_i0 (by omega)] | rw [tup_eq] | skip) <;> (repeat (first | rw [tcp_ne (by omega)] | rw [tup_ne (by omega)]))
    · have hk := q3.1 rfl
      simp only [Nat.reduceAdd]
      (repeat (first | rw [tcp_ne (by omega)] | rw [tup_ne (by omega)])) <;> (first | rw [tcp_i0 (by omega)] | rw [tup_eq] | skip) <;> (repeat (first | rw [tcp_ne (by omega)] | rw [tup_ne (by omega)]))
    · have hk := q3.2.1 rfl
      simp only [Nat.reduceAdd]
      (repeat (first | rw [tcp_ne (by omega)] | rw [tup_ne (by omega)])) <;> (first | rw [tcp_i0 (by omega)] | rw [tup_eq] | skip) <;> (repeat (first | rw [tcp_ne (by omega)] | rw [tup_ne (by omega)]))
    · have hk := q3.2.2 rfl
      simp only [Nat.reduceAdd]
      (repeat (first | rw [tcp_ne (by omega)] | rw [tup_ne (by omega)])) <;> (first | rw [tcp_i0 (by omega)] | rw [tup_eq] | skip) <;> (repeat (first | rw [tcp_ne (by omega)] | rw [tup_ne (by omega)]))
  · repeat (first | rw [tcp_ne (by omega)] | rw [tup_ne (by omega)])
  · repeat (first | rw [tcp_ne (by omega)] | rw [tup_ne (by omega)])
theorem take_10_113 {I I1 : tI} {J J1 : tJ} {u : Unit} (h : f105_10_113 I J = (u, I1, J1)) : (∀ j k, cpI j k → I1 (10 + j) k = I (113 + j) k) ∧ (∀ j k, cpJ j k → J1 (10 + j) k = J (113 + j) k) ∧ ∀ o k, ¬ (10 ≤ o ∧ o ≤ 33) → I1 o k = I o k ∧ J1 o k = J o k := by
  unfold f105_10_113 f42_11_114 f10_12_115 f91_21_124 f72_26_129 at h
  dsimp only at h
  cases h
  refine ⟨fun j k hk => ?_, fun j k hk => ?_, fun o k hn => ⟨?_, ?_⟩⟩
  · have hj : j = 0 ∨ j = 1 ∨ j = 2 ∨ j = 4 ∨ j = 5 ∨ j = 6 ∨ j = 7 ∨ j = 8 ∨ j = 9 ∨ j = 10 ∨ j = 11 ∨ j = 13 ∨ j = 14 ∨ j = 15 ∨ j = 16 ∨ j = 17 ∨ j = 18 ∨ j = 19 ∨ j = 20 ∨ j = 22 ∨ j = 23 := by
      unfold cpI at hk
      omega
    have q0 : j = 0 → k = 4 ∨ k = 5 ∨ k = 6 := by
      unfold cpI at hk
      omega
    have q1 : j = 1 ∨ j = 2 → k = 0 ∨ k = 1 := by
      unfold cpI at hk
      omega
    have q11 : j = 11 → k = 0 := by
      unfold cpI at hk
      omega
    have q16 : j = 16 → k = 0 ∨ k = 1 ∨ k = 2 := by
      unfold cpI at hk
      omega
    have q5 : ((4 ≤ j ∧ j ≤ 7) ∨ j = 9 ∨ j = 10) → k < 5 := by
      unfold cpI at hk
      omega
    have q8 : j = 8 → k < 40 := by
      unfold cpI at hk
      omega
    have q13 : (13 ≤ j ∧ j ≤ 15) → k < 6 := by
      unfold cpI at hk
      omega
    have q17 : (17 ≤ j ∧ j ≤ 20) → k < 60 := by
      unfold cpI at hk
      omega
    have q22 : (j = 22 → k < 4) ∧ (j = 23 → k < 121) := by
      unfold cpI at hk
      omega
    clear hk
    rcases hj with rfl | rfl | rfl | rfl | rfl | rfl | rfl | rfl | rfl | rfl | rfl | rfl | rfl | rfl | rfl | rfl | rfl | rfl | rfl | rfl | rfl
    · rcases q0 rfl with rfl | rfl | rfl <;> (simp only [Nat.reduceAdd, Nat.add_zero]) <;> (repeat (first | rw [tcp_ne (by omega)] | rw [tup_ne (by omega)])) <;> (first | rw [tcp_i0 (by omega)] | rw [tup_eq] | skip) <;> (repeat (first | rw [tcp_ne (by omega)] | rw [tup_ne (by omega)]))
    · rcases q1 (Or.inl rfl) with rfl | rfl <;> (simp only [Nat.reduceAdd]) <;> (repeat (first | rw [tcp_ne (by omega)] | rw [tup_ne (by omega)])) <;> (first | rw [tcp_i0 (by omega)] | rw [tup_eq] | skip) <;> (repeat (first | rw [tcp_ne (by omega)] | rw [tup_ne (by omega)]))
    · rcases q1 (Or.inr rfl) with rfl | rfl <;> (simp only [Nat.reduceAdd]) <;> (repeat (first | rw [tcp_ne (by omega)] | rw [tup_ne (by omega)])) <;> (first | rw [tcp_i0 (by omega)] | rw [tup_eq] | skip) <;> (repeat (first | rw [tcp_ne (by omega)] | rw [tup_ne (by omega)]))
    · have hk := q5 (by omega)
      simp only [Nat.reduceAdd]
      (repeat (first | rw [tcp_ne (by omega)] | rw [tup_ne (by omega)])) <;> (first | rw [tcp_i0 (by omega)] | rw [tup_eq] | skip) <;> (repeat (first | rw [tcp_ne (by omega)] | rw [tup_ne (by omega)]))
    · have hk := q5 (by omega)
      simp only [Nat.reduceAdd]
      (repeat (first | rw [tcp_ne (by omega)] | rw [tup_ne (by omega)])) <;> (first | rw [tcp_i0 (by omega)] | rw [tup_eq] | skip) <;> (repeat (first | rw [tcp_ne (by omega)] | rw [tup_ne (by omega)]))
    · have hk := q5 (by omega)
      simp only [Nat.reduceAdd]
      (repeat (first | rw [tcp_ne (by omega)] | rw [tup_ne (by omega)])) <;> (first | rw [tcp_i0 (by omega)] | rw [tup_eq] | skip) <;> (repeat (first | rw [tcp_ne (by omega)] | rw [tup_ne (by omega)]))
    · have hk := q5 (by omega)
      simp only [Nat.reduceAdd]
      (repeat (first | rw [tcp_ne (by omega)] | rw [tup_ne (by omega)])) <;> (first | rw [tcp_i0 (by omega)] | rw [tup_eq] | skip) <;> (repeat (first | rw [tcp_ne (by omega)] | rw [tup_ne (by omega)]))
    · have hk := q8 rfl
      simp only [Nat.reduceAdd]
      (repeat (first | rw [tcp_ne (by omega)] | rw [tup_ne (by omega)])) <;> (first | rw [tcp_i0 (by omega)] | rw [tup_eq] | skip) <;> (repeat (first | rw [tcp_ne (by omega)] | rw [tup_ne (by omega)]))
    · have hk := q5 (by omega)
      simp only [Nat.reduceAdd]
      (repeat (first | rw [tcp_ne (by omega)] | rw [tup_ne (by omega)])) <;> (first | rw [tcp_i0 (by omega)] | rw [tup_eq] | skip) <;> (repeat (first | rw [tcp_ne (by omega)] | rw [tup_ne (by omega)]))
    · have hk := q5 (by omega)
      simp only [Nat.reduceAdd]
      (repeat (first | rw [tcp_ne (by omega)] | rw [tup_ne (by omega)])) <;> (first | rw [tcp_i0 (by omega)] | rw [tup_eq] | skip) <;> (repeat (first | rw [tcp_ne (by omega)] | rw [tup_ne (by omega)]))
    · have hk := q11 rfl
      subst hk
      simp only [Nat.reduceAdd]
      (repeat (first | rw [tcp_ne (by omega)] | rw [tup_ne (by omega)])) <;> (first | rw [tcp_i0 (by omega)] | rw [tup_eq] | skip) <;> (repeat (first | rw [tcp_ne (by omega)] | rw [tup_ne (by omega)]))
    · have hk := q13 (by omega)
      simp only [Nat.reduceAdd]
      (repeat (first | rw [tcp_ne (by omega)] | rw [tup_ne (by omega)])) <;> (first | rw [tcp_i0 (by omega)] | rw [tup_eq] | skip) <;> (repeat (first | rw [tcp_ne (by omega)] | rw [tup_ne (by omega)]))
    · have hk := q13 (by omega)
      simp only [Nat.reduceAdd]
      (repeat (first | rw [tcp_ne (by omega)] | rw [tup_ne (by omega)])) <;> (first | rw [tcp_i0 (by omega)] | rw [tup_eq] | skip) <;> (repeat (first | rw [tcp_ne (by omega)] | rw [tup_ne (by omega)]))
    · have hk := q13 (by omega)
      simp only [Nat.reduceAdd]
      (repeat (first | rw [tcp_ne (by omega)] | rw [tup_ne (by omega)])) <;> (first | rw [tcp_i0 (by omega)] | rw [tup_eq] | skip) <;> (repeat (first | rw [tcp_ne (by omega)] | rw [tup_ne (by omega)]))
    · rcases q16 rfl with rfl | rfl | rfl <;> (simp only [Nat.reduceAdd]) <;> (repeat (first | rw [tcp_ne (by omega)] | rw [tup_ne (by omega)])) <;> (first | rw [tcp_i0 (by omega)] | rw [tup_eq] | skip) <;> (repeat (first | rw [tcp_ne (by omega)] | rw [tup_ne (by omega)]))
    · have hk := q17 (by omega)
      simp only [Nat.reduceAdd]
      (repeat (first | rw [tcp_ne (by omega)] | rw [tup_ne (by omega)])) <;> (first | rw [tcp_i0 (by omega)] | rw [tup_eq] | skip) <;> (repeat (first | rw [tcp_ne (by omega)] | rw [tup_ne (by omega)]))
    · have hk := q17 (by omega)
      simp only [Nat.reduceAdd]
      (repeat (first | rw [tcp_ne (by omega)] | rw [tup_ne (by omega)])) <;> (first | rw [tcp_i0 (by omega)] | rw [tup_eq] | skip) <;> (repeat (first | rw [tcp_ne (by omega)] | rw [tup_ne (by omega)]))
    · have hk := q17 (by omega)
      simp only [Nat.reduceAdd]
      (repeat (first | rw [tcp_ne (by omega)] | rw [tup_ne (by omega)])) <;> (first | rw [tcp_i0 (by omega)] | rw [tup_eq] | skip) <;> (repeat (first | rw [tcp_ne (by omega)] | rw [tup_ne (by omega)]))
    · have hk := q17 (by omega)
      simp only [Nat.reduceAdd]
      (repeat (first | rw [tcp_ne (by omega)] | rw [tup_ne (by omega)])) <;> (first | rw [tcp_i0 (by omega)] | rw [tup_eq] | skip) <;> (repeat (first | rw [tcp_ne (by omega)] | rw [tup_ne (by omega)]))
    · have hk := q22.1 rfl
      simp only [Nat.reduceAdd]
      (repeat (first | rw [tcp_ne (by omega)] | rw [tup_ne (by omega)])) <;> (first | rw [tcp_i0 (by omega)] | rw [tup_eq] | skip) <;> (repeat (first | rw [tcp_ne (by omega)] | rw [tup_ne (by omega)]))
    · have hk := q22.2 rfl
      simp only [Nat.reduceAdd]
      (repeat (first | rw [tcp_ne (by omega)] | rw [tup_ne (by omega)])) <;> (first | rw [tcp_i0 (by omega)] | rw [tup_eq] | skip) <;> (repeat (first | rw [tcp_ne (by omega)] | rw [tup_ne (by omega)]))
  · have hj : (j = 1 ∧ k = 2) ∨ j = 3 ∨ j = 12 ∨ j = 21 := by
      unfold cpJ at hk
      omega
    have q3 : (j = 3 → k < 5) ∧ (j = 12 → k < 6) ∧ (j = 21 → k < 4) := by
      unfold cpJ at hk
      omega
    clear hk
    rcases hj with ⟨rfl, rfl⟩ | rfl | rfl | rfl
    · simp only [Nat.reduceAdd]
      (repeat (first | rw [tcp_ne (by omega)] | rw [tup_ne (by omega)])) <;> (first | rw [tcp_i0 (by omega)] | rw [tup_eq] | skip) <;> (repeat (first | rw [tcp_ne (by omega)] | rw [tup_ne (by omega)]))
    · have hk := q3.1 rfl
      simp only [Nat.reduceAdd]
      (repeat (first | rw [tcp_ne (by omega)] | rw [tup_ne (by omega)])) <;> (first | rw [tcp_i0 (by omega)] | rw [tup_eq] | skip) <;> (repeat (first | rw [tcp_ne (by omega)] | rw [tup_ne (by omega)]))
    · have hk := q3.2.1 rfl
      simp only [Nat.reduceAdd]
      (repeat (first | rw [tcp_ne (by omega)] | rw [tup_ne (by omega)])) <;> (first | rw [tcp_i0 (by omega)] | rw [tup_eq] | skip) <;> (repeat (first | rw [tcp_ne (by omega)] | rw [tup_ne (by omega)]))
    · have hk := q3.2.2 rfl
      simp only [Nat.reduceAdd]
      (repeat (first | rw [tcp_ne (by omega)] | rw [tup_ne (by omega)])) <;> (first | rw [tcp_i0 (by omega)] | rw [tup_eq] | skip) <;> (repeat (first | rw [tcp_ne (by omega)] | rw [tup_ne (by omega)]))
  · repeat (first | rw [tcp_ne (by omega)] | rw [tup_ne (by omega)])
  · repeat (first | rw [tcp_ne (by omega)] | rw [tup_ne (by omega)])
theorem take_10_137 {I I1 : tI} {J J1 : tJ} {u : Unit} (h : f105_10_137 I J = (u, I1, J1)) : (∀ j k, cpI j k → I1 (10 + j) k = I (137 + j) k) ∧ (∀ j k, cpJ j k → J1 (10 + j) k = J (137 + j) k) ∧ ∀ o k, ¬ (10 ≤ o ∧ o ≤ 33) → I1 o k = I o k ∧ J1 o k = J o k := by
  unfold f105_10_137 f42_11_138 f10_12_139 f91_21_148 f72_26_153 at h
  dsimp only at h
  cases h
  refine ⟨fun j k hk => ?_, fun j k hk => ?_, fun o k hn => ⟨?_, ?_⟩⟩
  · have hj : j = 0 ∨ j = 1 ∨ j = 2 ∨ j = 4 ∨ j = 5 ∨ j = 6 ∨ j = 7 ∨ j = 8 ∨ j = 9 ∨ j = 10 ∨ j = 11 ∨ j = 13 ∨ j = 14 ∨ j = 15 ∨ j = 16 ∨ j = 17 ∨ j = 18 ∨ j = 19 ∨ j = 20 ∨ j = 22 ∨ j = 23 := by
      unfold cpI at hk
      omega
    have q0 : j = 0 → k = 4 ∨ k = 5 ∨ k = 6 := by
      unfold cpI at hk
      omega
    have q1 : j = 1 ∨ j = 2 → k = 0 ∨ k = 1 := by
      unfold cpI at hk
      omega
    have q11 : j = 11 → k = 0 := by
      unfold cpI at hk
      omega
    have q16 : j = 16 → k = 0 ∨ k = 1 ∨ k = 2 := by
      unfold cpI at hk
      omega
    have q5 : ((4 ≤ j ∧ j ≤ 7) ∨ j = 9 ∨ j = 10) → k < 5 := by
      unfold cpI at hk
      omega
    have q8 : j = 8 → k < 40 := by
      unfold cpI at hk
      omega
    have q13 : (13 ≤ j ∧ j ≤ 15) → k < 6 := by
      unfold cpI at hk
      omega
    have q17 : (17 ≤ j ∧ j ≤ 20) → k < 60 := by
      unfold cpI at hk
      omega
    have q22 : (j = 22 → k < 4) ∧ (j = 23 → k < 121) := by
      unfold cpI at hk
      omega
    clear hk
    rcases hj with rfl | rfl | rfl | rfl | rfl | rfl | rfl | rfl | rfl | rfl | rfl | rfl | rfl | rfl | rfl | rfl | rfl | rfl | rfl | rfl | rfl
    · rcases q0 rfl with rfl | rfl | rfl <;> (simp only [Nat.reduceAdd, Nat.add_zero]) <;> (repeat (first | rw [tcp_ne (by omega)] | rw [tup_ne (by omega)])) <;> (first | rw [tcp_i0 (by omega)] | rw [tup_eq] | skip) <;> (repeat (first | rw [tcp_ne (by omega)] | rw [tup_ne (by omega)]))
    · rcases q1 (Or.inl rfl) with rfl | rfl <;> (simp only [Nat.reduceAdd]) <;> (repeat (first | rw [tcp_ne (by omega)] | rw [tup_ne (by omega)])) <;> (first | rw [tcp_i0 (by omega)] | rw [tup_eq] | skip) <;> (repeat (first | rw [tcp_ne (by omega)] | rw [tup_ne (by omega)]))
    · rcases q1 (Or.inr rfl) with rfl | rfl <;> (simp only [Nat.reduceAdd]) <;> (repeat (first | rw [tcp_ne (by omega)] | rw [tup_ne (by omega)])) <;> (first | rw [tcp_i0 (by omega)] | rw [tup_eq] | skip) <;> (repeat (first | rw [tcp_ne (by omega)] | rw [tup_ne (by omega)]))
    · have hk := q5 (by omega)
      simp only [Nat.reduceAdd]
      (repeat (first | rw [tcp_ne (by omega)] | rw [tup_ne (by omega)])) <;> (first | rw [tcp_i0 (by omega)] | rw [tup_eq] | skip) <;> (repeat (first | rw [tcp_ne (by omega)] | rw [tup_ne (by omega)]))
    · have hk := q5 (by omega)
      simp only [Nat.reduceAdd]
      (repeat (first | rw [tcp_ne (by omega)] | rw [tup_ne (by omega)])) <;> (first | rw [tcp_i0 (by omega)] | rw [tup_eq] | skip) <;> (repeat (first | rw [tcp_ne (by omega)] | rw [tup_ne (by omega)]))
    · have hk := q5 (by omega)
      simp only [Nat.reduceAdd]
      (repeat (first | rw [tcp_ne (by omega)] | rw [tup_ne (by omega)])) <;> (first | rw [tcp_i0 (by omega)] | rw [tup_eq] | skip) <;> (repeat (first | rw [tcp_ne (by omega)] | rw [tup_ne (by omega)]))
    · have hk := q5 (by omega)
      simp only [Nat.reduceAdd]
      (repeat (first | rw [tcp_ne (by omega)] | rw [tup_ne (by omega)])) <;> (first | rw [tcp_i0 (by omega)] | rw [tup_eq] | skip) <;> (repeat (first | rw [tcp_ne (by omega)] | rw [tup_ne (by omega)]))
    · have hk := q8 rfl
      simp only [Nat.reduceAdd]
      (repeat (first | rw [tcp_ne (by omega)] | rw [tup_ne (by omega)])) <;> (first | rw [tcp_i0 (by omega)] | rw [tup_eq] | skip) <;> (repeat (first | rw [tcp_ne (by omega)] | rw [tup_ne (by omega)]))
    · have hk := q5 (by omega)
      simp only [Nat.reduceAdd]
      (repeat (first | rw [tcp_ne (by omega)] | rw [tup_ne (by omega)])) <;> (first | rw [tcp_i0 (by omega)] | rw [tup_eq] | skip) <;> (repeat (first | rw [tcp_ne (by omega)] | rw [tup_ne (by omega)]))
    · have hk := q5 (by omega)
      simp only [Nat.reduceAdd]
      (repeat (first | rw [tcp_ne (by omega)] | rw [tup_ne (by omega)])) <;> (first | rw [tcp_i0 (by omega)] | rw [tup_eq] | skip) <;> (repeat (first | rw [tcp_ne (by omega)] | rw [tup_ne (by omega)]))
    · have hk := q11 rfl
      subst hk
      simp only [Nat.reduceAdd]
      (repeat (first | rw [tcp_ne (by omega)] | rw [tup_ne (by omega)])) <;> (first | rw [tcp_i0 (by omega)] | rw [tup_eq] | skip) <;> (repeat (first | rw [tcp_ne (by omega)] | rw [tup_ne (by omega)]))
    · have hk := q13 (by omega)
      simp only [Nat.reduceAdd]
      (repeat (first | rw [tcp_ne (by omega)] | rw [tup_ne (by omega)])) <;> (first | rw [tcp_i0 (by omega)] | rw [tup_eq] | skip) <;> (repeat (first | rw [tcp_ne (by omega)] | rw [tup_ne (by omega)]))
    · have hk := q13 (by omega)
      simp only [Nat.reduceAdd]
      (repeat (first | rw [tcp_ne (by omega)] | rw [tup_ne (by omega)])) <;> (first | rw [tcp_i0 (by omega)] | rw [tup_eq] | skip) <;> (repeat (first | rw [tcp_ne (by omega)] | rw [tup_ne (by omega)]))
    · have hk := q13 (by omega)
      simp only [Nat.reduceAdd]
      (repeat (first | rw [tcp_ne (by omega)] | rw [tup_ne (by omega)])) <;> (first | rw [tcp_i0 (by omega)] | rw [tup_eq] | skip) <;> (repeat (first | rw [tcp_ne (by omega)] | rw [tup_ne (by omega)]))
    · rcases q16 rfl with rfl | rfl | rfl <;> (simp only [Nat.reduceAdd]) <;> (repeat (first | rw [tcp_ne (by omega)] | rw [tup_ne (by omega)])) <;> (first | rw [tcp_i0 (by omega)] | rw [tup_eq] | skip) <;> (repeat (first | rw [tcp_ne (by omega)] | rw [tup_ne (by omega)]))
    · have hk := q17 (by omega)
      simp only [Nat.reduceAdd]
      (repeat (first | rw [tcp_ne (by omega)] | rw [tup_ne (by omega)])) <;> (first | rw [tcp_i0 (by omega)] | rw [tup_eq] | skip) <;> (repeat (first | rw [tcp_ne (by omega)] | rw [tup_ne (by omega)]))
    · have hk := q17 (by omega)
      simp only [Nat.reduceAdd]
      (repeat (first | rw [tcp_ne (by omega)] | rw [tup_ne (by omega)])) <;> (first | rw [tcp_i0 (by omega)] | rw [tup_eq] | skip) <;> (repeat (first | rw [tcp_ne (by omega)] | rw [tup_ne (by omega)]))
    · have hk := q17 (by omega)
      simp only [Nat.reduceAdd]
      (repeat (first | rw [tcp_ne (by omega)] | rw [tup_ne (by omega)])) <;> (first | rw [tcp_i0 (by omega)] | rw [tup_eq] | skip) <;> (repeat (first | rw [tcp_ne (by omega)] | rw [tup_ne (by omega)]))
    · have hk := q17 (by omega)
      simp only [Nat.reduceAdd]
      (repeat (first | rw [tcp_ne (by omega)] | rw [tup_ne (by omega)])) <;> (first | rw [tcp_i0 (by omega)] | rw [tup_eq] | skip) <;> (repeat (first | rw [tcp_ne (by omega)] | rw [tup_ne (by omega)]))
    · have hk := q22.1 rfl
      simp only [Nat.reduceAdd]
      (repeat (first | rw [tcp_ne (by omega)] | rw [tup_ne (by omega)])) <;> (first | rw [tcp_i0 (by omega)] | rw [tup_eq] | skip) <;> (repeat (first | rw [tcp_ne (by omega)] | rw [tup_ne (by omega)]))
    · have hk := q22.2 rfl
      simp only [Nat.reduceAdd]
      (repeat (first | rw [tcp_ne (by omega)] | rw [tup_ne (by omega)])) <;> (first | rw [tcp_i0 (by omega)] | rw [tup_eq] | skip) <;> (repeat (first | rw [tcp_ne (by omega)] | rw [tup_ne (by omega)]))
  · have hj : (j = 1 ∧ k = 2) ∨ j = 3 ∨ j = 12 ∨ j = 21 := by
      unfold cpJ at hk
      omega
    have q3 : (j = 3 → k < 5) ∧ (j = 12 → k < 6) ∧ (j = 21 → k < 4) := by
      unfold cpJ at hk
      omega
    clear hk
    rcases hj with ⟨rfl, rfl⟩ | rfl | rfl | rfl
    · simp only [Nat.reduceAdd]
      (repeat (first | rw [tcp_ne (by omega)] | rw [tup_ne (by omega)])) <;> (first | rw [tcp_i0 (by omega)] | rw [tup_eq] | skip) <;> (repeat (first | rw [tcp_ne (by omega)] | rw [tup_ne (by omega)]))
    · have hk := q3.1 rfl
      simp only [Nat.reduceAdd]
      (repeat (first | rw [tcp_ne (by omega)] | rw [tup_ne (by omega)])) <;> (first | rw [tcp_i0 (by omega)] | rw [tup_eq] | skip) <;> (repeat (first | rw [tcp_ne (by omega)] | rw [tup_ne (by omega)]))
    · have hk := q3.2.1 rfl
      simp only [Nat.reduceAdd]
      (repeat (first | rw [tcp_ne (by omega)] | rw [tup_ne (by omega)])) <;> (first | rw [tcp_i0 (by omega)] | rw [tup_eq] | skip) <;> (repeat (first | rw [tcp_ne (by omega)] | rw [tup_ne (by omega)]))
    · have hk := q3.2.2 rfl
      simp only [Nat.reduceAdd]
      (repeat (first | rw [tcp_ne (by omega)] | rw [tup_ne (by omega)])) <;> (first | rw [tcp_i0 (by omega)] | rw [tup_eq] | skip) <;> (repeat (first | rw [tcp_ne (by omega)] | rw [tup_ne (by omega)]))
  · repeat (first | rw [tcp_ne (by omega)] | rw [tup_ne (by omega)])
  · repeat (first | rw [tcp_ne (by omega)] | rw [tup_ne (by omega)])
theorem take_10_161 {I I1 : tI} {J J1 : tJ} {u : Unit} (h : f105_10_161 I J = (u, I1, J1)) : (∀ j k, cpI j k → I1 (10 + j) k = I (161 + j) k) ∧ (∀ j k, cpJ j k → J1 (10 + j) k = J (161 + j) k) ∧ ∀ o k, ¬ (10 ≤ o ∧ o ≤ 33) → I1 o k = I o k ∧ J1 o k = J o k := by
  unfold f105_10_161 f42_11_162 f10_12_163 f91_21_172 f72_26_177 at h
  dsimp only at h
  cases h
  refine ⟨fun j k hk => ?_, fun j k hk => ?_, fun o k hn => ⟨?_, ?_⟩⟩
  · have hj : j = 0 ∨ j = 1 ∨ j = 2 ∨ j = 4 ∨ j = 5 ∨ j = 6 ∨ j = 7 ∨ j = 8 ∨ j = 9 ∨ j = 10 ∨ j = 11 ∨ j = 13 ∨ j = 14 ∨ j = 15 ∨ j = 16 ∨ j = 17 ∨ j = 18 ∨ j = 19 ∨ j = 20 ∨ j = 22 ∨ j = 23 := by
      unfold cpI at hk
      omega
    have q0 : j = 0 → k = 4 ∨ k = 5 ∨ k = 6 := by
      unfold cpI at hk
      omega
    have q1 : j = 1 ∨ j = 2 → k = 0 ∨ k = 1 := by
      unfold cpI at hk
      omega
    have q11 : j = 11 → k = 0 := by
      unfold cpI at hk
      omega
    have q16 : j = 16 → k = 0 ∨ k = 1 ∨ k = 2 := by
      unfold cpI at hk
      omega
    have q5 : ((4 ≤ j ∧ j ≤ 7) ∨ j = 9 ∨ j = 10) → k < 5 := by
      unfold cpI at hk
      omega
    have q8 : j = 8 → k < 40 := by
      unfold cpI at hk
      omega
    have q13 : (13 ≤ j ∧ j ≤ 15) → k < 6 := by
      unfold cpI at hk
      omega
    have q17 : (17 ≤ j ∧ j ≤ 20) → k < 60 := by
      unfold cpI at hk
      omega
    have q22 : (j = 22 → k < 4) ∧ (j = 23 → k < 121) := by
      unfold cpI at hk
      omega
    clear hk
    rcases hj with rfl | rfl | rfl | rfl | rfl | rfl | rfl | rfl | rfl | rfl | rfl | rfl | rfl | rfl | rfl | rfl | rfl | rfl | rfl | rfl | rfl
    · rcases q0 rfl with rfl | rfl | rfl <;> (simp only [Nat.reduceAdd, Nat.add_zero]) <;> (repeat (first | rw [tcp_ne (by omega)] | rw [tup_ne (by omega)])) <;> (first | rw [tcp_i0 (by omega)] | rw [tup_eq] | skip) <;> (repeat (first | rw [tcp_ne (by omega)] | rw [tup_ne (by omega)]))
    · rcases q1 (Or.inl rfl) with rfl | rfl <;> (simp only [Nat.reduceAdd]) <;> (repeat (first | rw [tcp_ne (by omega)] | rw [tup_ne (by omega)])) <;> (first | rw [tcp_i0 (by omega)] | rw [tup_eq] | skip) <;> (repeat (first | rw [tcp_ne (by omega)] | rw [tup_ne (by omega)]))
    · rcases q1 (Or.inr rfl) with rfl | rfl <;> (simp only [Nat.reduceAdd]) <;> (repeat (first | rw [tcp_ne (by omega)] | rw [tup_ne (by omega)])) <;> (first | rw [tcp_i0 (by omega)] | rw [tup_eq] | skip) <;> (repeat (first | rw [tcp_ne (by omega)] | rw [tup_ne (by omega)]))
    · have hk := q5 (by omega)
      simp only [Nat.reduceAdd]
      (repeat (first | rw [tcp_ne (by omega)] | rw [tup_ne (by omega)])) <;> (first | rw [tcp_i0 (by omega)] | rw [tup_eq] | skip) <;> (repeat (first | rw [tcp_ne (by omega)] | rw [tup_ne (by omega)]))
    · have hk := q5 (by omega)
      simp only [Nat.reduceAdd]
      (repeat (first | rw [tcp_ne (by omega)] | rw [tup_ne (by omega)])) <;> (first | rw [tcp_i0 (by omega)] | rw [tup_eq] | skip) <;> (repeat (first | rw [tcp_ne (by omega)] | rw [tup_ne (by omega)]))
    · have hk := q5 (by omega)
      simp only [Nat.reduceAdd]
      (repeat (first | rw [tcp_ne (by omega)] | rw [tup_ne (by omega)])) <;> (first | rw [tcp_i0 (by omega)] | rw [tup_eq] | skip) <;> (repeat (first | rw [tcp_ne (by omega)] | rw [tup_ne (by omega)]))
    · have hk := q5 (by omega)
      simp only [Nat.reduceAdd]
      (repeat (first | rw [tcp_ne (by omega)] | rw [tup_ne (by omega)])) <;> (first | rw [tcp_i0 (by omega)] | rw [tup_eq] | skip) <;> (repeat (first | rw [tcp_ne (by omega)] | rw [tup_ne (by omega)]))
    · have hk := q8 rfl
      simp only [Nat.reduceAdd]
      (repeat (first | rw [tcp_ne (by omega)] | rw [tup_ne (by omega)])) <;> (first | rw [tcp_i0 (by omega)] | rw [tup_eq] | skip) <;> (repeat (first | rw [tcp_ne (by omega)] | rw [tup_ne (by omega)]))
    · have hk := q5 (by omega)
      simp only [Nat.reduceAdd]
      (repeat (first | rw [tcp_ne (by omega)] | rw [tup_ne (by omega)])) <;> (first | rw [tcp_i0 (by omega)] | rw [tup_eq] | skip) <;> (repeat (first | rw [tcp_ne (by omega)] | rw [tup_ne (by omega)]))
    · have hk := q5 (by omega)
      simp only [Nat.reduceAdd]
      (repeat (first | rw [tcp_ne (by omega)] | rw [tup_ne (by omega)])) <;> (first | rw [tcp_i0 (by omega)] | rw [tup_eq] | skip) <;> (repeat (first | rw [tcp_ne (by omega)] | rw [tup_ne (by omega)]))
    · have hk := q11 rfl
      subst hk
      simp only [Nat.reduceAdd]
      (repeat (first | rw [tcp_ne (by omega)] | rw [tup_ne (by omega)])) <;> (first | rw [tcp_i0 (by omega)] | rw [tup_eq] | skip) <;> (repeat (first | rw [tcp_ne (by omega)] | rw [tup_ne (by omega)]))
    · have hk := q13 (by omega)
      simp only [Nat.reduceAdd]
      (repeat (first | rw [tcp_ne (by omega)] | rw [tup_ne (by omega)])) <;> (first | rw [tcp_i0 (by omega)] | rw [tup_eq] | skip) <;> (repeat (first | rw [tcp_ne (by omega)] | rw [tup_ne (by omega)]))
    · have hk := q13 (by omega)
      simp only [Nat.reduceAdd]
      (repeat (first | rw [tcp_ne (by omega)] | rw [tup_ne (by omega)])) <;> (first | rw [tcp_i0 (by omega)] | rw [tup_eq] | skip) <;> (repeat (first | rw [tcp_ne (by omega)] | rw [tup_ne (by omega)]))
    · have hk := q13 (by omega)
      simp only [Nat.reduceAdd]
      (repeat (first | rw [tcp_ne (by omega)] | rw [tup_ne (by omega)])) <;> (first | rw [tcp_i0 (by omega)] | rw [tup_eq] | skip) <;> (repeat (first | rw [tcp_ne (by omega)] | rw [tup_ne (by omega)]))
    · rcases q16 rfl with rfl | rfl | rfl <;> (simp only [Nat.reduceAdd]) <;> (repeat (first | rw [tcp_ne (by omega)] | rw [tup_ne (by omega)])) <;> (first | rw [tcp_i0 (by omega)] | rw [tup_eq] | skip) <;> (repeat (first | rw [tcp_ne (by omega)] | rw [tup_ne (by omega)]))
    · have hk := q17 (by omega)
      simp only [Nat.reduceAdd]
      (repeat (first | rw [tcp_ne (by omega)] | rw [tup_ne (by omega)])) <;> (first | rw [tcp_i0 (by omega)] | rw [tup_eq] | skip) <;> (repeat (first | rw [tcp_ne (by omega)] | rw [tup_ne (by omega)]))
    · have hk := q17 (by omega)
      simp only [Nat.reduceAdd]
      (repeat (first | rw [tcp_ne (by omega)] | rw [tup_ne (by omega)])) <;> (first | rw [tcp_i0 (by omega)] | rw [tup_eq] | skip) <;> (repeat (first | rw [tcp_ne (by omega)] | rw [tup_ne (by omega)]))
    · have hk := q17 (by omega)
      simp only [Nat.reduceAdd]
      (repeat (first | rw [tcp_ne (by omega)] | rw [tup_ne (by omega)])) <;> (first | rw [tcp_i0 (by omega)] | rw [tup_eq] | skip) <;> (repeat (first | rw [tcp_ne (by omega)] | rw [tup_ne (by omega)]))
    · have hk := q17 (by omega)
      simp only [Nat.reduceAdd]
      (repeat (first | rw [tcp_ne (by omega)] | rw [tup_ne (by omega)])) <;> (first | rw [tcp_i0 (by omega)] | rw [tup_eq] | skip) <;> (repeat (first | rw [tcp_ne (by omega)] | rw [tup_ne (by omega)]))
    · have hk := q22.1 rfl
      simp only [Nat.reduceAdd]
      (repeat (first | rw [tcp_ne (by omega)] | rw [tup_ne (by omega)])) <;> (first | rw [tcp_i0 (by omega)] | rw [tup_eq] | skip) <;> (repeat (first | rw [tcp_ne (by omega)] | rw [tup_ne (by omega)]))
    · have hk := q22.2 rfl
      simp only [Nat.reduceAdd]
      (repeat (first | rw [tcp_ne (by omega)] | rw [tup_ne (by omega)])) <;> (first | rw [tcp_i0 (by omega)] | rw [tup_eq] | skip) <;> (repeat (first | rw [tcp_ne (by omega)] | rw [tup_ne (by omega)]))
  · have hj : (j = 1 ∧ k = 2) ∨ j = 3 ∨ j = 12 ∨ j = 21 := by
      unfold cpJ at hk
      omega
    have q3 : (j = 3 → k < 5) ∧ (j = 12 → k < 6) ∧ (j = 21 → k < 4) := by
      unfold cpJ at hk
      omega
    clear hk
    rcases hj with ⟨rfl, rfl⟩ | rfl | rfl | rfl
    · simp only [Nat.reduceAdd]
      (repeat (first | rw [tcp_ne (by omega)] | rw [tup_ne (by omega)])) <;> (first | rw [tcp_i0 (by omega)] | rw [tup_eq] | skip) <;> (repeat (first | rw [tcp_ne (by omega)] | rw [tup_ne (by omega)]))
    · have hk := q3.1 rfl
      simp only [Nat.reduceAdd]
      (repeat (first | rw [tcp_ne (by omega)] | rw [tup_ne (by omega)])) <;> (first | rw [tcp_i0 (by omega)] | rw [tup_eq] | skip) <;> (repeat (first | rw [tcp_ne (by omega)] | rw [tup_ne (by omega)]))
    · have hk := q3.2.1 rfl
      simp only [Nat.reduceAdd]
      (repeat (first | rw [tcp_ne (by omega)] | rw [tup_ne (by omega)])) <;> (first | rw [tcp_i0 (by omega)] | rw [tup_eq] | skip) <;> (repeat (first | rw [tcp_ne (by omega)] | rw [tup_ne (by omega)]))
    · have hk := q3.2.2 rfl
      simp only [Nat.reduceAdd]
      (repeat (first | rw [tcp_ne (by omega)] | rw [tup_ne (by omega)])) <;> (first | rw [tcp_i0 (by omega)] | rw [tup_eq] | skip) <;> (repeat (first | rw [tcp_ne (by omega)] | rw [tup_ne (by omega)]))
  · repeat (first | rw [tcp_ne (by omega)] | rw [tup_ne (by omega)])
  · repeat (first | rw [tcp_ne (by omega)] | rw [tup_ne (by omega)])
