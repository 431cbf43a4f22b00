/-! RUNS READ: the draft, both ways -/
def OPN (x : Int32) : Prop := 5 ≤ x.toInt ∧ x.toInt ≤ 10
def CLO (E : Nat) (Ic Ir : tI) (k : Nat) : Prop := ∃ e, k < e ∧ e < E ∧ Ic 65 k = Int32.ofNat e ∧ Ir 186 (2732 + 6 * k + 4) = Int32.ofNat e ∧ Ic 62 e = 11 ∧ Ic 65 e = Int32.ofNat k
def DR (P S B d a E : Nat) (st : Nat → Nat) (Ic Ir : tI) : Prop :=
  (E ≤ 60 ∧ d ≤ 3 ∧ a ≤ 30 ∧ E + d ≤ 2 * a) ∧
  (Ic 61 1 = Int32.ofNat a ∧ Ir 185 23 = Int32.ofNat a ∧ Ic 61 2 = Int32.ofNat E ∧ Ir 186 2488 = Int32.ofNat E ∧ Ic 60 3 = Int32.ofNat d ∧ Ir 185 22 = Int32.ofNat d) ∧
  (∀ k, k < E → RRw P S B (Ic 62 k) (Ic 63 k) (Ic 64 k) (Ir 186 (2732 + 6 * k)) (Ir 186 (2732 + 6 * k + 1)) (Ir 186 (2732 + 6 * k + 2)) (Ir 186 (2732 + 6 * k + 5)) ∧ (OPN (Ic 62 k) → (∃ i, i < d ∧ st i = k) ∨ CLO E Ic Ir k) ∧ (Ic 62 k = 11 → ∃ o, o < k ∧ Ic 65 k = Int32.ofNat o ∧ Ir 186 (2732 + 6 * k + 4) = Int32.ofNat o ∧ OPN (Ic 62 o) ∧ Ic 65 o = Int32.ofNat k)) ∧
  (∀ i, i < d → (st i < E ∧ Ic 66 i = Int32.ofNat (st i) ∧ Ir 193 i = Int32.ofNat (st i) ∧ OPN (Ic 62 (st i)) ∧ Ic 65 (st i) = -1) ∧ (∀ j, j < i → st j < st i) ∧ ∀ o e, e < E → OPN (Ic 62 o) → Ic 65 o = Int32.ofNat e → ¬ (o < st i ∧ st i < e)) ∧
  NS 61 E Ic
section DRS
variable {P S B d d' a E : Nat} {st : Nat → Nat} {Ic Ir I1 I2 : tI}
theorem OPN_11 {x : Int32} (h : OPN x) : x ≠ 11 := fun q => by
  unfold OPN at h
  rw [q] at h
  exact absurd h.2 (by decide)
theorem DR_mate {o e : Nat} (h : DR P S B d a E st Ic Ir) (ho : o < E) (hk : OPN (Ic 62 o)) (he : Ic 65 o = Int32.ofNat e) (h9 : e < 1000) : e < E ∧ o < e ∧ Ic 62 e = 11 := by
  rcases (h.2.2.1 o ho).2.1 hk with ⟨i, hi, rfl⟩ | ⟨e2, h1, h2, h3, -, h5, -⟩
  · have := (h.2.2.2.1 i hi).1.2.2.2.2
    rw [he] at this
    exact absurd this (oi_m1 (by omega))
  · have hE := h.1.1
    have : e = e2 := oi_inj (by omega) (by omega) (he.symm.trans h3)
    subst this
    exact ⟨h2, h1, h5⟩
theorem DR_add {kc oc tc : Int32} (h : DR P S B d a E st Ic Ir) (ha : a < 30) (c1 : I1 61 1 = Int32.ofNat (a + 1)) (c2 : I1 61 2 = Int32.ofNat (E + 1)) (c6 : I1 62 E = kc ∧ I1 63 E = oc ∧ I1 64 E = tc ∧ I1 65 E = -1) (cf : ∀ o k, 62 ≤ o → o ≤ 65 → k < E → I1 o k = Ic o k) (r1 : I2 185 23 = Int32.ofNat (a + 1)) (r2 : I2 186 2488 = Int32.ofNat (E + 1)) (rf : ∀ k, 2732 ≤ k → k < 2732 + 6 * E → I2 186 k = Ir 186 k) (hrow : RRw P S B kc oc tc (I2 186 (2732 + 6 * E)) (I2 186 (2732 + 6 * E + 1)) (I2 186 (2732 + 6 * E + 2)) (I2 186 (2732 + 6 * E + 5))) (h11 : kc ≠ 11) (c3 : I1 60 3 = Int32.ofNat d') (r3 : I2 185 22 = Int32.ofNat d') (c66 : ∀ i, i < d → I1 66 i = Ic 66 i) (r193 : ∀ i, i < d → I2 193 i = Ir 193 i) (hk : (d' = d ∧ ¬ OPN kc) ∨ (d' = d + 1 ∧ d < 3 ∧ OPN kc ∧ I1 66 d = Int32.ofNat E ∧ I2 193 d = Int32.ofNat E)) : DR P S B d' (a + 1) (E + 1) (fun i => if i = d then E else st i) I1 I2 := by
  obtain ⟨⟨b1, b2, b3, b4⟩, -, hrows, hst, hNS⟩ := id h
  have sti : ∀ i, i < d → (if i = d then E else st i) = st i := fun i hi => if_neg (by omega)
  have hm : ∀ {o e : Nat}, o < E → OPN (I1 62 o) → I1 65 o = Int32.ofNat e → e < E + 1 → e < E ∧ OPN (Ic 62 o) ∧ Ic 65 o = Int32.ofNat e := fun {o e} q1 q2 q3 q4 => by
    rw [cf 62 o (by omega) (by omega) q1] at q2
    rw [cf 65 o (by omega) (by omega) q1] at q3
    exact ⟨(DR_mate h q1 q2 q3 (by omega)).1, q2, q3⟩
  refine ⟨⟨by omega, by omega, by omega, by omega⟩, ⟨c1, r1, c2, r2, c3, r3⟩, fun k hkE => ?_, fun i hi => ?_, fun o o' e e' q1 q2 q3 q4 q5 q6 q7 q8 => ?_⟩
  · by_cases e : k = E
    · subst e
      refine ⟨by rw [c6.1, c6.2.1, c6.2.2.1]; exact hrow, fun q => ?_, fun q => absurd (c6.1.symm.trans q) h11⟩
      rcases hk with ⟨-, z⟩ | ⟨z, -⟩
      · rw [c6.1] at q
        exact absurd q z
      · exact Or.inl ⟨d, by omega, if_pos rfl⟩
    · have hkE' : k < E := by omega
      obtain ⟨z1, z2, z3⟩ := hrows k hkE'
      refine ⟨?_, fun q => ?_, fun q => ?_⟩
      · rw [cf 62 k (by omega) (by omega) hkE', cf 63 k (by omega) (by omega) hkE', cf 64 k (by omega) (by omega) hkE', rf _ (by omega) (by omega), rf _ (by omega) (by omega), rf _ (by omega) (by omega), rf _ (by omega) (by omega)]
        exact z1
      · rw [cf 62 k (by omega) (by omega) hkE'] at q
        rcases z2 q with ⟨i, i1, i2⟩ | ⟨e2, y1, y2, y3, y4, y5, y6⟩
        · exact Or.inl ⟨i, by omega, (sti i i1).trans i2⟩
        · exact Or.inr ⟨e2, y1, by omega, by rw [cf 65 k (by omega) (by omega) hkE']; exact y3, by rw [rf _ (by omega) (by omega)]; exact y4, by rw [cf 62 e2 (by omega) (by omega) y2]; exact y5, by rw [cf 65 e2 (by omega) (by omega) y2]; exact y6⟩
      · rw [cf 62 k (by omega) (by omega) hkE'] at q
        obtain ⟨o, y1, y2, y3, y4, y5⟩ := z3 q
        exact ⟨o, y1, by rw [cf 65 k (by omega) (by omega) hkE']; exact y2, by rw [rf _ (by omega) (by omega)]; exact y3, by rw [cf 62 o (by omega) (by omega) (by omega)]; exact y4, by rw [cf 65 o (by omega) (by omega) (by omega)]; exact y5⟩
  · dsimp only
    by_cases e : i = d
    · subst e
      rcases hk with ⟨z, -⟩ | ⟨-, -, z1, z2, z3⟩
      · omega
      · rw [if_pos rfl]
        refine ⟨⟨by omega, z2, z3, by rw [c6.1]; exact z1, c6.2.2.2⟩, fun j hj => ?_, fun o e y1 y2 y3 y4 => by omega⟩
        rw [sti j hj]
        exact (hst j hj).1.1
    · have hid : i < d := by omega
      obtain ⟨⟨z1, z2, z3, z4, z5⟩, z6, z7⟩ := hst i hid
      rw [if_neg e]
      refine ⟨⟨by omega, by rw [c66 i hid]; exact z2, by rw [r193 i hid]; exact z3, by rw [cf 62 _ (by omega) (by omega) z1]; exact z4, by rw [cf 65 _ (by omega) (by omega) z1]; exact z5⟩, fun j hj => ?_, fun o e y1 y2 y3 y4 => ?_⟩
      · rw [sti j (by omega)]
        exact z6 j hj
      · obtain ⟨m1, m2, m3⟩ := hm (by omega) y2 y3 y1
        exact z7 o e m1 m2 m3 y4
  · obtain ⟨m1, m2, m3⟩ := hm (by omega) q4 q6 q3
    obtain ⟨m4, m5, m6⟩ := hm (by omega) q5 q7 q8
    exact hNS o o' e e' q1 q2 m1 m2 m5 m3 m6 m4
theorem DR_end {d0 : Nat} (h : DR P S B (d0 + 1) a E st Ic Ir) (c1 : I1 61 1 = Int32.ofNat a) (c2 : I1 61 2 = Int32.ofNat (E + 1)) (c62 : I1 62 E = 11) (c65 : I1 65 E = Int32.ofNat (st d0)) (c65' : I1 65 (st d0) = Int32.ofNat E) (cf : ∀ o k, 62 ≤ o → o ≤ 65 → k < E → ¬ (o = 65 ∧ k = st d0) → I1 o k = Ic o k) (r1 : I2 185 23 = Int32.ofNat a) (r2 : I2 186 2488 = Int32.ofNat (E + 1)) (rf : ∀ k, 2732 ≤ k → k < 2732 + 6 * E → k ≠ 2732 + 6 * st d0 + 4 → I2 186 k = Ir 186 k) (r4 : I2 186 (2732 + 6 * st d0 + 4) = Int32.ofNat E) (rE : I2 186 (2732 + 6 * E) = 27) (rE4 : I2 186 (2732 + 6 * E + 4) = Int32.ofNat (st d0)) (c3 : I1 60 3 = Int32.ofNat d0) (r3 : I2 185 22 = Int32.ofNat d0) (c66 : ∀ i, i < d0 → I1 66 i = Ic 66 i) (r193 : ∀ i, i < d0 → I2 193 i = Ir 193 i) : DR P S B d0 a (E + 1) st I1 I2 := by
  obtain ⟨⟨b1, b2, b3, b4⟩, -, hrows, hst, hNS⟩ := id h
  obtain ⟨⟨s1, s2, s3, s4, s5⟩, s6, s7⟩ := hst d0 (by omega)
  generalize hst0 : st d0 = o0 at *
  have hm : ∀ {o e : Nat}, o < E → o ≠ o0 → OPN (I1 62 o) → I1 65 o = Int32.ofNat e → e < E + 1 → e < E ∧ OPN (Ic 62 o) ∧ Ic 65 o = Int32.ofNat e := fun {o e} q1 q0 q2 q3 q4 => by
    rw [cf 62 o (by omega) (by omega) q1 (by omega)] at q2
    rw [cf 65 o (by omega) (by omega) q1 (by omega)] at q3
    exact ⟨(DR_mate h q1 q2 q3 (by omega)).1, q2, q3⟩
  refine ⟨⟨by omega, by omega, by omega, by omega⟩, ⟨c1, r1, c2, r2, c3, r3⟩, fun k hkE => ?_, fun i hi => ?_, fun o o' e e' q1 q2 q3 q4 q5 q6 q7 q8 => ?_⟩
  · by_cases e : k = E
    · subst e
      refine ⟨?_, fun q => absurd c62 (OPN_11 q), fun _ => ⟨o0, s1, c65, rE4, by rw [cf 62 o0 (by omega) (by omega) s1 (by omega)]; exact s4, c65'⟩⟩
      rw [c62, rE]
      exact Or.inr (Or.inr (Or.inr (Or.inr (Or.inr (Or.inr (Or.inr (Or.inr (Or.inr ⟨rfl, rfl⟩))))))))
    · have hkE' : k < E := by omega
      obtain ⟨z1, z2, z3⟩ := hrows k hkE'
      refine ⟨?_, fun q => ?_, fun q => ?_⟩
      · rw [cf 62 k (by omega) (by omega) hkE' (by omega), cf 63 k (by omega) (by omega) hkE' (by omega), cf 64 k (by omega) (by omega) hkE' (by omega), rf _ (by omega) (by omega) (by omega), rf _ (by omega) (by omega) (by omega), rf _ (by omega) (by omega) (by omega), rf _ (by omega) (by omega) (by omega)]
        exact z1
      · rw [cf 62 k (by omega) (by omega) hkE' (by omega)] at q
        by_cases ko : k = o0
        · subst ko
          exact Or.inr ⟨E, s1, by omega, c65', r4, c62, c65⟩
        · rcases z2 q with ⟨i, i1, i2⟩ | ⟨e2, y1, y2, y3, y4, y5, y6⟩
          · have : i ≠ d0 := fun z => ko (by rw [← i2, z]; exact hst0)
            exact Or.inl ⟨i, by omega, i2⟩
          · have e2o : e2 ≠ o0 := fun z => OPN_11 s4 (by rw [← z]; exact y5)
            exact Or.inr ⟨e2, y1, by omega, by rw [cf 65 k (by omega) (by omega) hkE' (by omega)]; exact y3, by rw [rf _ (by omega) (by omega) (by omega)]; exact y4, by rw [cf 62 e2 (by omega) (by omega) y2 (by omega)]; exact y5, by rw [cf 65 e2 (by omega) (by omega) y2 (by omega)]; exact y6⟩
      · rw [cf 62 k (by omega) (by omega) hkE' (by omega)] at q
        obtain ⟨o, y1, y2, y3, y4, y5⟩ := z3 q
        have ko : k ≠ o0 := fun z => OPN_11 s4 (by rw [← z]; exact q)
        have oo : o ≠ o0 := fun z => by
          rw [z, s5] at y5
          exact oi_m1 (by omega) y5.symm
        exact ⟨o, y1, by rw [cf 65 k (by omega) (by omega) hkE' (by omega)]; exact y2, by rw [rf _ (by omega) (by omega) (by omega)]; exact y3, by rw [cf 62 o (by omega) (by omega) (by omega) (by omega)]; exact y4, by rw [cf 65 o (by omega) (by omega) (by omega) (by omega)]; exact y5⟩
  · obtain ⟨⟨z1, z2, z3, z4, z5⟩, z6, z7⟩ := hst i (by omega)
    have lt := s6 i hi
    refine ⟨⟨by omega, by rw [c66 i hi]; exact z2, by rw [r193 i hi]; exact z3, by rw [cf 62 _ (by omega) (by omega) z1 (by omega)]; exact z4, by rw [cf 65 _ (by omega) (by omega) z1 (by omega)]; exact z5⟩, z6, fun o e y1 y2 y3 y4 => ?_⟩
    obtain ⟨m1, m2, m3⟩ := hm (by omega) (by omega) y2 y3 y1
    exact z7 o e m1 m2 m3 y4
  · by_cases e1 : o = o0
    · subst e1
      have q6 : I1 65 o = Int32.ofNat e := q6
      have : e = E := oi_inj (by omega) (by omega) (q6.symm.trans c65')
      obtain ⟨m4, m5, m6⟩ := hm (o := o') (by omega) (by omega) q5 q7 q8
      omega
    · obtain ⟨m1, m2, m3⟩ := hm (o := o) (by omega) e1 q4 q6 q3
      by_cases e2 : o' = o0
      · subst e2
        exact absurd ⟨q1, q2⟩ (s7 o e m1 m2 m3)
      · obtain ⟨m4, m5, m6⟩ := hm (o := o') (by omega) e2 q5 q7 q8
        exact hNS o o' e e' q1 q2 m1 m2 m5 m3 m6 m4
end DRS
