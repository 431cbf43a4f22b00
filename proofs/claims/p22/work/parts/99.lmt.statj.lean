/-! THE WORLD AND ITS RUNS, BY PLACES -/
def cpQ (j k : Nat) : Prop := cpI j k ∧ ¬ (16 ≤ j ∧ j ≤ 20)
section WCQ
variable {b sl u b' sl' u' : Nat} {Ic Ir Ic' Ir' : tI} {Jc Jr Jc' Jr' : tJ}
theorem WQ_cq (h : WQ b sl u Ic Jc Ir Jr) (h1 : ∀ j k, cpQ j k → Ic' (b' + j) k = Ic (b + j) k) (h2 : ∀ j k, cpJ j k → Jc' (b' + j) k = Jc (b + j) k) (h3 : ∀ k, (k < 8 ∨ (9 ≤ k ∧ k < 252)) → Ir' 186 (sl' + k) = Ir 186 (sl + k)) (h4 : ∀ k, k < 15 → Jr' 187 (u' + k) = Jr 187 (u + k)) : WQ b' sl' u' Ic' Jc' Ir' Jr' := by
  obtain ⟨P, S, B, W, D, s, ⟨⟨⟨g1, g2, g3⟩, ⟨g4, g5⟩, g6⟩, ⟨a1, a2, a3, a4, a5, a6⟩, ⟨b1, b2, b3, b4, b5, b6⟩, b7, b8⟩, hw, hf, hs, hb, ho, ht⟩ := h
  have hc0 : ∀ k, 4 ≤ k → k ≤ 6 → Ic' b' k = Ic b k := fun k q1 q2 => h1 0 k ⟨Or.inl ⟨rfl, q1, q2⟩, by omega⟩
  have hr0 : Ir' 186 sl' = Ir 186 sl := h3 0 (by omega)
  have h3' : ∀ k q, q = sl + k → (k < 8 ∨ (9 ≤ k ∧ k < 252)) → Ir' 186 (sl' + k) = Ir 186 q := fun k q e hk => by rw [e]; exact h3 k hk
  refine ⟨P, S, B, W, D, s, ⟨⟨⟨g1, g2, g3⟩, ⟨g4, g5⟩, g6⟩, ⟨?_, ?_, ?_, ?_, ?_, ?_⟩, ⟨?_, ?_, ?_, ?_, ?_, ?_⟩, ?_, ?_⟩, fun r c hr' hc' => ?_, fun p hp => ?_, fun i hi => ?_, fun x hx => ?_, fun k hk => ?_, ⟨fun p hp => ?_, fun i hi => ?_, fun x hx => ?_⟩⟩
  · rw [h1 1 0 (by unfold cpQ cpI; omega)]; exact a1
  · rw [h1 1 1 (by unfold cpQ cpI; omega)]; exact a2
  · rw [h1 2 0 (by unfold cpQ cpI; omega)]; exact a3
  · rw [h1 2 1 (by unfold cpQ cpI; omega)]; exact a4
  · rw [h1 11 0 (by unfold cpQ cpI; omega)]; exact a5
  · rw [hc0 6 (by omega) (by omega)]; exact a6
  · rw [hr0]; exact b1
  · rw [h3 1 (by omega)]; exact b2
  · rw [h3 2 (by omega)]; exact b3
  · rw [h3 3 (by omega)]; exact b4
  · rw [h3 4 (by omega)]; exact b5
  · rw [h3 5 (by omega)]; exact b6
  · rw [hc0 4 (by omega) (by omega), h3 6 (by omega)]; exact b7
  · rw [hc0 5 (by omega) (by omega), h3 7 (by omega)]; exact b8
  · rw [h2 1 2 (by unfold cpJ; omega), show sl' + 10 + (6 * r + c) = sl' + (10 + (6 * r + c)) by omega, h3' _ (sl + 10 + (6 * r + c)) (by omega) (by omega)]
    exact hw r c hr' hc'
  · obtain ⟨p1, ⟨p2, p3⟩, ⟨m, m1, m8, p4, p5, p6⟩, p7, p8⟩ := hf p hp
    have e : ∀ k, k < 14 → Ir' 186 (sl' + 40 + 14 * p + k) = Ir 186 (sl + 40 + 14 * p + k) := fun k hk => by
      rw [show sl' + 40 + 14 * p + k = sl' + (40 + 14 * p + k) by omega]
      exact h3' _ _ (by omega) (by omega)
    have e0 : Ir' 186 (sl' + 40 + 14 * p) = Ir 186 (sl + 40 + 14 * p) := e 0 (by omega)
    have f : ∀ j, 4 ≤ j → j ≤ 10 → j ≠ 8 → Ic' (b' + j) p = Ic (b + j) p := fun j q1 q2 q3 => h1 j p (by unfold cpQ cpI; omega)
    have f2 : Ic' (b' + 2 + 2) p = Ic (b + 2 + 2) p := f 4 (by omega) (by omega) (by omega)
    have f3 : Ic' (b' + 2 + 3) p = Ic (b + 2 + 3) p := f 5 (by omega) (by omega) (by omega)
    have f4 : Ic' (b' + 2 + 4) p = Ic (b + 2 + 4) p := f 6 (by omega) (by omega) (by omega)
    have f5 : Ic' (b' + 2 + 5) p = Ic (b + 2 + 5) p := f 7 (by omega) (by omega) (by omega)
    have f7 : Ic' (b' + 2 + 7) p = Ic (b + 2 + 7) p := f 9 (by omega) (by omega) (by omega)
    have f8 : Ic' (b' + 2 + 8) p = Ic (b + 2 + 8) p := f 10 (by omega) (by omega) (by omega)
    rw [f2, f3, f4, f5, f7, f8, e0, e 1 (by omega), e 2 (by omega), e 3 (by omega), e 4 (by omega), e 5 (by omega)]
    refine ⟨p1, ⟨p2, p3⟩, ⟨m, m1, m8, p4, p5, fun k hk => ?_⟩, p7, p8⟩
    have f6 : Ic' (b' + 2 + 6) (8 * p + k) = Ic (b + 2 + 6) (8 * p + k) := h1 8 (8 * p + k) (by unfold cpQ cpI; omega)
    rw [f6, show sl' + 40 + 14 * p + 6 + k = sl' + 40 + 14 * p + (6 + k) by omega, e _ (by omega), show sl + 40 + 14 * p + (6 + k) = sl + 40 + 14 * p + 6 + k by omega]
    exact p6 k hk
  · have e : ∀ k, k < 3 → Ir' 186 (sl' + 110 + 3 * i + k) = Ir 186 (sl + 110 + 3 * i + k) := fun k hk => by
      rw [show sl' + 110 + 3 * i + k = sl' + (110 + 3 * i + k) by omega]
      exact h3' _ _ (by omega) (by omega)
    have e0 : Ir' 186 (sl' + 110 + 3 * i) = Ir 186 (sl + 110 + 3 * i) := e 0 (by omega)
    rw [h1 13 i (by unfold cpQ cpI; omega), h1 14 i (by unfold cpQ cpI; omega), h1 15 i (by unfold cpQ cpI; omega), e0, e 1 (by omega), e 2 (by omega)]
    exact hs i hi
  · rw [h1 22 x (by unfold cpQ cpI; omega), show sl' + 128 + x = sl' + (128 + x) by omega, h3' _ (sl + 128 + x) (by omega) (by omega)]
    exact hb x hx
  · rw [h1 23 (k + 1) (by unfold cpQ cpI; omega), show sl' + 132 + k = sl' + (132 + k) by omega, h3' _ (sl + 132 + k) (by omega) (by omega)]
    exact ho k hk
  · rw [h2 3 p (by unfold cpJ; omega), h4 p (by omega)]
    exact ht.1 p hp
  · rw [h2 12 i (by unfold cpJ; omega), show u' + 5 + i = u' + (5 + i) by omega, h4 _ (by omega), show u + (5 + i) = u + 5 + i by omega]
    exact ht.2.1 i hi
  · rw [h2 21 x (by unfold cpJ; omega), show u' + 11 + x = u' + (11 + x) by omega, h4 _ (by omega), show u + (11 + x) = u + 11 + x by omega]
    exact ht.2.2 x hx
end WCQ
def rgB (ml : nMl) (o k0 n : Nat) : Bool := ml.all (fun q => !Nat.beq q.1 o || (Nat.blt q.2.2 k0 || Nat.ble (k0 + n) q.2.1))
theorem rgB_at {ml : nMl} {o k0 n k : Nat} (h : rgB ml o k0 n = true) (h1 : k0 ≤ k) (h2 : k < k0 + n) : nmod ml o k = false := by
  unfold nmod
  unfold rgB at h
  rw [List.any_eq_false]
  intro q hq hb
  have := List.all_eq_true.mp h q hq
  rw [Bool.and_eq_true, Bool.and_eq_true] at hb
  obtain ⟨b1, b2, b3⟩ := hb
  rw [b1, Bool.not_true, Bool.false_or, Bool.or_eq_true] at this
  have c2 := Nat.le_of_ble_eq_true b2
  have c3 := Nat.le_of_ble_eq_true b3
  rcases this with z | z
  · have := Nat.blt_eq.mp z
    omega
  · have := Nat.le_of_ble_eq_true z
    omega
def fcS (R : List (Nat × Nat × Nat)) (bs : List Nat) (ml : nMl) : Bool := bs.all (fun b => R.all (fun r => rgB ml (b + r.1) r.2.1 r.2.2)) && rgB ml 0 12 1
def fcT (G : List (Nat × Nat)) (o w : Nat) (ss : List Nat) (ml : nMl) : Bool := ss.all (fun s => G.all (fun r => rgB ml o (w * s + r.1) r.2))
def fcU (G H : List (Nat × Nat)) (ss : List Nat) (ml : nMl) : Bool := (fcT G 186 620 ss ml && fcT H 187 15 ss ml) && rgB ml 185 36 1
/-- lookers ahead put places below 252 back -/
def fcL (G H : List (Nat × Nat)) (ml : nMl) : Bool := ((G.all (fun r => Nat.ble (r.1 + r.2) 252 || rgB ml 186 r.1 r.2) && fcT G 186 620 [1, 2, 3] ml) && fcT H 187 15 [0, 1, 2, 3] ml) && rgB ml 185 36 1
def inS (R : List (Nat × Nat × Nat)) (j k : Nat) : Prop := ∃ r, r ∈ R ∧ r.1 = j ∧ r.2.1 ≤ k ∧ k < r.2.1 + r.2.2
def inT (G : List (Nat × Nat)) (k : Nat) : Prop := ∃ r, r ∈ G ∧ r.1 ≤ k ∧ k < r.1 + r.2
theorem inS_mk {R : List (Nat × Nat × Nat)} {j k : Nat} (k0 n : Nat) (hm : (j, k0, n) ∈ R) (h1 : k0 ≤ k) (h2 : k < k0 + n) : inS R j k := ⟨_, hm, rfl, h1, h2⟩
theorem inT_mk {G : List (Nat × Nat)} {k : Nat} (k0 n : Nat) (hm : (k0, n) ∈ G) (h1 : k0 ≤ k) (h2 : k < k0 + n) : inT G k := ⟨_, hm, h1, h2⟩
theorem fcS_at {R : List (Nat × Nat × Nat)} {bs : List Nat} {ml : nMl} (h : fcS R bs ml = true) : (∀ b, b ∈ bs → ∀ j k, inS R j k → nmod ml (b + j) k = false) ∧ nmod ml 0 12 = false := by
  unfold fcS at h
  rw [Bool.and_eq_true] at h
  refine ⟨fun b hb j k ⟨r, hr, e, q1, q2⟩ => ?_, rgB_at h.2 (by omega) (by omega)⟩
  subst e
  exact rgB_at (List.all_eq_true.mp (List.all_eq_true.mp h.1 b hb) r hr) q1 q2
theorem fcT_at {G : List (Nat × Nat)} {o w : Nat} {ss : List Nat} {ml : nMl} (h : fcT G o w ss ml = true) : ∀ s, s ∈ ss → ∀ k, inT G k → nmod ml o (w * s + k) = false := fun s hs k ⟨r, hr, q1, q2⟩ =>
  rgB_at (List.all_eq_true.mp (List.all_eq_true.mp h s hs) r hr) (by omega) (by omega)
def FPJ (V : Nat → Nat → Nat → tI → tJ → tI → tJ → Prop) (FI FJ : List (Nat × Nat × Nat)) (GI GJ : List (Nat × Nat)) : Prop := ∀ (b sl u : Nat) (Ic Ir Ic' Ir' : tI) (Jc Jr Jc' Jr' : tJ), V b sl u Ic Jc Ir Jr → (∀ j k, inS FI j k → Ic' (b + j) k = Ic (b + j) k) → (∀ j k, inS FJ j k → Jc' (b + j) k = Jc (b + j) k) → (∀ k, inT GI k → Ir' 186 (sl + k) = Ir 186 (sl + k)) → (∀ k, inT GJ k → Jr' 187 (u + k) = Jr 187 (u + k)) → V b sl u Ic' Jc' Ir' Jr'
def slC (FI FJ : List (Nat × Nat × Nat)) (GI GJ : List (Nat × Nat)) : Bool := ((bas.all (fun b => FI.all (fun r => (List.range r.2.2).all (fun i => slIb (b + r.1) (r.2.1 + i)))) && bas.all (fun b => FJ.all (fun r => (List.range r.2.2).all (fun i => match ktK (b + r.1) with
  | some (_, m) => decide (r.2.1 + i < m) && decide ((ktB (b + r.1) (r.2.1 + i)).1 = 1)
  | none => false)))) && ([0, 1, 2, 3].all (fun s => GI.all (fun r => (List.range r.2).all (fun i => slIb 186 (620 * s + (r.1 + i))))) && [0, 1, 2, 3].all (fun s => GJ.all (fun r => (List.range r.2).all (fun i => match ktK 187 with
  | some (_, m) => decide (15 * s + (r.1 + i) < m) && decide ((ktB 187 (15 * s + (r.1 + i))).1 = 1)
  | none => false))))) && (slIb 0 12 && slIb 185 36)
theorem slJ_of {o k : Nat} (h : (match ktK o with
  | some (_, m) => decide (k < m) && decide ((ktB o k).1 = 1)
  | none => false) = true) : slJ o k := by
  split at h
  · rename_i c m hk
    simp only [Bool.and_eq_true, decide_eq_true_eq] at h
    exact ⟨c, m, hk, h.1, h.2⟩
  · cases h
theorem slC_at {FI FJ : List (Nat × Nat × Nat)} {GI GJ : List (Nat × Nat)} (h : slC FI FJ GI GJ = true) : (∀ b, b ∈ bas → ∀ j k, inS FI j k → slI (b + j) k) ∧ (∀ b, b ∈ bas → ∀ j k, inS FJ j k → slJ (b + j) k) ∧ (∀ s, s ∈ [0, 1, 2, 3] → ∀ k, inT GI k → slI 186 (620 * s + k)) ∧ (∀ s, s ∈ [0, 1, 2, 3] → ∀ k, inT GJ k → slJ 187 (15 * s + k)) ∧ slI 0 12 ∧ slI 185 36 := by
  unfold slC at h
  rw [Bool.and_eq_true, Bool.and_eq_true, Bool.and_eq_true, Bool.and_eq_true, Bool.and_eq_true] at h
  obtain ⟨⟨⟨a1, a2⟩, a3, a4⟩, a5, a6⟩ := h
  have ix : ∀ {x y n : Nat}, x ≤ y → y < x + n → y = x + (y - x) ∧ y - x < n := fun q1 q2 => ⟨by omega, by omega⟩
  refine ⟨fun b hb j k ⟨r, hr, e, q1, q2⟩ => ?_, fun b hb j k ⟨r, hr, e, q1, q2⟩ => ?_, fun s hs k ⟨r, hr, q1, q2⟩ => ?_, fun s hs k ⟨r, hr, q1, q2⟩ => ?_, slIb_ok a5, slIb_ok a6⟩
  · subst e
    rw [(ix q1 q2).1]
    exact slIb_ok (List.all_eq_true.mp (List.all_eq_true.mp (List.all_eq_true.mp a1 b hb) r hr) _ (List.mem_range.mpr (ix q1 q2).2))
  · subst e
    rw [(ix q1 q2).1]
    exact slJ_of (List.all_eq_true.mp (List.all_eq_true.mp (List.all_eq_true.mp a2 b hb) r hr) _ (List.mem_range.mpr (ix q1 q2).2))
  · rw [(ix q1 q2).1]
    exact slIb_ok (List.all_eq_true.mp (List.all_eq_true.mp (List.all_eq_true.mp a3 s hs) r hr) _ (List.mem_range.mpr (ix q1 q2).2))
  · rw [(ix q1 q2).1]
    exact slJ_of (List.all_eq_true.mp (List.all_eq_true.mp (List.all_eq_true.mp a4 s hs) r hr) _ (List.mem_range.mpr (ix q1 q2).2))
section JVL
variable {V : Nat → Nat → Nat → tI → tJ → tI → tJ → Prop} {FI FJ : List (Nat × Nat × Nat)} {GI GJ : List (Nat × Nat)} {ml ml' : nMl} {B B' B1 : xM} {I I' I1 I2 K1 K2 Ic Ir Ic' Ir' : tI} {J J' J1 J2 L1 L2 Jc Jr Jc' Jr' : tJ}
theorem MJ_fr (hF : FPJ V FI FJ GI GJ) (h : MV V Ic Jc Ir Jr) (c : ∀ b, b ∈ [113, 137, 161] → ∀ j k, inS FI j k → Ic' (b + j) k = Ic (b + j) k) (cj : ∀ b, b ∈ [113, 137, 161] → ∀ j k, inS FJ j k → Jc' (b + j) k = Jc (b + j) k) (c12 : Ic' 0 12 = Ic 0 12) (g : ∀ s, s ∈ [1, 2, 3] → ∀ k, inT GI k → Ir' 186 (620 * s + k) = Ir 186 (620 * s + k)) (gj : ∀ s, s ∈ [1, 2, 3] → ∀ k, inT GJ k → Jr' 187 (15 * s + k) = Jr 187 (15 * s + k)) (g36 : Ir' 185 36 = Ir 185 36) : MV V Ic' Jc' Ir' Jr' := by
  obtain ⟨n, hn, ⟨h1, h2⟩, h3⟩ := h
  refine ⟨n, hn, ⟨c12.trans h1, g36.trans h2⟩, fun j hj => hF _ _ _ _ _ _ _ _ _ _ _ (h3 j hj) (fun i k q => c _ (bas_j (by omega)) i k q) (fun i k q => cj _ (bas_j (by omega)) i k q) (fun k hk => g (j + 1) ?_ k hk) (fun k hk => gj (j + 1) ?_ k hk)⟩
  · rcases (by omega : j = 0 ∨ j = 1 ∨ j = 2) with rfl | rfl | rfl <;> simp
  · rcases (by omega : j = 0 ∨ j = 1 ∨ j = 2) with rfl | rfl | rfl <;> simp
theorem JV_fr (hF : FPJ V FI FJ GI GJ) (h : RV V Ic Jc Ir Jr) (c : ∀ b, b ∈ bas → ∀ j k, inS FI j k → Ic' (b + j) k = Ic (b + j) k) (cj : ∀ b, b ∈ bas → ∀ j k, inS FJ j k → Jc' (b + j) k = Jc (b + j) k) (c12 : Ic' 0 12 = Ic 0 12) (g : ∀ s, s ∈ [0, 1, 2, 3] → ∀ k, inT GI k → Ir' 186 (620 * s + k) = Ir 186 (620 * s + k)) (gj : ∀ s, s ∈ [0, 1, 2, 3] → ∀ k, inT GJ k → Jr' 187 (15 * s + k) = Jr 187 (15 * s + k)) (g36 : Ir' 185 36 = Ir 185 36) : RV V Ic' Jc' Ir' Jr' :=
  ⟨hF _ _ _ _ _ _ _ _ _ _ _ h.1 (fun j k q => c 10 List.mem_cons_self j k q) (fun j k q => cj 10 List.mem_cons_self j k q) (fun k hk => by
    have := g 0 List.mem_cons_self k hk
    rw [Nat.mul_zero] at this
    exact this) (fun k hk => by
    have := gj 0 List.mem_cons_self k hk
    rw [Nat.mul_zero] at this
    exact this), MJ_fr hF h.2 (fun b hb => c b (List.mem_cons_of_mem _ hb)) (fun b hb => cj b (List.mem_cons_of_mem _ hb)) c12 (fun s hs => g s (List.mem_cons_of_mem _ hs)) (fun s hs => gj s (List.mem_cons_of_mem _ hs)) g36⟩
theorem fcU_at {G H : List (Nat × Nat)} {ss : List Nat} (h : fcU G H ss ml = true) : (∀ s, s ∈ ss → ∀ k, inT G k → nmod ml 186 (620 * s + k) = false) ∧ (∀ s, s ∈ ss → ∀ k, inT H k → nmod ml 187 (15 * s + k) = false) ∧ nmod ml 185 36 = false := by
  unfold fcU at h
  rw [Bool.and_eq_true, Bool.and_eq_true] at h
  exact ⟨fcT_at h.1.1, fcT_at h.1.2, rgB_at h.2 (by omega) (by omega)⟩
/-- a call that changes none of this -/
theorem JV_ag (hF : FPJ V FI FJ GI GJ) (hA : kAg ml B I J B' I' J') (h1 : fcS FI bas ml = true) (h1' : fcS FJ bas ml = true) (h2 : fcU GI GJ [0, 1, 2, 3] ml = true) (h : RV V I J I J) : RV V I' J' I' J' :=
  JV_fr hF h (fun b hb j k q => (hA.1 _ _ ((fcS_at h1).1 b hb j k q)).1) (fun b hb j k q => (hA.1 _ _ ((fcS_at h1').1 b hb j k q)).2) (hA.1 _ _ (fcS_at h1).2).1 (fun s hs k q => (hA.1 _ _ ((fcU_at h2).1 s hs k q)).1) (fun s hs k q => (hA.1 _ _ ((fcU_at h2).2.1 s hs k q)).2) (hA.1 _ _ (fcU_at h2).2.2).1
theorem JV_mid (hF : FPJ V FI FJ GI GJ) (hA : kAg ml B I J B' I' J') (h2 : fcU GI GJ [0, 1, 2, 3] ml = true) (h : RV V I J I J) : RV V I J I' J' :=
  JV_fr hF h (fun _ _ _ _ _ => rfl) (fun _ _ _ _ _ => rfl) rfl (fun s hs k q => (hA.1 _ _ ((fcU_at h2).1 s hs k q)).1) (fun s hs k q => (hA.1 _ _ ((fcU_at h2).2.1 s hs k q)).2) (hA.1 _ _ (fcU_at h2).2.2).1
theorem JV_look (hF : FPJ V FI FJ GI GJ) (hA : kAg ml B I J B' I' J') (h1 : fcS FI bas ml = true) (h1' : fcS FJ bas ml = true) (h2 : fcL GI GJ ml = true) (h3 : ∀ k, k < 252 → I' 186 k = I 186 k) (h : RV V I J I J) : RV V I' J' I' J' := by
  unfold fcL at h2
  rw [Bool.and_eq_true, Bool.and_eq_true, Bool.and_eq_true] at h2
  obtain ⟨⟨⟨a1, a2⟩, a3⟩, a4⟩ := h2
  refine JV_fr hF h (fun b hb j k q => (hA.1 _ _ ((fcS_at h1).1 b hb j k q)).1) (fun b hb j k q => (hA.1 _ _ ((fcS_at h1').1 b hb j k q)).2) (hA.1 _ _ (fcS_at h1).2).1 (fun s hs k q => ?_) (fun s hs k q => (hA.1 _ _ (fcT_at a3 s hs k q)).2) (hA.1 _ _ (rgB_at a4 (by omega) (by omega))).1
  rcases List.mem_cons.mp hs with rfl | hs
  · rw [Nat.mul_zero, Nat.zero_add]
    obtain ⟨r, hr, q1, q2⟩ := q
    have := List.all_eq_true.mp a1 r hr
    rw [Bool.or_eq_true] at this
    rcases this with z | z
    · exact h3 k (by have := Nat.le_of_ble_eq_true z; omega)
    · exact (hA.1 _ _ (rgB_at z q1 q2)).1
  · exact (hA.1 _ _ (fcT_at a2 s hs k q)).1
theorem JV_end (hF : FPJ V FI FJ GI GJ) (hS : slC FI FJ GI GJ = true) (hA : kAg ml B I1 J1 B' I2 J2) (h1 : fcS FI bas ml = true) (h1' : fcS FJ bas ml = true) (hs1 : slq K1 I1 L1 J1) (hs2 : slq K2 I2 L2 J2) (h : RV V K1 L1 K2 L2) : RV V I2 J2 I2 J2 := by
  obtain ⟨a, b, c, d, e, f⟩ := slC_at hS
  exact JV_fr hF h (fun x hx j k q => (hA.1 _ _ ((fcS_at h1).1 x hx j k q)).1.trans (hs1.1 _ _ (a x hx j k q))) (fun x hx j k q => (hA.1 _ _ ((fcS_at h1').1 x hx j k q)).2.trans (hs1.2 _ _ (b x hx j k q))) ((hA.1 _ _ (fcS_at h1).2).1.trans (hs1.1 _ _ e)) (fun s hs k q => hs2.1 _ _ (c s hs k q)) (fun s hs k q => hs2.2 _ _ (d s hs k q)) (hs2.1 _ _ f)
/-- the world anew, the marks as they were -/
theorem JV_scene (hF : FPJ V FI FJ GI GJ) (hS : slC FI FJ GI GJ = true) (hA1 : kAg ml B I J B1 I1 J1) (hA2 : kAg ml' B1 I1 J1 B' I2 J2) (m1 : fcS FI [113, 137, 161] ml = true) (m1' : fcS FJ [113, 137, 161] ml = true) (m2 : fcS FI bas ml' = true) (m2' : fcS FJ bas ml' = true) (m3 : fcU GI GJ [0, 1, 2, 3] ml = true) (m4 : fcU GI GJ [1, 2, 3] ml' = true) (hs1 : slq K1 I1 L1 J1) (hs2 : slq K2 I2 L2 J2) (h : RV V I J I J) (hV : V 10 0 0 K1 L1 K2 L2) : RV V I2 J2 I2 J2 := by
  obtain ⟨a, b, c, d, e, f⟩ := slC_at hS
  refine ⟨hF _ _ _ _ _ _ _ _ _ _ _ hV (fun j k q => ?_) (fun j k q => ?_) (fun k q => ?_) (fun k q => ?_), MJ_fr hF h.2 (fun x hx j k q => ?_) (fun x hx j k q => ?_) ?_ (fun s hs k q => ?_) (fun s hs k q => ?_) ?_⟩
  · exact (hA2.1 _ _ ((fcS_at m2).1 10 List.mem_cons_self j k q)).1.trans (hs1.1 _ _ (a 10 List.mem_cons_self j k q))
  · exact (hA2.1 _ _ ((fcS_at m2').1 10 List.mem_cons_self j k q)).2.trans (hs1.2 _ _ (b 10 List.mem_cons_self j k q))
  · have := hs2.1 _ _ (c 0 List.mem_cons_self k q)
    rw [Nat.mul_zero] at this
    exact this
  · have := hs2.2 _ _ (d 0 List.mem_cons_self k q)
    rw [Nat.mul_zero] at this
    exact this
  · exact (hA2.1 _ _ ((fcS_at m2).1 x (List.mem_cons_of_mem _ hx) j k q)).1.trans (hA1.1 _ _ ((fcS_at m1).1 x hx j k q)).1
  · exact (hA2.1 _ _ ((fcS_at m2').1 x (List.mem_cons_of_mem _ hx) j k q)).2.trans (hA1.1 _ _ ((fcS_at m1').1 x hx j k q)).2
  · exact (hA2.1 _ _ (fcS_at m2).2).1.trans (hA1.1 _ _ (fcS_at m1).2).1
  · exact (hA2.1 _ _ ((fcU_at m4).1 s hs k q)).1.trans (hA1.1 _ _ ((fcU_at m3).1 s (List.mem_cons_of_mem _ hs) k q)).1
  · exact (hA2.1 _ _ ((fcU_at m4).2.1 s hs k q)).2.trans (hA1.1 _ _ ((fcU_at m3).2.1 s (List.mem_cons_of_mem _ hs) k q)).2
  · exact (hA2.1 _ _ (fcU_at m4).2.2).1.trans (hA1.1 _ _ (fcU_at m3).2.2).1
end JVL
def FIQ : List (Nat × Nat × Nat) := [(0, 4, 3), (1, 0, 2), (2, 0, 2), (4, 0, 5), (5, 0, 5), (6, 0, 5), (7, 0, 5), (9, 0, 5), (10, 0, 5), (8, 0, 40), (11, 0, 1), (13, 0, 6), (14, 0, 6), (15, 0, 6), (22, 0, 4), (23, 0, 121)]
def FJQ : List (Nat × Nat × Nat) := [(1, 2, 1), (3, 0, 5), (12, 0, 6), (21, 0, 4)]
def GIQ : List (Nat × Nat) := [(0, 8), (9, 243)]
def GJQ : List (Nat × Nat) := [(0, 15)]
def FIX : List (Nat × Nat × Nat) := [(0, 6, 1), (2, 0, 1), (11, 0, 1), (16, 0, 1), (16, 2, 1), (17, 0, 60), (18, 0, 60), (19, 0, 60), (20, 0, 60)]
def FJX : List (Nat × Nat × Nat) := []
def GIX : List (Nat × Nat) := [(8, 1), (252, 360)]
def GJX : List (Nat × Nat) := []
theorem inQ {j k : Nat} (h : cpQ j k) : inS FIQ j k := by
  obtain ⟨h, hn⟩ := h
  unfold cpI at h
  rcases h with ⟨rfl, a, b⟩ | ⟨rfl | rfl, a⟩ | ⟨⟨a, b⟩ | rfl | rfl, c⟩ | ⟨rfl, a⟩ | ⟨rfl, rfl⟩ | ⟨a, b, c⟩ | ⟨rfl, a⟩ | ⟨a, b, c⟩ | ⟨rfl, a⟩ | ⟨rfl, a⟩
  · exact inS_mk 4 3 (by decide) (by omega) (by omega)
  · exact inS_mk 0 2 (by decide) (by omega) (by omega)
  · exact inS_mk 0 2 (by decide) (by omega) (by omega)
  · rcases (by omega : j = 4 ∨ j = 5 ∨ j = 6 ∨ j = 7) with rfl | rfl | rfl | rfl
    · exact inS_mk 0 5 (by decide) (by omega) (by omega)
    · exact inS_mk 0 5 (by decide) (by omega) (by omega)
    · exact inS_mk 0 5 (by decide) (by omega) (by omega)
    · exact inS_mk 0 5 (by decide) (by omega) (by omega)
  · exact inS_mk 0 5 (by decide) (by omega) (by omega)
  · exact inS_mk 0 5 (by decide) (by omega) (by omega)
  · exact inS_mk 0 40 (by decide) (by omega) (by omega)
  · exact inS_mk 0 1 (by decide) (by omega) (by omega)
  · rcases (by omega : j = 13 ∨ j = 14 ∨ j = 15) with rfl | rfl | rfl
    · exact inS_mk 0 6 (by decide) (by omega) (by omega)
    · exact inS_mk 0 6 (by decide) (by omega) (by omega)
    · exact inS_mk 0 6 (by decide) (by omega) (by omega)
  · omega
  · omega
  · exact inS_mk 0 4 (by decide) (by omega) (by omega)
  · exact inS_mk 0 121 (by decide) (by omega) (by omega)
theorem FPQ : FPJ WQ FIQ FJQ GIQ GJQ := fun b sl u Ic Ir Ic' Ir' Jc Jr Jc' Jr' h h1 h2 h3 h4 => WQ_cq h (fun j k q => h1 j k (inQ q)) (fun j k q => h2 j k (by
  unfold cpJ at q
  rcases q with ⟨rfl, rfl⟩ | ⟨rfl, a⟩ | ⟨rfl, a⟩ | ⟨rfl, a⟩
  · exact inS_mk 2 1 (by decide) (by omega) (by omega)
  · exact inS_mk 0 5 (by decide) (by omega) (by omega)
  · exact inS_mk 0 6 (by decide) (by omega) (by omega)
  · exact inS_mk 0 4 (by decide) (by omega) (by omega))) (fun k q => h3 k (by
  rcases q with a | ⟨a, b⟩
  · exact inT_mk 0 8 (by decide) (by omega) (by omega)
  · exact inT_mk 9 243 (by decide) (by omega) (by omega))) (fun k q => h4 k (inT_mk 0 15 (by decide) (by omega) (by omega)))
theorem FPX : FPJ RX FIX FJX GIX GJX := fun b sl u Ic Ir Ic' Ir' Jc Jr Jc' Jr' h h1 h2 h3 h4 => RX_cg h (fun o k q => h1 o k (by
  rcases q with ⟨rfl, rfl⟩ | ⟨rfl, rfl⟩ | ⟨rfl, rfl⟩ | ⟨rfl, rfl | rfl⟩ | ⟨a, c, d⟩
  · exact inS_mk 0 1 (by decide) (by omega) (by omega)
  · exact inS_mk 0 1 (by decide) (by omega) (by omega)
  · exact inS_mk 6 1 (by decide) (by omega) (by omega)
  · exact inS_mk 0 1 (by decide) (by omega) (by omega)
  · exact inS_mk 2 1 (by decide) (by omega) (by omega)
  · rcases (by omega : o = 17 ∨ o = 18 ∨ o = 19 ∨ o = 20) with rfl | rfl | rfl | rfl
    · exact inS_mk 0 60 (by decide) (by omega) (by omega)
    · exact inS_mk 0 60 (by decide) (by omega) (by omega)
    · exact inS_mk 0 60 (by decide) (by omega) (by omega)
    · exact inS_mk 0 60 (by decide) (by omega) (by omega))) (fun k q => h3 k (by
  rcases q with rfl | a
  · exact inT_mk 8 1 (by decide) (by omega) (by omega)
  · exact inT_mk 252 360 (by decide) (by omega) (by omega)))
set_option maxRecDepth 100000 in
theorem SLQ : slC FIQ FJQ GIQ GJQ = true := by decide +kernel
set_option maxRecDepth 100000 in
theorem SLX : slC FIX FJX GIX GJX = true := by decide +kernel
theorem WX {b sl u : Nat} {Ic Ir : tI} {Jc Jr : tJ} (h : WK b sl u Ic Jc Ir Jr) : RX b sl u Ic Jc Ir Jr := by
  obtain ⟨P, S, B, W, D, s, ⟨⟨g, -, -⟩, ⟨-, -, a3, -, a5, a6⟩, -⟩, -, -, -, -, -, -, hr⟩ := h
  rcases hr with ⟨r1, r2⟩ | ⟨r1, E, hE⟩
  · exact Or.inl ⟨r1, r2⟩
  · exact Or.inr ⟨r1, P, S, B, E, g, ⟨a3, a5, a6⟩, hE⟩
theorem b01 {a : Int32} : (if a = 0 then (0 : Int32) else 1) = 0 ∨ (if a = 0 then (0 : Int32) else 1) = 1 := by
  split
  · exact Or.inl rfl
  · exact Or.inr rfl
theorem FIQ_lt {j k : Nat} (h : inS FIQ j k) : 10 + j ≤ 34 := by
  obtain ⟨r, hr, rfl, -⟩ := h
  exact (by decide : ∀ r, r ∈ FIQ → 10 + r.1 ≤ 34) r hr
theorem FJQ_lt {j k : Nat} (h : inS FJQ j k) : 10 + j ≤ 34 := by
  obtain ⟨r, hr, rfl, -⟩ := h
  exact (by decide : ∀ r, r ∈ FJQ → 10 + r.1 ≤ 34) r hr
theorem FIX_lt {j k : Nat} (h : inS FIX j k) : 10 + j ≤ 34 := by
  obtain ⟨r, hr, rfl, -⟩ := h
  exact (by decide : ∀ r, r ∈ FIX → 10 + r.1 ≤ 34) r hr
theorem GIQ_lt {k : Nat} (h : inT GIQ k) : k < 2480 := by
  obtain ⟨r, hr, h1, h2⟩ := h
  have := (by decide : ∀ r, r ∈ GIQ → r.1 + r.2 ≤ 612) r hr
  omega
theorem GIX_lt {k : Nat} (h : inT GIX k) : k < 2480 := by
  obtain ⟨r, hr, h1, h2⟩ := h
  have := (by decide : ∀ r, r ∈ GIX → r.1 + r.2 ≤ 612) r hr
  omega
theorem GJQ_lt {k : Nat} (h : inT GJQ k) : k < 60 := by
  obtain ⟨r, hr, h1, h2⟩ := h
  have := (by decide : ∀ r, r ∈ GJQ → r.1 + r.2 ≤ 60) r hr
  omega
theorem nok_price {sc : List Int32} {B : xM} {I : tI} (hO : nOk (ktN sc) B I) : (0 ≤ (I 10 4).toInt ∧ (I 10 4).toInt ≤ 99) ∧ 0 ≤ (I 10 5).toInt ∧ (I 10 5).toInt ≤ 20 := ⟨hO.2.1 10 (10, 10) 4 rfl (by decide) rfl, hO.2.1 10 (10, 10) 5 rfl (by decide) rfl⟩
/-- a scene, both worlds and their runs -/
theorem scene_Q {K1 K2 I I1 : tI} {L1 L2 J J1 : tJ} (h : WQ 10 0 0 I J I1 J1) (q : (K1 = tup I 0 5 1 ∧ L1 = J ∧ K2 = tup I1 185 2 1 ∧ L2 = J1) ∨ (((∀ o k, 10 ≤ o → o ≤ 34 → K1 o k = I o k ∧ L1 o k = J o k) ∧ (∀ k, k < 2480 → K2 186 k = I1 186 k) ∧ ∀ k, k < 60 → L2 187 k = J1 187 k) ∨ WK 10 0 0 K1 L1 K2 L2)) : WQ 10 0 0 K1 L1 K2 L2 := by
  rcases q with ⟨e1, e2, e3, e4⟩ | ⟨q1, q2, q3⟩ | hW
  · exact FPQ _ _ _ _ _ _ _ _ _ _ _ h (fun j k _ => by rw [e1]; exact tup_ne (by omega)) (fun j k _ => by rw [e2]) (fun k _ => by rw [e3]; exact tup_ne (by omega)) (fun k _ => by rw [e4])
  · exact FPQ _ _ _ _ _ _ _ _ _ _ _ h (fun j k q => (q1 _ _ (by omega) (FIQ_lt q)).1) (fun j k q => (q1 _ _ (by omega) (FJQ_lt q)).2) (fun k q => q2 _ (by have := GIQ_lt q; omega)) (fun k q => q3 _ (by have := GJQ_lt q; omega))
  · exact WQ_of hW
theorem scene_X {K1 K2 I I1 : tI} {L1 L2 J J1 : tJ} (h : RX 10 0 0 I J I1 J1) (q : (K1 = tup I 0 5 1 ∧ L1 = J ∧ K2 = tup I1 185 2 1 ∧ L2 = J1) ∨ (((∀ o k, 10 ≤ o → o ≤ 34 → K1 o k = I o k ∧ L1 o k = J o k) ∧ (∀ k, k < 2480 → K2 186 k = I1 186 k) ∧ ∀ k, k < 60 → L2 187 k = J1 187 k) ∨ WK 10 0 0 K1 L1 K2 L2)) : RX 10 0 0 K1 L1 K2 L2 := by
  rcases q with ⟨e1, e2, e3, e4⟩ | ⟨q1, q2, q3⟩ | hW
  · exact FPX _ _ _ _ _ _ _ _ _ _ _ h (fun j k _ => by rw [e1]; exact tup_ne (by omega)) (fun j k _ => by rw [e2]) (fun k _ => by rw [e3]; exact tup_ne (by omega)) (fun k _ => by rw [e4])
  · exact FPX _ _ _ _ _ _ _ _ _ _ _ h (fun j k q => (q1 _ _ (by omega) (FIX_lt q)).1) (fun j k q => by obtain ⟨r, hr, -⟩ := q; cases hr) (fun k q => q2 _ (by have := GIX_lt q; omega)) (fun k q => by obtain ⟨r, hr, -⟩ := q; cases hr)
  · exact WX hW
