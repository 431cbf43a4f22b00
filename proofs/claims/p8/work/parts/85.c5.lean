/-! THE TABLE WITH ITS CONDITIONS; WHAT IS KEPT -/
def scv (sc : List Int32) (k : Nat) : Int32 := if k = 4000 then Int32.ofNat sc.length else sc.getD k 0
def nScr (sc : List Int32) (I : tI) : Prop := ∀ k, (k < sc.length ∨ k = 4000) → I 999 k = scv sc k
def ktN (sc : List Int32) : nTb := ((ktK, ktB), ngc, fun I => nCnd ngA I ∧ nScr sc I)
def ngAok : Bool := ngA.all (fun c => (List.range (c.2.1.2.1 - c.2.1.1 + 1)).all (fun i => !Nat.beq (i % c.2.1.2.2.2) 0 || (!ngc c.1.1 (c.2.1.1 + i) && !ngc c.1.2 (c.2.1.1 + i + c.2.1.2.2.1))))
set_option maxRecDepth 100000 in
theorem ngAok_ok : ngAok = true := by decide +kernel
theorem ngc_zone {c : nCd} (hc : c ∈ ngA) {k : Nat} (h1 : c.2.1.1 ≤ k) (h2 : k ≤ c.2.1.2.1) (h3 : (k - c.2.1.1) % c.2.1.2.2.2 = 0) : ngc c.1.1 k = false ∧ ngc c.1.2 (k + c.2.1.2.2.1) = false := by
  have a := List.all_eq_true.mp (List.all_eq_true.mp ngAok_ok c hc) (k - c.2.1.1) (List.mem_range.mpr (by omega))
  rw [h3, Nat.beq_refl, show c.2.1.1 + (k - c.2.1.1) = k by omega] at a
  simp only [Bool.not_true, Bool.false_or, Bool.and_eq_true, Bool.not_eq_true'] at a
  exact a
theorem nCnd_same {I I' : tI} (h : nCnd ngA I) (he : ∀ o k, ngc o k = false → I' o k = I o k) : nCnd ngA I' := fun c hc k h1 h2 h3 l1 l2 => by
  obtain ⟨z1, z2⟩ := ngc_zone hc h1 h2 h3
  rw [he _ _ z1] at l1 l2
  rw [he _ _ z2]
  exact h c hc k h1 h2 h3 l1 l2
theorem ngc_999 (k : Nat) : ngc 999 k = false := rfl
theorem ktN_cl {sc : List Int32} : nCl (ktN sc) := by
  refine ⟨fun I o k v h hC => ⟨nCnd_same hC.1 (fun o' k' h' => tup_ne (fun e => ?_)), fun k' hk' => ?_⟩, rfl⟩
  · rw [e.1, e.2] at h'
    have h : ngc o k = true := h
    rw [h] at h'
    cases h'
  · rw [tup_ne (fun e => ?_)]
    · exact hC.2 k' hk'
    · have h : ngc o k = true := h
      rw [← e.1, ← e.2, ngc_999] at h
      cases h
theorem ktN_ht {sc : List Int32} (I : tI) : (ktN sc).2.2 I ↔ nCnd ngA I ∧ nScr sc I := Iff.rfl
theorem ktN_hG {sc : List Int32} (I : tI) (o k : Nat) (v : Int32) (h : (ktN sc).1.1 o ≠ none) (hs : nScr sc I) : nScr sc (tup I o k v) := fun k' hk' => by
  rw [tup_ne (fun e => ?_)]
  · exact hs k' hk'
  · rw [← e.1] at h
    exact h rfl
def nSubA (l : List nCd) : Prop := ∀ c ∈ l, c ∈ ngA
theorem nSubA_c {b : Bool} {x y : List nCd} (hx : nSubA x) (hy : nSubA y) : nSubA (bif b then x else y) := by
  cases b
  · exact hy
  · exact hx
theorem nSubA_n : nSubA [] := fun c hc => by cases hc
theorem nSubA_0 : nSubA ng0 := fun c hc => List.mem_append_left _ hc
theorem nSubA_1 : nSubA ng1 := fun c hc => List.mem_append_right _ (List.mem_append_left _ hc)
theorem nSubA_2 : nSubA ng2 := fun c hc => List.mem_append_right _ (List.mem_append_right _ (List.mem_append_left _ hc))
theorem nSubA_3 : nSubA ng3 := fun c hc => List.mem_append_right _ (List.mem_append_right _ (List.mem_append_right _ hc))
theorem ktR_sub (y pc : Nat) : nSubA (ktR y pc) := by
  unfold ktR
  repeat' (first | exact nSubA_n | exact nSubA_0 | exact nSubA_1 | exact nSubA_2 | exact nSubA_3 | apply nSubA_c)
theorem nI_gen {sc : List Int32} {ml : nMl} {Fr : kQ} {B : xM} {I I' : tI} {J : tJ} (hF : nFr ml Fr) (hI : kI (ktT ml) (nQ (ktN sc) Fr) B I J) (hb : ∀ o k, I' o k = I o k ∨ (nmod ml o k = true ∧ o ≠ 999 ∧ (ktB o k).2.1 ≤ (I' o k).toInt ∧ (I' o k).toInt ≤ (ktB o k).2.2)) (hC : nCnd ngA I') : kI (ktT ml) (nQ (ktN sc) Fr) B I' J := by
  refine ⟨fun o kn k h1 h2 h3 => ?_, ⟨⟨hC, fun k hk => ?_⟩, hF _ _ _ _ _ _ hI.2.1.2 ⟨fun o k hm => ⟨?_, rfl⟩, fun _ => rfl, rfl, rfl⟩⟩, hI.2.2⟩
  · rcases hb o k with e | e
    · rw [e]
      exact hI.1 o kn k h1 h2 h3
    · exact e.2.2
  · rcases hb 999 k with e | e
    · rw [e]
      exact hI.2.1.1.2 k hk
    · exact absurd rfl e.2.1
  · rcases hb o k with e | e
    · exact e
    · rw [e.1] at hm
      cases hm
theorem bif_n {α : Type} {c : Bool} {a : Option α} {x : α} (h : (bif c then a else none) = some x) : c = true ∧ a = some x := by
  cases c
  · cases h
  · exact ⟨rfl, h⟩
theorem mgV_ok {x : kV} {t o : Nat} (h : mgV x t o = true) : x.1 = t ∧ x.2.1 = o := by
  unfold mgV at h
  rw [Bool.and_eq_true] at h
  exact ⟨Nat.eq_of_beq_eq_true h.1, Nat.eq_of_beq_eq_true h.2⟩
theorem mgE_ok {x y : kV} (h : mgE x y = true) : x = y := by
  unfold mgE at h
  rw [Bool.and_eq_true, Bool.and_eq_true, decide_eq_true_eq] at h
  exact Prod.ext (Nat.eq_of_beq_eq_true h.1) (Prod.ext (Nat.eq_of_beq_eq_true h.2.1) h.2.2)
section TWS
variable {sc : List Int32} {r : xR} {pc : Nat} {L : xL} {st : List Value} {M : xM} {Q : Option Value → xM → Prop}
theorem tw_al {i : Fin 4} {o a b : Nat} {z : Int} (he : xat r.1 pc = some (.aload_n i, a, b, z)) (h : xfind L i = some (.ref o)) (kk : sw sc r (pc + 1) L (.ref o :: st) M Q) : sw sc r pc L st M Q := by
  refine sw_0 he rfl ?_ kk
  show xpA 1 pc i L st M = _
  unfold xpA
  rw [h]
theorem tw_il {i : Fin 4} {a b : Nat} {z : Int} {v : Int32} (he : xat r.1 pc = some (.iload_n i, a, b, z)) (h : xfind L i = some (.int v)) (kk : sw sc r (pc + 1) L (.int v :: st) M Q) : sw sc r pc L st M Q := by
  refine sw_0 he rfl ?_ kk
  show xpI 1 pc i L st M = _
  unfold xpI
  rw [h]
theorem tw_il2 {i a b : Nat} {z : Int} {v : Int32} (he : xat r.1 pc = some (.iload i, a, b, z)) (h : xfind L i = some (.int v)) (kk : sw sc r (pc + 2) L (.int v :: st) M Q) : sw sc r pc L st M Q := by
  refine sw_0 he rfl ?_ kk
  show xpI 2 pc i L st M = _
  unfold xpI
  rw [h]
end TWS
theorem kv_ref {ρ : List Int} {v : kV} {w : Value} {o : Nat} (h : kv ρ v w) (hm : mgV v 2 o = true) : w = .ref o := by
  obtain ⟨h1, h2⟩ := mgV_ok hm
  obtain ⟨t, i, c⟩ := v
  dsimp only at h1 h2
  subst h1 h2
  exact h
theorem kv_int {ρ : List Int} {v : kV} {w : Value} (h : kv ρ v w) (hm : Nat.beq v.1 0 = true) : ∃ x : Int32, w = .int x ∧ knum ρ v x.toInt := by
  obtain ⟨t, i, c⟩ := v
  have e := Nat.eq_of_beq_eq_true hm
  dsimp only at e
  subst e
  exact h
theorem knw_num {ρ : List Int} {v : kV} {x y : Int} (h : knum ρ v x) (h' : knum ρ v y) : x = y := by
  have := knum_eq rfl h h'
  omega
theorem i32_eq {x y : Int32} (h : x.toInt = y.toInt) : x = y := Int32.toInt_inj.mp h
/-- two cells that are written: bounds, conditions -/
theorem nI_two {sc : List Int32} {ml : nMl} {Fr : kQ} {B : xM} {I : tI} {J : tJ} {ρ : List Int} {E : kE} {O : kO} {D : List kF} {o1 o2 i k1 k2 : Nat} {c1 c2 : Int} {p1 p2 : Int32} {b1 b2 w1 w2 : Int × Int} (hF : nFr ml Fr) (hI : kI (ktT ml) (nQ (ktN sc) Fr) B I J) (h : kin ρ E) (hO : kov ρ I O) (hD : kfs ρ D) (n1 : knum ρ (0, i, c1) (k1 : Int)) (n2 : knum ρ (0, i, c2) (k2 : Int)) (hne : ¬ (o1 = o2 ∧ k1 = k2)) (x1 : b1.1 ≤ (k1 : Int) ∧ (k1 : Int) ≤ b1.2) (x2 : b2.1 ≤ (k2 : Int) ∧ (k2 : Int) ≤ b2.2) (y1 : w1.1 ≤ p1.toInt ∧ p1.toInt ≤ w1.2) (y2 : w2.1 ≤ p2.toInt ∧ p2.toInt ≤ w2.2) (m1 : nmod ml o1 k1 = true) (m2 : nmod ml o2 k2 = true) (q1 : o1 ≠ 999) (q2 : o2 ≠ 999) (t1 : (ktB o1 k1).2.1 ≤ p1.toInt ∧ p1.toInt ≤ (ktB o1 k1).2.2) (t2 : (ktB o2 k2).2.1 ≤ p2.toInt ∧ p2.toInt ≤ (ktB o2 k2).2.2) (hc : nmchk E O (kkill E o2 i c2 b2.1 b2.2 (kkill E o1 i c1 b1.1 b1.2 O)) D ngA [((o1, i, c1), b1, w1), ((o2, i, c2), b2, w2)] = true) : kI (ktT ml) (nQ (ktN sc) Fr) B (tup (tup I o1 k1 p1) o2 k2 p2) J ∧ kov ρ (tup (tup I o1 k1 p1) o2 k2 p2) (kkill E o2 i c2 b2.1 b2.2 (kkill E o1 i c1 b1.1 b1.2 O)) := by
  have hO2 : kov ρ (tup (tup I o1 k1 p1) o2 k2 p2) (kkill E o2 i c2 b2.1 b2.2 (kkill E o1 i c1 b1.1 b1.2 O)) := kkill_ok h n2 x2.1 x2.2 (kkill_ok h n1 x1.1 x1.2 hO)
  have at1 : tup (tup I o1 k1 p1) o2 k2 p2 o1 k1 = p1 := by rw [tup_ne (fun e => hne e), tup_eq]
  refine ⟨nI_gen hF hI (fun o k => ?_) (nmchk_ok h hO hO2 hD hI.2.1.1.1 (fun q hq k hk => ?_) (fun o k => ?_) hc), hO2⟩
  · by_cases e2 : o = o2 ∧ k = k2
    · obtain ⟨rfl, rfl⟩ := e2
      rw [tup_eq]
      exact Or.inr ⟨m2, q2, t2⟩
    · rw [tup_ne e2]
      by_cases e1 : o = o1 ∧ k = k1
      · obtain ⟨rfl, rfl⟩ := e1
        rw [tup_eq]
        exact Or.inr ⟨m1, q1, t1⟩
      · exact Or.inl (tup_ne e1)
  · rcases List.mem_cons.mp hq with rfl | hq
    · dsimp only at hk ⊢
      have ek : k = k1 := by
        have := knum_eq (x := (0, i, c1)) (y := (0, i, c1)) rfl hk n1
        omega
      subst ek
      rw [at1]
      exact ⟨x1, y1⟩
    · rw [List.mem_singleton] at hq
      subst hq
      dsimp only at hk ⊢
      have ek : k = k2 := by
        have := knum_eq (x := (0, i, c2)) (y := (0, i, c2)) rfl hk n2
        omega
      subst ek
      rw [tup_eq]
      exact ⟨x2, y2⟩
  · by_cases e2 : o = o2 ∧ k = k2
    · obtain ⟨rfl, rfl⟩ := e2
      exact Or.inr ⟨_, List.mem_cons_of_mem _ List.mem_cons_self, rfl, n2⟩
    · rw [tup_ne e2]
      by_cases e1 : o = o1 ∧ k = k1
      · obtain ⟨rfl, rfl⟩ := e1
        exact Or.inr ⟨_, List.mem_cons_self, rfl, n1⟩
      · exact Or.inl (tup_ne e1)
theorem nsub_2 {a b : Nat × Nat × Nat} {ml : nMl} {o k : Nat} (h : nsub [a, b] ml = true) (hk : nmod [a, b] o k = true) : nmod ml o k = true := by
  cases hm : nmod ml o k with
  | true => rfl
  | false => rw [nsub_ok h hm] at hk; cases hk
theorem nsub_in {l ml : nMl} {o k : Nat} (h : nsub l ml = true) (hk : nmod l o k = true) : nmod ml o k = true := by
  cases hm : nmod ml o k with
  | true => rfl
  | false => rw [nsub_ok h hm] at hk; cases hk
theorem nmod_1 {o a b k : Nat} {l : nMl} (h1 : a ≤ k) (h2 : k ≤ b) : nmod ((o, a, b) :: l) o k = true := by
  unfold nmod
  rw [List.any_cons]
  simp only [Nat.beq_refl, Bool.true_and]
  rw [Nat.ble_eq.mpr h1, Nat.ble_eq.mpr h2]
  rfl
theorem nmod_2 {q : Nat × Nat × Nat} {o k : Nat} {l : nMl} (h : nmod l o k = true) : nmod (q :: l) o k = true := by
  unfold nmod at h ⊢
  rw [List.any_cons, h, Bool.or_true]
