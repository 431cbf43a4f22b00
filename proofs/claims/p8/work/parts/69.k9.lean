/-! A CONTRACT BY THE CHECK -/
def kinit : Nat → List (Nat × Int × Int) → kE × List kV
  | _, [] => ([], [])
  | n, c :: C => bif Nat.beq c.1 2 || Nat.beq c.1 3 then ((kinit n C).1, (c.1, c.2.1.toNat, 0) :: (kinit n C).2) else (c.2 :: (kinit (n + 1) C).1, (c.1, n, 0) :: (kinit (n + 1) C).2)
theorem kinit_ok : ∀ {C : List (Nat × Int × Int)} {as : List Value} {ρ : List Int} {E : kE}, kin ρ E → kvcs C as → ∃ τ, kin (ρ ++ τ) (E ++ (kinit ρ.length C).1) ∧ kvs (ρ ++ τ) (kinit ρ.length C).2 as
  | [], _, ρ, E, h, hc => ⟨[], by simpa [kinit] using h, hc⟩
  | (t, lo, hi) :: C, _, ρ, E, h, ⟨v, S, e, h1, h2⟩ => by
    subst e
    have num : ∀ (z : Int), (lo ≤ z ∧ z ≤ hi) → (Nat.beq t 2 || Nat.beq t 3) = false → (∀ ρ' : List Int, xnth ρ' ρ.length = some z → kv ρ' (t, ρ.length, 0) v) → ∃ τ, kin (ρ ++ τ) (E ++ (kinit ρ.length ((t, lo, hi) :: C)).1) ∧ kvs (ρ ++ τ) (kinit ρ.length ((t, lo, hi) :: C)).2 (v :: S) := fun z hz ht hv => by
      obtain ⟨τ, g1, g2⟩ := kinit_ok (C := C) (kin_app (b := (lo, hi)) h hz.1 hz.2) h2
      rw [show (ρ ++ [z]).length = ρ.length + 1 by simp] at g1 g2
      refine ⟨z :: τ, ?_, ?_⟩
      · simp only [kinit, ht, cond_false]
        simpa [List.append_assoc] using g1
      · simp only [kinit, ht, cond_false]
        refine ⟨v, S, rfl, hv _ (xnth_app ρ τ z), ?_⟩
        simpa [List.append_assoc] using g2
    match t, h1, num with
    | 0, ⟨x, e1, e2⟩, num => exact num x.toInt e2 rfl (fun ρ' hρ => ⟨x, e1, x.toInt, hρ, by simp⟩)
    | 1, ⟨x, e1, e2⟩, num => exact num x.toInt e2 rfl (fun ρ' hρ => ⟨x, e1, x.toInt, hρ, by simp⟩)
    | 2, ⟨o, e1, e2⟩, _ =>
      obtain ⟨τ, g1, g2⟩ := kinit_ok (C := C) h h2
      refine ⟨τ, g1, v, S, rfl, ?_, g2⟩
      have e3 : lo.toNat = o := by have : (o : Int) = lo := e2; omega
      show v = .ref lo.toNat
      rw [e1, e3]
    | 3, ⟨o, e1, e2⟩, _ =>
      obtain ⟨τ, g1, g2⟩ := kinit_ok (C := C) h h2
      refine ⟨τ, g1, v, S, rfl, ?_, g2⟩
      have e3 : lo.toNat = o := by have : (o : Int) = lo := e2; omega
      show v = .retAddr lo.toNat
      rw [e1, e3]
    | t + 4, h1, _ => exact h1.elim
def kretok (c : Option (Nat × Int × Int)) (q : kR) : Bool := match c with
  | none => (match q.2.1 with
    | none => true
    | some _ => false)
  | some t => (match q.2.1 with
    | none => false
    | some v => Nat.ble t.1 1 && kfit1 q.1 v t)
def kcheck (T : kT) (K : List kC) (Cw : Nat → Nat → Option (List kWs × Nat × Bool)) (f : Nat) (c : kC) : Bool := match xmeth c.1 with
  | some r => (match kexec T K Cw f [] c.1 r 0 ((0, 0) :: (kinit 1 c.2.1).1, kargs 0 (kinit 1 c.2.1).2, [], []) with
    | some outs => outs.all (kretok c.2.2)
    | none => false)
  | none => false
theorem kcheck_ok {T : kT} {C : kQ} {K : List kC} {Cw : Nat → Nat → Option (List kWs × Nat × Bool)} {sc : List Int32} {f : Nat} {c : kC} (hK : ∀ c ∈ K, kCon T C sc c) (h : kcheck T K Cw f c = true) : kCon T C sc c := by
  intro r as B I J hr hc hB hI
  unfold kcheck at h
  rw [hr] at h
  dsimp only at h
  split at h
  · rename_i outs ho
    have h0 : kin [0] [((0 : Int), (0 : Int))] := ⟨⟨Int.le_refl _, Int.le_refl _⟩, trivial⟩
    obtain ⟨τ, g1, g2⟩ := kinit_ok h0 hc
    refine kexec_ok hK f [] c.1 r 0 _ outs ho [] _ (fun v M' hp => ?_) (fun a ha => by cases ha) (0 :: τ) (lv_args 0 as) [] B I J ⟨g1, kargs_ok 0 g2, rfl, fun q hq => by cases hq⟩ hB hI
    obtain ⟨q, hq, σ, B', I', J', e, hB', hI', k1, k2, k3⟩ := hp
    refine ⟨B', I', J', e, hB', hI', ?_⟩
    have hh := List.all_eq_true.mp h q hq
    obtain ⟨qE, qv, qO⟩ := q
    obtain ⟨cy, ca, cr⟩ := c
    unfold kretok at hh
    dsimp only at hh ⊢
    cases cr with
    | none =>
      cases qv with
      | none => exact k3
      | some u => cases hh
    | some t =>
      cases qv with
      | none => cases hh
      | some u =>
        obtain ⟨w, e2, hw⟩ := k3
        dsimp only at hh
        rw [Bool.and_eq_true] at hh
        exact ⟨w, e2, kfit1_ok k1 hw hh.2, Nat.le_of_ble_eq_true hh.1⟩
  · cases h
