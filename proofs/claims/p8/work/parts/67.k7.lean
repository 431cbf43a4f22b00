/-! ALL WAYS OF A METHOD -/
def kpop : Nat → List kV → List kV → Option (List kV × List kV)
  | 0, acc, S => some (acc, S)
  | n + 1, acc, v :: S => kpop n (v :: acc) S
  | _ + 1, _, [] => none
def kargs : Nat → List kV → kL
  | _, [] => []
  | i, v :: S => (i, v) :: kargs (i + kct v) S
/-- a contract: method; of each argument (0, lo, hi) an int, (1, lo, hi) a long, (2, object, 0); of its answer the same, or nothing -/
abbrev kC : Type := Nat × List (Nat × Int × Int) × Option (Nat × Int × Int)
def kfit1 (E : kE) (v : kV) (c : Nat × Int × Int) : Bool := Nat.beq v.1 c.1 && (bif Nat.beq v.1 2 || Nat.beq v.1 3 then decide ((v.2.1 : Int) = c.2.1) else (Nat.ble v.1 1 && (match kiv E v with
  | some b => decide (c.2.1 ≤ b.1) && decide (b.2 ≤ c.2.2)
  | none => false)))
def kfit (E : kE) : List kV → List (Nat × Int × Int) → Bool
  | [], [] => true
  | v :: S, c :: C => kfit1 E v c && kfit E S C
  | _, _ => false
/-- a value of such bounds -/
def kvc (c : Nat × Int × Int) (w : Value) : Prop := match c.1 with
  | 0 => ∃ x : Int32, w = .int x ∧ c.2.1 ≤ x.toInt ∧ x.toInt ≤ c.2.2
  | 1 => ∃ x : Int64, w = .long x ∧ c.2.1 ≤ x.toInt ∧ x.toInt ≤ c.2.2
  | 2 => ∃ o : Nat, w = .ref o ∧ (o : Int) = c.2.1
  | 3 => ∃ o : Nat, w = .retAddr o ∧ (o : Int) = c.2.1
  | _ => False
def kvcs : List (Nat × Int × Int) → List Value → Prop
  | [], w => w = []
  | c :: C, w => ∃ v S, w = v :: S ∧ kvc c v ∧ kvcs C S
def kvo (c : Option (Nat × Int × Int)) (w : Option Value) : Prop := match c with
  | none => w = none
  | some c => ∃ v, w = some v ∧ kvc c v ∧ c.1 ≤ 1
def kCon (T : kT) (C : kQ) (sc : List Int32) (c : kC) : Prop := ∀ r as B I J, xmeth c.1 = some r → kvcs c.2.1 as → kB T B → kI T C B I J → sw sc r 0 (lv_args 0 as) [] (tMem B I J) (fun v M' => ∃ B' I' J', M' = tMem B' I' J' ∧ kB T B' ∧ kI T C B' I' J' ∧ kvo c.2.2 v)
def kfindC (E : kE) (y : Nat) (as : List kV) : List kC → Option kC
  | [] => none
  | c :: K => bif Nat.beq c.1 y && kfit E as c.2.1 then some c else kfindC E y as K
theorem kfindC_ok {E : kE} {y : Nat} {as : List kV} : ∀ {K : List kC} {c : kC}, kfindC E y as K = some c → c ∈ K ∧ c.1 = y ∧ kfit E as c.2.1 = true
  | [], _, h => by cases h
  | d :: K, c, h => by
    simp only [kfindC] at h
    cases hb : (Nat.beq d.1 y && kfit E as d.2.1) with
    | true =>
      rw [hb] at h
      cases h
      rw [Bool.and_eq_true] at hb
      exact ⟨List.mem_cons_self, Nat.eq_of_beq_eq_true hb.1, hb.2⟩
    | false =>
      rw [hb] at h
      obtain ⟨h1, h2⟩ := kfindC_ok h
      exact ⟨List.mem_cons_of_mem _ h1, h2⟩
theorem kfit1_ok {ρ : List Int} {E : kE} {v : kV} {c : Nat × Int × Int} {w : Value} (h : kin ρ E) (hv : kv ρ v w) (hf : kfit1 E v c = true) : kvc c w := by
  obtain ⟨t, i, d⟩ := v
  obtain ⟨tc, lo, hi⟩ := c
  unfold kfit1 at hf
  rw [Bool.and_eq_true] at hf
  obtain ⟨f1, f2⟩ := hf
  have e := Nat.eq_of_beq_eq_true f1
  dsimp only at e f2
  subst e
  have bd : ∀ x, Nat.ble t 1 = true → knum ρ (t, i, d) x → (bif Nat.beq t 2 || Nat.beq t 3 then decide ((i : Int) = lo) else (Nat.ble t 1 && (match kiv E (t, i, d) with
      | some b => decide (lo ≤ b.1) && decide (b.2 ≤ hi)
      | none => false))) = true → lo ≤ x ∧ x ≤ hi := fun x ht hx hq => by
    have h2 : (Nat.beq t 2 || Nat.beq t 3) = false := by
      match t, ht with
      | 0, _ => rfl
      | 1, _ => rfl
      | t + 2, ht => cases ht
    rw [h2] at hq
    simp only [cond_false, Bool.and_eq_true] at hq
    obtain ⟨b, g1, g2, g3⟩ := kiv_ok h hx
    rw [g1] at hq
    simp only [Bool.and_eq_true, decide_eq_true_eq] at hq
    omega
  match t, hv, f2, bd with
  | 0, ⟨x, h1, h2⟩, f2, bd => exact ⟨x, h1, bd _ rfl h2 f2⟩
  | 1, ⟨x, h1, h2⟩, f2, bd => exact ⟨x, h1, bd _ rfl h2 f2⟩
  | 2, hv, f2, _ => exact ⟨i, hv, of_decide_eq_true f2⟩
  | 3, hv, f2, _ => exact ⟨i, hv, of_decide_eq_true f2⟩
  | t + 4, _, f2, _ => exact absurd f2 (by
      have : (Nat.beq (t + 4) 2 || Nat.beq (t + 4) 3) = false := rfl
      rw [this]
      simp [Nat.ble])
theorem kfit_ok {ρ : List Int} {E : kE} (h : kin ρ E) : ∀ {S : List kV} {C : List (Nat × Int × Int)} {w : List Value}, kvs ρ S w → kfit E S C = true → kvcs C w
  | [], [], _, hs, _ => hs
  | v :: S, c :: C, _, ⟨v', S', h1, h2, h3⟩, hf => by
    simp only [kfit, Bool.and_eq_true] at hf
    exact ⟨v', S', h1, kfit1_ok h h2 hf.1, kfit_ok h h3 hf.2⟩
  | [], _ :: _, _, _, hf => by cases hf
  | _ :: _, [], _, _, hf => by cases hf
theorem kpop_ok {ρ : List Int} : ∀ (n : Nat) {acc S as rest : List kV} {acc' S' : List Value}, kpop n acc S = some (as, rest) → kvs ρ acc acc' → kvs ρ S S' → ∃ as' rest', xpop n acc' S' = some (as', rest') ∧ kvs ρ as as' ∧ kvs ρ rest rest'
  | 0, acc, S, as, rest, acc', S', h, h1, h2 => by
    simp only [kpop, Option.some.injEq, Prod.mk.injEq] at h
    obtain ⟨rfl, rfl⟩ := h
    exact ⟨acc', S', rfl, h1, h2⟩
  | n + 1, acc, v :: S, as, rest, acc', _, h, h1, ⟨v', S', e, h2, h3⟩ => by
    subst e
    simp only [kpop] at h
    exact kpop_ok n h ⟨v', acc', rfl, h2, h1⟩ h3
  | n + 1, _, [], _, _, _, _, h, _, _ => by cases h
theorem kargs_ok {ρ : List Int} : ∀ {S : List kV} {w : List Value} (i : Nat), kvs ρ S w → ∀ j v, kfind (kargs i S) j = some v → ∃ u, xfind (lv_args i w) j = some u ∧ kv ρ v u
  | [], _, _, _, _, _, h => by cases h
  | v0 :: S, _, i, ⟨v', S', h1, h2, h3⟩, j, v, h => by
    subst h1
    simp only [kargs, kfind] at h
    simp only [lv_args, xfind]
    cases hb : Nat.beq i j with
    | true => rw [hb] at h; cases h; exact ⟨v', rfl, h2⟩
    | false =>
      rw [hb] at h
      rw [← xcat_eq, kct_ok h2, show (if kct v0 = 2 then i + 2 else i + 1) = i + kct v0 by unfold kct; cases Nat.beq v0.1 1 <;> rfl]
      exact kargs_ok (i + kct v0) h3 j v h
/-- the receiver of a call -/
def krecv (T : kT) (e : xE) (as : List kV) : Bool := match e.1 with
  | .invokestatic _ => true
  | .invokevirtual _ => (match as with
    | v :: _ => Nat.beq v.1 2 && (match T.k v.2.1 with
      | some cm => Nat.beq cm.1 e.2.2.2.toNat
      | none => false)
    | [] => false)
  | _ => false
theorem krecv_ok {T : kT} {ρ : List Int} {e : xE} {as : List kV} {as' : List Value} {B : xM} {I : tI} {J : tJ} (hB : kB T B) (hs : kvs ρ as as') (h : krecv T e as = true) : xrecv e as' (tMem B I J) = true := by
  obtain ⟨ins, ea, eb, ez⟩ := e
  cases ins <;> first | (cases h; done) | rfl | skip
  case invokevirtual i =>
    simp only [krecv] at h
    split at h
    · rename_i v S
      obtain ⟨v', S', rfl, h2, h3⟩ := hs
      rw [Bool.and_eq_true] at h
      obtain ⟨t, o, d⟩ := v
      have e := Nat.eq_of_beq_eq_true h.1
      dsimp only at e
      subst e
      have e2 : v' = .ref o := h2
      subst e2
      have h4 := h.2
      dsimp only at h4
      split at h4
      · rename_i cm hcm
        obtain ⟨sl, g1, -⟩ := hB o cm hcm
        rw [Nat.eq_of_beq_eq_true h4] at g1
        show (match xarr (tMem B I J) o ez.toNat with
          | some _ => true
          | none => false) = true
        rw [tarr g1]
      · cases h4
    · cases h
