/-! A METHOD RUN BY THE CHECK: all its ends, loops by what is known at their heads -/
abbrev kR : Type := kE × Option kV × kO
/-- what is known at a loop's head: (0, local) an int, (1, local) a long, (2, object, slot) an int of the memory; its bounds -/
abbrev kWs : Type := (Nat × Nat × Nat) × Int × Int
/-- an open loop: place, ids ahead of it, what stays in the locals, what is known, which of these goes up (or down) -/
abbrev kA : Type := Nat × Nat × kL × List kWs × Nat × Bool
def ktag (o : Option kV) (t : Nat) : Option kV := match o with
  | some v => bif Nat.beq v.1 t then some v else none
  | none => none
theorem ktag_ok {o : Option kV} {t : Nat} {v : kV} (h : ktag o t = some v) : o = some v ∧ v.1 = t := by
  unfold ktag at h
  split at h
  · rename_i u
    cases hb : Nat.beq u.1 t with
    | false => rw [hb] at h; cases h
    | true => rw [hb] at h; cases h; exact ⟨rfl, Nat.eq_of_beq_eq_true hb⟩
  · cases h
def ksrc (s : kS) (w : Nat × Nat × Nat) : Option kV := match w.1 with
  | 0 => ktag (kfind s.2.1 w.2.1) 0
  | 1 => ktag (kfind s.2.1 w.2.1) 1
  | 2 => ktag (kol s.2.2.2 w.2.1 0 (w.2.2 : Int)) 0
  | _ => none
def kwb (T : kT) (s : kS) (w : kWs) : Bool := match ksrc s w.1 with
  | some v => (match kiv s.1 v with
    | some b => decide (w.2.1 ≤ b.1) && decide (b.2 ≤ w.2.2)
    | none => false)
  | none => Nat.beq w.1.1 2 && ((match T.k w.1.2.1 with
    | some cm => Nat.blt w.1.2.2 cm.2
    | none => false) && (Nat.beq (T.b w.1.2.1 w.1.2.2).1 0 && (decide (w.2.1 ≤ (T.b w.1.2.1 w.1.2.2).2.1) && decide ((T.b w.1.2.1 w.1.2.2).2.2 ≤ w.2.2))))
/-- the number that is meant, in a state -/
def knw (L : xL) (I : tI) (w : Nat × Nat × Nat) (z : Int) : Prop := match w.1 with
  | 0 => ∃ x : Int32, xfind L w.2.1 = some (.int x) ∧ z = x.toInt
  | 1 => ∃ x : Int64, xfind L w.2.1 = some (.long x) ∧ z = x.toInt
  | 2 => z = (I w.2.1 w.2.2).toInt
  | _ => False
theorem ksrc_ok {ρ : List Int} {s : kS} {L : xL} {st : List Value} {I : tI} {w : Nat × Nat × Nat} {v : kV} (hz : kz s.1 = true) (h : kst ρ s L st I) (hv : ksrc s w = some v) : ∃ z, knw L I w z ∧ knum ρ v z := by
  obtain ⟨h1, h2, h3, h4⟩ := h
  obtain ⟨t, a, b⟩ := w
  match t, hv with
  | 0, hv =>
    obtain ⟨hu, tv⟩ := ktag_ok hv
    obtain ⟨x, g1, g2⟩ := h2 _ _ hu
    obtain ⟨t, i, c⟩ := v
    subst tv
    obtain ⟨y, rfl, hy⟩ := g2
    exact ⟨_, ⟨y, g1, rfl⟩, hy⟩
  | 1, hv =>
    obtain ⟨hu, tv⟩ := ktag_ok hv
    obtain ⟨x, g1, g2⟩ := h2 _ _ hu
    obtain ⟨t, i, c⟩ := v
    subst tv
    obtain ⟨y, rfl, hy⟩ := g2
    exact ⟨_, ⟨y, g1, rfl⟩, hy⟩
  | 2, hv =>
    obtain ⟨hu, tv⟩ := ktag_ok hv
    exact ⟨_, rfl, kol_ok h4 hu (kz_ok h1 hz (b : Int) 0)⟩
  | _ + 3, hv => cases hv
theorem kwb_ok {T : kT} {C : kQ} {ρ : List Int} {s : kS} {L : xL} {st : List Value} {B : xM} {I : tI} {J : tJ} {w : kWs} (hz : kz s.1 = true) (h : kst ρ s L st I) (hI : kI T C B I J) (hw : kwb T s w = true) : ∃ z, knw L I w.1 z ∧ w.2.1 ≤ z ∧ z ≤ w.2.2 := by
  unfold kwb at hw
  split at hw
  · rename_i v hv
    obtain ⟨z, g1, g2⟩ := ksrc_ok hz h hv
    split at hw
    · rename_i b hb
      have := kiv_in h.1 g2 hb
      simp only [Bool.and_eq_true, decide_eq_true_eq] at hw
      exact ⟨z, g1, by omega, by omega⟩
    · cases hw
  · obtain ⟨⟨t, a, b⟩, lo, hi⟩ := w
    dsimp only at hw
    rw [Bool.and_eq_true] at hw
    obtain ⟨w1, w2⟩ := hw
    have e := Nat.eq_of_beq_eq_true w1
    subst e
    rw [Bool.and_eq_true] at w2
    obtain ⟨w2, w3⟩ := w2
    split at w2
    · rename_i cm hcm
      simp only [Bool.and_eq_true, decide_eq_true_eq] at w3
      have := hI.1 a cm b hcm (Nat.blt_eq.mp w2) (Nat.eq_of_beq_eq_true w3.1)
      exact ⟨_, rfl, by dsimp only; omega, by dsimp only; omega⟩
    · cases w2
def kwL (n : Nat) : List kWs → kL
  | [] => []
  | w :: W => bif Nat.ble w.1.1 1 then (w.1.2.1, (w.1.1, n, 0)) :: kwL (n + 1) W else kwL (n + 1) W
def kwO (n : Nat) : List kWs → kO
  | [] => []
  | w :: W => bif Nat.beq w.1.1 2 then ((w.1.2.1, 0, (w.1.2.2 : Int)), (0, n, 0)) :: kwO (n + 1) W else kwO (n + 1) W
def kwE (W : List kWs) : kE := W.map fun w => w.2
/-- is the local one of those that change? -/
def kwh (W : List kWs) (j : Nat) : Bool := W.any fun w => Nat.ble w.1.1 1 && Nat.beq w.1.2.1 j
/-- numbers of all that is known -/
def knws (L : xL) (I : tI) : List kWs → List Int → Prop
  | [], [] => True
  | w :: W, z :: τ => (knw L I w.1 z ∧ w.2.1 ≤ z ∧ z ≤ w.2.2) ∧ knws L I W τ
  | _, _ => False
theorem knws_ex {T : kT} {C : kQ} {ρ : List Int} {s : kS} {L : xL} {st : List Value} {B : xM} {I : tI} {J : tJ} (hz : kz s.1 = true) (h : kst ρ s L st I) (hI : kI T C B I J) : ∀ {W : List kWs}, W.all (kwb T s) = true → ∃ τ, knws L I W τ
  | [], _ => ⟨[], trivial⟩
  | w :: W, hw => by
    simp only [List.all_cons, Bool.and_eq_true] at hw
    obtain ⟨z, hz1⟩ := kwb_ok hz h hI hw.1
    obtain ⟨τ, hτ⟩ := knws_ex hz h hI hw.2
    exact ⟨z :: τ, hz1, hτ⟩
theorem knws_len {L : xL} {I : tI} : ∀ {W : List kWs} {τ : List Int}, knws L I W τ → τ.length = W.length
  | [], [], _ => rfl
  | _ :: _, _ :: _, h => by simp [knws_len h.2]
  | [], _ :: _, h => h.elim
  | _ :: _, [], h => h.elim
theorem knws_in {L : xL} {I : tI} : ∀ {ρ : List Int} {E : kE} {W : List kWs} {τ : List Int}, kin ρ E → knws L I W τ → kin (ρ ++ τ) (E ++ kwE W)
  | ρ, E, [], [], h, _ => by simpa [kwE] using h
  | ρ, E, w :: W, z :: τ, h, hw => by
    have := knws_in (kin_app (b := w.2) h hw.1.2.1 hw.1.2.2) hw.2
    simpa [kwE, List.append_assoc] using this
  | _, _, [], _ :: _, _, h => h.elim
  | _, _, _ :: _, [], _, h => h.elim
theorem knws_L {L : xL} {I : tI} : ∀ {W : List kWs} {ρ τ : List Int}, knws L I W τ → ∀ j v, kfind (kwL ρ.length W) j = some v → ∃ w, xfind L j = some w ∧ kv (ρ ++ τ) v w
  | [], _, _, _, _, _, h => by cases h
  | _ :: _, _, [], h, _, _, _ => h.elim
  | ((t, a, b), lo, hi) :: W, ρ, z :: τ, h, j, v, hf => by
    have ih := knws_L (ρ := ρ ++ [z]) h.2 j v
    rw [show (ρ ++ [z]).length = ρ.length + 1 by simp, show ρ ++ [z] ++ τ = ρ ++ z :: τ by simp] at ih
    simp only [kwL] at hf
    cases hb : Nat.ble t 1 with
    | false => rw [hb] at hf; exact ih hf
    | true =>
      rw [hb] at hf
      simp only [cond_true, kfind] at hf
      cases hj : Nat.beq a j with
      | false => rw [hj] at hf; exact ih hf
      | true =>
        rw [hj] at hf
        cases hf
        have e := Nat.eq_of_beq_eq_true hj
        subst e
        have hn : xnth (ρ ++ z :: τ) ρ.length = some z := xnth_app ρ τ z
        have h0 := h.1.1
        match t, hb with
        | 0, _ =>
          obtain ⟨x, g1, g2⟩ := h0
          exact ⟨_, g1, x, rfl, z, hn, by dsimp only; omega⟩
        | 1, _ =>
          obtain ⟨x, g1, g2⟩ := h0
          exact ⟨_, g1, x, rfl, z, hn, by dsimp only; omega⟩
        | t + 2, hb => cases hb
theorem knws_O {L : xL} {I : tI} : ∀ {W : List kWs} {ρ τ : List Int}, xnth ρ 0 = some 0 → knws L I W τ → kov (ρ ++ τ) I (kwO ρ.length W)
  | [], _, _, _, _, _, h => by cases h
  | _ :: _, _, [], _, h, _, _ => h.elim
  | ((t, a, b), lo, hi) :: W, ρ, z :: τ, h0, h, q, hq => by
    have ih := knws_O (ρ := ρ ++ [z]) (xnth_ap h0) h.2 q
    rw [show (ρ ++ [z]).length = ρ.length + 1 by simp, show ρ ++ [z] ++ τ = ρ ++ z :: τ by simp] at ih
    simp only [kwO] at hq
    cases hb : Nat.beq t 2 with
    | false => rw [hb] at hq; exact ih hq
    | true =>
      rw [hb] at hq
      rcases List.mem_cons.mp hq with rfl | hq
      · have e := Nat.eq_of_beq_eq_true hb
        subst e
        have hz : z = (I a b).toInt := h.1.1
        exact ⟨b, ⟨0, xnth_ap h0, by dsimp only; omega⟩, z, xnth_app ρ τ z, by dsimp only; omega⟩
      · exact ih hq
