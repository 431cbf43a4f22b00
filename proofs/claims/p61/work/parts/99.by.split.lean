/-! THE LAW'S CHECK, SPLIT AT ITS SWITCH -/
def lx0 (P : List ((Nat × Nat) × Int)) : nS := (([(0, 0), (0, 999)], [(3, (0, 0, 0)), (2, (2, 185, 0)), (1, (2, 0, 0)), (0, (3, 0, 0))], [], ((186, 0, 5), (0, 1, 0)) :: P.map (fun q => ((q.1.1, 0, (q.1.2 : Int)), (0, 0, q.2)))), [])
/-- the straight way from the loop's head to the switch -/
def lgo (T : kT) (W : nOr) (r : xR) : Nat → Nat → nS → Option nS
  | 0, _, _ => none
  | f + 1, pc, x => bif Nat.beq pc 33 then some x else (match nel (W.1 356 pc x) (match xat r.1 pc with
      | some e => nstep T e pc x
      | none => none) with
    | some l => (match l.find? (fun q => Nat.ble (pc + 1) q.1 && Nat.ble q.1 33) with
      | some q => lgo T W r f q.1 q.2
      | none => none)
    | none => none)
def lswx (P : List ((Nat × Nat) × Int)) (ml : nMl) (W : nOr) (r : xR) : Option (List nA × nS) := match W.2.2.2 356 18 (lx0 P) with
  | some w => (match nprep (ktT ml) [] 18 (lx0 P) w with
    | some q => (match lgo (ktT ml) W r 20 18 q.2 with
      | some x => some (q.1, x)
      | none => none)
    | none => none)
  | none => none
def lswl (ml : nMl) (r : xR) (x : nS) : Option (List (Nat × nS)) := match xat r.1 33 with
  | some e => bif Nat.beq (xkind e) 0 then nstep (ktT ml) e 33 x else none
  | none => none
/-- the loops that go on; the state at the switch; where it goes -/
def lsw (P : List ((Nat × Nat) × Int)) (ml : nMl) (W : nOr) : Option ((List nA × nS) × List (Nat × nS)) := match xmeth 356 with
  | some r => (match lswx P ml W r with
    | some q => (match lswl ml r q.2 with
      | some l => some (q, l)
      | none => none)
    | none => none)
  | none => none
def lgg (g : Nat × Nat) (p : Nat) : Bool := Nat.ble g.1 p && Nat.ble p g.2
/-- one group of the switch's ways: each comes back to the loop's head -/
def lgrp (P : List ((Nat × Nat) × Int)) (ml : nMl) (K : List nC) (W : nOr) (f : Nat) (g : Nat × Nat) : Bool := match xmeth 356 with
  | some r => (match lsw P ml W with
    | some q => q.2.all (fun p => bif lgg g p.1 then (match nexec (ktT ml) ml K W f q.1.1 356 r p.1 p.2 with
      | some [] => true
      | _ => false) else true)
    | none => false)
  | none => false
def lcov (P : List ((Nat × Nat) × Int)) (ml : nMl) (W : nOr) (gs : List (Nat × Nat)) : Bool := match lsw P ml W with
  | some q => q.2.all (fun p => gs.any (fun g => lgg g p.1))
  | none => false
theorem lgn {P : List ((Nat × Nat) × Int)} {ml : nMl} {K : List nC} {W : nOr} {f : Nat} : ∀ g ∈ ([] : List (Nat × Nat)), lgrp P ml K W f g = true := fun _ h => by cases h
theorem lgc {P : List ((Nat × Nat) × Int)} {ml : nMl} {K : List nC} {W : nOr} {f : Nat} {g : Nat × Nat} {gs : List (Nat × Nat)} (h : lgrp P ml K W f g = true) (hs : ∀ g ∈ gs, lgrp P ml K W f g = true) : ∀ g' ∈ g :: gs, lgrp P ml K W f g' = true := fun g' hg => by
  rcases List.mem_cons.mp hg with rfl | hg
  · exact h
  · exact hs g' hg
theorem lgrp_all {P : List ((Nat × Nat) × Int)} {ml : nMl} {K : List nC} {W : nOr} {f : Nat} {gs : List (Nat × Nat)} (hc : lcov P ml W gs = true) (hs : ∀ g ∈ gs, lgrp P ml K W f g = true) {r : xR} (hr : xmeth 356 = some r) {q : (List nA × nS) × List (Nat × nS)} (hq : lsw P ml W = some q) {p : Nat × nS} (hp : p ∈ q.2) : nexec (ktT ml) ml K W f q.1.1 356 r p.1 p.2 = some [] := by
  unfold lcov at hc
  rw [hq] at hc
  dsimp only at hc
  obtain ⟨g, hg, hgg⟩ := List.any_eq_true.mp (List.all_eq_true.mp hc p hp)
  have h := hs g hg
  unfold lgrp at h
  rw [hr, hq] at h
  dsimp only at h
  have h1 := List.all_eq_true.mp h p hp
  rw [hgg] at h1
  dsimp only [cond_true] at h1
  split at h1
  · rename_i e
    exact e
  · cases h1
theorem lsw_un {P : List ((Nat × Nat) × Int)} {ml : nMl} {W : nOr} {q : (List nA × nS) × List (Nat × nS)} (h : lsw P ml W = some q) {r : xR} (hr : xmeth 356 = some r) : ∃ e, xat r.1 33 = some e ∧ xkind e = 0 ∧ nstep (ktT ml) e 33 q.1.2 = some q.2 := by
  unfold lsw at h
  rw [hr] at h
  dsimp only at h
  split at h
  · rename_i a ha
    split at h
    · rename_i l hl
      cases h
      unfold lswl at hl
      split at hl
      · rename_i e he
        have h1 := (bif_n hl).1
        have h2 := (bif_n hl).2
        exact ⟨e, he, Nat.eq_of_beq_eq_true h1, h2⟩
      · cases hl
    · cases h
  · cases h
def dV : DecidableEq kV := inferInstance
def dW : DecidableEq kWs := inferInstance
def dF : DecidableEq kF := inferInstance
def dE : DecidableEq kE := inferInstance
def dL : DecidableEq kL := haveI := dV; inferInstance
def dO : DecidableEq kO := haveI := dV; inferInstance
def dS : DecidableEq kS := haveI := dV; haveI := dE; haveI := dL; haveI := dO; inferInstance
def dX : DecidableEq nS := haveI := dS; haveI := dF; inferInstance
def dLW : DecidableEq (List kWs) := haveI := dW; inferInstance
def dLF : DecidableEq (List kF) := haveI := dF; inferInstance
def dKA : DecidableEq kA := haveI := dL; haveI := dLW; inferInstance
def dA : DecidableEq nA := haveI := dKA; haveI := dO; haveI := dLF; inferInstance
def dAs : DecidableEq (List nA) := haveI := dA; inferInstance
/-- at the switch the groups have it -/
def lR (P : List ((Nat × Nat) × Int)) (ml : nMl) (W : nOr) : nRec := fun A y _ pc x => bif Nat.beq y 356 && Nat.beq pc 33 then (match lsw P ml W with
  | some q => bif @decide (A = q.1.1) (dAs _ _) && @decide (x = q.1.2) (dX _ _) then some [] else none
  | none => none) else none
theorem lR_ok {P : List ((Nat × Nat) × Int)} {sc : List Int32} {ml : nMl} {Fr : kQ} {K : List nC} {W : nOr} {f : Nat} {gs : List (Nat × Nat)} (hF : nFr ml Fr) (hK : ∀ c ∈ K, nCon (ktN sc) sc c) (hX : nXs (ktT ml) (nQ (ktN sc) Fr) sc W.1) (hc : lcov P ml W gs = true) (hs : ∀ g ∈ gs, lgrp P ml K W f g = true) : nSnd (ktT ml) (nQ (ktN sc) Fr) sc (lR P ml W) := by
  intro A y r pc x outs hy h ρ0 Q hq hA
  unfold lR at h
  have hb := (bif_n h).1
  replace h := (bif_n h).2
  rw [Bool.and_eq_true] at hb
  have e1 := Nat.eq_of_beq_eq_true hb.1
  have e2 := Nat.eq_of_beq_eq_true hb.2
  subst e1 e2
  split at h
  · rename_i q hl
    have hb := (bif_n h).1
    replace h := (bif_n h).2
    cases h
    rw [Bool.and_eq_true] at hb
    have e1 := @of_decide_eq_true _ (dAs _ _) hb.1
    have e2 := @of_decide_eq_true _ (dX _ _) hb.2
    subst e1 e2
    obtain ⟨e, he, hk, hn⟩ := lsw_un hl hy
    refine nstep_ok he hk _ hn (fun p hp => ?_)
    exact nexec_ok (t := ktN sc) hF hK hX f q.1.1 356 r p.1 p.2 [] hy (lgrp_all hc hs hy hl hp) ρ0 Q hq hA
  · cases h
/-- with a check that goes first -/
def nexecR (R : nRec) (T : kT) (ml : nMl) (K : List nC) (W : nOr) : Nat → nRec
  | 0 => fun _ _ _ _ _ => none
  | f + 1 => fun A y r pc x => match R A y r pc x with
    | some o => some o
    | none => (match nhint (W.2.1 y pc) x with
      | none => some []
      | some x1 => (match nactf (nins A pc) pc with
        | some a => bif nback T a x1 then some [] else none
        | none => nmany (fun x2 => nbd T ml K W (nexecR R T ml K W f) (nins A pc) y r pc x2) (nfork (W.2.2.1 y pc) x1)))
theorem nexecR_ok {t : nTb} {ml : nMl} {Fr : kQ} {K : List nC} {W : nOr} {sc : List Int32} {R : nRec} (hR : nSnd (nTm t ml) (nQ t Fr) sc R) (hF : nFr ml Fr) (hK : ∀ c ∈ K, nCon t sc c) (hX : nXs (nTm t ml) (nQ t Fr) sc W.1) : ∀ f, nSnd (nTm t ml) (nQ t Fr) sc (nexecR R (nTm t ml) ml K W f)
  | 0 => fun A y r pc x outs _ h => by cases h
  | f + 1 => by
    have bd := nbd_ok hF hK hX (nexecR_ok (W := W) hR hF hK hX f)
    intro A y r pc x outs hy h ρ0 Q hq hA
    simp only [nexecR] at h
    split at h
    · rename_i o ho
      cases h
      exact hR A y r pc x _ hy ho ρ0 Q hq hA
    have hA' : ∀ a ∈ nins A pc, nHyp (nTm t ml) (nQ t Fr) sc r a ρ0 Q := fun a ha => hA a (List.mem_filter.mp ha).1
    intro σ L st B I J hs hD hB hI
    obtain ⟨x1, e1, e2, e3, e4⟩ := nhint_ok (l := W.2.1 y pc) hs.1 hD
    have hs1 : kst (ρ0 ++ σ) x1.1 L st I := by
      obtain ⟨⟨E1, s1⟩, D1⟩ := x1
      dsimp only at e2 e4
      subst e4
      exact ⟨e2, hs.2⟩
    rw [e1] at h
    dsimp only at h
    split at h
    · rename_i a ha
      obtain ⟨a1, a2⟩ := nactf_ok ha
      cases hb : nback (nTm t ml) a x1 with
      | false => rw [hb] at h; cases h
      | true =>
        rw [← a2]
        exact nback_ok hb (hA' a a1) σ L st B I J hs1 e3 hB hI
    · obtain ⟨x2, f1, f2, f4⟩ := nfork_ok (w := W.2.2.1 y pc) hs1
      obtain ⟨a, h1, h2⟩ := nmany_in h x2 f1
      exact bd _ y r pc x2 a hy h1 ρ0 Q (fun v M' hp => hq v M' (nP_sub h2 hp)) hA' σ L st B I J f2 (by rw [f4]; exact e3) hB hI
def lwchk3 (P : List ((Nat × Nat) × Int)) (ml : nMl) (K : List nC) (W : nOr) (f : Nat) : Bool := match xmeth 356 with
  | some r => (match nexecR (lR P ml W) (ktT ml) ml K W f [] 356 r 18 (([(0, 0), (0, 999)], [(3, (0, 0, 0)), (2, (2, 185, 0)), (1, (2, 0, 0)), (0, (3, 0, 0))], [], ((186, 0, 5), (0, 1, 0)) :: P.map (fun q => ((q.1.1, 0, (q.1.2 : Int)), (0, 0, q.2)))), []) with
    | some outs => outs.all (fun q => match q.1.2.1 with
      | some v => Nat.beq v.1 0 && (match kiv q.1.1 v with
        | some b => decide (b = (1, 1))
        | none => false)
      | none => false)
    | none => false)
  | none => false
theorem lwchk3_ok {gs : List (Nat × Nat)} {f' : Nat} {P : List ((Nat × Nat) × Int)} {sc : List Int32} {ml : nMl} {K : List nC} {W : nOr} {f : Nat} (hK : ∀ c ∈ K, nCon (ktN sc) sc c) (hX : ∀ Fr, nFr ml Fr → nXs (ktT ml) (nQ (ktN sc) Fr) sc W.1) (hc : lcov P ml W gs = true) (hs : ∀ g ∈ gs, lgrp P ml K W f' g = true) (h : lwchk3 P ml K W f = true) {r : xR} (hr : xmeth 356 = some r) {B : xM} {I : tI} {J : tJ} (hO : nOk (ktN sc) B I) (h5 : (I 186 5).toInt ≤ 999) (hP : ∀ q ∈ P, (I q.1.1 q.1.2).toInt = q.2) : sw sc r 18 [(3, .int 0), (2, .ref 185), (1, .ref 0), (0, .retAddr 0)] [] (tMem B I J) (fun v M' => v = some (.int 1) ∧ ∃ B' I' J', M' = tMem B' I' J' ∧ kSz B B') := by
  unfold lwchk3 at h
  rw [hr] at h
  dsimp only at h
  split at h
  · rename_i outs ho
    have hF : nFr ml (fun B' _ _ => kSz B B') := fun _ _ _ _ _ _ h1 h2 => ⟨h2.2.2.1.trans h1.1, h2.2.2.2.trans h1.2⟩
    have b5 := (hO.2.1 186 (20, 3972) 5 rfl (by decide) rfl).1
    have b5 : 0 ≤ (I 186 5).toInt := b5
    refine nexecR_ok (t := ktN sc) (lR_ok hF hK (hX _ hF) hc hs) hF hK (hX _ hF) f [] 356 r 18 _ outs hr ho [0, (I 186 5).toInt] _ (fun v M' hp => ?_) (fun a ha => by cases ha) [] _ [] B I J ⟨?_, ?_, rfl, ?_⟩ (fun f hf => by cases hf) hO.1 ⟨hO.2.1, ⟨hO.2.2, rfl, rfl⟩, nLaw ktN_cl hF⟩
    · obtain ⟨q, hq, σ, B', I', J', e, hB', hI', k1, k2, kD, k3⟩ := hp
      have hh := List.all_eq_true.mp h q hq
      split at hh
      · rename_i u hu
        rw [hu] at k3
        obtain ⟨w, rfl, hw⟩ := k3
        rw [Bool.and_eq_true] at hh
        obtain ⟨y, rfl, hyn⟩ := kv_int hw hh.1
        have hb := hh.2
        split at hb
        · rename_i b hbv
          have := kiv_in k1 hyn hbv
          rw [of_decide_eq_true hb] at this
          dsimp only at this
          have ey : y = 1 := i32_eq (by have e : (1 : Int32).toInt = 1 := rfl; omega)
          subst ey
          exact ⟨rfl, B', I', J', e, hI'.2.1.2⟩
        · cases hb
      · cases hh
    · exact ⟨⟨Int.le_refl _, Int.le_refl _⟩, ⟨b5, h5⟩, trivial⟩
    · intro j v hv
      simp only [kfind] at hv
      cases h3 : Nat.beq 3 j with
      | true => rw [h3] at hv; cases hv; have := Nat.eq_of_beq_eq_true h3; subst this; exact ⟨_, rfl, ⟨0, rfl, ⟨0, rfl, rfl⟩⟩⟩
      | false =>
        rw [h3] at hv
        cases h2 : Nat.beq 2 j with
        | true => rw [h2] at hv; cases hv; have := Nat.eq_of_beq_eq_true h2; subst this; exact ⟨_, rfl, rfl⟩
        | false =>
          rw [h2] at hv
          cases h1 : Nat.beq 1 j with
          | true => rw [h1] at hv; cases hv; have := Nat.eq_of_beq_eq_true h1; subst this; exact ⟨_, rfl, rfl⟩
          | false =>
            rw [h1] at hv
            cases h0 : Nat.beq 0 j with
            | true => rw [h0] at hv; cases hv; have := Nat.eq_of_beq_eq_true h0; subst this; exact ⟨_, rfl, rfl⟩
            | false => rw [h0] at hv; cases hv
    · intro q hq
      rcases List.mem_cons.mp hq with rfl | hq
      · exact ⟨5, ⟨0, rfl, rfl⟩, ⟨_, rfl, by simp⟩⟩
      · obtain ⟨p, hp, rfl⟩ := List.mem_map.mp hq
        refine ⟨p.1.2, ⟨0, rfl, by simp⟩, ⟨0, rfl, ?_⟩⟩
        have := hP p hp
        dsimp only
        omega
  · cases h
