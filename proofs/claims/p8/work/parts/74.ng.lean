/-! CONTRACTS THAT TELL MORE: facts asked of old slots; one of some alternatives, with facts of old and new slots and of the answer -/
abbrev nRf : Type := List (Int × Nat × Nat) × Int
abbrev nAl : Type := nPc × List nRf
abbrev nRC : Type := nC × List nRf × List nAl
def npv (I : tI) (l : nPc) (i : Nat) : Option Int := match xnth l i with
  | some q => some (I q.1 q.2.1).toInt
  | none => none
/-- what a term stands for: 0 a new slot, 1 an old one, else the answer -/
def nrv (I I' : tI) (pre post : nPc) (v : Option Value) (w : Nat × Nat) : Option Int := match w.1 with
  | 0 => npv I' post w.2
  | 1 => npv I pre w.2
  | _ => (match v with
    | some (.int x) => some x.toInt
    | _ => none)
def nrm (g : Nat × Nat → Option Int) : List (Int × Nat × Nat) → Option Int
  | [] => some 0
  | q :: m => match g q.2 with
    | some z => (match nrm g m with
      | some s => some (q.1 * z + s)
      | none => none)
    | none => none
def nrk (I I' : tI) (pre post : nPc) (v : Option Value) (f : nRf) : Prop := ∃ s, nrm (nrv I I' pre post v) f.1 = some s ∧ s ≤ f.2
def nRich (t : nTb) (sc : List Int32) (c : nRC) : Prop := ∀ r as B I J, xmeth c.1.1.1 = some r → kvcs c.1.1.2.1 as → nOk t B I → npI c.1.2.2.1 I → (∀ f ∈ c.2.1, nrk I I c.1.2.2.1 [] none f) → sw sc r 0 (lv_args 0 as) [] (tMem B I J) (fun v M' => ∃ B' I' J', M' = tMem B' I' J' ∧ nOk t B' I' ∧ kAg c.1.2.1 B I J B' I' J' ∧ kvo c.1.1.2.2 v ∧ ∃ al ∈ c.2.2, npI al.1 I' ∧ ∀ f ∈ al.2, nrk I I' c.1.2.2.1 al.1 v f)
/-- terms by values -/
def nrl (g : Nat × Nat → Option kV) : List (Int × Nat × Nat) → Int → Option kF
  | [], d => some ([], d)
  | q :: l, d => match g q.2 with
    | some v => (match nrl g l (d - q.1 * v.2.2) with
      | some f => some ((q.1, v.2.1) :: f.1, f.2)
      | none => none)
    | none => none
theorem nrl_ok {ρ : List Int} {g : Nat × Nat → Option kV} {G : Nat × Nat → Option Int} (H : ∀ w v, g w = some v → ∃ z, G w = some z ∧ knum ρ v z) : ∀ {l : List (Int × Nat × Nat)} {d : Int} {f : kF}, nrl g l d = some f → ∃ a, kls ρ f.1 = some a ∧ nrm G l = some (a + (d - f.2))
  | [], d, f, h => by
    cases h
    exact ⟨0, rfl, by simp only [nrm]; congr 1; omega⟩
  | q :: l, d, f, h => by
    simp only [nrl] at h
    split at h
    · rename_i v hv
      split at h
      · rename_i f' hf
        cases h
        obtain ⟨a, a1, a2⟩ := nrl_ok H hf
        obtain ⟨z, z1, y, y1, y2⟩ := H _ _ hv
        refine ⟨q.1 * y + a, by simp only [kls, y1, a1], ?_⟩
        simp only [nrm, z1, a2]
        congr 1
        rw [y2, Int.mul_add]
        omega
      · cases h
    · cases h
theorem nrl_to {ρ : List Int} {g : Nat × Nat → Option kV} {G : Nat × Nat → Option Int} (H : ∀ w v, g w = some v → ∃ z, G w = some z ∧ knum ρ v z) {f : nRf} {f' : kF} (h : nrl g f.1 f.2 = some f') (hs : ∃ s, nrm G f.1 = some s ∧ s ≤ f.2) : kfo ρ f' := by
  obtain ⟨a, a1, a2⟩ := nrl_ok H h
  obtain ⟨s, s1, s2⟩ := hs
  rw [a2] at s1
  cases s1
  exact ⟨a, a1, by omega⟩
theorem nrl_of {ρ : List Int} {g : Nat × Nat → Option kV} {G : Nat × Nat → Option Int} (H : ∀ w v, g w = some v → ∃ z, G w = some z ∧ knum ρ v z) {f : nRf} {f' : kF} (h : nrl g f.1 f.2 = some f') (hs : kfo ρ f') : ∃ s, nrm G f.1 = some s ∧ s ≤ f.2 := by
  obtain ⟨a, a1, a2⟩ := nrl_ok H h
  obtain ⟨s, s1, s2⟩ := hs
  rw [a1] at s1
  cases s1
  exact ⟨_, a2, by omega⟩
def nfl (g : Nat × Nat → Option kV) : List nRf → Option (List kF)
  | [] => some []
  | f :: l => match nrl g f.1 f.2 with
    | some f' => (match nfl g l with
      | some F => some (f' :: F)
      | none => none)
    | none => none
theorem nfl_to {ρ : List Int} {g : Nat × Nat → Option kV} {G : Nat × Nat → Option Int} (H : ∀ w v, g w = some v → ∃ z, G w = some z ∧ knum ρ v z) : ∀ {l : List nRf} {F : List kF}, nfl g l = some F → (∀ f ∈ l, ∃ s, nrm G f.1 = some s ∧ s ≤ f.2) → kfs ρ F
  | [], F, h, _ => by
    cases h
    exact fun f hf => by cases hf
  | f :: l, F, h, hs => by
    simp only [nfl] at h
    split at h
    · rename_i f' hf
      split at h
      · rename_i F' hF
        cases h
        exact kfs_cons (nrl_to H hf (hs f List.mem_cons_self)) (nfl_to H hF (fun p hp => hs p (List.mem_cons_of_mem _ hp)))
      · cases h
    · cases h
/-! THE CHECK OF SUCH A CONTRACT -/
def nra (n m : Nat) (w : Nat × Nat) : Option kV := bif Nat.beq w.1 1 && Nat.blt w.2 m then some (0, n + w.2, 0) else none
def nrb (O : kO) (rv : Option kV) (n m : Nat) (post : nPc) (w : Nat × Nat) : Option kV := match w.1 with
  | 0 => (match xnth post w.2 with
    | some q => kol O q.1 0 (q.2.1 : Int)
    | none => none)
  | 1 => nra n m w
  | _ => (match rv with
    | some v => bif Nat.beq v.1 0 then some v else none
    | none => none)
def nrchk (t : nTb) (K : List nC) (W : nOr) (f : Nat) (c : nRC) : Bool := match xmeth c.1.1.1 with
  | some r => (match nfl (nra ((0, 0) :: (kinit 1 c.1.1.2.1).1 : kE).length c.1.2.2.1.length) c.2.1 with
    | some D0 => (match nexec (nTm t c.1.2.1) c.1.2.1 K W f [] c.1.1.1 r 0 ((((0, 0) :: (kinit 1 c.1.1.2.1).1) ++ npE c.1.2.2.1, kargs 0 (kinit 1 c.1.1.2.1).2, [], npO ((0, 0) :: (kinit 1 c.1.1.2.1).1 : kE).length c.1.2.2.1), D0) with
      | some outs => outs.all (fun q => kretok c.1.1.2.2 q.1 && (kz q.1.1 && c.2.2.any (fun al => al.1.all (npk (nTm t c.1.2.1) q.1.1 q.1.2.2) && al.2.all (fun f => match nrl (nrb q.1.2.2 q.1.2.1 ((0, 0) :: (kinit 1 c.1.1.2.1).1 : kE).length c.1.2.2.1.length al.1) f.1 f.2 with
        | some g => kent q.1.1 q.2 g
        | none => false))))
      | none => false)
    | none => false)
  | none => false
theorem npO_mem : ∀ {l : nPc} {n i : Nat} {q : Nat × Nat × Int × Int}, xnth l i = some q → ((q.1, 0, (q.2.1 : Int)), ((0 : Nat), n + i, (0 : Int))) ∈ npO n l
  | [], _, _, _, h => by cases h
  | p :: l, n, 0, q, h => by
    simp only [xnth, Option.some.injEq] at h
    subst h
    exact List.mem_cons_self
  | p :: l, n, i + 1, q, h => by
    have := npO_mem (l := l) (n := n + 1) (i := i) h
    rw [show n + 1 + i = n + (i + 1) by omega] at this
    exact List.mem_cons_of_mem _ this
theorem npO_num {ρ : List Int} {I : tI} {l : nPc} {n i : Nat} {q : Nat × Nat × Int × Int} (hO : kov ρ I (npO n l)) (h0 : xnth ρ 0 = some 0) (h : xnth l i = some q) : knum ρ (0, n + i, 0) (I q.1 q.2.1).toInt := by
  obtain ⟨k, ⟨z, z1, z2⟩, k2⟩ := hO _ (npO_mem h)
  dsimp only at z1 z2 k2
  rw [h0] at z1
  cases z1
  have e : k = q.2.1 := by omega
  subst e
  exact k2
theorem xnth_lt {α : Type} : ∀ {l : List α} {i : Nat}, i < l.length → ∃ a, xnth l i = some a
  | [], i, h => absurd h (Nat.not_lt_zero _)
  | a :: _, 0, _ => ⟨a, rfl⟩
  | _ :: l, i + 1, h => xnth_lt (l := l) (i := i) (by simp at h; omega)
theorem nrchk_ok {t : nTb} {K : List nC} {W : nOr} {sc : List Int32} {f : Nat} {c : nRC} (ht : nCl t) (hK : ∀ c ∈ K, nCon t sc c) (hX : ∀ Fr, nFr c.1.2.1 Fr → nXs (nTm t c.1.2.1) (nQ t Fr) sc W.1) (h : nrchk t K W f c = true) : nRich t sc c := by
  obtain ⟨⟨⟨cy, ca, cr⟩, cm, pre, cpo⟩, fa, als⟩ := c
  intro r as B I J hr hc hO hpre hfa
  unfold nrchk at h
  dsimp only at h hr hc hpre hfa hX ⊢
  rw [hr] at h
  dsimp only at h
  split at h
  · rename_i D0 hD0
    split at h
    · rename_i outs ho
      have hF : nFr cm (kAg cm B I J) := fun _ _ _ _ _ _ h1 h2 => kAg_trans h1 h2
      have h0 : kin [0] [((0 : Int), (0 : Int))] := ⟨⟨Int.le_refl _, Int.le_refl _⟩, trivial⟩
      obtain ⟨τ, g1, g2⟩ := kinit_ok h0 hc
      obtain ⟨τp, tp1, tp2⟩ := npo_ok (I := I) g1 (rfl : xnth ([0] ++ τ) 0 = some 0) hpre
      have hz0 : xnth ([0] ++ τ ++ τp) 0 = some 0 := rfl
      have old : ∀ σ i q, xnth pre i = some q → knum ([0] ++ τ ++ τp ++ σ) (0, ((0, 0) :: (kinit 1 ca).1 : kE).length + i, 0) (I q.1 q.2.1).toInt := fun σ i q hq => knum_ap (npO_num tp2 hz0 hq)
      have hra : ∀ σ w v, nra ((0, 0) :: (kinit 1 ca).1 : kE).length pre.length w = some v → ∃ z, nrv I I pre [] none w = some z ∧ knum ([0] ++ τ ++ τp ++ σ) v z := fun σ w v hv => by
        unfold nra at hv
        cases hb : (Nat.beq w.1 1 && Nat.blt w.2 pre.length) with
        | false => rw [hb] at hv; cases hv
        | true =>
          rw [hb] at hv
          cases hv
          rw [Bool.and_eq_true] at hb
          obtain ⟨w1, w2⟩ := w
          have e := Nat.eq_of_beq_eq_true hb.1
          dsimp only at e
          subst e
          obtain ⟨q, hq⟩ := xnth_lt (Nat.blt_eq.mp hb.2)
          refine ⟨(I q.1 q.2.1).toInt, ?_, old σ _ q hq⟩
          show npv I pre w2 = _
          unfold npv
          rw [hq]
      have hD : kfs ([0] ++ τ ++ τp) D0 := by
        have := nfl_to (hra []) hD0 hfa
        rw [List.append_nil] at this
        exact this
      refine nexec_ok hF hK (hX _ hF) f [] cy r 0 _ outs hr ho ([0] ++ τ ++ τp) _ (fun v M' hp => ?_) (fun a ha => by cases ha) [] (lv_args 0 as) [] B I J ⟨by rw [List.append_nil]; exact tp1, by rw [List.append_nil]; exact kvl_ap (ρ := [0] ++ τ) (σ := τp) (kargs_ok 0 g2), rfl, by rw [List.append_nil]; exact tp2⟩ (by rw [List.append_nil]; exact hD) hO.1 ⟨hO.2.1, ⟨hO.2.2, kAg_refl⟩, nLaw ht hF⟩
      obtain ⟨q, hq, σ, B', I', J', e, hB', hI', k1, k2, kD, k3⟩ := hp
      have hh0 := List.all_eq_true.mp h q hq
      rw [Bool.and_eq_true, Bool.and_eq_true] at hh0
      obtain ⟨hh, hz, hal⟩ := hh0
      obtain ⟨al, al1, al2⟩ := List.any_eq_true.mp hal
      rw [Bool.and_eq_true] at al2
      have hz1 : xnth ([0] ++ τ ++ τp ++ σ) 0 = some 0 := rfl
      refine ⟨B', I', J', e, ⟨hB', hI'.1, hI'.2.1.1⟩, hI'.2.1.2, ?_, al, al1, npk_ok k1 hz k2 hI' al2.1, fun f hf => ?_⟩
      · obtain ⟨⟨qE, qv, qO⟩, qD⟩ := q
        unfold kretok at hh
        dsimp only at hh ⊢
        cases cr with
        | none =>
          cases qv with
          | none => exact k3
          | some u => cases hh
        | some t0 =>
          cases qv with
          | none => cases hh
          | some u =>
            obtain ⟨w, e2, hw⟩ := k3
            dsimp only at hh
            rw [Bool.and_eq_true] at hh
            exact ⟨w, e2, kfit1_ok k1 hw hh.2, Nat.le_of_ble_eq_true hh.1⟩
      · have hf1 := List.all_eq_true.mp al2.2 f hf
        split at hf1
        · rename_i g hg
          refine nrl_of (ρ := [0] ++ τ ++ τp ++ σ) (G := nrv I I' pre al.1 v) (fun w u hu => ?_) hg (kent_ok k1 kD hf1)
          obtain ⟨w1, w2⟩ := w
          match w1, hu with
          | 0, hu =>
            have hu : (match xnth al.1 w2 with
              | some q0 => kol q.1.2.2 q0.1 0 (q0.2.1 : Int)
              | none => none) = some u := hu
            split at hu
            · rename_i p hp
              refine ⟨(I' p.1 p.2.1).toInt, ?_, ?_⟩
              · show npv I' al.1 w2 = _
                unfold npv
                rw [hp]
              · exact kol_ok (ρ := [0] ++ τ ++ τp ++ σ) k2 hu ⟨0, hz1, by dsimp only; omega⟩
            · cases hu
          | 1, hu =>
            obtain ⟨z, z1, z2⟩ := hra σ (1, w2) u hu
            exact ⟨z, z1, z2⟩
          | w1 + 2, hu =>
            have hu : (match q.1.2.1 with
              | some v0 => bif Nat.beq v0.1 0 then some v0 else none
              | none => none) = some u := hu
            split at hu
            · rename_i v0 hv0
              cases hb : Nat.beq v0.1 0 with
              | false => rw [hb] at hu; cases hu
              | true =>
                rw [hb] at hu
                cases hu
                rw [hv0] at k3
                obtain ⟨w, rfl, hw⟩ := k3
                obtain ⟨t0, i0, c0⟩ := u
                have e0 := Nat.eq_of_beq_eq_true hb
                dsimp only at e0
                subst e0
                obtain ⟨x, rfl, hx⟩ := hw
                exact ⟨x.toInt, rfl, hx⟩
            · cases hu
        · cases hf1
    · cases h
  · cases h
