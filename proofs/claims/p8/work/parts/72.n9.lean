/-! WHAT A METHOD MAY CHANGE; CONTRACTS; THE RUN -/
abbrev nMl : Type := List (Nat × Nat × Nat)
def nmod (l : nMl) (o k : Nat) : Bool := l.any (fun q => Nat.beq q.1 o && (Nat.ble q.2.1 k && Nat.ble k q.2.2))
def kAg (l : nMl) (B : xM) (I : tI) (J : tJ) (B' : xM) (I' : tI) (J' : tJ) : Prop := (∀ o k, nmod l o k = false → I' o k = I o k ∧ J' o k = J o k) ∧ (nmod l 1000 0 = false → B' = B) ∧ kSz B B'
def nsub (l m : nMl) : Bool := l.all (fun q => m.any (fun p => Nat.beq p.1 q.1 && (Nat.ble p.2.1 q.2.1 && Nat.ble q.2.2 p.2.2)))
theorem nsub_ok {l m : nMl} {o k : Nat} (h : nsub l m = true) (hm : nmod m o k = false) : nmod l o k = false := by
  cases hl : nmod l o k with
  | false => rfl
  | true =>
    obtain ⟨q, q1, q2⟩ := List.any_eq_true.mp hl
    obtain ⟨p, p1, p2⟩ := List.any_eq_true.mp (List.all_eq_true.mp h q q1)
    simp only [Bool.and_eq_true] at q2 p2
    have : nmod m o k = true := by
      refine List.any_eq_true.mpr ⟨p, p1, ?_⟩
      simp only [Bool.and_eq_true]
      have a1 := Nat.eq_of_beq_eq_true q2.1
      have a2 := Nat.eq_of_beq_eq_true p2.1
      have a3 := Nat.le_of_ble_eq_true q2.2.1
      have a4 := Nat.le_of_ble_eq_true q2.2.2
      have a5 := Nat.le_of_ble_eq_true p2.2.1
      have a6 := Nat.le_of_ble_eq_true p2.2.2
      refine ⟨?_, ?_, ?_⟩
      · rw [a2, a1]; exact Nat.beq_refl _
      · exact Nat.ble_eq.mpr (by omega)
      · exact Nat.ble_eq.mpr (by omega)
    rw [this] at hm
    cases hm
theorem kAg_sub {l m : nMl} {B B' : xM} {I I' : tI} {J J' : tJ} (h : nsub l m = true) (ha : kAg l B I J B' I' J') : kAg m B I J B' I' J' := ⟨fun o k hm => ha.1 o k (nsub_ok h hm), fun hm => ha.2.1 (nsub_ok h hm), ha.2.2⟩
theorem kAg_refl {l : nMl} {B : xM} {I : tI} {J : tJ} : kAg l B I J B I J := ⟨fun _ _ _ => ⟨rfl, rfl⟩, fun _ => rfl, rfl, rfl⟩
theorem kAg_trans {l : nMl} {B B' B'' : xM} {I I' I'' : tI} {J J' J'' : tJ} (h : kAg l B I J B' I' J') (h' : kAg l B' I' J' B'' I'' J'') : kAg l B I J B'' I'' J'' := ⟨fun o k hm => ⟨(h'.1 o k hm).1.trans (h.1 o k hm).1, (h'.1 o k hm).2.trans (h.1 o k hm).2⟩, fun hm => (h'.2.1 hm).trans (h.2.1 hm), h'.2.2.1.trans h.2.2.1, h'.2.2.2.trans h.2.2.2⟩
/-- the tables that all share: shape and bounds, slots bound to others, what binds them -/
abbrev nTb : Type := ((Nat → Option (Nat × Nat)) × (Nat → Nat → Nat × Int × Int)) × (Nat → Nat → Bool) × (tI → Prop)
def nTm (t : nTb) (l : nMl) : kT := (t.1.1, t.1.2, fun o k => nmod l o k && t.2.1 o k)
def nQ (t : nTb) (Fr : kQ) : kQ := fun B I J => t.2.2 I ∧ Fr B I J
def nBd (t : nTb) (I : tI) : Prop := ∀ o kn k, t.1.1 o = some kn → k < kn.2 → (t.1.2 o k).1 = 0 → (t.1.2 o k).2.1 ≤ (I o k).toInt ∧ (I o k).toInt ≤ (t.1.2 o k).2.2
/-- a memory as it should be -/
def nOk (t : nTb) (B : xM) (I : tI) : Prop := kB (nTm t []) B ∧ nBd t I ∧ t.2.2 I
/-- what binds slots is kept by stores elsewhere -/
def nCl (t : nTb) : Prop := (∀ I o k v, t.2.1 o k = true → t.2.2 I → t.2.2 (tup I o k v)) ∧ t.2.1 1000 0 = true
/-- slots with bounds: what is asked of the memory, what is known behind -/
abbrev nPc : Type := List (Nat × Nat × Int × Int)
def npE (l : nPc) : kE := l.map (fun q => q.2.2)
def npO : Nat → nPc → kO
  | _, [] => []
  | n, q :: l => ((q.1, 0, (q.2.1 : Int)), (0, n, 0)) :: npO (n + 1) l
def npI (l : nPc) (I : tI) : Prop := ∀ q ∈ l, q.2.2.1 ≤ (I q.1 q.2.1).toInt ∧ (I q.1 q.2.1).toInt ≤ q.2.2.2
theorem npo_ok {I : tI} : ∀ {l : nPc} {ρ : List Int} {E : kE}, kin ρ E → xnth ρ 0 = some 0 → npI l I → ∃ τ, kin (ρ ++ τ) (E ++ npE l) ∧ kov (ρ ++ τ) I (npO E.length l)
  | [], ρ, E, h, _, _ => ⟨[], by simpa [npE] using h, fun q hq => by cases hq⟩
  | q :: l, ρ, E, h, h0, hl => by
    have hb := hl q List.mem_cons_self
    obtain ⟨τ, t1, t2⟩ := npo_ok (l := l) (kin_app (z := (I q.1 q.2.1).toInt) (b := q.2.2) h hb.1 hb.2) (xnth_ap h0) (fun p hp => hl p (List.mem_cons_of_mem _ hp))
    refine ⟨(I q.1 q.2.1).toInt :: τ, ?_, ?_⟩
    · simpa [npE, List.append_assoc] using t1
    · have e : ρ ++ (I q.1 q.2.1).toInt :: τ = ρ ++ [(I q.1 q.2.1).toInt] ++ τ := by simp
      rw [e]
      intro p hp
      simp only [npO] at hp
      rcases List.mem_cons.mp hp with rfl | hp
      · exact ⟨q.2.1, ⟨0, xnth_ap (xnth_ap h0), by dsimp only; omega⟩, _, xnth_ap (kin_new h), by dsimp only; omega⟩
      · rw [show (E ++ [q.2.2]).length = E.length + 1 by simp] at t2
        exact t2 p hp
def npk (T : kT) (E : kE) (O : kO) (q : Nat × Nat × Int × Int) : Bool := match kol O q.1 0 (q.2.1 : Int) with
  | some v => (match kiv E v with
    | some b => decide (q.2.2.1 ≤ b.1) && decide (b.2 ≤ q.2.2.2)
    | none => false)
  | none => (match T.k q.1 with
    | some cm => Nat.blt q.2.1 cm.2 && (Nat.beq (T.b q.1 q.2.1).1 0 && (decide (q.2.2.1 ≤ (T.b q.1 q.2.1).2.1) && decide ((T.b q.1 q.2.1).2.2 ≤ q.2.2.2)))
    | none => false)
theorem npk_ok {T : kT} {C : kQ} {ρ : List Int} {E : kE} {O : kO} {B : xM} {I : tI} {J : tJ} {l : nPc} (h : kin ρ E) (hz : kz E = true) (hO : kov ρ I O) (hI : kI T C B I J) (hl : l.all (npk T E O) = true) : npI l I := by
  intro q hq
  have hh := List.all_eq_true.mp hl q hq
  unfold npk at hh
  split at hh
  · rename_i v hv
    have hn := kol_ok hO hv (kz_ok h hz (q.2.1 : Int) 0)
    split at hh
    · rename_i b hb
      have := kiv_in h hn hb
      simp only [Bool.and_eq_true, decide_eq_true_eq] at hh
      omega
    · cases hh
  · split at hh
    · rename_i cm hcm
      simp only [Bool.and_eq_true, decide_eq_true_eq] at hh
      have := hI.1 q.1 cm q.2.1 hcm (Nat.blt_eq.mp hh.1) (Nat.eq_of_beq_eq_true hh.2.1)
      omega
    · cases hh
abbrev nC : Type := kC × nMl × nPc × nPc
def nCon (t : nTb) (sc : List Int32) (c : nC) : Prop := ∀ r as B I J, xmeth c.1.1 = some r → kvcs c.1.2.1 as → nOk t B I → npI c.2.2.1 I → sw sc r 0 (lv_args 0 as) [] (tMem B I J) (fun v M' => ∃ B' I' J', M' = tMem B' I' J' ∧ nOk t B' I' ∧ kAg c.2.1 B I J B' I' J' ∧ npI c.2.2.2 I' ∧ kvo c.1.2.2 v)
def nFr (l : nMl) (Fr : kQ) : Prop := ∀ B I J B' I' J', Fr B I J → kAg l B I J B' I' J' → Fr B' I' J'
theorem nLaw {t : nTb} {l : nMl} {Fr : kQ} (ht : nCl t) (hF : nFr l Fr) : kLaw (nTm t l) (nQ t Fr) := by
  refine ⟨fun B I J o k hm hC => ?_, fun hm B I J B' hz hC => ?_⟩
  · have hm : (nmod l o k && t.2.1 o k) = true := hm
    rw [Bool.and_eq_true] at hm
    have ne : ∀ o' k', nmod l o' k' = false → ¬ (o' = o ∧ k' = k) := fun o' k' h e => by
      rw [e.1, e.2, hm.1] at h
      cases h
    exact ⟨fun v => ⟨ht.1 I o k v hm.2 hC.1, hF B I J _ _ _ hC.2 ⟨fun o' k' h => ⟨tup_ne (ne o' k' h), rfl⟩, fun _ => rfl, rfl, rfl⟩⟩, fun v => ⟨hC.1, hF B I J _ _ _ hC.2 ⟨fun o' k' h => ⟨rfl, tup_ne (ne o' k' h)⟩, fun _ => rfl, rfl, rfl⟩⟩⟩
  · have hm : (nmod l 1000 0 && t.2.1 1000 0) = true := hm
    rw [Bool.and_eq_true] at hm
    exact ⟨hC.1, hF B I J _ _ _ hC.2 ⟨fun _ _ _ => ⟨rfl, rfl⟩, fun h => (by rw [hm.1] at h; cases h), hz⟩⟩
/-- what stays known of the memory behind a call -/
def nkeep (E : kE) (l : nMl) (O : kO) : kO := O.filter (fun q => match kiv E (0, q.1.2.1, q.1.2.2) with
  | some b => l.all (fun p => !Nat.beq p.1 q.1.1 || (decide (b.2 < (p.2.1 : Int)) || decide ((p.2.2 : Int) < b.1)))
  | none => false)
theorem nkeep_ok {ρ : List Int} {E : kE} {l : nMl} {O : kO} {B B' : xM} {I I' : tI} {J J' : tJ} (h : kin ρ E) (hO : kov ρ I O) (ha : kAg l B I J B' I' J') : kov ρ I' (nkeep E l O) := by
  intro q hq
  obtain ⟨q1, q2⟩ := List.mem_filter.mp hq
  obtain ⟨k, k1, k2⟩ := hO q q1
  refine ⟨k, k1, ?_⟩
  split at q2
  · rename_i b hb
    have := kiv_in h k1 hb
    have hm : nmod l q.1.1 k = false := by
      cases hl : nmod l q.1.1 k with
      | false => rfl
      | true =>
        obtain ⟨p, p1, p2⟩ := List.any_eq_true.mp hl
        simp only [Bool.and_eq_true] at p2
        have h3 := List.all_eq_true.mp q2 p p1
        simp only [Bool.or_eq_true, decide_eq_true_eq, Bool.not_eq_true'] at h3
        have a3 := Nat.le_of_ble_eq_true p2.2.1
        have a4 := Nat.le_of_ble_eq_true p2.2.2
        rcases h3 with h3 | h3 | h3
        · rw [p2.1] at h3; cases h3
        · omega
        · omega
    rw [(ha.1 q.1.1 k hm).1]
    exact k2
  · cases q2
def nfindC (E : kE) (ml : nMl) (y : Nat) (as : List kV) : List nC → Option nC
  | [] => none
  | c :: K => bif Nat.beq c.1.1 y && (kfit E as c.1.2.1 && nsub c.2.1 ml) then some c else nfindC E ml y as K
theorem nfindC_ok {E : kE} {ml : nMl} {y : Nat} {as : List kV} : ∀ {K : List nC} {c : nC}, nfindC E ml y as K = some c → c ∈ K ∧ c.1.1 = y ∧ kfit E as c.1.2.1 = true ∧ nsub c.2.1 ml = true
  | [], _, h => by cases h
  | d :: K, c, h => by
    simp only [nfindC] at h
    cases hb : (Nat.beq d.1.1 y && (kfit E as d.1.2.1 && nsub d.2.1 ml)) with
    | true =>
      rw [hb] at h
      cases h
      rw [Bool.and_eq_true, Bool.and_eq_true] at hb
      exact ⟨List.mem_cons_self, Nat.eq_of_beq_eq_true hb.1, hb.2.1, hb.2.2⟩
    | false =>
      rw [hb] at h
      obtain ⟨h1, h2⟩ := nfindC_ok h
      exact ⟨List.mem_cons_of_mem _ h1, h2⟩
abbrev nR : Type := kR × List kF
def nmany {α β : Type} (g : α → Option (List β)) : List α → Option (List β)
  | [] => some []
  | q :: l => match g q with
    | some a => (match nmany g l with
      | some b => some (a ++ b)
      | none => none)
    | none => none
theorem nmany_in {α β : Type} {g : α → Option (List β)} : ∀ {l : List α} {outs : List β}, nmany g l = some outs → ∀ q ∈ l, ∃ a, g q = some a ∧ ∀ x ∈ a, x ∈ outs
  | [], _, _, _, hq => by cases hq
  | p :: l, outs, h, q, hq => by
    simp only [nmany] at h
    split at h
    · rename_i a ha
      split at h
      · rename_i b hb
        cases h
        rcases List.mem_cons.mp hq with rfl | hq
        · exact ⟨a, ha, fun x hx => List.mem_append_left _ hx⟩
        · obtain ⟨a', h1, h2⟩ := nmany_in hb q hq
          exact ⟨a', h1, fun x hx => List.mem_append_right _ (h2 x hx)⟩
      · cases h
    · cases h
def nP (T : kT) (C : kQ) (ρ : List Int) (outs : List nR) (v : Option Value) (M : xM) : Prop := ∃ q ∈ outs, ∃ σ B I J, M = tMem B I J ∧ kB T B ∧ kI T C B I J ∧ kin (ρ ++ σ) q.1.1 ∧ kov (ρ ++ σ) I q.1.2.2 ∧ kfs (ρ ++ σ) q.2 ∧ (match q.1.2.1 with
  | none => v = none
  | some u => ∃ w, v = some w ∧ kv (ρ ++ σ) u w)
theorem nP_cut {T : kT} {C : kQ} {ρ τ : List Int} {outs : List nR} {v : Option Value} {M : xM} (h : nP T C (ρ ++ τ) outs v M) : nP T C ρ outs v M := by
  obtain ⟨q, hq, σ, B, I, J, h1, h2⟩ := h
  refine ⟨q, hq, τ ++ σ, B, I, J, h1, ?_⟩
  rw [← List.append_assoc]
  exact h2
theorem nP_sub {T : kT} {C : kQ} {ρ : List Int} {a b : List nR} {v : Option Value} {M : xM} (hs : ∀ x ∈ a, x ∈ b) (h : nP T C ρ a v M) : nP T C ρ b v M := by
  obtain ⟨q, hq, h1⟩ := h
  exact ⟨q, hs q hq, h1⟩
abbrev nRec : Type := List nA → Nat → xR → Nat → nS → Option (List nR)
def nun (T : kT) (ml : nMl) (K : List nC) (rec : nRec) (A : List nA) (y : Nat) (r : xR) (pc : Nat) (x : nS) : Option (List nR) := match xat r.1 pc with
  | none => none
  | some e => match xkind e with
    | 0 => (match nstep T e pc x with
      | none => none
      | some outs => nmany (fun q => rec A y r q.1 q.2) outs)
    | 1 => (match kpop e.2.2.1 [] x.1.2.2.1 with
      | none => none
      | some ar => bif Nat.ble (kcs ar.2) 8 && krecv T e ar.1 then (match xmeth e.2.1 with
        | none => none
        | some r' => bif Nat.ble (kcs ar.1) r'.2.1 then (match nfindC x.1.1 ml e.2.1 ar.1 K with
          | some c => bif kz x.1.1 && c.2.2.1.all (npk T x.1.1 x.1.2.2.2) then (match c.1.2.2 with
            | none => rec A y r (pc + 3) ((x.1.1 ++ npE c.2.2.2, x.1.2.1, ar.2, nkeep x.1.1 c.2.1 x.1.2.2.2 ++ npO x.1.1.length c.2.2.2), x.2)
            | some t => rec A y r (pc + 3) (((x.1.1 ++ npE c.2.2.2) ++ [t.2], x.1.2.1, (t.1, (x.1.1 ++ npE c.2.2.2).length, 0) :: ar.2, nkeep x.1.1 c.2.1 x.1.2.2.2 ++ npO x.1.1.length c.2.2.2), x.2)) else none
          | none => (match rec [] e.2.1 r' 0 ((x.1.1, kargs 0 ar.1, [], x.1.2.2.2), x.2) with
            | none => none
            | some rs => nmany (fun q => rec A y r (pc + 3) ((q.1.1, x.1.2.1, kpsh q.1.2.1 ar.2, q.1.2.2), q.2)) rs)) else none) else none)
    | _ => (match kend r.2.2 e x.1 with
      | some o => some (o.map fun q => (q, x.2))
      | none => none)
def nSnd (T : kT) (C : kQ) (sc : List Int32) (rec : nRec) : Prop := ∀ A y r pc x outs, xmeth y = some r → rec A y r pc x = some outs → ∀ ρ0 Q, (∀ v M', nP T C ρ0 outs v M' → Q v M') → (∀ a ∈ A, nHyp T C sc r a ρ0 Q) → nG T C sc r ρ0 pc x Q
theorem nun_ok {t : nTb} {ml : nMl} {Fr : kQ} {K : List nC} {sc : List Int32} {rec : nRec} (hF : nFr ml Fr) (hK : ∀ c ∈ K, nCon t sc c) (hrec : nSnd (nTm t ml) (nQ t Fr) sc rec) : nSnd (nTm t ml) (nQ t Fr) sc (nun (nTm t ml) ml K rec) := by
  intro A y r pc x outs hy h ρ0 Q hq hA
  unfold nun at h
  cases he : xat r.1 pc with
  | none => rw [he] at h; cases h
  | some e =>
    rw [he] at h
    dsimp only at h
    rcases xkind_3 e with hk | hk | hk
    · simp only [hk] at h
      split at h
      · cases h
      · rename_i os hos
        refine nstep_ok he hk os hos (fun q hqm => ?_)
        obtain ⟨a, h1, h2⟩ := nmany_in h q hqm
        exact hrec A y r q.1 q.2 a hy h1 ρ0 Q (fun v M' hp => hq v M' (nP_sub h2 hp)) hA
    · simp only [hk] at h
      obtain ⟨⟨E, L0, S, O⟩, D⟩ := x
      intro σ L st B I J ⟨h1, h2, h3, h4⟩ hD hB hI
      dsimp only at h h1 h2 h3 h4 hD
      split at h
      · cases h
      · rename_i ar har
        obtain ⟨as, rest⟩ := ar
        dsimp only at h
        cases hb : (Nat.ble (kcs rest) 8 && krecv (nTm t ml) e as) with
        | false => rw [hb] at h; cases h
        | true =>
          rw [hb] at h
          simp only [cond_true] at h
          rw [Bool.and_eq_true] at hb
          split at h
          · cases h
          · rename_i r' hr'
            cases hb2 : Nat.ble (kcs as) r'.2.1 with
            | false => rw [hb2] at h; cases h
            | true =>
              rw [hb2] at h
              simp only [cond_true] at h
              obtain ⟨as', rest', p1, p2, p3⟩ := kpop_ok e.2.2.1 har (rfl : kvs (ρ0 ++ σ) [] []) h3
              have c8 : (xcat8 rest' && xrecv e as' (tMem B I J)) = true := by
                rw [kcat8 p3 hb.1, krecv_ok hB p2 hb.2]
                rfl
              have cn : Nat.ble (xcats as') r'.2.1 = true := by rw [kcs_ok p2]; exact hb2
              split at h
              · rename_i c hc
                obtain ⟨c1, c2, c3, c4⟩ := nfindC_ok hc
                cases hb3 : (kz E && c.2.2.1.all (npk (nTm t ml) E O)) with
                | false => rw [hb3] at h; cases h
                | true =>
                  rw [hb3] at h
                  simp only [cond_true] at h
                  rw [Bool.and_eq_true] at hb3
                  have h00 : xnth (ρ0 ++ σ) 0 = some 0 := by
                    obtain ⟨z, z1, z2⟩ := kz_ok h1 hb3.1 0 0
                    dsimp only at z1 z2
                    rw [z1, show z = 0 by omega]
                  have hcon := hK c c1 r' as' B I J (by rw [c2]; exact hr') (kfit_ok h1 p2 c3) ⟨hB, hI.1, hI.2.1.1⟩ (npk_ok h1 hb3.1 h4 hI hb3.2)
                  refine sw_1 he hk p1 c8 hr' cn hcon ?_
                  rintro v M1 ⟨B', I', J', rfl, hO', hag, hpo, hv⟩
                  have hB' : kB (nTm t ml) B' := hO'.1
                  have hI' : kI (nTm t ml) (nQ t Fr) B' I' J' := ⟨hO'.2.1, ⟨hO'.2.2, hF _ _ _ _ _ _ hI.2.1.2 (kAg_sub c4 hag)⟩, hI.2.2⟩
                  obtain ⟨τp, tp1, tp2⟩ := npo_ok (I := I') h1 h00 hpo
                  have hov : kov (ρ0 ++ σ ++ τp) I' (nkeep E c.2.1 O ++ npO E.length c.2.2.2) := fun q hqm => by
                    rcases List.mem_append.mp hqm with hqm | hqm
                    · exact kov_ap (nkeep_ok h1 h4 hag) q hqm
                    · exact tp2 q hqm
                  split at h
                  · rename_i hn
                    rw [hn] at hv
                    have ev : v = none := hv
                    subst ev
                    refine hrec A y r (pc + 3) _ outs hy h ρ0 Q hq hA (σ ++ τp) L rest' B' I' J' ⟨?_, ?_, ?_, ?_⟩ ?_ hB' hI'
                    · rw [← List.append_assoc]; exact tp1
                    · rw [← List.append_assoc]; exact kvl_ap h2
                    · rw [← List.append_assoc]; exact kvs_ap p3
                    · rw [← List.append_assoc]; exact hov
                    · rw [← List.append_assoc]; exact kfs_ap hD
                  · rename_i t0 hn
                    rw [hn] at hv
                    obtain ⟨w, rfl, hw, ht⟩ := hv
                    have num : ∃ z, (t0.2.1 ≤ z ∧ z ≤ t0.2.2) ∧ kv (ρ0 ++ σ ++ τp ++ [z]) (t0.1, (E ++ npE c.2.2.2).length, 0) w := by
                      obtain ⟨tt, lo, hi⟩ := t0
                      have hnew : ∀ z : Int, xnth (ρ0 ++ σ ++ τp ++ [z]) (E ++ npE c.2.2.2).length = some z := fun z => kin_new tp1
                      match tt, hw, ht with
                      | 0, ⟨x, e1, e2, e3⟩, _ => exact ⟨x.toInt, ⟨e2, e3⟩, ⟨x, e1, x.toInt, hnew _, by simp⟩⟩
                      | 1, ⟨x, e1, e2, e3⟩, _ => exact ⟨x.toInt, ⟨e2, e3⟩, ⟨x, e1, x.toInt, hnew _, by simp⟩⟩
                      | tt + 2, _, ht => exact absurd ht (by dsimp only; omega)
                    obtain ⟨z, hz, hkv⟩ := num
                    have ea : ρ0 ++ (σ ++ (τp ++ [z])) = ρ0 ++ σ ++ τp ++ [z] := by simp [List.append_assoc]
                    refine hrec A y r (pc + 3) _ outs hy h ρ0 Q hq hA (σ ++ (τp ++ [z])) L (w :: rest') B' I' J' ⟨?_, ?_, ?_, ?_⟩ ?_ hB' hI'
                    · rw [ea]; exact kin_app tp1 hz.1 hz.2
                    · rw [ea]; exact kvl_ap (kvl_ap h2)
                    · rw [ea]; exact ⟨w, rest', rfl, hkv, kvs_ap (kvs_ap p3)⟩
                    · rw [ea]; exact kov_ap hov
                    · rw [ea]; exact kfs_ap (kfs_ap hD)
              · split at h
                · cases h
                · rename_i rs hrs
                  have hcal := hrec [] e.2.1 r' 0 _ rs hr' hrs (ρ0 ++ σ) (nP (nTm t ml) (nQ t Fr) (ρ0 ++ σ) rs) (fun _ _ hp => hp) (fun a ha => by cases ha) [] (lv_args 0 as') [] B I J ⟨by rw [List.append_nil]; exact h1, by rw [List.append_nil]; exact kargs_ok 0 p2, rfl, by rw [List.append_nil]; exact h4⟩ (by rw [List.append_nil]; exact hD) hB hI
                  refine sw_1 he hk p1 c8 hr' cn hcal ?_
                  rintro v M1 ⟨q, hqm, τ, B', I', J', rfl, hB', hI', k1, k2, k4, k3⟩
                  obtain ⟨a, g1, g2⟩ := nmany_in h q hqm
                  refine hrec A y r (pc + 3) _ a hy g1 ρ0 Q (fun v M' hp => hq v M' (nP_sub g2 hp)) hA (σ ++ τ) L (xpush v rest') B' I' J' ⟨?_, ?_, ?_, ?_⟩ ?_ hB' hI'
                  · rw [← List.append_assoc]; exact k1
                  · rw [← List.append_assoc]; exact kvl_ap h2
                  · rw [← List.append_assoc]
                    obtain ⟨⟨qE, qv, qO⟩, qD⟩ := q
                    cases qv with
                    | none =>
                      have ev : v = none := k3
                      subst ev
                      exact kvs_ap p3
                    | some u =>
                      obtain ⟨w, rfl, hw⟩ := k3
                      exact ⟨w, rest', rfl, hw, kvs_ap p3⟩
                  · rw [← List.append_assoc]; exact k2
                  · rw [← List.append_assoc]; exact k4
    · simp only [hk] at h
      split at h
      · rename_i o ho
        cases h
        intro σ L st B I J hs hD hB hI
        refine kend_ok (ρ0 := ρ0 ++ σ) he hk ho (fun v M' hp => hq v M' ?_) [] L st B I J (by rw [List.append_nil]; exact hs) hB hI
        obtain ⟨q, hqm, τ, B', I', J', e1, e2, e3, e4, e5, e6⟩ := hp
        refine ⟨(q, x.2), List.mem_map.mpr ⟨q, hqm, rfl⟩, σ ++ τ, B', I', J', e1, e2, e3, ?_, ?_, ?_, ?_⟩
        · rw [← List.append_assoc]; exact e4
        · rw [← List.append_assoc]; exact e5
        · rw [← List.append_assoc]; exact kfs_ap hD
        · rw [← List.append_assoc]; exact e6
      · cases h
