/-! A CALL BY SUCH A CONTRACT -/
def nlds (T : kT) : nPc → kE → kO → Option (kE × kO)
  | [], E, O => some (E, O)
  | q :: l, E, O => match kol O q.1 0 (q.2.1 : Int) with
    | some _ => nlds T l E O
    | none => (match T.k q.1 with
      | some cm => bif Nat.blt q.2.1 cm.2 && Nat.beq (T.b q.1 q.2.1).1 0 then nlds T l (E ++ [(T.b q.1 q.2.1).2]) (((q.1, 0, (q.2.1 : Int)), (0, E.length, 0)) :: O) else none
      | none => none)
theorem nlds_ok {T : kT} {C : kQ} {B : xM} {I : tI} {J : tJ} (hI : kI T C B I J) : ∀ {l : nPc} {ρ : List Int} {E E' : kE} {O O' : kO}, kin ρ E → xnth ρ 0 = some 0 → kov ρ I O → nlds T l E O = some (E', O') → ∃ τ, kin (ρ ++ τ) E' ∧ kov (ρ ++ τ) I O'
  | [], ρ, E, E', O, O', h, _, hO, hs => by
    cases hs
    exact ⟨[], by rw [List.append_nil]; exact h, by rw [List.append_nil]; exact hO⟩
  | q :: l, ρ, E, E', O, O', h, h0, hO, hs => by
    simp only [nlds] at hs
    split at hs
    · exact nlds_ok hI h h0 hO hs
    · split at hs
      · rename_i cm hcm
        cases hb : (Nat.blt q.2.1 cm.2 && Nat.beq (T.b q.1 q.2.1).1 0) with
        | false => rw [hb] at hs; cases hs
        | true =>
          rw [hb] at hs
          rw [Bool.and_eq_true] at hb
          have bd := hI.1 q.1 cm q.2.1 hcm (Nat.blt_eq.mp hb.1) (Nat.eq_of_beq_eq_true hb.2)
          obtain ⟨τ, t1, t2⟩ := nlds_ok hI (ρ := ρ ++ [(I q.1 q.2.1).toInt]) (kin_app h bd.1 bd.2) (xnth_ap h0) (fun p hp => by
            rcases List.mem_cons.mp hp with rfl | hp
            · exact ⟨q.2.1, ⟨0, xnth_ap h0, by dsimp only; omega⟩, _, kin_new h, by dsimp only; omega⟩
            · exact kov_ap hO p hp) hs
          refine ⟨(I q.1 q.2.1).toInt :: τ, ?_, ?_⟩
          · rw [show ρ ++ (I q.1 q.2.1).toInt :: τ = ρ ++ [(I q.1 q.2.1).toInt] ++ τ by simp]
            exact t1
          · rw [show ρ ++ (I q.1 q.2.1).toInt :: τ = ρ ++ [(I q.1 q.2.1).toInt] ++ τ by simp]
            exact t2
      · cases hs
/-- the oldest id that a fact puts below this one -/
def nbst (a : Nat) : List kF → Option (Nat × Int)
  | [] => none
  | f :: D => match f.1 with
    | [p, q] => bif (decide (p.1 = 1) && decide (q.1 = -1)) && Nat.beq q.2 a then (match nbst a D with
      | some m => bif Nat.blt m.1 p.2 then some m else some (p.2, f.2)
      | none => some (p.2, f.2)) else nbst a D
    | _ => nbst a D
def nder (D : List kF) (f : kF) : List kF := match f.1 with
  | [p, q] => bif decide (p.1 = 1) && decide (q.1 = -1) then (match nbst p.2 D with
    | some m => [([(1, m.1), (-1, q.2)], f.2 + m.2)]
    | none => []) else []
  | _ => []
theorem nbst_ok {ρ : List Int} {a : Nat} : ∀ {D : List kF} {m : Nat × Int}, kfs ρ D → nbst a D = some m → ∃ x y, xnth ρ m.1 = some x ∧ xnth ρ a = some y ∧ x - y ≤ m.2
  | [], _, _, h => by cases h
  | f :: D, m, hD, h => by
    have hD' : kfs ρ D := fun g hg => hD g (List.mem_cons_of_mem _ hg)
    simp only [nbst] at h
    split at h
    · rename_i p q hf
      cases hb : ((decide (p.1 = 1) && decide (q.1 = -1)) && Nat.beq q.2 a) with
      | false => rw [hb] at h; exact nbst_ok hD' h
      | true =>
        rw [hb] at h
        simp only [cond_true] at h
        simp only [Bool.and_eq_true, decide_eq_true_eq] at hb
        obtain ⟨⟨b1, b2⟩, b3⟩ := hb
        have b3 := Nat.eq_of_beq_eq_true b3
        have own : ∃ x y, xnth ρ p.2 = some x ∧ xnth ρ a = some y ∧ x - y ≤ f.2 := by
          obtain ⟨s, s1, s2⟩ := hD f List.mem_cons_self
          rw [hf] at s1
          obtain ⟨x, y, x1, x2, x3⟩ := kls_inv2 s1
          rw [b1, b2] at x3
          rw [b3] at x2
          exact ⟨x, y, x1, x2, by omega⟩
        split at h
        · rename_i m' hm'
          cases hc : Nat.blt m'.1 p.2 with
          | true => rw [hc] at h; cases h; exact nbst_ok hD' hm'
          | false => rw [hc] at h; cases h; exact own
        · cases h
          exact own
    · exact nbst_ok hD' h
theorem nder_ok {ρ : List Int} {D : List kF} {f : kF} (hD : kfs ρ D) (hf : kfo ρ f) : kfs ρ (nder D f) := by
  unfold nder
  split
  · rename_i p q hpq
    cases hb : (decide (p.1 = 1) && decide (q.1 = -1)) with
    | false => exact fun g hg => by cases hg
    | true =>
      simp only [cond_true]
      rw [Bool.and_eq_true, decide_eq_true_eq, decide_eq_true_eq] at hb
      split
      · rename_i m hm
        refine kfs_cons ?_ (fun g hg => by cases hg)
        obtain ⟨x, y, x1, x2, x3⟩ := nbst_ok hD hm
        obtain ⟨s, s1, s2⟩ := hf
        rw [hpq] at s1
        obtain ⟨y', z, y1, z1, e⟩ := kls_inv2 s1
        rw [x2] at y1
        cases y1
        rw [hb.1, hb.2] at e
        exact ⟨_, kls_two x1 z1, by dsimp only; omega⟩
      · exact fun g hg => by cases hg
  · exact fun g hg => by cases hg
def nders (D : List kF) : List kF → List kF
  | [] => []
  | f :: F => f :: (nder D f ++ nders D F)
theorem nders_ok {ρ : List Int} {D : List kF} (hD : kfs ρ D) : ∀ {F : List kF}, kfs ρ F → kfs ρ (nders D F)
  | [], h => h
  | f :: F, h => kfs_cons (h f List.mem_cons_self) (kfs_app (nder_ok hD (h f List.mem_cons_self)) (nders_ok hD (fun g hg => h g (List.mem_cons_of_mem _ hg))))
def nrd (O : kO) (rv : Option kV) (n : Nat) (pre post : nPc) (w : Nat × Nat) : Option kV := match w.1 with
  | 0 => bif Nat.blt w.2 post.length then some (0, n + w.2, 0) else none
  | 1 => (match xnth pre w.2 with
    | some q => kol O q.1 0 (q.2.1 : Int)
    | none => none)
  | _ => (match rv with
    | some v => bif Nat.beq v.1 0 then some v else none
    | none => none)
def nrv1 (c : nRC) (n : Nat) : Option kV := match c.1.1.2.2 with
  | none => none
  | some t => some (t.1, n, 0)
def nrE (c : nRC) : kE := match c.1.1.2.2 with
  | none => []
  | some t => [t.2]
def nrcX (T : kT) (ml : nMl) (c : nRC) (P : Nat → Nat → Bool) : Nat → Nat → nS → nX := fun y pc x => bif P y pc then (match xmeth y with
  | some r => (match xat r.1 pc with
    | some e => bif Nat.beq (xkind e) 1 && Nat.beq e.2.1 c.1.1.1 then (match kpop e.2.2.1 [] x.1.2.2.1 with
      | none => none
      | some ar => bif (Nat.ble (kcs ar.2) 8 && krecv T e ar.1) && (kz x.1.1 && (kfit x.1.1 ar.1 c.1.1.2.1 && nsub c.1.2.1 ml)) then (match xmeth c.1.1.1 with
        | none => none
        | some r' => bif Nat.ble (kcs ar.1) r'.2.1 && c.1.2.2.1.all (npk T x.1.1 x.1.2.2.2) then (match nlds T c.1.2.2.1 x.1.1 x.1.2.2.2 with
          | none => none
          | some EO => bif c.2.1.all (fun f => match nrl (nrd EO.2 none 0 c.1.2.2.1 []) f.1 f.2 with
              | some g => kent EO.1 x.2 g
              | none => false) then nmany (fun al => match nfl (nrd EO.2 (nrv1 c (EO.1 ++ npE al.1).length) EO.1.length c.1.2.2.1 al.1) al.2 with
                | some F => some [(pc + 3, (((EO.1 ++ npE al.1) ++ nrE c, x.1.2.1, kpsh (nrv1 c (EO.1 ++ npE al.1).length) ar.2, nkeep EO.1 c.1.2.1 EO.2 ++ npO EO.1.length al.1), nders x.2 F ++ x.2))]
                | none => none) c.2.2 else none) else none) else none) else none
    | none => none)
  | none => none) else none
theorem nrcX_ok {t : nTb} {ml : nMl} {Fr : kQ} {sc : List Int32} {c : nRC} {P : Nat → Nat → Bool} (hF : nFr ml Fr) (hc : nRich t sc c) : nXs (nTm t ml) (nQ t Fr) sc (nrcX (nTm t ml) ml c P) := by
  intro y r pc x outs ρ0 Q hy h hg
  obtain ⟨⟨E, L0, S, O⟩, D⟩ := x
  obtain ⟨⟨⟨cy, ca, cr⟩, cm, pre, cpo⟩, fa, als⟩ := c
  unfold nrcX at h
  dsimp only at h
  cases hP : P y pc with
  | false => rw [hP] at h; cases h
  | true =>
    rw [hP, hy] at h
    simp only [cond_true] at h
    cases he : xat r.1 pc with
    | none => rw [he] at h; cases h
    | some e =>
      rw [he] at h
      dsimp only at h
      cases hk : (Nat.beq (xkind e) 1 && Nat.beq e.2.1 cy) with
      | false => rw [hk] at h; cases h
      | true =>
        rw [hk] at h
        simp only [cond_true] at h
        rw [Bool.and_eq_true] at hk
        have hk1 := Nat.eq_of_beq_eq_true hk.1
        have hk2 := Nat.eq_of_beq_eq_true hk.2
        intro σ L st B I J ⟨h1, h2, h3, h4⟩ hD hB hI
        dsimp only at h1 h2 h3 h4 hD
        split at h
        · cases h
        · rename_i ar har
          obtain ⟨as, rest⟩ := ar
          dsimp only at h
          cases hb : ((Nat.ble (kcs rest) 8 && krecv (nTm t ml) e as) && (kz E && (kfit E as ca && nsub cm ml))) with
          | false => rw [hb] at h; cases h
          | true =>
            rw [hb] at h
            simp only [cond_true] at h
            simp only [Bool.and_eq_true] at hb
            obtain ⟨⟨b1, b2⟩, b3, b4, b5⟩ := hb
            split at h
            · cases h
            · rename_i r' hr'
              cases hb2 : (Nat.ble (kcs as) r'.2.1 && pre.all (npk (nTm t ml) E O)) with
              | false => rw [hb2] at h; cases h
              | true =>
                rw [hb2] at h
                simp only [cond_true] at h
                rw [Bool.and_eq_true] at hb2
                split at h
                · cases h
                · rename_i EO hEO
                  obtain ⟨E1, O1⟩ := EO
                  dsimp only at h
                  cases hfa : (fa.all (fun f => match nrl (nrd O1 none 0 pre []) f.1 f.2 with
                      | some g => kent E1 D g
                      | none => false)) with
                  | false => rw [hfa] at h; cases h
                  | true =>
                    rw [hfa] at h
                    simp only [cond_true] at h
                    have h00 : xnth (ρ0 ++ σ) 0 = some 0 := by
                      obtain ⟨z, z1, z2⟩ := kz_ok h1 b3 0 0
                      dsimp only at z1 z2
                      rw [z1, show z = 0 by omega]
                    obtain ⟨as', rest', p1, p2, p3⟩ := kpop_ok e.2.2.1 har (rfl : kvs (ρ0 ++ σ) [] []) h3
                    have c8 : (xcat8 rest' && xrecv e as' (tMem B I J)) = true := by
                      rw [kcat8 p3 b1, krecv_ok hB p2 b2]
                      rfl
                    have cn : Nat.ble (xcats as') r'.2.1 = true := by rw [kcs_ok p2]; exact hb2.1
                    have hpre := npk_ok (l := pre) h1 b3 h4 hI hb2.2
                    obtain ⟨τl, l1, l2⟩ := nlds_ok hI h1 h00 h4 hEO
                    have hD1 : kfs (ρ0 ++ σ ++ τl) D := kfs_ap hD
                    have oldv : ∀ τ i q v, xnth pre i = some q → kol O1 q.1 0 (q.2.1 : Int) = some v → knum (ρ0 ++ σ ++ τl ++ τ) v (I q.1 q.2.1).toInt := fun τ i q v _ hv => knum_ap (kol_ok l2 hv ⟨0, xnth_ap h00, by dsimp only; omega⟩)
                    have hasked : ∀ f ∈ fa, nrk I I pre [] none f := fun f hf => by
                      have hh := List.all_eq_true.mp hfa f hf
                      split at hh
                      · rename_i g hg0
                        refine nrl_of (ρ := ρ0 ++ σ ++ τl) (G := nrv I I pre [] none) (fun w u hu => ?_) hg0 (kent_ok l1 hD1 hh)
                        obtain ⟨w1, w2⟩ := w
                        match w1, hu with
                        | 0, hu => cases hu
                        | 1, hu =>
                          have hu : (match xnth pre w2 with
                            | some q => kol O1 q.1 0 (q.2.1 : Int)
                            | none => none) = some u := hu
                          split at hu
                          · rename_i q hq
                            refine ⟨(I q.1 q.2.1).toInt, ?_, ?_⟩
                            · show npv I pre w2 = _
                              unfold npv
                              rw [hq]
                            · have := oldv [] w2 q u hq hu
                              rw [List.append_nil] at this
                              exact this
                          · cases hu
                        | w1 + 2, hu => cases hu
                      · cases hh
                    have hcon := hc r' as' B I J hr' (kfit_ok h1 p2 b4) ⟨hB, hI.1, hI.2.1.1⟩ hpre hasked
                    refine sw_1 he hk1 p1 c8 (by rw [hk2]; exact hr') cn hcon ?_
                    rintro v M1 ⟨B', I', J', rfl, hO', hag, hv, al, hal, hpo, hfs⟩
                    have hag : kAg cm B I J B' I' J' := hag
                    have hB' : kB (nTm t ml) B' := hO'.1
                    have hI' : kI (nTm t ml) (nQ t Fr) B' I' J' := ⟨hO'.2.1, ⟨hO'.2.2, hF _ _ _ _ _ _ hI.2.1.2 (kAg_sub b5 hag)⟩, hI.2.2⟩
                    obtain ⟨τp, tp1, tp2⟩ := npo_ok (I := I') l1 (xnth_ap h00) hpo
                    have hov : kov (ρ0 ++ σ ++ τl ++ τp) I' (nkeep E1 cm O1 ++ npO E1.length al.1) := fun q hqm => by
                      rcases List.mem_append.mp hqm with hqm | hqm
                      · exact kov_ap (nkeep_ok l1 l2 hag) q hqm
                      · exact tp2 q hqm
                    obtain ⟨a, ha1, ha2⟩ := nmany_in h al hal
                    split at ha1
                    · rename_i F hFl
                      cases ha1
                      have hout := hg _ (ha2 _ List.mem_cons_self)
                      have res : ∀ τr, (∀ u, nrv1 ((((cy, ca, cr), cm, pre, cpo), fa, als) : nRC) (E1 ++ npE al.1).length = some u → ∃ w, v = some w ∧ kv (ρ0 ++ σ ++ τl ++ τp ++ τr) u w) → kfs (ρ0 ++ σ ++ τl ++ τp ++ τr) F := fun τr hrv => by
                        refine nfl_to (G := nrv I I' pre al.1 v) (fun w u hu => ?_) hFl hfs
                        obtain ⟨w1, w2⟩ := w
                        match w1, hu with
                        | 0, hu =>
                          have hu : (bif Nat.blt w2 al.1.length then some ((0 : Nat), E1.length + w2, (0 : Int)) else none) = some u := hu
                          cases hlt : Nat.blt w2 al.1.length with
                          | false => rw [hlt] at hu; cases hu
                          | true =>
                            rw [hlt] at hu
                            cases hu
                            obtain ⟨q, hq⟩ := xnth_lt (Nat.blt_eq.mp hlt)
                            refine ⟨(I' q.1 q.2.1).toInt, ?_, knum_ap (npO_num tp2 (xnth_ap (xnth_ap h00)) hq)⟩
                            show npv I' al.1 w2 = _
                            unfold npv
                            rw [hq]
                        | 1, hu =>
                          have hu : (match xnth pre w2 with
                            | some q => kol O1 q.1 0 (q.2.1 : Int)
                            | none => none) = some u := hu
                          split at hu
                          · rename_i q hq
                            refine ⟨(I q.1 q.2.1).toInt, ?_, ?_⟩
                            · show npv I pre w2 = _
                              unfold npv
                              rw [hq]
                            · have := oldv (τp ++ τr) w2 q u hq hu
                              rw [← List.append_assoc] at this
                              exact this
                          · cases hu
                        | w1 + 2, hu =>
                          have hu : (match nrv1 ((((cy, ca, cr), cm, pre, cpo), fa, als) : nRC) (E1 ++ npE al.1).length with
                            | some v => bif Nat.beq v.1 0 then some v else none
                            | none => none) = some u := hu
                          split at hu
                          · rename_i v0 hv0
                            cases hb : Nat.beq v0.1 0 with
                            | false => rw [hb] at hu; cases hu
                            | true =>
                              rw [hb] at hu
                              cases hu
                              obtain ⟨w, rfl, hw⟩ := hrv u hv0
                              obtain ⟨t0, i0, c0⟩ := u
                              have e0 := Nat.eq_of_beq_eq_true hb
                              dsimp only at e0
                              subst e0
                              obtain ⟨x, rfl, hx⟩ := hw
                              exact ⟨x.toInt, rfl, hx⟩
                          · cases hu
                      cases cr with
                      | none =>
                        have ev : v = none := hv
                        subst ev
                        have r0 := res [] (fun u hu => by cases hu)
                        rw [List.append_nil] at r0
                        refine hout (σ ++ (τl ++ τp)) L rest' B' I' J' ⟨?_, ?_, ?_, ?_⟩ ?_ hB' hI'
                        · rw [show ρ0 ++ (σ ++ (τl ++ τp)) = ρ0 ++ σ ++ τl ++ τp by simp [List.append_assoc]]
                          show kin _ ((E1 ++ npE al.1) ++ [])
                          rw [List.append_nil]
                          exact tp1
                        · rw [show ρ0 ++ (σ ++ (τl ++ τp)) = ρ0 ++ σ ++ τl ++ τp by simp [List.append_assoc]]
                          exact kvl_ap (kvl_ap h2)
                        · rw [show ρ0 ++ (σ ++ (τl ++ τp)) = ρ0 ++ σ ++ τl ++ τp by simp [List.append_assoc]]
                          exact kvs_ap (kvs_ap p3)
                        · rw [show ρ0 ++ (σ ++ (τl ++ τp)) = ρ0 ++ σ ++ τl ++ τp by simp [List.append_assoc]]
                          exact hov
                        · rw [show ρ0 ++ (σ ++ (τl ++ τp)) = ρ0 ++ σ ++ τl ++ τp by simp [List.append_assoc]]
                          exact kfs_app (nders_ok (kfs_ap hD1) r0) (kfs_ap hD1)
                      | some t0 =>
                        obtain ⟨w, rfl, hw, ht⟩ := hv
                        have num : ∃ z, (t0.2.1 ≤ z ∧ z ≤ t0.2.2) ∧ kv (ρ0 ++ σ ++ τl ++ τp ++ [z]) (t0.1, (E1 ++ npE al.1).length, 0) w := by
                          obtain ⟨tt, lo, hi⟩ := t0
                          have hnew : ∀ z : Int, xnth (ρ0 ++ σ ++ τl ++ τp ++ [z]) (E1 ++ npE al.1).length = some z := fun z => kin_new tp1
                          match tt, hw, ht with
                          | 0, ⟨x, e1, e2, e3⟩, _ => exact ⟨x.toInt, ⟨e2, e3⟩, ⟨x, e1, x.toInt, hnew _, by simp⟩⟩
                          | 1, ⟨x, e1, e2, e3⟩, _ => exact ⟨x.toInt, ⟨e2, e3⟩, ⟨x, e1, x.toInt, hnew _, by simp⟩⟩
                          | tt + 2, _, ht => exact absurd ht (by dsimp only; omega)
                        obtain ⟨z, hz, hkv⟩ := num
                        have r0 := res [z] (fun u hu => by
                          cases hu
                          exact ⟨w, rfl, hkv⟩)
                        have ea : ρ0 ++ (σ ++ (τl ++ (τp ++ [z]))) = ρ0 ++ σ ++ τl ++ τp ++ [z] := by simp [List.append_assoc]
                        refine hout (σ ++ (τl ++ (τp ++ [z]))) L (w :: rest') B' I' J' ⟨?_, ?_, ?_, ?_⟩ ?_ hB' hI'
                        · rw [ea]; exact kin_app tp1 hz.1 hz.2
                        · rw [ea]; exact kvl_ap (kvl_ap (kvl_ap h2))
                        · rw [ea]; exact ⟨w, rest', rfl, hkv, kvs_ap (kvs_ap (kvs_ap p3))⟩
                        · rw [ea]; exact kov_ap hov
                        · rw [ea]; exact kfs_app (nders_ok (kfs_ap (kfs_ap hD1)) r0) (kfs_ap (kfs_ap hD1))
                    · cases ha1
