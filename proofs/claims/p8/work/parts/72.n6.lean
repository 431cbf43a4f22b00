/-! COPIES OF ROWS -/
def tcp {α : Type} (f : Nat → Nat → α) (d dp s sp n : Nat) : Nat → Nat → α := fun o k => if o = d ∧ dp ≤ k ∧ k < dp + n then f s (sp + (k - dp)) else f o k
theorem tcp_0 {α : Type} {f : Nat → Nat → α} {d dp s sp : Nat} : tcp f d dp s sp 0 = f := by
  funext o k
  unfold tcp
  rw [if_neg (by omega)]
theorem tcp_s {α : Type} {f : Nat → Nat → α} {d dp s sp n : Nat} : tcp f d dp s sp (n + 1) = tup (tcp f d dp s sp n) d (dp + n) (f s (sp + n)) := by
  funext o k
  unfold tup tcp
  by_cases h : o = d ∧ k = dp + n
  · rw [if_pos h, if_pos (by omega)]
    rw [show sp + (k - dp) = sp + n by omega]
  · rw [if_neg h]
    by_cases h2 : o = d ∧ dp ≤ k ∧ k < dp + n
    · rw [if_pos h2, if_pos (by omega)]
    · rw [if_neg h2, if_neg (by omega)]
theorem tS_cong {I I' : tI} {J J' : tJ} {o : Nat} : ∀ (k : Nat) (l : List Value), (∀ i, I' o i = I o i) → (∀ i, J' o i = J o i) → tS I' J' o k l = tS I J o k l
  | _, [], _, _ => rfl
  | k, v :: l, h, h' => by
    simp only [tS]
    rw [h, h', tS_cong (k + 1) l h h']
theorem xcpy_nth {sl dl : List Value} {sp dp n : Nat} (h1 : sp + n ≤ sl.length) (h2 : dp + n ≤ dl.length) (k : Nat) : xnth (xcpy sl dl sp dp n) k = (if dp ≤ k ∧ k < dp + n then xnth sl (sp + (k - dp)) else xnth dl k) := by
  unfold xcpy
  simp only [xnth_eq]
  by_cases hk : k < dp
  · rw [List.getElem?_append_left (by rw [List.length_take]; omega), List.getElem?_take_of_lt hk, if_neg (by omega)]
  · rw [List.getElem?_append_right (by rw [List.length_take]; omega), List.length_take, show min dp dl.length = dp by omega]
    by_cases hk2 : k < dp + n
    · rw [List.getElem?_append_left (by rw [List.length_take, List.length_drop]; omega), List.getElem?_take_of_lt (by omega), List.getElem?_drop, if_pos (by omega)]
    · rw [List.getElem?_append_right (by rw [List.length_take, List.length_drop]; omega), List.length_take, List.length_drop, List.getElem?_drop, if_neg (by omega)]
      congr 1
      omega
theorem xext {α : Type} {l m : List α} (h : ∀ k, xnth l k = xnth m k) : l = m := by
  apply List.ext_getElem?
  intro k
  rw [← xnth_eq, ← xnth_eq]
  exact h k
theorem tcpI {B : xM} {I : tI} {J : tJ} {d s c dp sp n : Nat} {sl dl : List Value} (hs : xarr B s c = some sl) (hd : xarr B d c = some dl) (h1 : sp + n ≤ sl.length) (h2 : dp + n ≤ dl.length) (ts : ∀ k, k < n → ∃ v, xnth sl (sp + k) = some v ∧ tyV v 0 = true) (td : ∀ k, k < n → ∃ v, xnth dl (dp + k) = some v ∧ tyV v 0 = true) : (tMem B I J).set d (c, xcpy (tS I J s 0 sl) (tS I J d 0 dl) sp dp n) = tMem B (tcp I d dp s sp n) J := by
  apply xext
  intro a
  have hdn := xarr_nth hd
  have hdl : d < B.length := by rw [xnth_eq] at hdn; exact (List.getElem?_eq_some_iff.mp hdn).1
  unfold tMem
  rw [tM_nth]
  by_cases e : a = d
  · subst e
    rw [xnth_eq, List.getElem?_set_self (by rw [tM_len]; exact hdl), hdn]
    simp only [Option.map_some, Nat.zero_add]
    congr 2
    apply xext
    intro k
    rw [xcpy_nth (by rw [tS_len]; exact h1) (by rw [tS_len]; exact h2), tS_nth, tS_nth, tS_nth]
    simp only [Nat.zero_add]
    by_cases hk : dp ≤ k ∧ k < dp + n
    · rw [if_pos hk]
      obtain ⟨v, v1, v2⟩ := ts (k - dp) (by omega)
      obtain ⟨w, w1, w2⟩ := td (k - dp) (by omega)
      rw [show dp + (k - dp) = k by omega] at w1
      obtain ⟨p, rfl⟩ := tyV_i v2
      obtain ⟨q, rfl⟩ := tyV_i w2
      rw [v1, w1]
      simp only [Option.map_some, tV]
      unfold tcp
      rw [if_pos ⟨rfl, hk⟩]
    · rw [if_neg hk]
      unfold tcp
      rw [if_neg (by intro q; exact hk q.2)]
  · rw [xnth_eq, List.getElem?_set_ne (fun q => e q.symm), ← xnth_eq, tM_nth]
    congr 1
    funext p
    rw [tS_cong (I := I) (I' := tcp I d dp s sp n) (J := J) (J' := J) (o := 0 + a) 0 p.2 (fun i => by unfold tcp; rw [if_neg (by intro q; exact e (by omega))]) (fun i => rfl)]
theorem tcpJ {B : xM} {I : tI} {J : tJ} {d s c dp sp n : Nat} {sl dl : List Value} (hs : xarr B s c = some sl) (hd : xarr B d c = some dl) (h1 : sp + n ≤ sl.length) (h2 : dp + n ≤ dl.length) (ts : ∀ k, k < n → ∃ v, xnth sl (sp + k) = some v ∧ tyV v 1 = true) (td : ∀ k, k < n → ∃ v, xnth dl (dp + k) = some v ∧ tyV v 1 = true) : (tMem B I J).set d (c, xcpy (tS I J s 0 sl) (tS I J d 0 dl) sp dp n) = tMem B I (tcp J d dp s sp n) := by
  apply xext
  intro a
  have hdn := xarr_nth hd
  have hdl : d < B.length := by rw [xnth_eq] at hdn; exact (List.getElem?_eq_some_iff.mp hdn).1
  unfold tMem
  rw [tM_nth]
  by_cases e : a = d
  · subst e
    rw [xnth_eq, List.getElem?_set_self (by rw [tM_len]; exact hdl), hdn]
    simp only [Option.map_some, Nat.zero_add]
    congr 2
    apply xext
    intro k
    rw [xcpy_nth (by rw [tS_len]; exact h1) (by rw [tS_len]; exact h2), tS_nth, tS_nth, tS_nth]
    simp only [Nat.zero_add]
    by_cases hk : dp ≤ k ∧ k < dp + n
    · rw [if_pos hk]
      obtain ⟨v, v1, v2⟩ := ts (k - dp) (by omega)
      obtain ⟨w, w1, w2⟩ := td (k - dp) (by omega)
      rw [show dp + (k - dp) = k by omega] at w1
      obtain ⟨p, rfl⟩ := tyV_l v2
      obtain ⟨q, rfl⟩ := tyV_l w2
      rw [v1, w1]
      simp only [Option.map_some, tV]
      unfold tcp
      rw [if_pos ⟨rfl, hk⟩]
    · rw [if_neg hk]
      unfold tcp
      rw [if_neg (by intro q; exact hk q.2)]
  · rw [xnth_eq, List.getElem?_set_ne (fun q => e q.symm), ← xnth_eq, tM_nth]
    congr 1
    funext p
    rw [tS_cong (I := I) (I' := I) (J := J) (J' := tcp J d dp s sp n) (o := 0 + a) 0 p.2 (fun i => rfl) (fun i => by unfold tcp; rw [if_neg (by intro q; exact e (by omega))])]
/-- index and length stay inside -/
def ncin (E : kE) (D : List kF) (p n : kV) (m : Nat) : Bool := match kiv E p with
  | some b => decide (0 ≤ b.1) && kent E D ([(1, p.2.1), (1, n.2.1)], (m : Int) - p.2.2 - n.2.2)
  | none => false
def ncopy (T : kT) (pc : Nat) (x : nS) : nX := match x.1.2.2.1 with
  | n :: dp :: d :: sp :: s :: S => bif (Nat.beq n.1 0 && (Nat.beq dp.1 0 && Nat.beq sp.1 0)) && ((Nat.beq d.1 2 && Nat.beq s.1 2) && Nat.ble (kcs S) 8) then (match T.k d.2.1 with
    | some cd => (match T.k s.2.1 with
      | some cs => (match kiv x.1.1 n with
        | some bn => bif (decide (0 ≤ bn.1) && (ncin x.1.1 x.2 dp n cd.2 && ncin x.1.1 x.2 sp n cs.2)) && (Nat.blt 0 cd.2 && Nat.blt 0 cs.2) then
            (bif Nat.beq cd.1 20 && Nat.beq cs.1 20 then (match kjn T s.2.1 0 (cs.2 - 1) with
              | some w => bif kmt T d.2.1 w.1 w.2 0 (cd.2 - 1) then some [(pc + 3, ((x.1.1, x.1.2.1, S, x.1.2.2.2.filter (fun q => !Nat.beq q.1.1 d.2.1)), x.2))] else none
              | none => none)
            else bif Nat.beq cd.1 22 && Nat.beq cs.1 22 then (bif kjl T s.2.1 0 (cs.2 - 1) && (kjl T d.2.1 0 (cd.2 - 1) && kjm T d.2.1 0 (cd.2 - 1)) then some [(pc + 3, ((x.1.1, x.1.2.1, S, x.1.2.2.2), x.2))] else none)
            else none) else none
        | none => none)
      | none => none)
    | none => none) else none
  | _ => none
theorem ncin_ok {ρ : List Int} {E : kE} {D : List kF} {p n : kV} {m : Nat} {x y : Int32} (h : kin ρ E) (hD : kfs ρ D) (hx : knum ρ p x.toInt) (hy : knum ρ n y.toInt) (hc : ncin E D p n m = true) : 0 ≤ x.toInt ∧ x.toInt + y.toInt ≤ m := by
  unfold ncin at hc
  split at hc
  · rename_i b hb
    rw [Bool.and_eq_true, decide_eq_true_eq] at hc
    have := kiv_in h hx hb
    obtain ⟨s, k1, k2⟩ := kent_ok h hD hc.2
    obtain ⟨z, z1, z2⟩ := hx
    obtain ⟨w, w1, w2⟩ := hy
    rw [kls_two z1 w1] at k1
    cases k1
    dsimp only at k2
    exact ⟨by omega, by omega⟩
  · cases hc
section NC
variable {T : kT} {C : kQ} {sc : List Int32} {r : xR} {ρ0 : List Int} {pc : Nat} {D : List kF} {Q : Option Value → xM → Prop} {outs : List (Nat × nS)} {e : xE} {x : nS}
theorem kI_cpI {B : xM} {I : tI} {J : tJ} {d dp s sp : Nat} {w : Int × Int} (hI : kI T C B I J) : ∀ n, (∀ k, k < n → T.m d (dp + k) = true ∧ ((T.b d (dp + k)).2.1 ≤ (I s (sp + k)).toInt ∧ (I s (sp + k)).toInt ≤ (T.b d (dp + k)).2.2)) → kI T C B (tcp I d dp s sp n) J
  | 0, _ => by rw [tcp_0]; exact hI
  | n + 1, h => by
    rw [tcp_s]
    exact kI_put (kI_cpI (w := w) hI n (fun k hk => h k (by omega))) (h n (by omega)).1 (fun _ => (h n (by omega)).2)
theorem kI_cpJ {B : xM} {I : tI} {J : tJ} {d dp s sp : Nat} (hI : kI T C B I J) : ∀ n, (∀ k, k < n → T.m d (dp + k) = true) → kI T C B I (tcp J d dp s sp n)
  | 0, _ => by rw [tcp_0]; exact hI
  | n + 1, h => by
    rw [tcp_s]
    exact kI_putJ (kI_cpJ hI n (fun k hk => h k (by omega))) (h n (by omega))
theorem ti_neg {x : Int32} (h : 0 ≤ x.toInt) : decide (x < 0) = false := decide_eq_false (ti_pos h)
theorem ncopy_ok {i b : Nat} {z : Int} (he : xat r.1 pc = some (.invokestatic i, 5001, b, z)) (h : ncopy T pc x = some outs) (hg : ∀ q ∈ outs, nG T C sc r ρ0 q.1 q.2 Q) : nG T C sc r ρ0 pc x Q := by
  obtain ⟨⟨E, L, S, O⟩, D⟩ := x
  unfold ncopy at h
  dsimp only at h
  split at h
  · rename_i n dp d sp s S'
    cases hb : ((Nat.beq n.1 0 && (Nat.beq dp.1 0 && Nat.beq sp.1 0)) && ((Nat.beq d.1 2 && Nat.beq s.1 2) && Nat.ble (kcs S') 8)) with
    | false => rw [hb] at h; cases h
    | true =>
      rw [hb] at h
      simp only [cond_true] at h
      simp only [Bool.and_eq_true] at hb
      obtain ⟨⟨b1, b2, b3⟩, ⟨b4, b5⟩, b6⟩ := hb
      split at h
      · rename_i cd hcd
        split at h
        · rename_i cs hcs
          split at h
          · rename_i bn hbn
            cases hc : ((decide (0 ≤ bn.1) && (ncin E D dp n cd.2 && ncin E D sp n cs.2)) && (Nat.blt 0 cd.2 && Nat.blt 0 cs.2)) with
            | false => rw [hc] at h; cases h
            | true =>
              rw [hc] at h
              simp only [cond_true] at h
              simp only [Bool.and_eq_true, decide_eq_true_eq] at hc
              obtain ⟨⟨c1, c2, c3⟩, c4, c5⟩ := hc
              have c4 := Nat.blt_eq.mp c4
              have c5 := Nat.blt_eq.mp c5
              obtain ⟨tn, ni, nc⟩ := n
              obtain ⟨tdp, dpi, dpc⟩ := dp
              obtain ⟨tsp, spi, spc⟩ := sp
              obtain ⟨td, d, dd⟩ := d
              obtain ⟨ts, s, ds⟩ := s
              have e1 := Nat.eq_of_beq_eq_true b1
              have e2 := Nat.eq_of_beq_eq_true b2
              have e3 := Nat.eq_of_beq_eq_true b3
              have e4 := Nat.eq_of_beq_eq_true b4
              have e5 := Nat.eq_of_beq_eq_true b5
              dsimp only at e1 e2 e3 e4 e5 hcd hcs h
              subst e1 e2 e3 e4 e5
              obtain ⟨kd, md⟩ := cd
              obtain ⟨ks, ms⟩ := cs
              dsimp only at h c2 c3 c4 c5
              intro σ L' st B I J ⟨h1, h2, h3, h4⟩ hD hB hI
              obtain ⟨w1, st1, rfl, g1, w2, st2, rfl, g2, w3, st3, rfl, g3, w4, st4, rfl, g4, w5, st5, rfl, g5, h3⟩ := h3
              obtain ⟨vn, rfl, hvn⟩ := id g1
              obtain ⟨vd, rfl, hvd⟩ := id g2
              obtain ⟨vs, rfl, hvs⟩ := id g4
              have f3 : w3 = .ref d := g3
              have f5 : w5 = .ref s := g5
              subst f3 f5
              have n1 := kiv_in h1 hvn hbn
              have i1 := ncin_ok h1 hD hvd hvn c2
              have i2 := ncin_ok h1 hD hvs hvn c3
              have un : vn.toNatClampNeg = vn.toInt.toNat := rfl
              have ud : vd.toNatClampNeg = vd.toInt.toNat := rfl
              have us : vs.toNatClampNeg = vs.toInt.toNat := rfl
              obtain ⟨sl, s1, s2, s3⟩ := hB s _ hcs
              obtain ⟨dl, d1, d2, d3⟩ := hB d _ hcd
              dsimp only at s1 s2 s3 d1 d2 d3
              have h8 := kcat8 h3 b6
              have hx : ∀ M', ks = kd → (tMem B I J).set d (kd, xcpy (tS I J s 0 sl) (tS I J d 0 dl) vs.toNatClampNeg vd.toNatClampNeg vn.toNatClampNeg) = M' → xacopy kd pc L' vn vd vs d s st5 (tMem B I J) = some (pc + 3, L', st5, M') := fun M' ek eM => by
                subst ek
                unfold xacopy
                rw [tarr s1]
                dsimp only
                rw [tarr d1]
                dsimp only
                have q1 : Nat.blt (tS I J s 0 sl).length (vs.toNatClampNeg + vn.toNatClampNeg) = false := by
                  rw [tS_len]
                  cases hh : Nat.blt sl.length (vs.toNatClampNeg + vn.toNatClampNeg) with
                  | false => rfl
                  | true => have := Nat.blt_eq.mp hh; omega
                have q2 : Nat.blt (tS I J d 0 dl).length (vd.toNatClampNeg + vn.toNatClampNeg) = false := by
                  rw [tS_len]
                  cases hh : Nat.blt dl.length (vd.toNatClampNeg + vn.toNatClampNeg) with
                  | false => rfl
                  | true => have := Nat.blt_eq.mp hh; omega
                rw [ti_neg i2.1, ti_neg i1.1, ti_neg (show 0 ≤ vn.toInt by omega), q1, q2]
                simp only [Bool.or_self, cond_false]
                rw [eM]
              cases hk : (Nat.beq kd 20 && Nat.beq ks 20) with
              | true =>
                rw [hk] at h
                simp only [cond_true] at h
                rw [Bool.and_eq_true] at hk
                have k1 := Nat.eq_of_beq_eq_true hk.1
                have k2 := Nat.eq_of_beq_eq_true hk.2
                subst k1 k2
                split at h
                · rename_i w hw
                  cases hm : kmt T d w.1 w.2 0 (md - 1) with
                  | false => rw [hm] at h; cases h
                  | true =>
                    rw [hm] at h
                    cases h
                    have key : ∀ k, k < vn.toNatClampNeg → T.m d (vd.toNatClampNeg + k) = true ∧ ((T.b d (vd.toNatClampNeg + k)).2.1 ≤ (I s (vs.toNatClampNeg + k)).toInt ∧ (I s (vs.toNatClampNeg + k)).toInt ≤ (T.b d (vd.toNatClampNeg + k)).2.2) := fun k hk => by
                      obtain ⟨p1, p2, p3⟩ := kjn_ok _ _ hw (vs.toNatClampNeg + k) (by omega) (by omega)
                      obtain ⟨q1, q2, q3, q4⟩ := kmt_ok _ _ hm (vd.toNatClampNeg + k) (by omega) (by omega)
                      have := hI.1 s _ (vs.toNatClampNeg + k) hcs (by dsimp only; omega) p1
                      exact ⟨q4, by omega, by omega⟩
                    have hM := tcpI (I := I) (J := J) (n := vn.toNatClampNeg) (dp := vd.toNatClampNeg) (sp := vs.toNatClampNeg) s1 d1 (by omega) (by omega) (fun k hk => by
                      obtain ⟨p1, -⟩ := kjn_ok _ _ hw (vs.toNatClampNeg + k) (by omega) (by omega)
                      obtain ⟨v, v1, v2, -⟩ := s3 (vs.toNatClampNeg + k) (by omega)
                      exact ⟨v, v1, v2 p1⟩) (fun k hk => by
                      obtain ⟨q1, -⟩ := kmt_ok _ _ hm (vd.toNatClampNeg + k) (by omega) (by omega)
                      obtain ⟨v, v1, v2, -⟩ := d3 (vd.toNatClampNeg + k) (by omega)
                      exact ⟨v, v1, v2 q1⟩)
                    refine sw_0 he rfl ?_ (hg _ List.mem_cons_self σ L' st5 B (tcp I d vd.toNatClampNeg s vs.toNatClampNeg vn.toNatClampNeg) J ⟨h1, h2, h3, ?_⟩ hD hB (kI_cpI (w := w) hI _ key))
                    · show (bif xcat8 st5 then (match xacopy 20 pc L' vn vd vs d s st5 (tMem B I J) with
                        | some q => some q
                        | none => xacopy 22 pc L' vn vd vs d s st5 (tMem B I J)) else none) = _
                      rw [h8, hx _ rfl hM]
                      rfl
                    · intro q hq
                      obtain ⟨hq1, hq2⟩ := List.mem_filter.mp hq
                      obtain ⟨k, k1, k2⟩ := h4 q hq1
                      refine ⟨k, k1, ?_⟩
                      unfold tcp
                      rw [if_neg]
                      · exact k2
                      · intro hh
                        rw [hh.1, Nat.beq_refl] at hq2
                        cases hq2
                · cases h
              | false =>
                rw [hk] at h
                simp only [cond_false] at h
                cases hk2 : (Nat.beq kd 22 && Nat.beq ks 22) with
                | false => rw [hk2] at h; cases h
                | true =>
                  rw [hk2] at h
                  simp only [cond_true] at h
                  rw [Bool.and_eq_true] at hk2
                  have k1 := Nat.eq_of_beq_eq_true hk2.1
                  have k2 := Nat.eq_of_beq_eq_true hk2.2
                  subst k1 k2
                  cases hm : (kjl T s 0 (ms - 1) && (kjl T d 0 (md - 1) && kjm T d 0 (md - 1))) with
                  | false => rw [hm] at h; cases h
                  | true =>
                    rw [hm] at h
                    cases h
                    rw [Bool.and_eq_true, Bool.and_eq_true] at hm
                    have hM := tcpJ (I := I) (J := J) (n := vn.toNatClampNeg) (dp := vd.toNatClampNeg) (sp := vs.toNatClampNeg) s1 d1 (by omega) (by omega) (fun k hk => by
                      have p1 := kjl_ok _ _ hm.1 (vs.toNatClampNeg + k) (by omega) (by omega)
                      obtain ⟨v, v1, v2, v3, -⟩ := s3 (vs.toNatClampNeg + k) (by omega)
                      exact ⟨v, v1, v3 p1⟩) (fun k hk => by
                      have q1 := kjl_ok _ _ hm.2.1 (vd.toNatClampNeg + k) (by omega) (by omega)
                      obtain ⟨v, v1, v2, v3, -⟩ := d3 (vd.toNatClampNeg + k) (by omega)
                      exact ⟨v, v1, v3 q1⟩)
                    refine sw_0 he rfl ?_ (hg _ List.mem_cons_self σ L' st5 B I (tcp J d vd.toNatClampNeg s vs.toNatClampNeg vn.toNatClampNeg) ⟨h1, h2, h3, h4⟩ hD hB (kI_cpJ hI _ (fun k hk => kjm_ok _ _ hm.2.2 _ (by omega) (by omega))))
                    show (bif xcat8 st5 then (match xacopy 20 pc L' vn vd vs d s st5 (tMem B I J) with
                      | some q => some q
                      | none => xacopy 22 pc L' vn vd vs d s st5 (tMem B I J)) else none) = _
                    have hno : xacopy 20 pc L' vn vd vs d s st5 (tMem B I J) = none := by
                      unfold xacopy
                      rw [xarr_no (tarr s1) rfl]
                    rw [h8, hno, hx _ rfl hM]
                    rfl
          · cases h
        · cases h
      · cases h
  · cases h
end NC
