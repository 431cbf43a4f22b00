/-! MORE STEPS OF THE CHECK, 5: long fields, switches, the greater and the lesser -/
def kct (v : kV) : Nat := bif Nat.beq v.1 1 then 2 else 1
def kcs : List kV → Nat
  | [] => 0
  | v :: S => kct v + kcs S
theorem kct_ok {ρ : List Int} {v : kV} {w : Value} (h : kv ρ v w) : xcat w = kct v := by
  obtain ⟨t, i, c⟩ := v
  match t, h with
  | 0, ⟨x, h1, _⟩ => subst h1; rfl
  | 1, ⟨x, h1, _⟩ => subst h1; rfl
  | 2, h => have e : w = .ref i := h; subst e; rfl
  | t + 3, h => have e : w = .retAddr i := h; subst e; rfl
theorem kcs_ok {ρ : List Int} : ∀ {S : List kV} {w : List Value}, kvs ρ S w → xcats w = kcs S
  | [], _, h => by cases h; rfl
  | v :: S, _, ⟨v', S', h1, h2, h3⟩ => by
    subst h1
    simp only [xcats, kcs, kct_ok h2, kcs_ok h3]
theorem kcat8 {ρ : List Int} {S : List kV} {w : List Value} (h : kvs ρ S w) (h8 : Nat.ble (kcs S) 8 = true) : xcat8 w = true := by
  have : ∀ w : List Value, (w.map Value.category).sum = xcats w := fun w => by
    induction w with
    | nil => rfl
    | cons v w ih => simp only [List.map_cons, List.sum_cons, xcats, ih, xcat_eq]
  unfold xcat8
  rw [this, kcs_ok h]
  exact h8
def kgetL (T : kT) (c k pc : Nat) (s : kS) : kX := match s.2.2.1 with
  | v :: S => bif Nat.beq v.1 2 then (match T.k v.2.1 with
    | some cm => bif (Nat.beq cm.1 c && Nat.blt k cm.2) && Nat.beq (T.b v.2.1 k).1 1 then some [(pc + 3, (s.1 ++ [(klmin, klmax)], s.2.1, (1, s.1.length, 0) :: S, s.2.2.2))] else none
    | none => none) else none
  | _ => none
def kisl (ty : FieldType) : Bool := match ty with
  | .long => true
  | _ => false
def kputL (T : kT) (c k pc : Nat) (s : kS) : kX := match s.2.2.1 with
  | u :: v :: S => bif Nat.beq u.1 1 && Nat.beq v.1 2 then (match T.k v.2.1 with
    | some cm => bif (Nat.beq cm.1 c && Nat.blt k cm.2) && (Nat.beq (T.b v.2.1 k).1 1 && (kisl (xty c k) && T.m v.2.1 k)) then some [(pc + 3, (s.1, s.2.1, S, s.2.2.2))] else none
    | none => none) else none
  | _ => none
def kl2i (pc : Nat) (s : kS) : kX := match s.2.2.1 with
  | x :: S => bif Nat.beq x.1 1 then (match kiv s.1 x with
    | some b => bif decide (-2147483648 ≤ b.1) && decide (b.2 ≤ 2147483647) then some [(pc + 1, (s.1, s.2.1, (0, x.2) :: S, s.2.2.2))] else some [(pc + 1, (s.1 ++ [(kmin, kmax)], s.2.1, (0, s.1.length, 0) :: S, s.2.2.2))]
    | none => none) else none
  | _ => none
def ksA (n pc i : Nat) (s : kS) : kX := match s.2.2.1 with
  | v :: S => bif Nat.beq v.1 2 then some [(pc + n, (s.1, kset false s.2.1 i v, S, s.2.2.2))] else none
  | _ => none
/-- the places of a switch, from the number a on -/
def ksw (E : kE) (x : kV) (pc : Nat) (L : kL) (S : List kV) (O : kO) : List Int → Int → List (Nat × kS)
  | [], _ => []
  | o :: l, a => kopt (kref E x a a) (((pc : Int) + o).toNat) L S O ++ ksw E x pc L S O l (a + 1)
theorem ksw_in {E E' : kE} {x : kV} {pc : Nat} {L : kL} {S : List kV} {O : kO} : ∀ {l : List Int} {a : Int} {k : Nat} {o : Int}, xnth l k = some o → kref E x (a + k) (a + k) = some E' → (((pc : Int) + o).toNat, (E', L, S, O)) ∈ ksw E x pc L S O l a
  | [], _, _, _, h, _ => by cases h
  | o :: l, a, 0, o', h, hr => by
    simp only [xnth, Option.some.injEq] at h
    subst h
    rw [show a + ((0 : Nat) : Int) = a by simp] at hr
    exact List.mem_append_left _ (kopt_in hr)
  | o :: l, a, k + 1, o', h, hr => by
    rw [show a + ((k + 1 : Nat) : Int) = (a + 1) + (k : Int) by omega] at hr
    exact List.mem_append_right _ (ksw_in (k := k) h hr)
def ktsw (d lo hi : Int) (l : List Int) (pc : Nat) (s : kS) : kX := match s.2.2.1 with
  | x :: S => bif (Nat.beq x.1 0 && kz s.1) && Nat.blt (hi - lo).toNat l.length then some (kopt (kcl s.1 x (0, 0, lo) 1) (((pc : Int) + d).toNat) s.2.1 S s.2.2.2 ++ (kopt (kcl s.1 (0, 0, hi) x 1) (((pc : Int) + d).toNat) s.2.1 S s.2.2.2 ++ ksw s.1 x pc s.2.1 S s.2.2.2 l lo)) else none
  | _ => none
def kmm (mx : Bool) (pc : Nat) (s : kS) : kX := match s.2.2.1 with
  | y :: x :: S => bif (Nat.beq x.1 0 && Nat.beq y.1 0) && Nat.ble (kcs S) 8 then (match kiv s.1 x with
    | some bx => (match kiv s.1 y with
      | some b2 => some [(pc + 3, (s.1 ++ [(bif mx then (max bx.1 b2.1, max bx.2 b2.2) else (min bx.1 b2.1, min bx.2 b2.2))], s.2.1, (0, s.1.length, 0) :: S, s.2.2.2))]
      | none => none)
    | none => none) else none
  | _ => none
def kstep5 (T : kT) (e : xE) (pc : Nat) (s : kS) : kX := match e.1 with
  | .getfield _ => kgetL T e.2.1 e.2.2.1 pc s
  | .putfield _ => kputL T e.2.1 e.2.2.1 pc s
  | .l2i => kl2i pc s
  | .astore i => ksA 2 pc i s
  | .astore_n i => ksA 1 pc i s
  | .tableswitch d lo hi offs => ktsw d lo hi offs.toList pc s
  | .invokestatic _ => bif Nat.beq e.2.1 5002 then kmm true pc s else bif Nat.beq e.2.1 5003 then kmm false pc s else none
  | _ => none
section KS7
variable {T : kT} {C : kQ} {sc : List Int32} {r : xR} {ρ0 : List Int} {pc : Nat} {s : kS} {Q : Option Value → xM → Prop} {outs : List (Nat × kS)}
theorem kmm_ok {e : xE} {mx : Bool} {g : Int32 → Int32 → Int32} (he : xat r.1 pc = some e) (hk : xkind e = 0) (hx : ∀ L st M, x1 xty xdf sc e pc L st M = xmath g pc L st M) (hgm : ∀ x y : Int32, (g x y).toInt = bif mx then max x.toInt y.toInt else min x.toInt y.toInt) (h : kmm mx pc s = some outs) (hg : ∀ q ∈ outs, kG T C sc r ρ0 q.1 q.2 Q) : kG T C sc r ρ0 pc s Q := by
  obtain ⟨E, L, S, O⟩ := s
  unfold kmm at h
  dsimp only at h
  split at h
  · rename_i y x S'
    cases hb : ((Nat.beq x.1 0 && Nat.beq y.1 0) && Nat.ble (kcs S') 8) with
    | false => rw [hb] at h; cases h
    | true =>
      rw [hb] at h
      simp only [cond_true] at h
      simp only [Bool.and_eq_true] at hb
      split at h
      · rename_i bx hbx
        split at h
        · rename_i b2 hb2
          cases h
          intro σ L' st B I J ⟨h1, h2, h3, h4⟩ hB hI
          obtain ⟨w1, st1, rfl, g1, w2, st2, rfl, g2, h3⟩ := h3
          obtain ⟨t1, i1, c1⟩ := x
          obtain ⟨t2, i2, c2⟩ := y
          have e1 := Nat.eq_of_beq_eq_true hb.1.1
          have e2 := Nat.eq_of_beq_eq_true hb.1.2
          dsimp only at e1 e2
          subst e1 e2
          obtain ⟨q, rfl, hq⟩ := id g1
          obtain ⟨p, rfl, hp⟩ := id g2
          have hqb := kiv_in h1 hq hb2
          have hpb := kiv_in h1 hp hbx
          have hz := hgm p q
          refine sw_0 he hk (?_ : _ = some (pc + 3, L', .int (g p q) :: st2, tMem B I J)) (hg _ List.mem_cons_self (σ ++ [(g p q).toInt]) L' _ B I J ⟨?_, ?_, ?_, ?_⟩ hB hI)
          · rw [hx]
            unfold xmath
            dsimp only
            rw [kcat8 h3 hb.2]
            rfl
          · rw [← List.append_assoc]
            refine kin_app h1 ?_ ?_ <;> (rw [hz]; cases mx <;> simp only [cond_true, cond_false] <;> omega)
          · rw [← List.append_assoc]; exact kvl_ap h2
          · rw [← List.append_assoc]; exact ⟨_, _, rfl, ⟨_, rfl, _, kin_new h1, by simp⟩, kvs_ap h3⟩
          · rw [← List.append_assoc]; exact kov_ap h4
        · cases h
      · cases h
  · cases h
theorem kstep5_ok {e : xE} (he : xat r.1 pc = some e) (hk : xkind e = 0) (h : kstep5 T e pc s = some outs) (hg : ∀ q ∈ outs, kG T C sc r ρ0 q.1 q.2 Q) : kG T C sc r ρ0 pc s Q := by
  obtain ⟨ins, ea, eb, ez⟩ := e
  obtain ⟨E, L, S, O⟩ := s
  cases ins
  case getfield i =>
    simp only [kstep5, kgetL] at h
    split at h
    · rename_i v S'
      cases hb : Nat.beq v.1 2 with
      | false => rw [hb] at h; cases h
      | true =>
        rw [hb] at h
        simp only [cond_true] at h
        split at h
        · rename_i cm hcm
          cases hc : ((Nat.beq cm.1 ea && Nat.blt eb cm.2) && Nat.beq (T.b v.2.1 eb).1 1) with
          | false => rw [hc] at h; cases h
          | true =>
            rw [hc] at h
            cases h
            simp only [Bool.and_eq_true] at hc
            obtain ⟨c, m⟩ := cm
            have e3 := Nat.eq_of_beq_eq_true hc.1.1
            dsimp only at e3
            subst e3
            intro σ L' st B I J ⟨h1, h2, h3, h4⟩ hB hI
            obtain ⟨w, st', rfl, g1, h3⟩ := h3
            obtain ⟨t, o, d⟩ := v
            have e0 := Nat.eq_of_beq_eq_true hb
            dsimp only at e0 hcm hc
            subst e0
            have e1 : w = .ref o := g1
            subst e1
            have b := tl_bd (J o eb)
            refine te_getl he (kB_slotL hB hcm (Nat.blt_eq.mp hc.1.2) (Nat.eq_of_beq_eq_true hc.2)) (hg _ List.mem_cons_self (σ ++ [(J o eb).toInt]) L' _ B I J ⟨?_, ?_, ?_, ?_⟩ hB hI)
            · rw [← List.append_assoc]; exact kin_app h1 b.1 b.2
            · rw [← List.append_assoc]; exact kvl_ap h2
            · rw [← List.append_assoc]; exact ⟨_, _, rfl, ⟨_, rfl, _, kin_new h1, by simp⟩, kvs_ap h3⟩
            · rw [← List.append_assoc]; exact kov_ap h4
        · cases h
    · cases h
  case putfield i =>
    simp only [kstep5, kputL] at h
    split at h
    · rename_i u v S'
      cases hb : (Nat.beq u.1 1 && Nat.beq v.1 2) with
      | false => rw [hb] at h; cases h
      | true =>
        rw [hb] at h
        simp only [cond_true] at h
        rw [Bool.and_eq_true] at hb
        split at h
        · rename_i cm hcm
          cases hc : ((Nat.beq cm.1 ea && Nat.blt eb cm.2) && (Nat.beq (T.b v.2.1 eb).1 1 && (kisl (xty ea eb) && T.m v.2.1 eb))) with
          | false => rw [hc] at h; cases h
          | true =>
            rw [hc] at h
            cases h
            simp only [Bool.and_eq_true] at hc
            obtain ⟨c, m⟩ := cm
            have e3 := Nat.eq_of_beq_eq_true hc.1.1
            dsimp only at e3
            subst e3
            intro σ L' st B I J ⟨h1, h2, h3, h4⟩ hB hI
            obtain ⟨wu, st0, rfl, g0, w, st', rfl, g1, h3⟩ := h3
            obtain ⟨t, o, d⟩ := v
            have e0 := Nat.eq_of_beq_eq_true hb.2
            dsimp only at e0 hcm hc
            subst e0
            have e1 : w = .ref o := g1
            subst e1
            obtain ⟨tu, iu, cu⟩ := u
            have e4 := Nat.eq_of_beq_eq_true hb.1
            dsimp only at e4
            subst e4
            obtain ⟨x, rfl, hx⟩ := g0
            refine te_putl he (kB_slotL hB hcm (Nat.blt_eq.mp hc.1.2) (Nat.eq_of_beq_eq_true hc.2.1)) ?_ (hg _ List.mem_cons_self σ L' _ B I _ ⟨h1, h2, h3, h4⟩ hB (kI_putJ hI hc.2.2.2))
            have hl := hc.2.2.1
            unfold kisl at hl
            split at hl
            · rename_i ht; rw [ht]; rfl
            · cases hl
        · cases h
    · cases h
  case l2i =>
    simp only [kstep5, kl2i] at h
    split at h
    · rename_i x S'
      cases hb : Nat.beq x.1 1 with
      | false => rw [hb] at h; cases h
      | true =>
        rw [hb] at h
        simp only [cond_true] at h
        split at h
        · rename_i b hbv
          intro σ L' st B I J ⟨h1, h2, h3, h4⟩ hB hI
          obtain ⟨w, st', rfl, g1, h3⟩ := h3
          obtain ⟨t, i, c⟩ := x
          have e0 := Nat.eq_of_beq_eq_true hb
          dsimp only at e0
          subst e0
          obtain ⟨x, rfl, hx⟩ := id g1
          have hxb := kiv_in h1 hx hbv
          cases hc : (decide (-2147483648 ≤ b.1) && decide (b.2 ≤ 2147483647)) with
          | true =>
            rw [hc] at h
            cases h
            simp only [Bool.and_eq_true, decide_eq_true_eq] at hc
            refine sw_0 he hk rfl (hg _ List.mem_cons_self σ L' (.int x.toInt32 :: st') B I J ⟨h1, h2, ⟨_, _, rfl, ⟨x.toInt32, rfl, ?_⟩, h3⟩, h4⟩ hB hI)
            rw [Int64.toInt_toInt32, Int.bmod_eq_of_le (by omega) (by omega)]
            exact hx
          | false =>
            rw [hc] at h
            cases h
            have bd := ti_bd x.toInt32
            refine sw_0 he hk rfl (hg _ List.mem_cons_self (σ ++ [x.toInt32.toInt]) L' (.int x.toInt32 :: st') B I J ⟨?_, ?_, ?_, ?_⟩ hB hI)
            · rw [← List.append_assoc]; exact kin_app h1 bd.1 bd.2
            · rw [← List.append_assoc]; exact kvl_ap h2
            · rw [← List.append_assoc]; exact ⟨_, _, rfl, ⟨_, rfl, _, kin_new h1, by simp⟩, kvs_ap h3⟩
            · rw [← List.append_assoc]; exact kov_ap h4
        · cases h
    · cases h
  case astore i =>
    simp only [kstep5, ksA] at h
    split at h
    · rename_i v S'
      cases hb : Nat.beq v.1 2 with
      | false => rw [hb] at h; cases h
      | true =>
        rw [hb] at h
        cases h
        intro σ L' st B I J ⟨h1, h2, h3, h4⟩ hB hI
        obtain ⟨w, st', rfl, g2, h3⟩ := h3
        obtain ⟨t, j, c⟩ := v
        have e0 := Nat.eq_of_beq_eq_true hb
        dsimp only at e0
        subst e0
        have e1 : w = .ref j := g2
        subst e1
        exact sw_0 he hk rfl (hg _ List.mem_cons_self σ (xst1 L' i (.ref j)) st' B I J ⟨h1, kvl_set1 h2 g2, h3, h4⟩ hB hI)
    · cases h
  case astore_n i =>
    simp only [kstep5, ksA] at h
    split at h
    · rename_i v S'
      cases hb : Nat.beq v.1 2 with
      | false => rw [hb] at h; cases h
      | true =>
        rw [hb] at h
        cases h
        intro σ L' st B I J ⟨h1, h2, h3, h4⟩ hB hI
        obtain ⟨w, st', rfl, g2, h3⟩ := h3
        obtain ⟨t, j, c⟩ := v
        have e0 := Nat.eq_of_beq_eq_true hb
        dsimp only at e0
        subst e0
        have e1 : w = .ref j := g2
        subst e1
        exact sw_0 he hk rfl (hg _ List.mem_cons_self σ (xst1 L' i (.ref j)) st' B I J ⟨h1, kvl_set1 h2 g2, h3, h4⟩ hB hI)
    · cases h
  case tableswitch d lo hi offs =>
    simp only [kstep5, ktsw] at h
    split at h
    · rename_i x S'
      cases hb : ((Nat.beq x.1 0 && kz E) && Nat.blt (hi - lo).toNat offs.toList.length) with
      | false => rw [hb] at h; cases h
      | true =>
        rw [hb] at h
        cases h
        simp only [Bool.and_eq_true] at hb
        intro σ L' st B I J ⟨h1, h2, h3, h4⟩ hB hI
        obtain ⟨w, st', rfl, g2, h3⟩ := h3
        obtain ⟨t, j, c⟩ := x
        have e0 := Nat.eq_of_beq_eq_true hb.1.1
        dsimp only at e0
        subst e0
        obtain ⟨p, rfl, hp⟩ := id g2
        have klo : knum (ρ0 ++ σ) (0, 0, lo) lo := kz_ok h1 hb.1.2 lo 0
        have khi : knum (ρ0 ++ σ) (0, 0, hi) hi := kz_ok h1 hb.1.2 hi 0
        by_cases c1 : p.toInt < lo
        · obtain ⟨E', k1, k2⟩ := kcl_ok (d := 1) h1 hp klo (by omega)
          refine sw_0 he hk (?_ : xsw d lo hi offs pc L' (.int p :: st') (tMem B I J) = some (((pc : Int) + d).toNat, L', st', tMem B I J)) (hg _ (List.mem_append_left _ (kopt_in k1)) σ L' st' B I J ⟨k2, h2, h3, h4⟩ hB hI)
          unfold xsw
          dsimp only
          rw [decide_eq_true c1]
          rfl
        · by_cases c2 : hi < p.toInt
          · obtain ⟨E', k1, k2⟩ := kcl_ok (d := 1) h1 khi hp (by omega)
            refine sw_0 he hk (?_ : xsw d lo hi offs pc L' (.int p :: st') (tMem B I J) = some (((pc : Int) + d).toNat, L', st', tMem B I J)) (hg _ (List.mem_append_right _ (List.mem_append_left _ (kopt_in k1))) σ L' st' B I J ⟨k2, h2, h3, h4⟩ hB hI)
            unfold xsw
            dsimp only
            rw [decide_eq_true c2, Bool.or_true]
            rfl
          · have hlt : (p.toInt - lo).toNat < offs.toList.length := by
              have := Nat.blt_eq.mp hb.2
              omega
            obtain ⟨o, ho⟩ : ∃ o, xnth offs.toList (p.toInt - lo).toNat = some o := ⟨offs.toList[(p.toInt - lo).toNat], by rw [xnth_eq]; exact List.getElem?_eq_getElem hlt⟩
            obtain ⟨E', k1, k2⟩ := kref_ok (lo := p.toInt) (hi := p.toInt) h1 hp (Int.le_refl _) (Int.le_refl _)
            have hm := ksw_in (pc := pc) (L := L) (S := S') (O := O) (a := lo) ho (by rw [show lo + (((p.toInt - lo).toNat : Nat) : Int) = p.toInt by omega]; exact k1)
            refine sw_0 he hk (?_ : xsw d lo hi offs pc L' (.int p :: st') (tMem B I J) = some (((pc : Int) + o).toNat, L', st', tMem B I J)) (hg _ (List.mem_append_right _ (List.mem_append_right _ hm)) σ L' st' B I J ⟨k2, h2, h3, h4⟩ hB hI)
            unfold xsw
            dsimp only
            rw [decide_eq_false c1, decide_eq_false c2]
            simp only [Bool.or_self, cond_false]
            rw [ho]
    · cases h
  case invokestatic i =>
    simp only [kstep5] at h
    cases h2 : Nat.beq ea 5002 with
    | true =>
      rw [h2] at h
      have e0 := Nat.eq_of_beq_eq_true h2
      subst e0
      refine kmm_ok (g := fun x y => if x < y then y else x) he hk (fun _ _ _ => rfl) (fun x y => ?_) h hg
      simp only [cond_true]
      split
      · rename_i hlt; have := Int32.lt_iff_toInt_lt.mp hlt; omega
      · rename_i hlt; have : ¬ x.toInt < y.toInt := fun q => hlt (Int32.lt_iff_toInt_lt.mpr q); omega
    | false =>
      rw [h2] at h
      simp only [cond_false] at h
      cases h3 : Nat.beq ea 5003 with
      | false => rw [h3] at h; cases h
      | true =>
        rw [h3] at h
        have e0 := Nat.eq_of_beq_eq_true h3
        subst e0
        refine kmm_ok (g := fun x y => if y < x then y else x) he hk (fun _ _ _ => rfl) (fun x y => ?_) h hg
        simp only [cond_false]
        split
        · rename_i hlt; have := Int32.lt_iff_toInt_lt.mp hlt; omega
        · rename_i hlt; have : ¬ y.toInt < x.toInt := fun q => hlt (Int32.lt_iff_toInt_lt.mpr q); omega
  all_goals cases h
end KS7
