/-! ONE STEP WITH STRINGS -/
section XSQ
variable {p : Program} {l : Launch} {e : Env} {R : Room} {s : State} {m : MethodId} {args : Array Value} {below : List Frame} {meth : Method} {c : Code} {H : Heap} {locs : List Loc} {cells slots : Nat} {Q : State → Prop}
variable {cc : ByteArray} {nL : Nat} {D : va_G} {H0 : Heap} {b : Nat → Nat} {sc : List Int32} {as : List Nat} {tys : List (ClassId × FieldType)} {M : xM} {L lv : xL} {ls : Array Slot} {pc : Nat} {st st0 : List Value} {q : xC}
theorem xi_sA1 {n i : Nat} (hrow : ∀ (x : Nat), ls[i]? = some (.val (.ref x)) → W p l e R s m args below meth c H locs cells slots Q (F0 m (pc + n) ls (.ref x :: st0)) → W p l e R s m args below meth c H locs cells slots Q (F0 m pc ls st0))
    (h : xsA1 n pc i L st M = some q) (hl : lv_has ls nL lv) (hL : xrl b as L lv) (hs : xrs b as st st0) (hM : xSt D H0 b s as tys M H locs) (kk : xKK p l e R s m args below meth c cells slots Q D H0 b nL as M q) :
    W p l e R s m args below meth c H locs cells slots Q (F0 m pc ls st0) := by
  unfold xsA1 at h
  split at h
  · rename_i u hf
    cases h
    obtain ⟨k, v', h1, h2⟩ := xrl_find hL hf
    obtain rfl : v' = .ref (b (u + 1)) := h2
    exact hrow _ (lv_at hl k h1) (kk.same rfl rfl hl hL ⟨_, _, rfl, rfl, hs⟩ hM)
  · cases h
theorem s0_ok {o fr lo : Nat} {ini : Bool} {ee : xE} (C : CallFix p m c cc nL s args xG (xown o)) (hN : xnw b s) (hX : xXX sc b s H0) (hfr : fr ≤ R.frames) (hlo : lo ≤ R.locals)
    (hd : decode cc pc = .ok (ee.1, xln ee)) (hchk : xchk o ini nL fr lo pc ee = true) (h : s0 ee pc L st M = some q)
    (hr : cells ≤ R.cells ∧ slots ≤ R.slots)
    (hl : lv_has ls nL lv) (hL : xrl b as L lv) (hs : xrs b as st st0) (hM : xSt D H0 b s as tys M H locs) (kk : xKK p l e R s m args below meth c cells slots Q D H0 b nL as M q) :
    W p l e R s m args below meth c H locs cells slots Q (F0 m pc ls st0) := by
  obtain ⟨ins, ea, eb, ez⟩ := ee
  cases ins
  case ldc idx =>
    simp only [s0] at h
    simp only [xchk] at hchk
    cases hb : Nat.beq ea 0 with
    | true => rw [hb] at h; cases h
    | false =>
      rw [hb] at h hchk
      simp only [cond_false] at h hchk
      cases hb2 : Nat.blt eb 2 with
      | false => rw [hb2] at h; cases h
      | true =>
        rw [hb2] at h
        cases h
        simp only [Bool.or_eq_true, Bool.and_eq_true] at hchk
        rcases hchk with ⟨ho, hi, hk⟩ | ⟨ho, hi, hk⟩
        · have e1 := Nat.eq_of_beq_eq_true ho
          have e2 := Nat.eq_of_beq_eq_true hi
          have e3 := Nat.eq_of_beq_eq_true hk
          subst e1 e2 e3
          exact va_ldcS C.1 C.2.1 C.2.2.2.1 hN.2.2.2.1 hd (kk.same rfl rfl hl hL ⟨_, _, rfl, rfl, hs⟩ hM)
        · have e1 := Nat.eq_of_beq_eq_true ho
          have e2 := Nat.eq_of_beq_eq_true hi
          have e3 := Nat.eq_of_beq_eq_true hk
          subst e1 e2 e3
          exact va_ldcS C.1 C.2.1 C.2.2.2.1 hN.2.2.2.2 hd (kk.same rfl rfl hl hL ⟨_, _, rfl, rfl, hs⟩ hM)
  case pop2 =>
    simp only [s0] at h
    split at h
    · rename_i v r
      cases h
      obtain ⟨v1, r', rfl, h1, h3⟩ := hs
      cases h1
      exact lv_pop2_2 C.1 C.2.1 hd rfl (kk.same rfl rfl hl hL h3 hM)
    · cases h
  case aload i => exact xi_sA1 (fun x hx k => lv_aload C.1 C.2.1 hd hx k) h hl hL hs hM kk
  case aload_n i => exact xi_sA1 (fun x hx k => lv_aload_n C.1 C.2.1 hd rfl hx k) h hl hL hs hM kk
  case invokevirtual idx =>
    simp only [s0] at h
    simp only [xchk] at hchk
    cases h5 : Nat.beq ea 5005 with
    | true =>
      have e5 := Nat.eq_of_beq_eq_true h5
      subst e5
      simp only [show Nat.ble 5000 5005 = true from rfl, cond_true, show Nat.beq 5005 5005 = true from rfl, Bool.not_true, Bool.false_or, show Nat.beq 5005 5006 = false from rfl, Bool.not_false, Bool.true_or, Bool.and_true, Bool.and_eq_true, Bool.or_eq_true] at hchk h
      obtain ⟨h1, h2, h3⟩ := hchk
      refine xs_slen C hX C.2.2.2.2 ?_ (Nat.le_trans (Nat.le_of_ble_eq_true h2) hfr) (Nat.le_trans (Nat.le_of_ble_eq_true h3) hlo) hr hd h hl hL hs hM kk
      rcases h1 with ⟨ho, hi⟩ | ⟨ho, hi⟩
      · have e1 := Nat.eq_of_beq_eq_true ho
        have e2 := Nat.eq_of_beq_eq_true hi
        subst e1 e2
        exact sm_lenX
      · have e1 := Nat.eq_of_beq_eq_true ho
        have e2 := Nat.eq_of_beq_eq_true hi
        subst e1 e2
        exact sm_lenM
    | false =>
      rw [h5] at h
      simp only [cond_false] at h
      cases h6 : Nat.beq ea 5006 with
      | false => rw [h6] at h; cases h
      | true =>
        have e6 := Nat.eq_of_beq_eq_true h6
        subst e6
        simp only [show Nat.ble 5000 5006 = true from rfl, cond_true, show Nat.beq 5006 5006 = true from rfl, Bool.not_true, Bool.false_or, show Nat.beq 5006 5005 = false from rfl, Bool.not_false, Bool.true_or, Bool.true_and, Bool.and_eq_true, Bool.or_eq_true] at hchk h
        obtain ⟨h1, h2, h3⟩ := hchk
        refine xs_schar C hX C.2.2.2.2 ?_ (Nat.le_trans (Nat.le_of_ble_eq_true h2) hfr) (Nat.le_trans (Nat.le_of_ble_eq_true h3) hlo) hr hd h hl hL hs hM kk
        rcases h1 with ⟨ho, hi⟩ | ⟨ho, hi⟩
        · have e1 := Nat.eq_of_beq_eq_true ho
          have e2 := Nat.eq_of_beq_eq_true hi
          subst e1 e2
          exact sm_chX
        · have e1 := Nat.eq_of_beq_eq_true ho
          have e2 := Nat.eq_of_beq_eq_true hi
          subst e1 e2
          exact sm_chM
  all_goals cases h
theorem s1_ok {o fr lo : Nat} {ini : Bool} {ee : xE} (C : CallFix p m c cc nL s args xG (xown o)) (hini : ini = true → meth.name = "<init>") (hN : xnw b s) (hX : xXX sc b s H0) (hbl : b 0 < H0.size) (hfr : fr ≤ R.frames) (hlo : lo ≤ R.locals)
    (hd : decode cc pc = .ok (ee.1, xln ee)) (hchk : xchk o ini nL fr lo pc ee = true) (h : s1 xty xdf sc ee pc L st M = some q)
    (hr : cells + (q.2.2.2.length - M.length) ≤ R.cells ∧ slots + (xz q.2.2.2 - xz M) ≤ R.slots)
    (hl : lv_has ls nL lv) (hL : xrl b as L lv) (hs : xrs b as st st0) (hM : xSt D H0 b s as tys M H locs) (kk : xKK p l e R s m args below meth c cells slots Q D H0 b nL as M q) :
    W p l e R s m args below meth c H locs cells slots Q (F0 m pc ls st0) := by
  rcases s1_cases h with h | h
  · exact x1_ok C hini hN hX hbl hfr hlo hd hchk h hr hl hL hs hM kk
  · exact s0_ok C hN hX hfr hlo hd hchk h ⟨by omega, by omega⟩ hl hL hs hM kk
end XSQ
theorem s0_mem {ee : xE} {pc : Nat} {L : xL} {st : List Value} {M : xM} {q : xC} (h : s0 ee pc L st M = some q) : q.2.2.2 = M := by
  obtain ⟨ins, ea, eb, ez⟩ := ee
  cases ins
  case ldc idx =>
    simp only [s0] at h
    cases hb : Nat.beq ea 0 with
    | true => rw [hb] at h; cases h
    | false =>
      rw [hb] at h
      simp only [cond_false] at h
      cases hb2 : Nat.blt eb 2 with
      | false => rw [hb2] at h; cases h
      | true => rw [hb2] at h; cases h; rfl
  case pop2 =>
    simp only [s0] at h
    split at h
    · cases h; rfl
    · cases h
  case aload i =>
    simp only [s0, xsA1] at h
    split at h
    · cases h; rfl
    · cases h
  case aload_n i =>
    simp only [s0, xsA1] at h
    split at h
    · cases h; rfl
    · cases h
  case invokevirtual idx =>
    simp only [s0] at h
    cases h5 : Nat.beq ea 5005 with
    | true =>
      rw [h5] at h
      simp only [cond_true, xslen] at h
      split at h
      · rename_i k r
        cases hb : (xcat8 r && Nat.blt k 2) with
        | false => rw [hb] at h; cases h
        | true => rw [hb] at h; cases h; rfl
      · cases h
    | false =>
      rw [h5] at h
      simp only [cond_false] at h
      cases h6 : Nat.beq ea 5006 with
      | false => rw [h6] at h; cases h
      | true =>
        rw [h6] at h
        simp only [cond_true, xschar] at h
        split at h
        · rename_i j k r
          cases hb : (xcat8 r && Nat.blt k 2) with
          | false => rw [hb] at h; cases h
          | true =>
            rw [hb] at h
            simp only [cond_true] at h
            split at h
            · cases h; rfl
            · cases h
        · cases h
  all_goals cases h
theorem s1_grows {ty : Nat → Nat → FieldType} {df : Nat → List Value} {sc : List Int32} {ee : xE} {pc : Nat} {L : xL} {st : List Value} {M : xM} {q : xC} (h : s1 ty df sc ee pc L st M = some q) : M.length ≤ q.2.2.2.length ∧ xz M ≤ xz q.2.2.2 := by
  rcases s1_cases h with h | h
  · exact x1_grows h
  · rw [s0_mem h]
    exact ⟨Nat.le_refl _, Nat.le_refl _⟩
theorem srun_grows {ms : Nat → Option xR} {ty : Nat → Nat → FieldType} {df : Nat → List Value} {sc : List Int32} : ∀ (f : Nat) {r : xR} {pc : Nat} {L : xL} {st : List Value} {M : xM} {v : Option Value} {Mf : xM}, srun ms ty df sc f r pc L st M = some (v, Mf) → M.length ≤ Mf.length ∧ xz M ≤ xz Mf
  | 0, _, _, _, _, _, _, _, h => by simp [srun] at h
  | f + 1, r, pc, L, st, M, v, Mf, h => by
    simp only [srun] at h
    split at h
    · cases h
    · rename_i e he
      split at h
      · split at h
        · cases h
        · rename_i q hq
          have h1 := s1_grows hq
          have h2 := srun_grows f h
          exact ⟨Nat.le_trans h1.1 h2.1, Nat.le_trans h1.2 h2.2⟩
      · split at h
        · cases h
        · rename_i ar rest hp
          cases hc : (xcat8 rest && xrecv e ar M) with
          | false => simp [hc] at h
          | true =>
            simp only [hc, cond_true] at h
            split at h
            · cases h
            · rename_i r' hr'
              cases hcc : Nat.ble (xcats ar) r'.2.1 with
              | false => simp [hcc] at h
              | true =>
                simp only [hcc, cond_true] at h
                split at h
                · cases h
                · rename_i q hq
                  obtain ⟨v1, M1⟩ := q
                  have h1 := srun_grows f hq
                  have h2 := srun_grows f h
                  exact ⟨Nat.le_trans h1.1 h2.1, Nat.le_trans h1.2 h2.2⟩
      · split at h
        · cases h
        · cases h
          exact ⟨Nat.le_refl _, Nat.le_refl _⟩
