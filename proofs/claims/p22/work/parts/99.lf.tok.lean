/-! ONE TOKEN MORE, class and reference -/
theorem f31_is {N n s e : Nat} {t : Nat → Int32} {I : tI} {J : tJ} {q : Int32 × tI × tJ} (hn9 : n ≤ 900) (hs : s ≤ n) (hse : e ≤ n) (h3 : I 8 3 = Int32.ofNat s) (h4 : I 8 4 = Int32.ofNat e) (ht : ∀ i, i < n → I 9 i = t i) (h : f31_8 N I J = some q) : q = (scC t s e (flW wsC) 0 s true, I, J) := by
  unfold f31_8 at h
  cases hc : f31_8_l12 N N I J 0 (I 8 3) 1 0 with
  | none => rw [hc] at h; cases h
  | some Y =>
    rw [hc] at h
    rw [h3] at hc
    have := f31_scan hn9 hse N xsB0 0 s 0 true h3 h4 ht rfl (by omega) (by omega) (by omega) hc
    rw [wsC_fl] at this
    obtain ⟨k1, y1, y2, y3, y4, I1, J1⟩ := Y
    dsimp only at h this
    obtain ⟨e1, e2⟩ := this
    cases e1
    rw [← e2]
    cases hk : Nat.beq k1 0 with
    | true =>
      rw [hk, cond_true] at h
      rw [if_pos (Nat.eq_of_beq_eq_true hk)]
      cases h
      rfl
    | false =>
      rw [hk, cond_false] at h
      rw [if_neg (fun q => by rw [q] at hk; cases hk)]
      cases h
      rfl
theorem f224_is {N n s e : Nat} {t : Nat → Int32} {I : tI} {J : tJ} {q : Int32 × tI × tJ} (hn9 : n ≤ 900) (hb : byt t n) (hse : s ≤ e) (hen : e ≤ n) (h1 : I 185 11 = Int32.ofNat n) (h13 : I 185 13 = Int32.ofNat s) (h14 : I 185 14 = Int32.ofNat e) (ht : ∀ i, i < n → I 192 i = t i) (h : f224_185_1002 N I J = some q) : q = (if I 185 12 = 2 then scC t s e (flW wsR) 0 s true else -1, I, J) := by
  unfold f224_185_1002 at h
  cases hk2 : xcmp .eq (I 185 12) 2 with
  | false =>
    rw [hk2, cond_false] at h
    cases h
    rw [if_neg (xeq_f hk2)]
  | true =>
    rw [hk2, cond_true] at h
    rw [if_pos (xeq_t hk2)]
    cases hc : f224_185_1002_l14 N N I J 0 1 with
    | none => rw [hc] at h; cases h
    | some Y =>
      rw [hc] at h
      have := r_words hn9 hb hse hen N wsR 0 1 h1 h13 h14 ht wsR_lt wsR_fl (by omega) (by omega) hc
      obtain ⟨k1, y1, y2, I1, J1⟩ := Y
      dsimp only at h this
      obtain ⟨e1, e2⟩ := this
      cases e1
      rw [← show scC t s e (flW wsR) (Int32.ofNat 0) s true = scC t s e (flW wsR) 0 s true from rfl, ← e2]
      cases hk : Nat.beq k1 0 with
      | true =>
        rw [hk, cond_true] at h
        rw [if_pos (Nat.eq_of_beq_eq_true hk)]
        cases h
        rfl
      | false =>
        rw [hk, cond_false] at h
        rw [if_neg (fun q => by rw [q] at hk; cases hk)]
        cases h
        rfl
/-- the class's token that begins behind e -/
def tokC (t : Nat → Int32) (n s : Nat) (I' : tI) (J' : tJ) : Prop :=
  (n ≤ s ∧ I' 8 2 = 0 ∧ I' 8 4 = Int32.ofNat s ∧ I' 8 5 = -1) ∨
  ((s < n ∧ 97 ≤ (t s).toInt ∧ (t s).toInt ≤ 122) ∧ I' 8 2 = 1 ∧ I' 8 4 = Int32.ofNat (lxW t n (n - s) s) ∧ I' 8 5 = scC t s (lxW t n (n - s) s) (flW wsC) 0 s true ∧ J' 8 6 = lxN t n s (n - s) s 0) ∨
  ((s < n ∧ 48 ≤ (t s).toInt ∧ (t s).toInt ≤ 57) ∧ I' 8 2 = (if lxG t n (n - s) s - s ≤ 4 then 2 else 4) ∧ I' 8 4 = Int32.ofNat (lxG t n (n - s) s) ∧ I' 8 5 = -1 ∧ I' 8 7 = lxV t n s (n - s) s 0) ∨
  ((s < n ∧ ¬ (97 ≤ (t s).toInt ∧ (t s).toInt ≤ 122) ∧ ¬ (48 ≤ (t s).toInt ∧ (t s).toInt ≤ 57)) ∧ I' 8 2 = (if t s = 59 ∨ t s = 60 ∨ t s = 62 ∨ t s = 61 then 3 else 4) ∧ I' 8 4 = Int32.ofNat (s + 1) ∧ I' 8 5 = -1 ∧ I' 8 7 = t s)
def frC (I I' : tI) : Prop := ∀ o k, ¬ (o = 8 ∧ (k = 2 ∨ k = 3 ∨ k = 4 ∨ k = 5 ∨ k = 7)) → I' o k = I o k
theorem frC_tup {I I' : tI} {k : Nat} {v : Int32} (h : frC I I') (hk : k = 2 ∨ k = 3 ∨ k = 4 ∨ k = 5 ∨ k = 7) : frC I (tup I' 8 k v) := fun o k' hn => by
  rw [tup_ne (fun e => hn ⟨e.1, by rw [e.2]; exact hk⟩)]
  exact h o k' hn
theorem frC_refl {I : tI} : frC I I := fun _ _ _ => rfl
theorem adv_c {N n e : Nat} {t : Nat → Int32} {I I' : tI} {J J' : tJ} {u : Unit} (hn9 : n ≤ 900) (he : e ≤ n) (h1 : I 8 1 = Int32.ofNat n) (h4 : I 8 4 = Int32.ofNat e) (ht : ∀ i, i < n → I 9 i = t i) (h : f25_8 N I J = some (u, I', J')) : frC I I' ∧ (∀ o k, ¬ (o = 8 ∧ k = 6) → J' o k = J o k) ∧ I' 8 3 = Int32.ofNat (lxS t n (n - e) e) ∧ tokC t n (lxS t n (n - e) e) I' J' := by
  unfold f25_8 at h
  cases hc : f25_8_l8 N N (tup I 8 3 (I 8 4)) J with
  | none => rw [hc] at h; cases h
  | some Y =>
    have hY := f25_skip (t := t) hn9 N e (I := tup I 8 3 (I 8 4)) (by rw [tup_ne (by omega)]; exact h1) (by rw [tup_eq]; exact h4) he (fun i hi => by rw [tup_ne (by omega)]; exact ht i hi) hc
    rw [hc, hY] at h
    dsimp only at h
    rw [tup_tup] at h
    have hsl := lxS_le (t := t) (n - e) e he
    generalize lxS t n (n - e) e = s at h hsl ⊢
    unfold f25_8_j60 at h
    simp only [tup_eq, tup_ne (by omega : ¬ (8 = 8 ∧ 1 = 3)), h1] at h
    rw [oi_lt (by omega) (by omega)] at h
    by_cases hsn : s < n
    · rw [decide_eq_true hsn, cond_true] at h
      generalize hI1 : tup (tup (tup (tup I 8 3 (Int32.ofNat s)) 8 4 (Int32.ofNat s)) 8 5 (-1)) 8 7 0 = I1 at h
      have f1 : frC I I1 := by
        rw [← hI1]
        exact frC_tup (frC_tup (frC_tup (frC_tup frC_refl (by omega)) (by omega)) (by omega)) (by omega)
      have a1 : I1 8 1 = Int32.ofNat n := by rw [f1 8 1 (by omega)]; exact h1
      have a3 : I1 8 3 = Int32.ofNat s := by rw [← hI1, tup_ne (by omega), tup_ne (by omega), tup_ne (by omega), tup_eq]
      have a4 : I1 8 4 = Int32.ofNat s := by rw [← hI1, tup_ne (by omega), tup_ne (by omega), tup_eq]
      have a5 : I1 8 5 = -1 := by rw [← hI1, tup_ne (by omega), tup_eq]
      have a7 : I1 8 7 = 0 := by rw [← hI1, tup_eq]
      have at9 : ∀ i, i < n → I1 9 i = t i := fun i hi => by rw [f1 9 i (by omega)]; exact ht i hi
      rw [f26_is hn9 (by omega) a1 at9] at h
      dsimp only at h
      by_cases hl : s < n ∧ 97 ≤ (t s).toInt ∧ (t s).toInt ≤ 122
      · rw [if_pos hl, show xcmp .eq 1 0 = false from rfl, cond_false] at h
        unfold f28_8 at h
        cases hw : f28_8_l5 N N (tup I1 8 2 1) (tup J 8 6 0) with
        | none => rw [hw] at h; cases h
        | some Z =>
          have hZ := f28_run (t := t) (s := s) hn9 N s (I := tup I1 8 2 1) (J := tup J 8 6 0) (by rw [tup_ne (by omega)]; exact a1) (by rw [tup_ne (by omega)]; exact a3) (by rw [tup_ne (by omega)]; exact a4) (by omega) (by omega) (fun i hi => by rw [tup_ne (by omega)]; exact at9 i hi) hw
          rw [hw, hZ] at h
          dsimp only at h
          rw [tup_tup, tup_eq] at h
          have hwl : lxW t n (n - s) s ≤ n := by
            have : ∀ f p, p ≤ n → lxW t n f p ≤ n := fun f => by
              induction f with
              | zero => intro p hp; exact hp
              | succ f ih =>
                intro p hp
                simp only [lxW]
                split
                · rename_i hq
                  exact ih (p + 1) (by omega)
                · exact hp
            exact this _ _ (by omega)
          generalize hI2 : tup (tup I1 8 2 1) 8 4 (Int32.ofNat (lxW t n (n - s) s)) = I2 at h
          have f2 : frC I I2 := by
            rw [← hI2]
            exact frC_tup (frC_tup f1 (by omega)) (by omega)
          cases hx : f31_8 N I2 (tup J 8 6 (lxN t n s (n - s) s 0)) with
          | none => rw [hx] at h; cases h
          | some q =>
            have hq := f31_is (t := t) (s := s) (e := lxW t n (n - s) s) hn9 (by omega) hwl (by rw [← hI2, tup_ne (by omega), tup_ne (by omega)]; exact a3) (by rw [← hI2, tup_eq]) (fun i hi => by rw [f2 9 i (by omega)]; exact ht i hi) hx
            rw [hx, hq] at h
            dsimp only at h
            simp only [Option.some.injEq, Prod.mk.injEq] at h
            obtain ⟨-, rfl, rfl⟩ := h
            refine ⟨frC_tup f2 (by omega), fun o k hn => tup_ne hn, ?_, Or.inr (Or.inl ⟨hl, ?_, ?_, tup_eq, tup_eq⟩)⟩
            · rw [tup_ne (by omega), ← hI2, tup_ne (by omega), tup_ne (by omega)]; exact a3
            · rw [tup_ne (by omega), ← hI2, tup_ne (by omega), tup_eq]
            · rw [tup_ne (by omega), ← hI2, tup_eq]
      · rw [if_neg hl, show xcmp .eq 0 0 = true from rfl, cond_true, a3, f27_is hn9 (by omega) a1 at9] at h
        dsimp only at h
        by_cases hg : s < n ∧ 48 ≤ (t s).toInt ∧ (t s).toInt ≤ 57
        · rw [if_pos hg, show xcmp .eq 1 0 = false from rfl, cond_false] at h
          unfold f29_8 at h
          cases hw : f29_8_l0 N N I1 (tup J 8 6 0) with
          | none => rw [hw] at h; cases h
          | some Z =>
            have hZ := f29_run (t := t) (s := s) hn9 N s a1 a3 a4 (by omega) (by omega) at9 hw
            rw [hw, hZ] at h
            dsimp only at h
            unfold f29_8_j72 at h
            rw [a7] at h
            have hge := lxG_ge (t := t) (n := n) (n - s) s
            have hgl : lxG t n (n - s) s ≤ n := by
              have : ∀ f p, p ≤ n → lxG t n f p ≤ n := fun f => by
                induction f with
                | zero => intro p hp; exact hp
                | succ f ih =>
                  intro p hp
                  simp only [lxG]
                  split
                  · rename_i hq
                    exact ih (p + 1) (by omega)
                  · exact hp
              exact this _ _ (by omega)
            generalize hI2 : tup (tup I1 8 7 (lxV t n s (n - s) s 0)) 8 4 (Int32.ofNat (lxG t n (n - s) s)) = I2 at h
            have f2 : frC I I2 := by
              rw [← hI2]
              exact frC_tup (frC_tup f1 (by omega)) (by omega)
            have b4 : I2 8 4 = Int32.ofNat (lxG t n (n - s) s) := by rw [← hI2, tup_eq]
            have b3 : I2 8 3 = Int32.ofNat s := by rw [← hI2, tup_ne (by omega), tup_ne (by omega)]; exact a3
            have b5 : I2 8 5 = -1 := by rw [← hI2, tup_ne (by omega), tup_ne (by omega)]; exact a5
            have b7 : I2 8 7 = lxV t n s (n - s) s 0 := by rw [← hI2, tup_ne (by omega), tup_eq]
            rw [b4, b3, oi_sub_le (d := 4) rfl hge (by omega)] at h
            by_cases h4' : lxG t n (n - s) s - s ≤ 4
            · rw [decide_eq_true h4', cond_true] at h
              dsimp only at h
              simp only [Option.some.injEq, Prod.mk.injEq] at h
              obtain ⟨-, rfl, rfl⟩ := h
              refine ⟨frC_tup f2 (by omega), fun o k hn => tup_ne hn, ?_, Or.inr (Or.inr (Or.inl ⟨hg, ?_, ?_, ?_, ?_⟩))⟩
              · rw [tup_ne (by omega)]; exact b3
              · rw [tup_eq, if_pos h4']
              · rw [tup_ne (by omega)]; exact b4
              · rw [tup_ne (by omega)]; exact b5
              · rw [tup_ne (by omega)]; exact b7
            · rw [decide_eq_false h4', cond_false] at h
              dsimp only at h
              simp only [Option.some.injEq, Prod.mk.injEq] at h
              obtain ⟨-, rfl, rfl⟩ := h
              refine ⟨frC_tup f2 (by omega), fun o k hn => tup_ne hn, ?_, Or.inr (Or.inr (Or.inl ⟨hg, ?_, ?_, ?_, ?_⟩))⟩
              · rw [tup_ne (by omega)]; exact b3
              · rw [tup_eq, if_neg h4']
              · rw [tup_ne (by omega)]; exact b4
              · rw [tup_ne (by omega)]; exact b5
              · rw [tup_ne (by omega)]; exact b7
        · rw [if_neg hg, show xcmp .eq 0 0 = true from rfl, cond_true] at h
          unfold f30_8 at h
          rw [a3, oi_nat (by omega), at9 s hsn, oi_suc (by omega)] at h
          have fin : ∀ k : Int32, k = (if t s = 59 ∨ t s = 60 ∨ t s = 62 ∨ t s = 61 then 3 else 4) → I' = tup (tup (tup I1 8 7 (t s)) 8 2 k) 8 4 (Int32.ofNat (s + 1)) → J' = tup J 8 6 0 → frC I I' ∧ (∀ o k, ¬ (o = 8 ∧ k = 6) → J' o k = J o k) ∧ I' 8 3 = Int32.ofNat s ∧ tokC t n s I' J' := fun k hk e1 e2 => by
            subst e1 e2
            refine ⟨frC_tup (frC_tup (frC_tup f1 (by omega)) (by omega)) (by omega), fun o k hn => tup_ne hn, ?_, Or.inr (Or.inr (Or.inr ⟨⟨hsn, fun q => hl ⟨hsn, q⟩, fun q => hg ⟨hsn, q⟩⟩, ?_, tup_eq, ?_, ?_⟩))⟩
            · rw [tup_ne (by omega), tup_ne (by omega), tup_ne (by omega)]; exact a3
            · rw [tup_ne (by omega), tup_eq]; exact hk
            · rw [tup_ne (by omega), tup_ne (by omega), tup_ne (by omega)]; exact a5
            · rw [tup_ne (by omega), tup_ne (by omega), tup_eq]
          cases c1 : xcmp .eq (t s) 59 with
          | true =>
            rw [c1, cond_true] at h
            simp only [Option.some.injEq, Prod.mk.injEq] at h
            exact fin 3 (by rw [if_pos (Or.inl (xeq_t c1))]) h.2.1.symm h.2.2.symm
          | false =>
            rw [c1, cond_false] at h
            cases c2 : xcmp .eq (t s) 60 with
            | true =>
              rw [c2, cond_true] at h
              simp only [Option.some.injEq, Prod.mk.injEq] at h
              exact fin 3 (by rw [if_pos (Or.inr (Or.inl (xeq_t c2)))]) h.2.1.symm h.2.2.symm
            | false =>
              rw [c2, cond_false] at h
              cases c3 : xcmp .eq (t s) 62 with
              | true =>
                rw [c3, cond_true] at h
                simp only [Option.some.injEq, Prod.mk.injEq] at h
                exact fin 3 (by rw [if_pos (Or.inr (Or.inr (Or.inl (xeq_t c3))))]) h.2.1.symm h.2.2.symm
              | false =>
                rw [c3, cond_false] at h
                cases c4 : xcmp .ne (t s) 61 with
                | true =>
                  rw [c4, cond_true] at h
                  simp only [Option.some.injEq, Prod.mk.injEq] at h
                  exact fin 4 (by rw [if_neg (by
                    rintro (q | q | q | q)
                    · exact xeq_f c1 q
                    · exact xeq_f c2 q
                    · exact xeq_f c3 q
                    · exact xne_t c4 q)]) h.2.1.symm h.2.2.symm
                | false =>
                  rw [c4, cond_false] at h
                  simp only [Option.some.injEq, Prod.mk.injEq] at h
                  exact fin 3 (by rw [if_pos (Or.inr (Or.inr (Or.inr (xne_f c4))))]) h.2.1.symm h.2.2.symm
    · rw [decide_eq_false hsn, cond_false] at h
      simp only [Option.some.injEq, Prod.mk.injEq] at h
      obtain ⟨-, rfl, rfl⟩ := h
      have es : s = n := by omega
      refine ⟨frC_tup (frC_tup (frC_tup (frC_tup (frC_tup frC_refl (by omega)) (by omega)) (by omega)) (by omega)) (by omega), fun o k hn => tup_ne hn, ?_, Or.inl ⟨by omega, tup_eq, ?_, ?_⟩⟩
      · rw [tup_ne (by omega), tup_ne (by omega), tup_ne (by omega), tup_ne (by omega), tup_eq]
      · rw [tup_ne (by omega), tup_ne (by omega), tup_ne (by omega), tup_eq]
      · rw [tup_ne (by omega), tup_ne (by omega), tup_eq]
/-- the reference's token that begins behind e -/
def tokR (t : Nat → Int32) (n s : Nat) (I' : tI) : Prop :=
  (n ≤ s ∧ I' 185 12 = 0 ∧ I' 185 14 = Int32.ofNat s) ∨
  ((s < n ∧ 97 ≤ (t s).toInt ∧ (t s).toInt ≤ 122) ∧ I' 185 12 = 2 ∧ I' 185 14 = Int32.ofNat (lxW t n (n - s) s)) ∨
  ((s < n ∧ 48 ≤ (t s).toInt ∧ (t s).toInt ≤ 57) ∧ I' 185 12 = (if lxG t n (n - s) s - s ≤ 4 then 3 else 1) ∧ I' 185 14 = Int32.ofNat (lxG t n (n - s) s) ∧ I' 185 15 = lxR t n (n - s) s 0) ∨
  ((s < n ∧ ¬ (97 ≤ (t s).toInt ∧ (t s).toInt ≤ 122) ∧ ¬ (48 ≤ (t s).toInt ∧ (t s).toInt ≤ 57)) ∧ I' 185 12 = (if t s = 59 ∨ t s = 60 ∨ t s = 62 ∨ t s = 61 then 4 else 1) ∧ I' 185 14 = Int32.ofNat (s + 1) ∧ I' 185 15 = t s &&& 255)
def frR (I I' : tI) : Prop := ∀ o k, ¬ (o = 185 ∧ (k = 12 ∨ k = 13 ∨ k = 14 ∨ k = 15)) → I' o k = I o k
theorem frR_tup {I I' : tI} {k : Nat} {v : Int32} (h : frR I I') (hk : k = 12 ∨ k = 13 ∨ k = 14 ∨ k = 15) : frR I (tup I' 185 k v) := fun o k' hn => by
  rw [tup_ne (fun e => hn ⟨e.1, by rw [e.2]; exact hk⟩)]
  exact h o k' hn
theorem frR_refl {I : tI} : frR I I := fun _ _ _ => rfl
theorem lxW_le {t : Nat → Int32} {n : Nat} : ∀ (f p : Nat), p ≤ n → p ≤ lxW t n f p ∧ lxW t n f p ≤ n
  | 0, p, h => ⟨Nat.le_refl _, h⟩
  | f + 1, p, h => by
    simp only [lxW]
    split
    · have := lxW_le (t := t) (n := n) f (p + 1) (by omega)
      omega
    · exact ⟨Nat.le_refl _, h⟩
theorem lxG_le {t : Nat → Int32} {n : Nat} : ∀ (f p : Nat), p ≤ n → lxG t n f p ≤ n
  | 0, p, h => h
  | f + 1, p, h => by
    simp only [lxG]
    split
    · exact lxG_le f (p + 1) (by omega)
    · exact h
theorem adv_r {N n e : Nat} {t : Nat → Int32} {I I' : tI} {J J' : tJ} {u : Unit} (hn9 : n ≤ 900) (hb : byt t n) (he : e ≤ n) (h1 : I 185 11 = Int32.ofNat n) (h4 : I 185 14 = Int32.ofNat e) (ht : ∀ i, i < n → I 192 i = t i) (h : f222_185 N I J = some (u, I', J')) : frR I I' ∧ J' = J ∧ I' 185 13 = Int32.ofNat (lxS t n (n - e) e) ∧ tokR t n (lxS t n (n - e) e) I' := by
  unfold f222_185 at h
  cases hc : f222_185_l0 N N I J with
  | none => rw [hc] at h; cases h
  | some Y =>
    have hY := r_skip (t := t) hn9 hb N e h1 h4 he ht hc
    rw [hc, hY] at h
    dsimp only at h
    have hsl := lxS_le (t := t) (n - e) e he
    generalize lxS t n (n - e) e = s at h hsl ⊢
    rw [tup_eq] at h
    generalize hI1 : tup (tup I 185 14 (Int32.ofNat s)) 185 13 (Int32.ofNat s) = I1 at h
    have f1 : frR I I1 := by
      rw [← hI1]
      exact frR_tup (frR_tup frR_refl (by omega)) (by omega)
    have a1 : I1 185 11 = Int32.ofNat n := by rw [f1 185 11 (by omega)]; exact h1
    have a13 : I1 185 13 = Int32.ofNat s := by rw [← hI1, tup_eq]
    have a14 : I1 185 14 = Int32.ofNat s := by rw [← hI1, tup_ne (by omega), tup_eq]
    have at9 : ∀ i, i < n → I1 192 i = t i := fun i hi => by rw [f1 192 i (by omega)]; exact ht i hi
    rw [f219_is hn9 (by omega) a1 at9] at h
    dsimp only at h
    by_cases hsn : s < n
    · have hbs := hb s hsn
      have hv : (t s &&& 255).toInt = (t s).toInt % 256 := and255 _
      rw [if_pos hsn, xc_ne (fun q => by
        have := congrArg Int32.toInt q
        rw [hv] at this
        have e1 : (-1 : Int32).toInt = -1 := rfl
        omega), cond_true, f220_is] at h
      dsimp only at h
      rw [hv] at h
      by_cases hl : 97 ≤ (t s).toInt ∧ (t s).toInt ≤ 122
      · rw [if_pos (by omega), show xcmp .eq 1 0 = false from rfl, cond_false] at h
        cases hw : f222_185_l81 N N (tup I1 185 15 (t s &&& 255)) J with
        | none => rw [hw] at h; cases h
        | some Z =>
          have hZ := r_word (t := t) hn9 hb N s (I := tup I1 185 15 (t s &&& 255)) (by rw [tup_ne (by omega)]; exact a1) (by rw [tup_ne (by omega)]; exact a14) (by omega) (fun i hi => by rw [tup_ne (by omega)]; exact at9 i hi) hw
          rw [hw, hZ] at h
          dsimp only at h
          simp only [Option.some.injEq, Prod.mk.injEq] at h
          obtain ⟨-, rfl, rfl⟩ := h
          refine ⟨frR_tup (frR_tup (frR_tup f1 (by omega)) (by omega)) (by omega), rfl, ?_, Or.inr (Or.inl ⟨⟨hsn, hl⟩, tup_eq, ?_⟩)⟩
          · rw [tup_ne (by omega), tup_ne (by omega), tup_ne (by omega)]; exact a13
          · rw [tup_ne (by omega), tup_eq]
      · rw [if_neg (by omega), show xcmp .eq 0 0 = true from rfl, cond_true, f221_is] at h
        dsimp only at h
        rw [hv] at h
        by_cases hg : 48 ≤ (t s).toInt ∧ (t s).toInt ≤ 57
        · rw [if_pos (by omega), show xcmp .eq 1 0 = false from rfl, cond_false] at h
          cases hw : f222_185_l128 N N (tup (tup I1 185 15 (t s &&& 255)) 185 15 0) J with
          | none => rw [hw] at h; cases h
          | some Z =>
            have hZ := r_num (t := t) hn9 hb N s (I := tup (tup I1 185 15 (t s &&& 255)) 185 15 0) (by rw [tup_ne (by omega), tup_ne (by omega)]; exact a1) (by rw [tup_ne (by omega), tup_ne (by omega)]; exact a14) (by omega) (fun i hi => by rw [tup_ne (by omega), tup_ne (by omega)]; exact at9 i hi) hw
            rw [hw, hZ] at h
            dsimp only at h
            rw [show (tup (tup I1 185 15 (t s &&& 255)) 185 15 0) 185 15 = 0 from tup_eq] at h
            have hge := lxG_ge (t := t) (n := n) (n - s) s
            have hgl := lxG_le (t := t) (n := n) (n - s) s (by omega)
            generalize hI2 : tup (tup (tup (tup I1 185 15 (t s &&& 255)) 185 15 0) 185 15 (lxR t n (n - s) s 0)) 185 14 (Int32.ofNat (lxG t n (n - s) s)) = I2 at h
            have f2 : frR I I2 := by
              rw [← hI2]
              exact frR_tup (frR_tup (frR_tup (frR_tup f1 (by omega)) (by omega)) (by omega)) (by omega)
            have b14 : I2 185 14 = Int32.ofNat (lxG t n (n - s) s) := by rw [← hI2, tup_eq]
            have b13 : I2 185 13 = Int32.ofNat s := by rw [← hI2, tup_ne (by omega), tup_ne (by omega), tup_ne (by omega), tup_ne (by omega)]; exact a13
            have b15 : I2 185 15 = lxR t n (n - s) s 0 := by rw [← hI2, tup_ne (by omega), tup_eq]
            rw [b14, b13, oi_sub_le (d := 4) rfl hge (by omega)] at h
            by_cases h4' : lxG t n (n - s) s - s ≤ 4
            · rw [decide_eq_true h4', cond_true] at h
              simp only [Option.some.injEq, Prod.mk.injEq] at h
              obtain ⟨-, rfl, rfl⟩ := h
              refine ⟨frR_tup f2 (by omega), rfl, ?_, Or.inr (Or.inr (Or.inl ⟨⟨hsn, hg⟩, ?_, ?_, ?_⟩))⟩
              · rw [tup_ne (by omega)]; exact b13
              · rw [tup_eq, if_pos h4']
              · rw [tup_ne (by omega)]; exact b14
              · rw [tup_ne (by omega)]; exact b15
            · rw [decide_eq_false h4', cond_false] at h
              simp only [Option.some.injEq, Prod.mk.injEq] at h
              obtain ⟨-, rfl, rfl⟩ := h
              refine ⟨frR_tup f2 (by omega), rfl, ?_, Or.inr (Or.inr (Or.inl ⟨⟨hsn, hg⟩, ?_, ?_, ?_⟩))⟩
              · rw [tup_ne (by omega)]; exact b13
              · rw [tup_eq, if_neg h4']
              · rw [tup_ne (by omega)]; exact b14
              · rw [tup_ne (by omega)]; exact b15
        · rw [if_neg (by omega), show xcmp .eq 0 0 = true from rfl, cond_true, tup_ne (by omega : ¬ (185 = 185 ∧ 14 = 15)), a14, oi_suc (by omega)] at h
          have fin : ∀ k : Int32, k = (if t s = 59 ∨ t s = 60 ∨ t s = 62 ∨ t s = 61 then 4 else 1) → I' = tup (tup (tup I1 185 15 (t s &&& 255)) 185 14 (Int32.ofNat (s + 1))) 185 12 k → J' = J → frR I I' ∧ J' = J ∧ I' 185 13 = Int32.ofNat s ∧ tokR t n s I' := fun k hk e1 e2 => by
            subst e1 e2
            refine ⟨frR_tup (frR_tup (frR_tup f1 (by omega)) (by omega)) (by omega), rfl, ?_, Or.inr (Or.inr (Or.inr ⟨⟨hsn, hl, hg⟩, ?_, ?_, ?_⟩))⟩
            · rw [tup_ne (by omega), tup_ne (by omega), tup_ne (by omega)]; exact a13
            · rw [tup_eq]; exact hk
            · rw [tup_ne (by omega), tup_eq]
            · rw [tup_ne (by omega), tup_ne (by omega), tup_eq]
          rw [b_eq (d := 59) hbs rfl (by omega), b_eq (d := 60) hbs rfl (by omega), b_eq (d := 62) hbs rfl (by omega)] at h
          by_cases c1 : t s = 59
          · rw [decide_eq_true c1, cond_true] at h
            simp only [Option.some.injEq, Prod.mk.injEq] at h
            exact fin 4 (by rw [if_pos (Or.inl c1)]) h.2.1.symm h.2.2.symm
          · rw [decide_eq_false c1, cond_false] at h
            by_cases c2 : t s = 60
            · rw [decide_eq_true c2, cond_true] at h
              simp only [Option.some.injEq, Prod.mk.injEq] at h
              exact fin 4 (by rw [if_pos (Or.inr (Or.inl c2))]) h.2.1.symm h.2.2.symm
            · rw [decide_eq_false c2, cond_false] at h
              by_cases c3 : t s = 62
              · rw [decide_eq_true c3, cond_true] at h
                simp only [Option.some.injEq, Prod.mk.injEq] at h
                exact fin 4 (by rw [if_pos (Or.inr (Or.inr (Or.inl c3)))]) h.2.1.symm h.2.2.symm
              · rw [decide_eq_false c3, cond_false] at h
                have h61 : xcmp .ne (t s &&& 255) 61 = !decide (t s = 61) := by
                  have := b_eq (x := t s) (c := 61) (d := 61) hbs rfl (by omega)
                  rw [tc_eq] at this
                  rw [tc_ne, this]
                rw [h61] at h
                by_cases c4 : t s = 61
                · rw [decide_eq_true c4, Bool.not_true, cond_false] at h
                  simp only [Option.some.injEq, Prod.mk.injEq] at h
                  exact fin 4 (by rw [if_pos (Or.inr (Or.inr (Or.inr c4)))]) h.2.1.symm h.2.2.symm
                · rw [decide_eq_false c4, Bool.not_false, cond_true] at h
                  simp only [Option.some.injEq, Prod.mk.injEq] at h
                  exact fin 1 (by rw [if_neg (by rintro (q | q | q | q) <;> contradiction)]) h.2.1.symm h.2.2.symm
    · rw [if_neg hsn, show xcmp .ne (-1) (-1) = false from rfl, cond_false] at h
      simp only [Option.some.injEq, Prod.mk.injEq] at h
      obtain ⟨-, rfl, rfl⟩ := h
      refine ⟨frR_tup (frR_tup f1 (by omega)) (by omega), rfl, ?_, Or.inl ⟨by omega, tup_eq, ?_⟩⟩
      · rw [tup_ne (by omega), tup_ne (by omega)]; exact a13
      · rw [tup_ne (by omega), tup_ne (by omega)]; exact a14
