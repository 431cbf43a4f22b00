/-! MORE STEPS OF THE CHECK -/
def kmin : Int := -2147483648
def kmax : Int := 2147483647
def klmin : Int := -9223372036854775808
def klmax : Int := 9223372036854775807
theorem tl_bd (x : Int64) : klmin ≤ x.toInt ∧ x.toInt ≤ klmax := ⟨Int64.le_toInt x, Int64.toInt_le x⟩
/-- two ints away, any int there -/
def kt2 (pc : Nat) (s : kS) : kX := match s.2.2.1 with
  | y :: x :: S => bif Nat.beq x.1 0 && Nat.beq y.1 0 then some [(pc + 1, (s.1 ++ [(kmin, kmax)], s.2.1, (0, s.1.length, 0) :: S, s.2.2.2))] else none
  | _ => none
def kt1 (pc : Nat) (s : kS) : kX := match s.2.2.1 with
  | x :: S => bif Nat.beq x.1 0 then some [(pc + 1, (s.1 ++ [(kmin, kmax)], s.2.1, (0, s.1.length, 0) :: S, s.2.2.2))] else none
  | _ => none
def kl2 (t : Nat) (pc : Nat) (s : kS) : kX := match s.2.2.1 with
  | y :: x :: S => bif Nat.beq x.1 1 && Nat.beq y.1 t then some [(pc + 1, (s.1 ++ [(klmin, klmax)], s.2.1, (1, s.1.length, 0) :: S, s.2.2.2))] else none
  | _ => none
def klcm (pc : Nat) (s : kS) : kX := match s.2.2.1 with
  | y :: x :: S => bif (Nat.beq x.1 1 && Nat.beq y.1 1) && kz s.1 then some (kopt (kcl s.1 x y 1) (pc + 1) s.2.1 ((0, 0, -1) :: S) s.2.2.2 ++ (kopt (kce s.1 x y) (pc + 1) s.2.1 ((0, 0, 0) :: S) s.2.2.2 ++ kopt (kcl s.1 y x 1) (pc + 1) s.2.1 ((0, 0, 1) :: S) s.2.2.2)) else none
  | _ => none
def ki2l (pc : Nat) (s : kS) : kX := match s.2.2.1 with
  | x :: S => bif Nat.beq x.1 0 then some [(pc + 1, (s.1, s.2.1, (1, x.2) :: S, s.2.2.2))] else none
  | _ => none
def kplc (n pc : Nat) (c : Int) (s : kS) : kX := bif kz s.1 && (decide (klmin ≤ c) && decide (c ≤ klmax)) then some [(pc + n, (s.1, s.2.1, (1, 0, c) :: s.2.2.1, s.2.2.2))] else none
def kpop1 (pc : Nat) (s : kS) : kX := match s.2.2.1 with
  | x :: S => bif Nat.beq x.1 1 then none else some [(pc + 1, (s.1, s.2.1, S, s.2.2.2))]
  | _ => none
def kdup1 (pc : Nat) (s : kS) : kX := match s.2.2.1 with
  | x :: S => bif Nat.beq x.1 1 then none else some [(pc + 1, (s.1, s.2.1, x :: x :: S, s.2.2.2))]
  | _ => none
def kdup2 (pc : Nat) (s : kS) : kX := match s.2.2.1 with
  | x :: y :: S => bif Nat.beq x.1 1 then some [(pc + 1, (s.1, s.2.1, x :: x :: y :: S, s.2.2.2))] else bif Nat.beq y.1 1 then none else some [(pc + 1, (s.1, s.2.1, x :: y :: x :: y :: S, s.2.2.2))]
  | _ => none
def kpL (n pc i : Nat) (s : kS) : kX := match kfind s.2.1 i with
  | some v => bif Nat.beq v.1 1 then some [(pc + n, (s.1, s.2.1, v :: s.2.2.1, s.2.2.2))] else none
  | none => none
def ksL (n pc i : Nat) (s : kS) : kX := match s.2.2.1 with
  | v :: S => bif Nat.beq v.1 1 then some [(pc + n, (s.1, kset true s.2.1 i v, S, s.2.2.2))] else none
  | _ => none
def kstep2 (T : kT) (e : xE) (pc : Nat) (s : kS) : kX := match e.1 with
  | .imul => kt2 pc s
  | .iand => kt2 pc s
  | .ior => kt2 pc s
  | .ixor => kt2 pc s
  | .ishl => kt2 pc s
  | .ishr => kt2 pc s
  | .iushr => kt2 pc s
  | .ineg => kt1 pc s
  | .i2b => kt1 pc s
  | .i2s => kt1 pc s
  | .ladd => kl2 1 pc s
  | .lsub => kl2 1 pc s
  | .lmul => kl2 1 pc s
  | .land => kl2 1 pc s
  | .lor => kl2 1 pc s
  | .lxor => kl2 1 pc s
  | .lshl => kl2 0 pc s
  | .lshr => kl2 0 pc s
  | .lushr => kl2 0 pc s
  | .lcmp => klcm pc s
  | .i2l => ki2l pc s
  | .lconst n => kplc 1 pc n s
  | .ldc2_w _ => kplc 3 pc e.2.2.2 s
  | .lload i => kpL 2 pc i s
  | .lload_n i => kpL 1 pc i s
  | .lstore i => ksL 2 pc i s
  | .lstore_n i => ksL 1 pc i s
  | .pop => kpop1 pc s
  | .dup => kdup1 pc s
  | .dup2 => kdup2 pc s
  | _ => none
section KS2
variable {T : kT} {C : kQ} {sc : List Int32} {r : xR} {ρ0 : List Int} {pc : Nat} {s : kS} {Q : Option Value → xM → Prop} {outs : List (Nat × kS)}
theorem kt2_ok {e : xE} {g : Int32 → Int32 → Int32} (he : xat r.1 pc = some e) (hk : xkind e = 0) (hx : ∀ L st M, x1 xty xdf sc e pc L st M = xii g pc L st M) (h : kt2 pc s = some outs) (hg : ∀ q ∈ outs, kG T C sc r ρ0 q.1 q.2 Q) : kG T C sc r ρ0 pc s Q := by
  obtain ⟨E, L, S, O⟩ := s
  unfold kt2 at h
  dsimp only at h
  split at h
  · rename_i y x S'
    cases hb : (Nat.beq x.1 0 && Nat.beq y.1 0) with
    | false => rw [hb] at h; cases h
    | true =>
      rw [hb] at h
      cases h
      rw [Bool.and_eq_true] at hb
      refine kk_ii (v := (0, E.length, 0)) (E' := E ++ [(kmin, kmax)]) he hk hx (Nat.eq_of_beq_eq_true hb.1) (Nat.eq_of_beq_eq_true hb.2) (fun ρ p q h1 hp hq => ?_) rfl (hg _ List.mem_cons_self)
      have b := ti_bd (g p q)
      exact ⟨[(g p q).toInt], kin_app h1 b.1 b.2, (g p q).toInt, kin_new h1, by simp⟩
  · cases h
theorem kt1_ok {e : xE} {g : Int32 → Int32} (he : xat r.1 pc = some e) (hk : xkind e = 0) (hx : ∀ L st M, x1 xty xdf sc e pc L st M = xi g pc L st M) (h : kt1 pc s = some outs) (hg : ∀ q ∈ outs, kG T C sc r ρ0 q.1 q.2 Q) : kG T C sc r ρ0 pc s Q := by
  obtain ⟨E, L, S, O⟩ := s
  unfold kt1 at h
  dsimp only at h
  split at h
  · rename_i x S'
    cases hb : Nat.beq x.1 0 with
    | false => rw [hb] at h; cases h
    | true =>
      rw [hb] at h
      cases h
      intro σ L' st B I J ⟨h1, h2, h3, h4⟩ hB hI
      obtain ⟨w, st', rfl, g1, h3⟩ := h3
      obtain ⟨t, i, c⟩ := x
      have e0 := Nat.eq_of_beq_eq_true hb
      dsimp only at e0
      subst e0
      obtain ⟨p, rfl, hp⟩ := id g1
      have b := ti_bd (g p)
      refine sw_0 he hk (by rw [hx]; rfl) (hg _ List.mem_cons_self (σ ++ [(g p).toInt]) L' (.int (g p) :: st') B I J ⟨?_, ?_, ?_, ?_⟩ hB hI)
      · rw [← List.append_assoc]; exact kin_app h1 b.1 b.2
      · rw [← List.append_assoc]; exact kvl_ap h2
      · rw [← List.append_assoc]; exact ⟨_, _, rfl, ⟨_, rfl, (g p).toInt, kin_new h1, by simp⟩, kvs_ap h3⟩
      · rw [← List.append_assoc]; exact kov_ap h4
  · cases h
theorem klong {e : xE} {E : kE} {L : kL} {S : List kV} {O : kO} {L' : xL} {st : List Value} {B : xM} {I : tI} {J : tJ} {σ : List Int} (z : Int64) (he : xat r.1 pc = some e) (hk : xkind e = 0) {st0 : List Value} (hx : x1 xty xdf sc e pc L' st0 (tMem B I J) = some (pc + 1, L', .long z :: st, tMem B I J)) (h1 : kin (ρ0 ++ σ) E) (h2 : kvl (ρ0 ++ σ) L L') (h3 : kvs (ρ0 ++ σ) S st) (h4 : kov (ρ0 ++ σ) I O) (hB : kB T B) (hI : kI T C B I J) (hg : kG T C sc r ρ0 (pc + 1) (E ++ [(klmin, klmax)], L, (1, E.length, 0) :: S, O) Q) : sw sc r pc L' st0 (tMem B I J) Q := by
  have b := tl_bd z
  refine sw_0 he hk hx (hg (σ ++ [z.toInt]) L' (.long z :: st) B I J ⟨?_, ?_, ?_, ?_⟩ hB hI)
  · rw [← List.append_assoc]; exact kin_app h1 b.1 b.2
  · rw [← List.append_assoc]; exact kvl_ap h2
  · rw [← List.append_assoc]; exact ⟨_, _, rfl, ⟨_, rfl, z.toInt, kin_new h1, by simp⟩, kvs_ap h3⟩
  · rw [← List.append_assoc]; exact kov_ap h4
theorem kll_ok {e : xE} {g : Int64 → Int64 → Int64} (he : xat r.1 pc = some e) (hk : xkind e = 0) (hx : ∀ L st M, x1 xty xdf sc e pc L st M = xll g pc L st M) (h : kl2 1 pc s = some outs) (hg : ∀ q ∈ outs, kG T C sc r ρ0 q.1 q.2 Q) : kG T C sc r ρ0 pc s Q := by
  obtain ⟨E, L, S, O⟩ := s
  unfold kl2 at h
  dsimp only at h
  split at h
  · rename_i y x S'
    cases hb : (Nat.beq x.1 1 && Nat.beq y.1 1) with
    | false => rw [hb] at h; cases h
    | true =>
      rw [hb] at h
      cases h
      rw [Bool.and_eq_true] at hb
      intro σ L' st B I J ⟨h1, h2, h3, h4⟩ hB hI
      obtain ⟨w1, st1, rfl, g1, w2, st2, rfl, g2, h3⟩ := h3
      obtain ⟨t1, i1, c1⟩ := x
      obtain ⟨t2, i2, c2⟩ := y
      have e1 := Nat.eq_of_beq_eq_true hb.1
      have e2 := Nat.eq_of_beq_eq_true hb.2
      dsimp only at e1 e2
      subst e1 e2
      obtain ⟨q, rfl, hq⟩ := id g1
      obtain ⟨p, rfl, hp⟩ := id g2
      exact klong (g p q) he hk (by rw [hx]; rfl) h1 h2 h3 h4 hB hI (hg _ List.mem_cons_self)
  · cases h
theorem kli_ok {e : xE} {g : Int64 → Int32 → Int64} (he : xat r.1 pc = some e) (hk : xkind e = 0) (hx : ∀ L st M, x1 xty xdf sc e pc L st M = xli g pc L st M) (h : kl2 0 pc s = some outs) (hg : ∀ q ∈ outs, kG T C sc r ρ0 q.1 q.2 Q) : kG T C sc r ρ0 pc s Q := by
  obtain ⟨E, L, S, O⟩ := s
  unfold kl2 at h
  dsimp only at h
  split at h
  · rename_i y x S'
    cases hb : (Nat.beq x.1 1 && Nat.beq y.1 0) with
    | false => rw [hb] at h; cases h
    | true =>
      rw [hb] at h
      cases h
      rw [Bool.and_eq_true] at hb
      intro σ L' st B I J ⟨h1, h2, h3, h4⟩ hB hI
      obtain ⟨w1, st1, rfl, g1, w2, st2, rfl, g2, h3⟩ := h3
      obtain ⟨t1, i1, c1⟩ := x
      obtain ⟨t2, i2, c2⟩ := y
      have e1 := Nat.eq_of_beq_eq_true hb.1
      have e2 := Nat.eq_of_beq_eq_true hb.2
      dsimp only at e1 e2
      subst e1 e2
      obtain ⟨q, rfl, hq⟩ := id g1
      obtain ⟨p, rfl, hp⟩ := id g2
      exact klong (g p q) he hk (by rw [hx]; rfl) h1 h2 h3 h4 hB hI (hg _ List.mem_cons_self)
  · cases h
end KS2
