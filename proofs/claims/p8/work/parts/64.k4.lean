/-! ONE STEP OF THE CHECK -/
abbrev kX : Type := Option (List (Nat × kS))
def kpc (n pc : Nat) (c : Int) (s : kS) : kX := bif kz s.1 && (decide (-2147483648 ≤ c) && decide (c ≤ 2147483647)) then some [(pc + n, (s.1, s.2.1, (0, 0, c) :: s.2.2.1, s.2.2.2))] else none
def kpI (n pc i : Nat) (s : kS) : kX := match kfind s.2.1 i with
  | some v => bif Nat.beq v.1 0 then some [(pc + n, (s.1, s.2.1, v :: s.2.2.1, s.2.2.2))] else none
  | none => none
def kpA (n pc i : Nat) (s : kS) : kX := match kfind s.2.1 i with
  | some v => bif Nat.beq v.1 2 then some [(pc + n, (s.1, s.2.1, v :: s.2.2.1, s.2.2.2))] else none
  | none => none
def ksI (n pc i : Nat) (s : kS) : kX := match s.2.2.1 with
  | v :: S => bif Nat.beq v.1 0 then some [(pc + n, (s.1, kset false s.2.1 i v, S, s.2.2.2))] else none
  | _ => none
def kinc (pc i : Nat) (c : Int) (s : kS) : kX := match kfind s.2.1 i with
  | some x => bif Nat.beq x.1 0 && (kz s.1 && (decide (-2147483648 ≤ c) && decide (c ≤ 2147483647))) then (match kadd 0 (-2147483648) 2147483647 1 s.1 x (0, 0, c) with
    | some q => some [(pc + 3, (q.1, kset false s.2.1 i q.2, s.2.2.1, s.2.2.2))]
    | none => none) else none
  | none => none
def kas (g : Int) (pc : Nat) (s : kS) : kX := match s.2.2.1 with
  | y :: x :: S => bif Nat.beq x.1 0 && Nat.beq y.1 0 then (match kadd 0 (-2147483648) 2147483647 g s.1 x y with
    | some q => some [(pc + 1, (q.1, s.2.1, q.2 :: S, s.2.2.2))]
    | none => none) else none
  | _ => none
def kopt (o : Option kE) (pc : Nat) (L : kL) (S : List kV) (O : kO) : List (Nat × kS) := match o with
  | some E => [(pc, (E, L, S, O))]
  | none => []
def kbr2 (c : ClassFile.Cond) (pc t : Nat) (s : kS) : kX := match s.2.2.1 with
  | y :: x :: S => bif Nat.beq x.1 0 && Nat.beq y.1 0 then some (kopt (kcmp c s.1 x y) t s.2.1 S s.2.2.2 ++ kopt (kcmp (kneg c) s.1 x y) (pc + 3) s.2.1 S s.2.2.2) else none
  | _ => none
def kbr1 (c : ClassFile.Cond) (pc t : Nat) (s : kS) : kX := match s.2.2.1 with
  | x :: S => bif Nat.beq x.1 0 && kz s.1 then some (kopt (kcmp c s.1 x (0, 0, 0)) t s.2.1 S s.2.2.2 ++ kopt (kcmp (kneg c) s.1 x (0, 0, 0)) (pc + 3) s.2.1 S s.2.2.2) else none
  | _ => none
def kget (T : kT) (c k pc : Nat) (s : kS) : kX := match s.2.2.1 with
  | v :: S => bif Nat.beq v.1 2 && kz s.1 then (match T.k v.2.1 with
    | some cm => bif Nat.beq cm.1 c && Nat.blt k cm.2 then (match (T.b v.2.1 k).1 with
      | 0 => (match kol s.2.2.2 v.2.1 0 (k : Int) with
        | some u => bif Nat.beq u.1 0 then some [(pc + 3, (s.1, s.2.1, u :: S, s.2.2.2))] else none
        | none => some [(pc + 3, (s.1 ++ [(T.b v.2.1 k).2], s.2.1, (0, s.1.length, 0) :: S, ((v.2.1, 0, (k : Int)), (0, s.1.length, 0)) :: s.2.2.2))])
      | 2 => some [(pc + 3, (s.1, s.2.1, (2, (T.b v.2.1 k).2.1.toNat, 0) :: S, s.2.2.2))]
      | _ => none) else none
    | none => none) else none
  | _ => none
def kisb (ty : FieldType) (b : Int × Int) : Bool := match ty with
  | .int => true
  | .boolean => decide (0 ≤ b.1) && decide (b.2 ≤ 1)
  | _ => false
theorem kisb_ok {ty : FieldType} {b : Int × Int} (h : kisb ty b = true) : ty = .int ∨ (ty = .boolean ∧ 0 ≤ b.1 ∧ b.2 ≤ 1) := by
  cases ty with
  | int => exact Or.inl rfl
  | boolean =>
    simp only [kisb, Bool.and_eq_true, decide_eq_true_eq] at h
    exact Or.inr ⟨rfl, h.1, h.2⟩
  | _ => cases h
def kput (T : kT) (c k pc : Nat) (s : kS) : kX := match s.2.2.1 with
  | u :: v :: S => bif Nat.beq u.1 0 && (Nat.beq v.1 2 && kz s.1) then (match T.k v.2.1 with
    | some cm => (match kiv s.1 u with
      | some b => bif (Nat.beq cm.1 c && Nat.blt k cm.2) && (kmt T v.2.1 b.1 b.2 k 0 && kisb (xty c k) b) then some [(pc + 3, (s.1, s.2.1, S, ((v.2.1, 0, (k : Int)), u) :: kkill s.1 v.2.1 0 (k : Int) (k : Int) (k : Int) s.2.2.2))] else none
      | none => none)
    | none => none) else none
  | _ => none
def kald (T : kT) (pc : Nat) (s : kS) : kX := match s.2.2.1 with
  | j :: v :: S => bif Nat.beq j.1 0 && Nat.beq v.1 2 then (match T.k v.2.1 with
    | some cm => (match kiv s.1 j with
      | some b => bif (Nat.beq cm.1 20 && decide (0 ≤ b.1)) && decide (b.2 < (cm.2 : Int)) then (match kjn T v.2.1 b.1.toNat (b.2 - b.1).toNat with
        | some w => (match kol s.2.2.2 v.2.1 j.2.1 j.2.2 with
          | some u => bif Nat.beq u.1 0 then some [(pc + 1, (s.1, s.2.1, u :: S, s.2.2.2))] else none
          | none => some [(pc + 1, (s.1 ++ [w], s.2.1, (0, s.1.length, 0) :: S, ((v.2.1, j.2.1, j.2.2), (0, s.1.length, 0)) :: s.2.2.2))])
        | none => none) else none
      | none => none)
    | none => none) else none
  | _ => none
def kast (T : kT) (pc : Nat) (s : kS) : kX := match s.2.2.1 with
  | u :: j :: v :: S => bif Nat.beq u.1 0 && (Nat.beq j.1 0 && Nat.beq v.1 2) then (match T.k v.2.1 with
    | some cm => (match kiv s.1 j with
      | some b => (match kiv s.1 u with
        | some w => bif ((Nat.beq cm.1 20 && decide (0 ≤ b.1)) && decide (b.2 < (cm.2 : Int))) && kmt T v.2.1 w.1 w.2 b.1.toNat (b.2 - b.1).toNat then some [(pc + 1, (s.1, s.2.1, S, ((v.2.1, j.2.1, j.2.2), u) :: kkill s.1 v.2.1 j.2.1 j.2.2 b.1 b.2 s.2.2.2))] else none
        | none => none)
      | none => none)
    | none => none) else none
  | _ => none
def kstep (T : kT) (e : xE) (pc : Nat) (s : kS) : kX := match e.1 with
  | .iconst n => kpc 1 pc n s
  | .bipush n => bif decide (-128 ≤ n) && decide (n ≤ 127) then kpc 2 pc n s else none
  | .sipush n => bif decide (-32768 ≤ n) && decide (n ≤ 32767) then kpc 3 pc n s else none
  | .ldc _ => bif Nat.beq e.2.1 0 then kpc 2 pc e.2.2.2 s else none
  | .ldc_w _ => bif Nat.beq e.2.1 0 then kpc 3 pc e.2.2.2 s else none
  | .iload i => kpI 2 pc i s
  | .iload_n i => kpI 1 pc i s
  | .aload i => kpA 2 pc i s
  | .aload_n i => kpA 1 pc i s
  | .istore i => ksI 2 pc i s
  | .istore_n i => ksI 1 pc i s
  | .iinc i n => kinc pc i n s
  | .iadd => kas 1 pc s
  | .isub => kas (-1) pc s
  | .goto _ => some [(e.2.1, s)]
  | .if_icmp c _ => bif Nat.beq e.2.2.1 0 && decide (e.2.2.2 = 0) then kbr2 c pc e.2.1 s else none
  | .ifCond c _ => bif Nat.beq e.2.2.1 0 && decide (e.2.2.2 = 0) then kbr1 c pc e.2.1 s else none
  | .getfield _ => kget T e.2.1 e.2.2.1 pc s
  | .putfield _ => kput T e.2.1 e.2.2.1 pc s
  | .iaload => bif Nat.beq e.2.1 0 && (Nat.beq e.2.2.1 0 && decide (e.2.2.2 = 0)) then kald T pc s else none
  | .iastore => bif Nat.beq e.2.1 0 && (Nat.beq e.2.2.1 0 && decide (e.2.2.2 = 0)) then kast T pc s else none
  | _ => none
theorem ti_of {n : Int} (h1 : -2147483648 ≤ n) (h2 : n ≤ 2147483647) : (Int32.ofInt n).toInt = n := by
  rw [Int32.toInt_ofInt, show Int32.size = 4294967296 from rfl]
  exact Int.bmod_eq_of_le (by omega) (by omega)
section KS
variable {T : kT} {C : kQ} {sc : List Int32} {r : xR} {ρ0 : List Int} {pc : Nat} {s : kS} {Q : Option Value → xM → Prop} {outs : List (Nat × kS)}
theorem kpc_ok {e : xE} {n : Nat} {c : Int} {w : Int32} (he : xat r.1 pc = some e) (hk : xkind e = 0) (hx : ∀ L st M, x1 xty xdf sc e pc L st M = some (pc + n, L, .int w :: st, M)) (hw : -2147483648 ≤ c → c ≤ 2147483647 → w.toInt = c) (h : kpc n pc c s = some outs) (hg : ∀ q ∈ outs, kG T C sc r ρ0 q.1 q.2 Q) : kG T C sc r ρ0 pc s Q := by
  unfold kpc at h
  cases hb : (kz s.1 && (decide (-2147483648 ≤ c) && decide (c ≤ 2147483647))) with
  | false => rw [hb] at h; cases h
  | true =>
    rw [hb] at h
    cases h
    simp only [Bool.and_eq_true, decide_eq_true_eq] at hb
    refine kk_push (v := (0, 0, c)) he hk (fun L st M => s1_of (hx L st M)) (fun ρ hρ => ⟨w, rfl, ?_⟩) (hg _ List.mem_cons_self)
    rw [hw hb.2.1 hb.2.2]
    exact kz_ok hρ hb.1 c 0
theorem kpI_ok {e : xE} {n i : Nat} (he : xat r.1 pc = some e) (hk : xkind e = 0) (hx : ∀ L st M, x1 xty xdf sc e pc L st M = xpI n pc i L st M) (h : kpI n pc i s = some outs) (hg : ∀ q ∈ outs, kG T C sc r ρ0 q.1 q.2 Q) : kG T C sc r ρ0 pc s Q := by
  unfold kpI at h
  split at h
  · rename_i v hv
    cases hb : Nat.beq v.1 0 with
    | false => rw [hb] at h; cases h
    | true => rw [hb] at h; cases h; exact kk_iload he hk hx hv (Nat.eq_of_beq_eq_true hb) (hg _ List.mem_cons_self)
  · cases h
theorem kpA_ok {e : xE} {n i : Nat} (he : xat r.1 pc = some e) (hk : xkind e = 0) (hx : ∀ L st M, x1 xty xdf sc e pc L st M = xpA n pc i L st M) (h : kpA n pc i s = some outs) (hg : ∀ q ∈ outs, kG T C sc r ρ0 q.1 q.2 Q) : kG T C sc r ρ0 pc s Q := by
  unfold kpA at h
  split at h
  · rename_i v hv
    cases hb : Nat.beq v.1 2 with
    | false => rw [hb] at h; cases h
    | true => rw [hb] at h; cases h; exact kk_aload he hk hx hv (Nat.eq_of_beq_eq_true hb) (hg _ List.mem_cons_self)
  · cases h
theorem ksI_ok {e : xE} {n i : Nat} (he : xat r.1 pc = some e) (hk : xkind e = 0) (hx : ∀ L st M, x1 xty xdf sc e pc L st M = xsI n pc i L st M) (h : ksI n pc i s = some outs) (hg : ∀ q ∈ outs, kG T C sc r ρ0 q.1 q.2 Q) : kG T C sc r ρ0 pc s Q := by
  obtain ⟨E, L, S, O⟩ := s
  unfold ksI at h
  dsimp only at h
  split at h
  · rename_i v S'
    cases hb : Nat.beq v.1 0 with
    | false => rw [hb] at h; cases h
    | true => rw [hb] at h; cases h; exact kk_istore he hk hx (Nat.eq_of_beq_eq_true hb) (hg _ List.mem_cons_self)
  · cases h
theorem kk_iinc {E E' : kE} {L : kL} {S : List kV} {O : kO} {i a b : Nat} {n z : Int} {x v : kV} (he : xat r.1 pc = some (.iinc i n, a, b, z)) (hf : kfind L i = some x) (tx : x.1 = 0) (hz : kz E = true) (hn : -2147483648 ≤ n ∧ n ≤ 2147483647) (ha : kadd 0 (-2147483648) 2147483647 1 E x (0, 0, n) = some (E', v)) (h : kG T C sc r ρ0 (pc + 3) (E', kset false L i v, S, O) Q) : kG T C sc r ρ0 pc (E, L, S, O) Q := by
  intro σ L' st B I J ⟨h1, h2, h3, h4⟩ hB hI
  obtain ⟨w, g1, g2⟩ := kvl_find h2 hf
  have tv := kadd_t ha
  obtain ⟨t, j, c⟩ := x
  subst tx
  obtain ⟨p, rfl, hp⟩ := id g2
  have b := ti_bd (p + Int32.ofInt n)
  have e0 := ti_of hn.1 hn.2
  obtain ⟨τ, k1, k2, -⟩ := kadd_ok (r := (p + Int32.ofInt n).toInt) (Or.inl rfl) h1 hp (kz_ok h1 hz n 0) (fun u1 u2 => by
    rw [Int.one_mul] at u1 u2 ⊢
    rw [ti_add (by omega) (by omega), e0]) b.1 b.2 ha
  refine sw_0 he rfl (?_ : (match xfind L' i with
    | some (.int v) => some (pc + 3, xst1 L' i (.int (v + Int32.ofInt n)), st, tMem B I J)
    | _ => none) = some (pc + 3, xst1 L' i (.int (p + Int32.ofInt n)), st, tMem B I J)) (h (σ ++ τ) _ _ B I J ⟨?_, ?_, ?_, ?_⟩ hB hI)
  · rw [g1]
  · rw [← List.append_assoc]; exact k1
  · rw [← List.append_assoc]
    obtain ⟨t, j, c⟩ := v
    subst tv
    exact kvl_set1 (kvl_ap h2) ⟨_, rfl, k2⟩
  · rw [← List.append_assoc]; exact kvs_ap h3
  · rw [← List.append_assoc]; exact kov_ap h4
theorem kk_sub {E E' : kE} {L : kL} {S : List kV} {O : kO} {e : xE} {x y v : kV} (he : xat r.1 pc = some e) (hk : xkind e = 0) (hx : ∀ L st M, x1 xty xdf sc e pc L st M = xii (fun x y => x - y) pc L st M) (tx : x.1 = 0) (ty : y.1 = 0) (ha : kadd 0 (-2147483648) 2147483647 (-1) E x y = some (E', v)) (h : kG T C sc r ρ0 (pc + 1) (E', L, v :: S, O) Q) : kG T C sc r ρ0 pc (E, L, y :: x :: S, O) Q := by
  refine kk_ii he hk hx tx ty (fun ρ p q h1 hp hq => ?_) (kadd_t ha) h
  have b := ti_bd (p - q)
  obtain ⟨σ, k1, k2, -⟩ := kadd_ok (r := (p - q).toInt) (Or.inr rfl) h1 hp hq (fun u1 u2 => by
    rw [ti_sub (by omega) (by omega)]
    omega) b.1 b.2 ha
  exact ⟨σ, k1, k2⟩
theorem kopt_in {o : Option kE} {pc : Nat} {L : kL} {S : List kV} {O : kO} {E : kE} (h : o = some E) : (pc, (E, L, S, O)) ∈ kopt o pc L S O := by
  subst h
  exact List.mem_cons_self
theorem kstep_ok {e : xE} (he : xat r.1 pc = some e) (hk : xkind e = 0) (h : kstep T e pc s = some outs) (hg : ∀ q ∈ outs, kG T C sc r ρ0 q.1 q.2 Q) : kG T C sc r ρ0 pc s Q := by
  obtain ⟨ins, ea, eb, ez⟩ := e
  cases ins
  case iconst n => exact kpc_ok he hk (fun _ _ _ => rfl) ti_of h hg
  case bipush n =>
    simp only [kstep] at h
    cases hb : (decide (-128 ≤ n) && decide (n ≤ 127)) with
    | false => rw [hb] at h; cases h
    | true =>
      rw [hb] at h
      simp only [Bool.and_eq_true, decide_eq_true_eq] at hb
      refine kpc_ok he hk (fun _ _ _ => rfl) (fun _ _ => ?_) h hg
      rw [Int8.toInt_toInt32, Int8.toInt_ofInt, show Int8.size = 256 from rfl]
      exact Int.bmod_eq_of_le (by omega) (by omega)
  case sipush n =>
    simp only [kstep] at h
    cases hb : (decide (-32768 ≤ n) && decide (n ≤ 32767)) with
    | false => rw [hb] at h; cases h
    | true =>
      rw [hb] at h
      simp only [Bool.and_eq_true, decide_eq_true_eq] at hb
      refine kpc_ok he hk (fun _ _ _ => rfl) (fun _ _ => ?_) h hg
      rw [Int16.toInt_toInt32, Int16.toInt_ofInt, show Int16.size = 65536 from rfl]
      exact Int.bmod_eq_of_le (by omega) (by omega)
  case ldc i =>
    simp only [kstep] at h
    cases hb : Nat.beq ea 0 with
    | false => rw [hb] at h; cases h
    | true =>
      rw [hb] at h
      have e0 := Nat.eq_of_beq_eq_true hb
      subst e0
      exact kpc_ok he hk (fun _ _ _ => rfl) ti_of h hg
  case ldc_w i =>
    simp only [kstep] at h
    cases hb : Nat.beq ea 0 with
    | false => rw [hb] at h; cases h
    | true =>
      rw [hb] at h
      have e0 := Nat.eq_of_beq_eq_true hb
      subst e0
      exact kpc_ok he hk (fun _ _ _ => rfl) ti_of h hg
  case iload i => exact kpI_ok he hk (fun _ _ _ => rfl) h hg
  case iload_n i => exact kpI_ok he hk (fun _ _ _ => rfl) h hg
  case aload i => exact kpA_ok he hk (fun _ _ _ => rfl) h hg
  case aload_n i => exact kpA_ok he hk (fun _ _ _ => rfl) h hg
  case istore i => exact ksI_ok he hk (fun _ _ _ => rfl) h hg
  case istore_n i => exact ksI_ok he hk (fun _ _ _ => rfl) h hg
  case iinc i n =>
    obtain ⟨E, L, S, O⟩ := s
    simp only [kstep, kinc] at h
    split at h
    · rename_i x hx
      cases hb : (Nat.beq x.1 0 && (kz E && (decide (-2147483648 ≤ n) && decide (n ≤ 2147483647)))) with
      | false => rw [hb] at h; cases h
      | true =>
        rw [hb] at h
        simp only [cond_true] at h
        simp only [Bool.and_eq_true, decide_eq_true_eq] at hb
        split at h
        · rename_i q hq
          obtain ⟨E', v⟩ := q
          cases h
          exact kk_iinc he hx (Nat.eq_of_beq_eq_true hb.1) hb.2.1 hb.2.2 hq (hg _ List.mem_cons_self)
        · cases h
    · cases h
  case iadd =>
    obtain ⟨E, L, S, O⟩ := s
    simp only [kstep, kas] at h
    split at h
    · rename_i y x S'
      cases hb : (Nat.beq x.1 0 && Nat.beq y.1 0) with
      | false => rw [hb] at h; cases h
      | true =>
        rw [hb] at h
        simp only [cond_true] at h
        rw [Bool.and_eq_true] at hb
        split at h
        · rename_i q hq
          obtain ⟨E', v⟩ := q
          cases h
          exact kk_add he hk (fun _ _ _ => rfl) (Nat.eq_of_beq_eq_true hb.1) (Nat.eq_of_beq_eq_true hb.2) hq (hg _ List.mem_cons_self)
        · cases h
    · cases h
  case isub =>
    obtain ⟨E, L, S, O⟩ := s
    simp only [kstep, kas] at h
    split at h
    · rename_i y x S'
      cases hb : (Nat.beq x.1 0 && Nat.beq y.1 0) with
      | false => rw [hb] at h; cases h
      | true =>
        rw [hb] at h
        simp only [cond_true] at h
        rw [Bool.and_eq_true] at hb
        split at h
        · rename_i q hq
          obtain ⟨E', v⟩ := q
          cases h
          exact kk_sub he hk (fun _ _ _ => rfl) (Nat.eq_of_beq_eq_true hb.1) (Nat.eq_of_beq_eq_true hb.2) hq (hg _ List.mem_cons_self)
        · cases h
    · cases h
  case goto off =>
    cases h
    intro σ L' st B I J hs hB hI
    exact sw_0 he rfl rfl (hg _ List.mem_cons_self σ L' st B I J hs hB hI)
  case if_icmp c off =>
    obtain ⟨E, L, S, O⟩ := s
    simp only [kstep] at h
    cases hb0 : (Nat.beq eb 0 && decide (ez = 0)) with
    | false => rw [hb0] at h; cases h
    | true =>
      rw [hb0] at h
      simp only [cond_true, kbr2] at h
      rw [Bool.and_eq_true, decide_eq_true_eq] at hb0
      have e1 := Nat.eq_of_beq_eq_true hb0.1
      have e2 := hb0.2
      subst e1 e2
      split at h
      · rename_i y x S'
        cases hb : (Nat.beq x.1 0 && Nat.beq y.1 0) with
        | false => rw [hb] at h; cases h
        | true =>
          rw [hb] at h
          cases h
          rw [Bool.and_eq_true] at hb
          exact kk_ic he (Nat.eq_of_beq_eq_true hb.1) (Nat.eq_of_beq_eq_true hb.2) (fun E' e => hg _ (List.mem_append_left _ (kopt_in e))) (fun E' e => hg _ (List.mem_append_right _ (kopt_in e)))
      · cases h
  case ifCond c off =>
    obtain ⟨E, L, S, O⟩ := s
    simp only [kstep] at h
    cases hb0 : (Nat.beq eb 0 && decide (ez = 0)) with
    | false => rw [hb0] at h; cases h
    | true =>
      rw [hb0] at h
      simp only [cond_true, kbr1] at h
      rw [Bool.and_eq_true, decide_eq_true_eq] at hb0
      have e1 := Nat.eq_of_beq_eq_true hb0.1
      have e2 := hb0.2
      subst e1 e2
      split at h
      · rename_i x S'
        cases hb : (Nat.beq x.1 0 && kz E) with
        | false => rw [hb] at h; cases h
        | true =>
          rw [hb] at h
          cases h
          rw [Bool.and_eq_true] at hb
          exact kk_if he (Nat.eq_of_beq_eq_true hb.1) hb.2 (fun E' e => hg _ (List.mem_append_left _ (kopt_in e))) (fun E' e => hg _ (List.mem_append_right _ (kopt_in e)))
      · cases h
  case getfield i =>
    obtain ⟨E, L, S, O⟩ := s
    simp only [kstep, kget] at h
    split at h
    · rename_i v S'
      cases hb : (Nat.beq v.1 2 && kz E) with
      | false => rw [hb] at h; cases h
      | true =>
        rw [hb] at h
        simp only [cond_true] at h
        rw [Bool.and_eq_true] at hb
        obtain ⟨tv, o, d⟩ := v
        have e2 := Nat.eq_of_beq_eq_true hb.1
        dsimp only at e2 h
        subst e2
        split at h
        · rename_i cm hcm
          cases hb2 : (Nat.beq cm.1 ea && Nat.blt eb cm.2) with
          | false => rw [hb2] at h; cases h
          | true =>
            rw [hb2] at h
            simp only [cond_true] at h
            rw [Bool.and_eq_true] at hb2
            obtain ⟨c, m⟩ := cm
            have e3 := Nat.eq_of_beq_eq_true hb2.1
            dsimp only at e3
            subst e3
            have hlt := Nat.blt_eq.mp hb2.2
            split at h
            · rename_i ht
              split at h
              · rename_i u hu
                cases hb3 : Nat.beq u.1 0 with
                | false => rw [hb3] at h; cases h
                | true => rw [hb3] at h; cases h; exact kk_getO he hcm hlt ht hb.2 hu (Nat.eq_of_beq_eq_true hb3) (hg _ List.mem_cons_self)
              · cases h
                exact kk_getN he hcm hlt ht hb.2 (hg _ List.mem_cons_self)
            · rename_i ht
              cases h
              exact kk_getR he hcm hlt ht (hg _ List.mem_cons_self)
            · cases h
        · cases h
    · cases h
  case putfield i =>
    obtain ⟨E, L, S, O⟩ := s
    simp only [kstep, kput] at h
    split at h
    · rename_i u v S'
      cases hb : (Nat.beq u.1 0 && (Nat.beq v.1 2 && kz E)) with
      | false => rw [hb] at h; cases h
      | true =>
        rw [hb] at h
        simp only [cond_true] at h
        simp only [Bool.and_eq_true] at hb
        obtain ⟨tv, o, d⟩ := v
        have e2 := Nat.eq_of_beq_eq_true hb.2.1
        dsimp only at e2 h
        subst e2
        split at h
        · rename_i cm hcm
          split at h
          · rename_i b hbv
            cases hb2 : ((Nat.beq cm.1 ea && Nat.blt eb cm.2) && (kmt T o b.1 b.2 eb 0 && kisb (xty ea eb) b)) with
            | false => rw [hb2] at h; cases h
            | true =>
              rw [hb2] at h
              cases h
              simp only [Bool.and_eq_true] at hb2
              obtain ⟨c, m⟩ := cm
              have e3 := Nat.eq_of_beq_eq_true hb2.1.1
              dsimp only at e3
              subst e3
              exact kk_puti he hcm (Nat.blt_eq.mp hb2.1.2) hb.2.2 (Nat.eq_of_beq_eq_true hb.1) hbv hb2.2.1 (kisb_ok hb2.2.2) (hg _ List.mem_cons_self)
          · cases h
        · cases h
    · cases h
  case iaload =>
    obtain ⟨E, L, S, O⟩ := s
    simp only [kstep] at h
    cases hb0 : (Nat.beq ea 0 && (Nat.beq eb 0 && decide (ez = 0))) with
    | false => rw [hb0] at h; cases h
    | true =>
      rw [hb0] at h
      simp only [cond_true, kald] at h
      simp only [Bool.and_eq_true, decide_eq_true_eq] at hb0
      have e0 := Nat.eq_of_beq_eq_true hb0.1
      have e1 := Nat.eq_of_beq_eq_true hb0.2.1
      have e2 := hb0.2.2
      subst e0 e1 e2
      split at h
      · rename_i j v S'
        cases hb : (Nat.beq j.1 0 && Nat.beq v.1 2) with
        | false => rw [hb] at h; cases h
        | true =>
          rw [hb] at h
          simp only [cond_true] at h
          rw [Bool.and_eq_true] at hb
          obtain ⟨tv, o, d⟩ := v
          have e2 := Nat.eq_of_beq_eq_true hb.2
          dsimp only at e2 h
          subst e2
          split at h
          · rename_i cm hcm
            split at h
            · rename_i b hbv
              cases hb2 : ((Nat.beq cm.1 20 && decide (0 ≤ b.1)) && decide (b.2 < (cm.2 : Int))) with
              | false => rw [hb2] at h; cases h
              | true =>
                rw [hb2] at h
                simp only [cond_true] at h
                simp only [Bool.and_eq_true, decide_eq_true_eq] at hb2
                obtain ⟨c, m⟩ := cm
                have e3 := Nat.eq_of_beq_eq_true hb2.1.1
                dsimp only at e3
                subst e3
                split at h
                · rename_i w hw
                  split at h
                  · rename_i u hu
                    cases hb3 : Nat.beq u.1 0 with
                    | false => rw [hb3] at h; cases h
                    | true => rw [hb3] at h; cases h; exact kk_ialdO he hcm (Nat.eq_of_beq_eq_true hb.1) hbv hb2.1.2 hb2.2 hw hu (Nat.eq_of_beq_eq_true hb3) (hg _ List.mem_cons_self)
                  · cases h
                    exact kk_iald he hcm (Nat.eq_of_beq_eq_true hb.1) hbv hb2.1.2 hb2.2 hw (hg _ List.mem_cons_self)
                · cases h
            · cases h
          · cases h
      · cases h
  case iastore =>
    obtain ⟨E, L, S, O⟩ := s
    simp only [kstep] at h
    cases hb0 : (Nat.beq ea 0 && (Nat.beq eb 0 && decide (ez = 0))) with
    | false => rw [hb0] at h; cases h
    | true =>
      rw [hb0] at h
      simp only [cond_true, kast] at h
      simp only [Bool.and_eq_true, decide_eq_true_eq] at hb0
      have e0 := Nat.eq_of_beq_eq_true hb0.1
      have e1 := Nat.eq_of_beq_eq_true hb0.2.1
      have e2 := hb0.2.2
      subst e0 e1 e2
      split at h
      · rename_i u j v S'
        cases hb : (Nat.beq u.1 0 && (Nat.beq j.1 0 && Nat.beq v.1 2)) with
        | false => rw [hb] at h; cases h
        | true =>
          rw [hb] at h
          simp only [cond_true] at h
          simp only [Bool.and_eq_true] at hb
          obtain ⟨tv, o, d⟩ := v
          have e2 := Nat.eq_of_beq_eq_true hb.2.2
          dsimp only at e2 h
          subst e2
          split at h
          · rename_i cm hcm
            split at h
            · rename_i b hbv
              split at h
              · rename_i w hwv
                cases hb2 : (((Nat.beq cm.1 20 && decide (0 ≤ b.1)) && decide (b.2 < (cm.2 : Int))) && kmt T o w.1 w.2 b.1.toNat (b.2 - b.1).toNat) with
                | false => rw [hb2] at h; cases h
                | true =>
                  rw [hb2] at h
                  cases h
                  simp only [Bool.and_eq_true, decide_eq_true_eq] at hb2
                  obtain ⟨c, m⟩ := cm
                  have e3 := Nat.eq_of_beq_eq_true hb2.1.1.1
                  dsimp only at e3
                  subst e3
                  exact kk_iast he hcm (Nat.eq_of_beq_eq_true hb.2.1) (Nat.eq_of_beq_eq_true hb.1) hbv hb2.1.1.2 hb2.1.2 hwv hb2.2 (hg _ List.mem_cons_self)
              · cases h
            · cases h
          · cases h
      · cases h
  all_goals cases h
end KS
