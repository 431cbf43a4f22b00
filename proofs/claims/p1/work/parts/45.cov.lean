/-! COVERING: the reference tries all sets; where no sight is asked for, none is bought -/
def rr_258 : xR := (xt_258, 3, 3)
def rr_259 : xR := (xt_259, 3, 1)
def rr_270 : xR := (xt_270, 2, 1)
def rr_316 : xR := (xt_316, 4, 1)
def rr_317 : xR := (xt_317, 7, 1)
def cvB (set k : Int32) : Int32 := if (set >>> (k &&& 31)) &&& 1 = 1 then 1 else 0
def cvS (s k : Nat) : Int32 := Int32.ofNat s >>> (Int32.ofNat k &&& 31)
/-- what is asked of the memory: the array of numbers and the array of what is shown -/
def cvF (M : xM) (a aA aS : Nat) (sl AT SH : List Value) : Prop := xarr M a 12 = some sl ∧ xnth sl 0 = some (.ref aA) ∧ xarr M aA 20 = some AT ∧ xnth AT 5 = some (.int 0) ∧ xnth AT 6 = some (.int 5) ∧ xnth AT 7 = some (.int 1) ∧ xnth sl 24 = some (.ref aS) ∧ xarr M aS 20 = some SH ∧ ∀ j, 1 ≤ j → j ≤ 12 → xnth SH j = some (.int 0)
section CV
variable {sc : List Int32} {pc : Nat} {L : xL} {st : List Value} {M : xM} {a aA aS : Nat} {sl AT SH : List Value}
theorem ev_rv {rest tl : List Value} {i y n : Nat} (h8 : xcat8 rest = true) (h : xarr M a 12 = some sl) : (xcat8 rest && xrecv (.invokevirtual i, y, n, 12) (.ref a :: tl) M) = true := by
  rw [h8]
  show (match xarr M a 12 with
      | some _ => true
      | none => false) = true
  rw [h]
theorem ev_get {i c k z : Nat} {v : Value} (h : xarr M a c = some sl) (hk : xnth sl k = some v) : x1 xty xdf sc (.getfield i, c, k, (z : Int)) pc L (.ref a :: st) M = some (pc + 3, L, v :: st, M) := by
  show (match xarr M a c with
    | some sl => match xnth sl k with
      | some v => some (pc + 3, L, v :: st, M)
      | none => none
    | none => none) = _
  rw [h]
  dsimp only
  rw [hk]
theorem ev_ald {j : Int32} {i : Nat} {v : Value} (hj : ¬ j < 0) (hi : j.toNatClampNeg = i) (h : xarr M a 20 = some sl) (hk : xnth sl i = some v) : x1 xty xdf sc (.iaload, 0, 0, 0) pc L (.int j :: .ref a :: st) M = some (pc + 1, L, v :: st, M) := by
  show xald 20 pc L (.int j :: .ref a :: st) M = _
  unfold xald
  dsimp only
  rw [h]
  dsimp only
  rw [xix_yes hj (by rw [hi]; exact flen_some hk), hi]
  dsimp only
  rw [hk]
theorem ev_ic {c : ClassFile.Cond} {off : Int} {t : Nat} {x y : Int32} (h : xcmp c x y = true) : x1 xty xdf sc (.if_icmp c off, t, 0, 0) pc L (.int y :: .int x :: st) M = some (t, L, st, M) := by
  show some (bif xcmp c x y then t else pc + 3, L, st, M) = _
  rw [h]
  rfl
theorem ev_icn {c : ClassFile.Cond} {off : Int} {t : Nat} {x y : Int32} (h : xcmp c x y = false) : x1 xty xdf sc (.if_icmp c off, t, 0, 0) pc L (.int y :: .int x :: st) M = some (pc + 3, L, st, M) := by
  show some (bif xcmp c x y then t else pc + 3, L, st, M) = _
  rw [h]
  rfl
theorem ev_if {c : ClassFile.Cond} {off : Int} {t : Nat} {x : Int32} (h : xcmp c x 0 = true) : x1 xty xdf sc (.ifCond c off, t, 0, 0) pc L (.int x :: st) M = some (t, L, st, M) := by
  show some (bif xcmp c x 0 then t else pc + 3, L, st, M) = _
  rw [h]
  rfl
theorem ev_ifn {c : ClassFile.Cond} {off : Int} {t : Nat} {x : Int32} (h : xcmp c x 0 = false) : x1 xty xdf sc (.ifCond c off, t, 0, 0) pc L (.int x :: st) M = some (pc + 3, L, st, M) := by
  show some (bif xcmp c x 0 then t else pc + 3, L, st, M) = _
  rw [h]
  rfl
theorem ev_ld2 {i : Nat} {v : Int32} (h : xfind L i = some (.int v)) : x1 xty xdf sc (.iload i, 0, 0, 0) pc L st M = some (pc + 2, L, .int v :: st, M) := by
  show xpI 2 pc i L st M = _
  unfold xpI
  rw [h]
theorem ev_ld1 {i : Fin 4} {v : Int32} (h : xfind L i = some (.int v)) : x1 xty xdf sc (.iload_n i, 0, 0, 0) pc L st M = some (pc + 1, L, .int v :: st, M) := by
  show xpI 1 pc i L st M = _
  unfold xpI
  rw [h]
theorem xc_eq {x y : Int32} (h : x = y) : xcmp .eq x y = true := decide_eq_true h
theorem xc_eqn {x y : Int32} (h : x ≠ y) : xcmp .eq x y = false := decide_eq_false h
theorem xc_ne {x y : Int32} (h : x ≠ y) : xcmp .ne x y = true := by
  show (!decide (x = y)) = true
  rw [decide_eq_false h]
  rfl
theorem xc_nen {x y : Int32} (h : x = y) : xcmp .ne x y = false := by
  show (!decide (x = y)) = false
  rw [decide_eq_true h]
  rfl
theorem i_add (a b : Nat) : Int32.ofNat a + Int32.ofNat b = Int32.ofNat (a + b) := by
  apply Int32.toBitVec_inj.mp
  show BitVec.ofNat 32 a + BitVec.ofNat 32 b = BitVec.ofNat 32 (a + b)
  rw [BitVec.ofNat_add]
theorem ev_isIn (set k : Int32) : xev sc rr_258 0 [(0, .ref a), (1, .int set), (2, .int k)] [] M (some (.int (cvB set k)), M) := by
  refine xev_0 (e := (.iload_n 1, 0, 0, 0)) (pc' := 1) (L' := [(0, .ref a), (1, .int set), (2, .int k)]) (st' := [.int set]) (M' := M) rfl rfl rfl ?_
  refine xev_0 (e := (.iload_n 2, 0, 0, 0)) (pc' := 2) (L' := [(0, .ref a), (1, .int set), (2, .int k)]) (st' := [.int k, .int set]) (M' := M) rfl rfl rfl ?_
  refine xev_0 (e := (.ishr, 0, 0, 0)) (pc' := 3) (L' := [(0, .ref a), (1, .int set), (2, .int k)]) (st' := [.int (set >>> (k &&& 31))]) (M' := M) rfl rfl rfl ?_
  refine xev_0 (e := (.iconst 1, 0, 0, 0)) (pc' := 4) (L' := [(0, .ref a), (1, .int set), (2, .int k)]) (st' := [.int 1, .int (set >>> (k &&& 31))]) (M' := M) rfl rfl rfl ?_
  refine xev_0 (e := (.iand, 0, 0, 0)) (pc' := 5) (L' := [(0, .ref a), (1, .int set), (2, .int k)]) (st' := [.int ((set >>> (k &&& 31)) &&& 1)]) (M' := M) rfl rfl rfl ?_
  refine xev_0 (e := (.iconst 1, 0, 0, 0)) (pc' := 6) (L' := [(0, .ref a), (1, .int set), (2, .int k)]) (st' := [.int 1, .int ((set >>> (k &&& 31)) &&& 1)]) (M' := M) rfl rfl rfl ?_
  by_cases h : (set >>> (k &&& 31)) &&& 1 = 1
  · rw [show cvB set k = 1 from if_pos h]
    refine xev_0 (e := (.if_icmp .ne 7, 13, 0, 0)) (pc' := 9) (L' := [(0, .ref a), (1, .int set), (2, .int k)]) (st' := []) (M' := M) rfl rfl (ev_icn (xc_nen h)) ?_
    refine xev_0 (e := (.iconst 1, 0, 0, 0)) (pc' := 10) (L' := [(0, .ref a), (1, .int set), (2, .int k)]) (st' := [.int 1]) (M' := M) rfl rfl rfl ?_
    refine xev_0 (e := (.goto 4, 14, 0, 0)) (pc' := 14) (L' := [(0, .ref a), (1, .int set), (2, .int k)]) (st' := [.int 1]) (M' := M) rfl rfl rfl ?_
    exact xev_2 (e := (.ireturn, 0, 0, 0)) rfl rfl rfl
  · rw [show cvB set k = 0 from if_neg h]
    refine xev_0 (e := (.if_icmp .ne 7, 13, 0, 0)) (pc' := 13) (L' := [(0, .ref a), (1, .int set), (2, .int k)]) (st' := []) (M' := M) rfl rfl (ev_ic (xc_ne h)) ?_
    refine xev_0 (e := (.iconst 0, 0, 0, 0)) (pc' := 14) (L' := [(0, .ref a), (1, .int set), (2, .int k)]) (st' := [.int 0]) (M' := M) rfl rfl rfl ?_
    exact xev_2 (e := (.ireturn, 0, 0, 0)) rfl rfl rfl
theorem ev_price (F : cvF M a aA aS sl AT SH) (q : Int32) : xev sc rr_270 0 [(0, .ref a), (1, .int q)] [] M (some (.int (5 + (q - 1) * 1)), M) := by
  refine xev_0 (e := (.aload_n 0, 0, 0, 0)) (pc' := 1) (L' := [(0, .ref a), (1, .int q)]) (st' := [.ref a]) (M' := M) rfl rfl rfl ?_
  refine xev_0 (e := (.getfield 7, 12, 0, 0)) (pc' := 4) (L' := [(0, .ref a), (1, .int q)]) (st' := [.ref aA]) (M' := M) rfl rfl (ev_get F.1 F.2.1) ?_
  refine xev_0 (e := (.bipush 6, 0, 0, 0)) (pc' := 6) (L' := [(0, .ref a), (1, .int q)]) (st' := [.int 6, .ref aA]) (M' := M) rfl rfl rfl ?_
  refine xev_0 (e := (.iaload, 0, 0, 0)) (pc' := 7) (L' := [(0, .ref a), (1, .int q)]) (st' := [.int 5]) (M' := M) rfl rfl (ev_ald (by decide) rfl F.2.2.1 F.2.2.2.2.1) ?_
  refine xev_0 (e := (.iload_n 1, 0, 0, 0)) (pc' := 8) (L' := [(0, .ref a), (1, .int q)]) (st' := [.int q, .int 5]) (M' := M) rfl rfl rfl ?_
  refine xev_0 (e := (.iconst 1, 0, 0, 0)) (pc' := 9) (L' := [(0, .ref a), (1, .int q)]) (st' := [.int 1, .int q, .int 5]) (M' := M) rfl rfl rfl ?_
  refine xev_0 (e := (.isub, 0, 0, 0)) (pc' := 10) (L' := [(0, .ref a), (1, .int q)]) (st' := [.int (q - 1), .int 5]) (M' := M) rfl rfl rfl ?_
  refine xev_0 (e := (.aload_n 0, 0, 0, 0)) (pc' := 11) (L' := [(0, .ref a), (1, .int q)]) (st' := [.ref a, .int (q - 1), .int 5]) (M' := M) rfl rfl rfl ?_
  refine xev_0 (e := (.getfield 7, 12, 0, 0)) (pc' := 14) (L' := [(0, .ref a), (1, .int q)]) (st' := [.ref aA, .int (q - 1), .int 5]) (M' := M) rfl rfl (ev_get F.1 F.2.1) ?_
  refine xev_0 (e := (.bipush 7, 0, 0, 0)) (pc' := 16) (L' := [(0, .ref a), (1, .int q)]) (st' := [.int 7, .ref aA, .int (q - 1), .int 5]) (M' := M) rfl rfl rfl ?_
  refine xev_0 (e := (.iaload, 0, 0, 0)) (pc' := 17) (L' := [(0, .ref a), (1, .int q)]) (st' := [.int 1, .int (q - 1), .int 5]) (M' := M) rfl rfl (ev_ald (by decide) rfl F.2.2.1 F.2.2.2.2.2.1) ?_
  refine xev_0 (e := (.imul, 0, 0, 0)) (pc' := 18) (L' := [(0, .ref a), (1, .int q)]) (st' := [.int ((q - 1) * 1), .int 5]) (M' := M) rfl rfl rfl ?_
  refine xev_0 (e := (.iadd, 0, 0, 0)) (pc' := 19) (L' := [(0, .ref a), (1, .int q)]) (st' := [.int (5 + ((q - 1) * 1))]) (M' := M) rfl rfl rfl ?_
  exact xev_2 (e := (.ireturn, 0, 0, 0)) rfl rfl rfl
def cvK1 : Bool := (List.range 4096).all fun s => (decide (cvS s 12 = 0) && (Nat.beq s 0 || !decide (cvS s 0 = 0))) && (List.range 12).all fun k => decide (cvS s k = 0) || (decide (cvS s k &&& 1 = 1) || !decide (cvS s (k + 1) = 0))
set_option maxRecDepth 100000 in
theorem cvK1_ok : cvK1 = true := by decide +kernel
def cvK2 : Bool := (List.range 13).all fun n => xcmp .ge (Int32.ofNat (2 ^ n)) (1 <<< (Int32.ofNat n &&& 31)) && (List.range (2 ^ n)).all fun s => !xcmp .ge (Int32.ofNat s) (1 <<< (Int32.ofNat n &&& 31))
set_option maxRecDepth 100000 in
theorem cvK2_ok : cvK2 = true := by decide +kernel
theorem cv_12 {s : Nat} (h : s < 4096) : cvS s 12 = 0 := by
  have := List.all_eq_true.mp cvK1_ok s (List.mem_range.mpr h)
  simp only [Bool.and_eq_true, decide_eq_true_eq] at this
  exact this.1.1
theorem cv_0 {s : Nat} (h : s < 4096) (h0 : s ≠ 0) : cvS s 0 ≠ 0 := by
  have := List.all_eq_true.mp cvK1_ok s (List.mem_range.mpr h)
  simp only [Bool.and_eq_true, Bool.or_eq_true, Bool.not_eq_true', decide_eq_false_iff_not] at this
  rcases this.1.2 with g | g
  · exact absurd (Nat.eq_of_beq_eq_true g) h0
  · exact g
theorem cv_s {s k : Nat} (h : s < 4096) (hk : k < 12) (h1 : cvS s k ≠ 0) (h2 : ¬ cvS s k &&& 1 = 1) : cvS s (k + 1) ≠ 0 := by
  have := List.all_eq_true.mp cvK1_ok s (List.mem_range.mpr h)
  rw [Bool.and_eq_true] at this
  have := List.all_eq_true.mp this.2 k (List.mem_range.mpr hk)
  simp only [Bool.or_eq_true, decide_eq_true_eq, Bool.not_eq_true', decide_eq_false_iff_not] at this
  rcases this with g | g | g
  · exact absurd g h1
  · exact absurd g h2
  · exact g
theorem cv_end {n : Nat} (h : n < 13) : xcmp .ge (Int32.ofNat (2 ^ n)) (1 <<< (Int32.ofNat n &&& 31)) = true := by
  have := List.all_eq_true.mp cvK2_ok n (List.mem_range.mpr h)
  rw [Bool.and_eq_true] at this
  exact this.1
theorem cv_on {n s : Nat} (h : n < 13) (hs : s < 2 ^ n) : xcmp .ge (Int32.ofNat s) (1 <<< (Int32.ofNat n &&& 31)) = false := by
  have := List.all_eq_true.mp cvK2_ok n (List.mem_range.mpr h)
  rw [Bool.and_eq_true] at this
  have := List.all_eq_true.mp this.2 s (List.mem_range.mpr hs)
  simpa using this
theorem cv_price : ∀ k, k < 12 → (5 + (0 + Int32.ofNat k + 1 - 1) * 1 : Int32) = Int32.ofNat (5 + k) := by decide
theorem cv_ix : ∀ k, k < 12 → ¬ (Int32.ofNat k + 1 < 0) ∧ (Int32.ofNat k + 1).toNatClampNeg = k + 1 := by decide
theorem cv_kn : ∀ n, n < 13 → ∀ k, k < 13 → xcmp .ge (Int32.ofNat k) (Int32.ofNat n) = Nat.ble n k := by decide +kernel
theorem cv_c1 : ∀ c, c < 241 → 0 < c → xcmp .eq (Int32.ofNat c) 0 = false := by decide +kernel
theorem cv_c2 : ∀ c, c < 241 → xcmp .ge (Int32.ofNat c - 0) 0 = true := by decide +kernel
theorem cvB_1 {s k : Nat} (h : cvS s k &&& 1 = 1) : cvB (Int32.ofNat s) (Int32.ofNat k) = 1 := if_pos h
theorem cvB_0 {s k : Nat} (h : ¬ cvS s k &&& 1 = 1) : cvB (Int32.ofNat s) (Int32.ofNat k) = 0 := if_neg h
theorem ev_cost_end (s k n : Nat) (h : cvS s k = 0) : xev sc rr_316 4 [(3, .int (Int32.ofNat k)), (2, .int (Int32.ofNat n)), (0, .ref a), (1, .int (Int32.ofNat s))] [] M (some (.int (Int32.ofNat n)), M) := by
  refine xev_0 (e := (.iload_n 1, 0, 0, 0)) (pc' := 5) (L' := [(3, .int (Int32.ofNat k)), (2, .int (Int32.ofNat n)), (0, .ref a), (1, .int (Int32.ofNat s))]) (st' := [.int (Int32.ofNat s)]) (M' := M) rfl rfl rfl ?_
  refine xev_0 (e := (.iload_n 3, 0, 0, 0)) (pc' := 6) (L' := [(3, .int (Int32.ofNat k)), (2, .int (Int32.ofNat n)), (0, .ref a), (1, .int (Int32.ofNat s))]) (st' := [.int (Int32.ofNat k), .int (Int32.ofNat s)]) (M' := M) rfl rfl rfl ?_
  refine xev_0 (e := (.ishr, 0, 0, 0)) (pc' := 7) (L' := [(3, .int (Int32.ofNat k)), (2, .int (Int32.ofNat n)), (0, .ref a), (1, .int (Int32.ofNat s))]) (st' := [.int ((Int32.ofNat s) >>> ((Int32.ofNat k) &&& 31))]) (M' := M) rfl rfl rfl ?_
  refine xev_0 (e := (.ifCond .eq 39, 46, 0, 0)) (pc' := 46) (L' := [(3, .int (Int32.ofNat k)), (2, .int (Int32.ofNat n)), (0, .ref a), (1, .int (Int32.ofNat s))]) (st' := []) (M' := M) rfl rfl (ev_if (xc_eq h)) ?_
  refine xev_0 (e := (.iload_n 2, 0, 0, 0)) (pc' := 47) (L' := [(3, .int (Int32.ofNat k)), (2, .int (Int32.ofNat n)), (0, .ref a), (1, .int (Int32.ofNat s))]) (st' := [.int (Int32.ofNat n)]) (M' := M) rfl rfl rfl ?_
  exact xev_2 (e := (.ireturn, 0, 0, 0)) rfl rfl rfl
theorem ev_cost_loop (F : cvF M a aA aS sl AT SH) {s : Nat} (hs : s < 4096) : ∀ (d k n : Nat), k + d = 12 → n ≤ 20 * k → ∃ n', n ≤ n' ∧ n' ≤ 240 ∧ (cvS s k ≠ 0 → n < n') ∧ xev sc rr_316 4 [(3, .int (Int32.ofNat k)), (2, .int (Int32.ofNat n)), (0, .ref a), (1, .int (Int32.ofNat s))] [] M (some (.int (Int32.ofNat n')), M)
  | 0, k, n, hk, hn => by
    have e : k = 12 := by omega
    subst e
    exact ⟨n, Nat.le_refl _, by omega, fun h => absurd (cv_12 hs) h, ev_cost_end s 12 n (cv_12 hs)⟩
  | d + 1, k, n, hk, hn => by
    by_cases h0 : cvS s k = 0
    · exact ⟨n, Nat.le_refl _, by omega, fun h => absurd h0 h, ev_cost_end s k n h0⟩
    · by_cases h1 : cvS s k &&& 1 = 1
      · obtain ⟨n', g1, g2, g3, g4⟩ := ev_cost_loop F hs d (k + 1) (n + (5 + k)) (by omega) (by omega)
        refine ⟨n', by omega, g2, fun _ => by omega, ?_⟩
        refine xev_0 (e := (.iload_n 1, 0, 0, 0)) (pc' := 5) (L' := [(3, .int (Int32.ofNat k)), (2, .int (Int32.ofNat n)), (0, .ref a), (1, .int (Int32.ofNat s))]) (st' := [.int (Int32.ofNat s)]) (M' := M) rfl rfl rfl ?_
        refine xev_0 (e := (.iload_n 3, 0, 0, 0)) (pc' := 6) (L' := [(3, .int (Int32.ofNat k)), (2, .int (Int32.ofNat n)), (0, .ref a), (1, .int (Int32.ofNat s))]) (st' := [.int (Int32.ofNat k), .int (Int32.ofNat s)]) (M' := M) rfl rfl rfl ?_
        refine xev_0 (e := (.ishr, 0, 0, 0)) (pc' := 7) (L' := [(3, .int (Int32.ofNat k)), (2, .int (Int32.ofNat n)), (0, .ref a), (1, .int (Int32.ofNat s))]) (st' := [.int ((Int32.ofNat s) >>> ((Int32.ofNat k) &&& 31))]) (M' := M) rfl rfl rfl ?_
        refine xev_0 (e := (.ifCond .eq 39, 46, 0, 0)) (pc' := 10) (L' := [(3, .int (Int32.ofNat k)), (2, .int (Int32.ofNat n)), (0, .ref a), (1, .int (Int32.ofNat s))]) (st' := []) (M' := M) rfl rfl (ev_ifn (xc_eqn h0)) ?_
        refine xev_0 (e := (.iload_n 2, 0, 0, 0)) (pc' := 11) (L' := [(3, .int (Int32.ofNat k)), (2, .int (Int32.ofNat n)), (0, .ref a), (1, .int (Int32.ofNat s))]) (st' := [.int (Int32.ofNat n)]) (M' := M) rfl rfl rfl ?_
        refine xev_0 (e := (.aload_n 0, 0, 0, 0)) (pc' := 12) (L' := [(3, .int (Int32.ofNat k)), (2, .int (Int32.ofNat n)), (0, .ref a), (1, .int (Int32.ofNat s))]) (st' := [.ref a, .int (Int32.ofNat n)]) (M' := M) rfl rfl rfl ?_
        refine xev_0 (e := (.iload_n 1, 0, 0, 0)) (pc' := 13) (L' := [(3, .int (Int32.ofNat k)), (2, .int (Int32.ofNat n)), (0, .ref a), (1, .int (Int32.ofNat s))]) (st' := [.int (Int32.ofNat s), .ref a, .int (Int32.ofNat n)]) (M' := M) rfl rfl rfl ?_
        refine xev_0 (e := (.iload_n 3, 0, 0, 0)) (pc' := 14) (L' := [(3, .int (Int32.ofNat k)), (2, .int (Int32.ofNat n)), (0, .ref a), (1, .int (Int32.ofNat s))]) (st' := [.int (Int32.ofNat k), .int (Int32.ofNat s), .ref a, .int (Int32.ofNat n)]) (M' := M) rfl rfl rfl ?_
        refine xev_1 (e := (.invokevirtual 367, 258, 3, 12)) (as := [.ref a, .int (Int32.ofNat s), .int (Int32.ofNat k)]) (rest := [.int (Int32.ofNat n)]) (r' := rr_258) (v := some (.int (cvB (Int32.ofNat s) (Int32.ofNat k)))) (M1 := M) rfl rfl rfl (ev_rv rfl F.1) rfl rfl (ev_isIn _ _) ?_
        change xev sc rr_316 17 [(3, .int (Int32.ofNat k)), (2, .int (Int32.ofNat n)), (0, .ref a), (1, .int (Int32.ofNat s))] [.int (cvB (Int32.ofNat s) (Int32.ofNat k)), .int (Int32.ofNat n)] M _
        rw [cvB_1 h1]
        refine xev_0 (e := (.ifCond .eq 20, 37, 0, 0)) (pc' := 20) (L' := [(3, .int (Int32.ofNat k)), (2, .int (Int32.ofNat n)), (0, .ref a), (1, .int (Int32.ofNat s))]) (st' := [.int (Int32.ofNat n)]) (M' := M) rfl rfl (ev_ifn rfl) ?_
        refine xev_0 (e := (.aload_n 0, 0, 0, 0)) (pc' := 21) (L' := [(3, .int (Int32.ofNat k)), (2, .int (Int32.ofNat n)), (0, .ref a), (1, .int (Int32.ofNat s))]) (st' := [.ref a, .int (Int32.ofNat n)]) (M' := M) rfl rfl rfl ?_
        refine xev_0 (e := (.aload_n 0, 0, 0, 0)) (pc' := 22) (L' := [(3, .int (Int32.ofNat k)), (2, .int (Int32.ofNat n)), (0, .ref a), (1, .int (Int32.ofNat s))]) (st' := [.ref a, .ref a, .int (Int32.ofNat n)]) (M' := M) rfl rfl rfl ?_
        refine xev_0 (e := (.getfield 7, 12, 0, 0)) (pc' := 25) (L' := [(3, .int (Int32.ofNat k)), (2, .int (Int32.ofNat n)), (0, .ref a), (1, .int (Int32.ofNat s))]) (st' := [.ref aA, .ref a, .int (Int32.ofNat n)]) (M' := M) rfl rfl (ev_get F.1 F.2.1) ?_
        refine xev_0 (e := (.iconst 5, 0, 0, 0)) (pc' := 26) (L' := [(3, .int (Int32.ofNat k)), (2, .int (Int32.ofNat n)), (0, .ref a), (1, .int (Int32.ofNat s))]) (st' := [.int 5, .ref aA, .ref a, .int (Int32.ofNat n)]) (M' := M) rfl rfl rfl ?_
        refine xev_0 (e := (.iaload, 0, 0, 0)) (pc' := 27) (L' := [(3, .int (Int32.ofNat k)), (2, .int (Int32.ofNat n)), (0, .ref a), (1, .int (Int32.ofNat s))]) (st' := [.int 0, .ref a, .int (Int32.ofNat n)]) (M' := M) rfl rfl (ev_ald (by decide) rfl F.2.2.1 F.2.2.2.1) ?_
        refine xev_0 (e := (.iload_n 3, 0, 0, 0)) (pc' := 28) (L' := [(3, .int (Int32.ofNat k)), (2, .int (Int32.ofNat n)), (0, .ref a), (1, .int (Int32.ofNat s))]) (st' := [.int (Int32.ofNat k), .int 0, .ref a, .int (Int32.ofNat n)]) (M' := M) rfl rfl rfl ?_
        refine xev_0 (e := (.iadd, 0, 0, 0)) (pc' := 29) (L' := [(3, .int (Int32.ofNat k)), (2, .int (Int32.ofNat n)), (0, .ref a), (1, .int (Int32.ofNat s))]) (st' := [.int (0 + (Int32.ofNat k)), .ref a, .int (Int32.ofNat n)]) (M' := M) rfl rfl rfl ?_
        refine xev_0 (e := (.iconst 1, 0, 0, 0)) (pc' := 30) (L' := [(3, .int (Int32.ofNat k)), (2, .int (Int32.ofNat n)), (0, .ref a), (1, .int (Int32.ofNat s))]) (st' := [.int 1, .int (0 + (Int32.ofNat k)), .ref a, .int (Int32.ofNat n)]) (M' := M) rfl rfl rfl ?_
        refine xev_0 (e := (.iadd, 0, 0, 0)) (pc' := 31) (L' := [(3, .int (Int32.ofNat k)), (2, .int (Int32.ofNat n)), (0, .ref a), (1, .int (Int32.ofNat s))]) (st' := [.int ((0 + (Int32.ofNat k)) + 1), .ref a, .int (Int32.ofNat n)]) (M' := M) rfl rfl rfl ?_
        refine xev_1 (e := (.invokevirtual 275, 270, 2, 12)) (as := [.ref a, .int ((0 + (Int32.ofNat k)) + 1)]) (rest := [.int (Int32.ofNat n)]) (r' := rr_270) (v := some (.int (5 + (((0 + (Int32.ofNat k)) + 1) - 1) * 1))) (M1 := M) rfl rfl rfl (ev_rv rfl F.1) rfl rfl (ev_price F _) ?_
        change xev sc rr_316 34 [(3, .int (Int32.ofNat k)), (2, .int (Int32.ofNat n)), (0, .ref a), (1, .int (Int32.ofNat s))] [.int (5 + (((0 + (Int32.ofNat k)) + 1) - 1) * 1), .int (Int32.ofNat n)] M _
        rw [cv_price k (by omega)]
        refine xev_0 (e := (.goto 4, 38, 0, 0)) (pc' := 38) (L' := [(3, .int (Int32.ofNat k)), (2, .int (Int32.ofNat n)), (0, .ref a), (1, .int (Int32.ofNat s))]) (st' := [.int (Int32.ofNat (5 + k)), .int (Int32.ofNat n)]) (M' := M) rfl rfl rfl ?_
        refine xev_0 (e := (.iadd, 0, 0, 0)) (pc' := 39) (L' := [(3, .int (Int32.ofNat k)), (2, .int (Int32.ofNat n)), (0, .ref a), (1, .int (Int32.ofNat s))]) (st' := [.int ((Int32.ofNat n) + (Int32.ofNat (5 + k)))]) (M' := M) rfl rfl rfl ?_
        rw [i_add]
        refine xev_0 (e := (.istore_n 2, 0, 0, 0)) (pc' := 40) (L' := [(2, .int (Int32.ofNat (n + (5 + k)))), (3, .int (Int32.ofNat k)), (0, .ref a), (1, .int (Int32.ofNat s))]) (st' := []) (M' := M) rfl rfl rfl ?_
        refine xev_0 (e := (.iinc 3 1, 0, 0, 0)) (pc' := 43) (L' := [(3, .int ((Int32.ofNat k) + Int32.ofInt 1)), (2, .int (Int32.ofNat (n + (5 + k)))), (0, .ref a), (1, .int (Int32.ofNat s))]) (st' := []) (M' := M) rfl rfl rfl ?_
        refine xev_0 (e := (.goto (-39), 4, 0, 0)) (pc' := 4) (L' := [(3, .int ((Int32.ofNat k) + Int32.ofInt 1)), (2, .int (Int32.ofNat (n + (5 + k)))), (0, .ref a), (1, .int (Int32.ofNat s))]) (st' := []) (M' := M) rfl rfl rfl ?_
        rw [show Int32.ofNat k + Int32.ofInt 1 = Int32.ofNat (k + 1) from i_add k 1]
        exact g4
      · obtain ⟨n', g1, g2, g3, g4⟩ := ev_cost_loop F hs d (k + 1) n (by omega) (by omega)
        refine ⟨n', g1, g2, fun _ => g3 (cv_s hs (by omega) h0 h1), ?_⟩
        refine xev_0 (e := (.iload_n 1, 0, 0, 0)) (pc' := 5) (L' := [(3, .int (Int32.ofNat k)), (2, .int (Int32.ofNat n)), (0, .ref a), (1, .int (Int32.ofNat s))]) (st' := [.int (Int32.ofNat s)]) (M' := M) rfl rfl rfl ?_
        refine xev_0 (e := (.iload_n 3, 0, 0, 0)) (pc' := 6) (L' := [(3, .int (Int32.ofNat k)), (2, .int (Int32.ofNat n)), (0, .ref a), (1, .int (Int32.ofNat s))]) (st' := [.int (Int32.ofNat k), .int (Int32.ofNat s)]) (M' := M) rfl rfl rfl ?_
        refine xev_0 (e := (.ishr, 0, 0, 0)) (pc' := 7) (L' := [(3, .int (Int32.ofNat k)), (2, .int (Int32.ofNat n)), (0, .ref a), (1, .int (Int32.ofNat s))]) (st' := [.int ((Int32.ofNat s) >>> ((Int32.ofNat k) &&& 31))]) (M' := M) rfl rfl rfl ?_
        refine xev_0 (e := (.ifCond .eq 39, 46, 0, 0)) (pc' := 10) (L' := [(3, .int (Int32.ofNat k)), (2, .int (Int32.ofNat n)), (0, .ref a), (1, .int (Int32.ofNat s))]) (st' := []) (M' := M) rfl rfl (ev_ifn (xc_eqn h0)) ?_
        refine xev_0 (e := (.iload_n 2, 0, 0, 0)) (pc' := 11) (L' := [(3, .int (Int32.ofNat k)), (2, .int (Int32.ofNat n)), (0, .ref a), (1, .int (Int32.ofNat s))]) (st' := [.int (Int32.ofNat n)]) (M' := M) rfl rfl rfl ?_
        refine xev_0 (e := (.aload_n 0, 0, 0, 0)) (pc' := 12) (L' := [(3, .int (Int32.ofNat k)), (2, .int (Int32.ofNat n)), (0, .ref a), (1, .int (Int32.ofNat s))]) (st' := [.ref a, .int (Int32.ofNat n)]) (M' := M) rfl rfl rfl ?_
        refine xev_0 (e := (.iload_n 1, 0, 0, 0)) (pc' := 13) (L' := [(3, .int (Int32.ofNat k)), (2, .int (Int32.ofNat n)), (0, .ref a), (1, .int (Int32.ofNat s))]) (st' := [.int (Int32.ofNat s), .ref a, .int (Int32.ofNat n)]) (M' := M) rfl rfl rfl ?_
        refine xev_0 (e := (.iload_n 3, 0, 0, 0)) (pc' := 14) (L' := [(3, .int (Int32.ofNat k)), (2, .int (Int32.ofNat n)), (0, .ref a), (1, .int (Int32.ofNat s))]) (st' := [.int (Int32.ofNat k), .int (Int32.ofNat s), .ref a, .int (Int32.ofNat n)]) (M' := M) rfl rfl rfl ?_
        refine xev_1 (e := (.invokevirtual 367, 258, 3, 12)) (as := [.ref a, .int (Int32.ofNat s), .int (Int32.ofNat k)]) (rest := [.int (Int32.ofNat n)]) (r' := rr_258) (v := some (.int (cvB (Int32.ofNat s) (Int32.ofNat k)))) (M1 := M) rfl rfl rfl (ev_rv rfl F.1) rfl rfl (ev_isIn _ _) ?_
        change xev sc rr_316 17 [(3, .int (Int32.ofNat k)), (2, .int (Int32.ofNat n)), (0, .ref a), (1, .int (Int32.ofNat s))] [.int (cvB (Int32.ofNat s) (Int32.ofNat k)), .int (Int32.ofNat n)] M _
        rw [cvB_0 h1]
        refine xev_0 (e := (.ifCond .eq 20, 37, 0, 0)) (pc' := 37) (L' := [(3, .int (Int32.ofNat k)), (2, .int (Int32.ofNat n)), (0, .ref a), (1, .int (Int32.ofNat s))]) (st' := [.int (Int32.ofNat n)]) (M' := M) rfl rfl (ev_if rfl) ?_
        refine xev_0 (e := (.iconst 0, 0, 0, 0)) (pc' := 38) (L' := [(3, .int (Int32.ofNat k)), (2, .int (Int32.ofNat n)), (0, .ref a), (1, .int (Int32.ofNat s))]) (st' := [.int 0, .int (Int32.ofNat n)]) (M' := M) rfl rfl rfl ?_
        refine xev_0 (e := (.iadd, 0, 0, 0)) (pc' := 39) (L' := [(3, .int (Int32.ofNat k)), (2, .int (Int32.ofNat n)), (0, .ref a), (1, .int (Int32.ofNat s))]) (st' := [.int ((Int32.ofNat n) + 0)]) (M' := M) rfl rfl rfl ?_
        rw [show Int32.ofNat n + 0 = Int32.ofNat n from i_add n 0]
        refine xev_0 (e := (.istore_n 2, 0, 0, 0)) (pc' := 40) (L' := [(2, .int (Int32.ofNat n)), (3, .int (Int32.ofNat k)), (0, .ref a), (1, .int (Int32.ofNat s))]) (st' := []) (M' := M) rfl rfl rfl ?_
        refine xev_0 (e := (.iinc 3 1, 0, 0, 0)) (pc' := 43) (L' := [(3, .int ((Int32.ofNat k) + Int32.ofInt 1)), (2, .int (Int32.ofNat n)), (0, .ref a), (1, .int (Int32.ofNat s))]) (st' := []) (M' := M) rfl rfl rfl ?_
        refine xev_0 (e := (.goto (-39), 4, 0, 0)) (pc' := 4) (L' := [(3, .int ((Int32.ofNat k) + Int32.ofInt 1)), (2, .int (Int32.ofNat n)), (0, .ref a), (1, .int (Int32.ofNat s))]) (st' := []) (M' := M) rfl rfl rfl ?_
        rw [show Int32.ofNat k + Int32.ofInt 1 = Int32.ofNat (k + 1) from i_add k 1]
        exact g4
theorem ev_cost (F : cvF M a aA aS sl AT SH) {s : Nat} (hs : s < 4096) : ∃ c, c ≤ 240 ∧ (s ≠ 0 → 0 < c) ∧ xev sc rr_316 0 [(0, .ref a), (1, .int (Int32.ofNat s))] [] M (some (.int (Int32.ofNat c)), M) := by
  obtain ⟨c, -, g2, g3, g4⟩ := ev_cost_loop (sc := sc) F hs 12 0 0 rfl (Nat.le_refl _)
  refine ⟨c, g2, fun h => g3 (cv_0 hs h), ?_⟩
  refine xev_0 (e := (.iconst 0, 0, 0, 0)) (pc' := 1) (L' := [(0, .ref a), (1, .int (Int32.ofNat s))]) (st' := [.int 0]) (M' := M) rfl rfl rfl ?_
  refine xev_0 (e := (.istore_n 2, 0, 0, 0)) (pc' := 2) (L' := [(2, .int 0), (0, .ref a), (1, .int (Int32.ofNat s))]) (st' := []) (M' := M) rfl rfl rfl ?_
  refine xev_0 (e := (.iconst 0, 0, 0, 0)) (pc' := 3) (L' := [(2, .int 0), (0, .ref a), (1, .int (Int32.ofNat s))]) (st' := [.int 0]) (M' := M) rfl rfl rfl ?_
  refine xev_0 (e := (.istore_n 3, 0, 0, 0)) (pc' := 4) (L' := [(3, .int 0), (2, .int 0), (0, .ref a), (1, .int (Int32.ofNat s))]) (st' := []) (M' := M) rfl rfl rfl ?_
  exact g4
theorem ev_cost0 : xev sc rr_316 0 [(0, .ref a), (1, .int 0)] [] M (some (.int 0), M) := by
  refine xev_0 (e := (.iconst 0, 0, 0, 0)) (pc' := 1) (L' := [(0, .ref a), (1, .int 0)]) (st' := [.int 0]) (M' := M) rfl rfl rfl ?_
  refine xev_0 (e := (.istore_n 2, 0, 0, 0)) (pc' := 2) (L' := [(2, .int 0), (0, .ref a), (1, .int 0)]) (st' := []) (M' := M) rfl rfl rfl ?_
  refine xev_0 (e := (.iconst 0, 0, 0, 0)) (pc' := 3) (L' := [(2, .int 0), (0, .ref a), (1, .int 0)]) (st' := [.int 0]) (M' := M) rfl rfl rfl ?_
  refine xev_0 (e := (.istore_n 3, 0, 0, 0)) (pc' := 4) (L' := [(3, .int 0), (2, .int 0), (0, .ref a), (1, .int 0)]) (st' := []) (M' := M) rfl rfl rfl ?_
  exact ev_cost_end 0 0 0 (by decide)
theorem ev_inner (F : cvF M a aA aS sl AT SH) {s n : Nat} {b : Int32} {res : Option Value × xM} (hn : n < 13) (kk : xev sc rr_317 65 [(6, .int (Int32.ofNat n)), (5, .int 0), (4, .int (Int32.ofNat s)), (3, .int b), (0, .ref a), (1, .int 0), (2, .int (Int32.ofNat n))] [] M res) : ∀ (d k : Nat), k + d = n → xev sc rr_317 24 [(6, .int (Int32.ofNat k)), (5, .int 0), (4, .int (Int32.ofNat s)), (3, .int b), (0, .ref a), (1, .int 0), (2, .int (Int32.ofNat n))] [] M res
  | 0, k, hk => by
    have e : k = n := by omega
    subst e
    refine xev_0 (e := (.iload 6, 0, 0, 0)) (pc' := 26) (L' := [(6, .int (Int32.ofNat k)), (5, .int 0), (4, .int (Int32.ofNat s)), (3, .int b), (0, .ref a), (1, .int 0), (2, .int (Int32.ofNat k))]) (st' := [.int (Int32.ofNat k)]) (M' := M) rfl rfl rfl ?_
    refine xev_0 (e := (.iload_n 2, 0, 0, 0)) (pc' := 27) (L' := [(6, .int (Int32.ofNat k)), (5, .int 0), (4, .int (Int32.ofNat s)), (3, .int b), (0, .ref a), (1, .int 0), (2, .int (Int32.ofNat k))]) (st' := [.int (Int32.ofNat k), .int (Int32.ofNat k)]) (M' := M) rfl rfl rfl ?_
    refine xev_0 (e := (.if_icmp .ge 38, 65, 0, 0)) (pc' := 65) (L' := [(6, .int (Int32.ofNat k)), (5, .int 0), (4, .int (Int32.ofNat s)), (3, .int b), (0, .ref a), (1, .int 0), (2, .int (Int32.ofNat k))]) (st' := []) (M' := M) rfl rfl (ev_ic (by rw [cv_kn k hn k hn]; exact Nat.ble_eq.mpr (Nat.le_refl k))) ?_
    exact kk
  | d + 1, k, hk => by
    have ih := ev_inner F hn kk d (k + 1) (by omega)
    refine xev_0 (e := (.iload 6, 0, 0, 0)) (pc' := 26) (L' := [(6, .int (Int32.ofNat k)), (5, .int 0), (4, .int (Int32.ofNat s)), (3, .int b), (0, .ref a), (1, .int 0), (2, .int (Int32.ofNat n))]) (st' := [.int (Int32.ofNat k)]) (M' := M) rfl rfl rfl ?_
    refine xev_0 (e := (.iload_n 2, 0, 0, 0)) (pc' := 27) (L' := [(6, .int (Int32.ofNat k)), (5, .int 0), (4, .int (Int32.ofNat s)), (3, .int b), (0, .ref a), (1, .int 0), (2, .int (Int32.ofNat n))]) (st' := [.int (Int32.ofNat n), .int (Int32.ofNat k)]) (M' := M) rfl rfl rfl ?_
    refine xev_0 (e := (.if_icmp .ge 38, 65, 0, 0)) (pc' := 30) (L' := [(6, .int (Int32.ofNat k)), (5, .int 0), (4, .int (Int32.ofNat s)), (3, .int b), (0, .ref a), (1, .int 0), (2, .int (Int32.ofNat n))]) (st' := []) (M' := M) rfl rfl (ev_icn (by rw [cv_kn n hn k (by omega)]; exact Bool.eq_false_iff.mpr (fun h => by have := Nat.ble_eq.mp h; omega))) ?_
    refine xev_0 (e := (.iload 5, 0, 0, 0)) (pc' := 32) (L' := [(6, .int (Int32.ofNat k)), (5, .int 0), (4, .int (Int32.ofNat s)), (3, .int b), (0, .ref a), (1, .int 0), (2, .int (Int32.ofNat n))]) (st' := [.int 0]) (M' := M) rfl rfl rfl ?_
    refine xev_0 (e := (.aload_n 0, 0, 0, 0)) (pc' := 33) (L' := [(6, .int (Int32.ofNat k)), (5, .int 0), (4, .int (Int32.ofNat s)), (3, .int b), (0, .ref a), (1, .int 0), (2, .int (Int32.ofNat n))]) (st' := [.ref a, .int 0]) (M' := M) rfl rfl rfl ?_
    refine xev_0 (e := (.iload 4, 0, 0, 0)) (pc' := 35) (L' := [(6, .int (Int32.ofNat k)), (5, .int 0), (4, .int (Int32.ofNat s)), (3, .int b), (0, .ref a), (1, .int 0), (2, .int (Int32.ofNat n))]) (st' := [.int (Int32.ofNat s), .ref a, .int 0]) (M' := M) rfl rfl rfl ?_
    refine xev_0 (e := (.iload 6, 0, 0, 0)) (pc' := 37) (L' := [(6, .int (Int32.ofNat k)), (5, .int 0), (4, .int (Int32.ofNat s)), (3, .int b), (0, .ref a), (1, .int 0), (2, .int (Int32.ofNat n))]) (st' := [.int (Int32.ofNat k), .int (Int32.ofNat s), .ref a, .int 0]) (M' := M) rfl rfl rfl ?_
    refine xev_1 (e := (.invokevirtual 367, 258, 3, 12)) (as := [.ref a, .int (Int32.ofNat s), .int (Int32.ofNat k)]) (rest := [.int 0]) (r' := rr_258) (v := some (.int (cvB (Int32.ofNat s) (Int32.ofNat k)))) (M1 := M) rfl rfl rfl (ev_rv rfl F.1) rfl rfl (ev_isIn _ _) ?_
    change xev sc rr_317 40 [(6, .int (Int32.ofNat k)), (5, .int 0), (4, .int (Int32.ofNat s)), (3, .int b), (0, .ref a), (1, .int 0), (2, .int (Int32.ofNat n))] [.int (cvB (Int32.ofNat s) (Int32.ofNat k)), .int 0] M _
    by_cases h1 : cvS s k &&& 1 = 1
    · rw [cvB_1 h1]
      refine xev_0 (e := (.ifCond .eq 15, 55, 0, 0)) (pc' := 43) (L' := [(6, .int (Int32.ofNat k)), (5, .int 0), (4, .int (Int32.ofNat s)), (3, .int b), (0, .ref a), (1, .int 0), (2, .int (Int32.ofNat n))]) (st' := [.int 0]) (M' := M) rfl rfl (ev_ifn rfl) ?_
      refine xev_0 (e := (.aload_n 0, 0, 0, 0)) (pc' := 44) (L' := [(6, .int (Int32.ofNat k)), (5, .int 0), (4, .int (Int32.ofNat s)), (3, .int b), (0, .ref a), (1, .int 0), (2, .int (Int32.ofNat n))]) (st' := [.ref a, .int 0]) (M' := M) rfl rfl rfl ?_
      refine xev_0 (e := (.getfield 47, 12, 24, 0)) (pc' := 47) (L' := [(6, .int (Int32.ofNat k)), (5, .int 0), (4, .int (Int32.ofNat s)), (3, .int b), (0, .ref a), (1, .int 0), (2, .int (Int32.ofNat n))]) (st' := [.ref aS, .int 0]) (M' := M) rfl rfl (ev_get F.1 F.2.2.2.2.2.2.1) ?_
      refine xev_0 (e := (.iload 6, 0, 0, 0)) (pc' := 49) (L' := [(6, .int (Int32.ofNat k)), (5, .int 0), (4, .int (Int32.ofNat s)), (3, .int b), (0, .ref a), (1, .int 0), (2, .int (Int32.ofNat n))]) (st' := [.int (Int32.ofNat k), .ref aS, .int 0]) (M' := M) rfl rfl rfl ?_
      refine xev_0 (e := (.iconst 1, 0, 0, 0)) (pc' := 50) (L' := [(6, .int (Int32.ofNat k)), (5, .int 0), (4, .int (Int32.ofNat s)), (3, .int b), (0, .ref a), (1, .int 0), (2, .int (Int32.ofNat n))]) (st' := [.int 1, .int (Int32.ofNat k), .ref aS, .int 0]) (M' := M) rfl rfl rfl ?_
      refine xev_0 (e := (.iadd, 0, 0, 0)) (pc' := 51) (L' := [(6, .int (Int32.ofNat k)), (5, .int 0), (4, .int (Int32.ofNat s)), (3, .int b), (0, .ref a), (1, .int 0), (2, .int (Int32.ofNat n))]) (st' := [.int ((Int32.ofNat k) + 1), .ref aS, .int 0]) (M' := M) rfl rfl rfl ?_
      refine xev_0 (e := (.iaload, 0, 0, 0)) (pc' := 52) (L' := [(6, .int (Int32.ofNat k)), (5, .int 0), (4, .int (Int32.ofNat s)), (3, .int b), (0, .ref a), (1, .int 0), (2, .int (Int32.ofNat n))]) (st' := [.int 0, .int 0]) (M' := M) rfl rfl (ev_ald (cv_ix k (by omega)).1 (cv_ix k (by omega)).2 F.2.2.2.2.2.2.2.1 (F.2.2.2.2.2.2.2.2 (k + 1) (by omega) (by omega))) ?_
      refine xev_0 (e := (.goto 4, 56, 0, 0)) (pc' := 56) (L' := [(6, .int (Int32.ofNat k)), (5, .int 0), (4, .int (Int32.ofNat s)), (3, .int b), (0, .ref a), (1, .int 0), (2, .int (Int32.ofNat n))]) (st' := [.int 0, .int 0]) (M' := M) rfl rfl rfl ?_
      refine xev_0 (e := (.ior, 0, 0, 0)) (pc' := 57) (L' := [(6, .int (Int32.ofNat k)), (5, .int 0), (4, .int (Int32.ofNat s)), (3, .int b), (0, .ref a), (1, .int 0), (2, .int (Int32.ofNat n))]) (st' := [.int (0 ||| 0)]) (M' := M) rfl rfl rfl ?_
      rw [show (0 ||| 0 : Int32) = 0 from rfl]
      refine xev_0 (e := (.istore 5, 0, 0, 0)) (pc' := 59) (L' := [(5, .int 0), (6, .int (Int32.ofNat k)), (4, .int (Int32.ofNat s)), (3, .int b), (0, .ref a), (1, .int 0), (2, .int (Int32.ofNat n))]) (st' := []) (M' := M) rfl rfl rfl ?_
      refine xev_0 (e := (.iinc 6 1, 0, 0, 0)) (pc' := 62) (L' := [(6, .int ((Int32.ofNat k) + Int32.ofInt 1)), (5, .int 0), (4, .int (Int32.ofNat s)), (3, .int b), (0, .ref a), (1, .int 0), (2, .int (Int32.ofNat n))]) (st' := []) (M' := M) rfl rfl rfl ?_
      refine xev_0 (e := (.goto (-38), 24, 0, 0)) (pc' := 24) (L' := [(6, .int ((Int32.ofNat k) + Int32.ofInt 1)), (5, .int 0), (4, .int (Int32.ofNat s)), (3, .int b), (0, .ref a), (1, .int 0), (2, .int (Int32.ofNat n))]) (st' := []) (M' := M) rfl rfl rfl ?_
      rw [show Int32.ofNat k + Int32.ofInt 1 = Int32.ofNat (k + 1) from i_add k 1]
      exact ih
    · rw [cvB_0 h1]
      refine xev_0 (e := (.ifCond .eq 15, 55, 0, 0)) (pc' := 55) (L' := [(6, .int (Int32.ofNat k)), (5, .int 0), (4, .int (Int32.ofNat s)), (3, .int b), (0, .ref a), (1, .int 0), (2, .int (Int32.ofNat n))]) (st' := [.int 0]) (M' := M) rfl rfl (ev_if rfl) ?_
      refine xev_0 (e := (.iconst 0, 0, 0, 0)) (pc' := 56) (L' := [(6, .int (Int32.ofNat k)), (5, .int 0), (4, .int (Int32.ofNat s)), (3, .int b), (0, .ref a), (1, .int 0), (2, .int (Int32.ofNat n))]) (st' := [.int 0, .int 0]) (M' := M) rfl rfl rfl ?_
      refine xev_0 (e := (.ior, 0, 0, 0)) (pc' := 57) (L' := [(6, .int (Int32.ofNat k)), (5, .int 0), (4, .int (Int32.ofNat s)), (3, .int b), (0, .ref a), (1, .int 0), (2, .int (Int32.ofNat n))]) (st' := [.int (0 ||| 0)]) (M' := M) rfl rfl rfl ?_
      rw [show (0 ||| 0 : Int32) = 0 from rfl]
      refine xev_0 (e := (.istore 5, 0, 0, 0)) (pc' := 59) (L' := [(5, .int 0), (6, .int (Int32.ofNat k)), (4, .int (Int32.ofNat s)), (3, .int b), (0, .ref a), (1, .int 0), (2, .int (Int32.ofNat n))]) (st' := []) (M' := M) rfl rfl rfl ?_
      refine xev_0 (e := (.iinc 6 1, 0, 0, 0)) (pc' := 62) (L' := [(6, .int ((Int32.ofNat k) + Int32.ofInt 1)), (5, .int 0), (4, .int (Int32.ofNat s)), (3, .int b), (0, .ref a), (1, .int 0), (2, .int (Int32.ofNat n))]) (st' := []) (M' := M) rfl rfl rfl ?_
      refine xev_0 (e := (.goto (-38), 24, 0, 0)) (pc' := 24) (L' := [(6, .int ((Int32.ofNat k) + Int32.ofInt 1)), (5, .int 0), (4, .int (Int32.ofNat s)), (3, .int b), (0, .ref a), (1, .int 0), (2, .int (Int32.ofNat n))]) (st' := []) (M' := M) rfl rfl rfl ?_
      rw [show Int32.ofNat k + Int32.ofInt 1 = Int32.ofNat (k + 1) from i_add k 1]
      exact ih
theorem ev_sets (F : cvF M a aA aS sl AT SH) {n : Nat} (hn : n < 13) : ∀ (d s : Nat) (L : xL), s + d = 2 ^ n → 0 < s → xfind L 4 = some (.int (Int32.ofNat s)) → xfind L 2 = some (.int (Int32.ofNat n)) → xfind L 3 = some (.int 0) → xst1 (xst1 L 5 (.int 0)) 6 (.int 0) = [(6, .int 0), (5, .int 0), (4, .int (Int32.ofNat s)), (3, .int 0), (0, .ref a), (1, .int 0), (2, .int (Int32.ofNat n))] → xev sc rr_317 10 L [] M (some (.int 0), M)
  | 0, s, L, hs, h0, f4, f2, f3, hL => by
    have e : s = 2 ^ n := by omega
    subst e
    refine xev_0 (e := (.iload 4, 0, 0, 0)) (pc' := 12) (L' := L) (st' := [.int (Int32.ofNat (2 ^ n))]) (M' := M) rfl rfl (ev_ld2 f4) ?_
    refine xev_0 (e := (.iconst 1, 0, 0, 0)) (pc' := 13) (L' := L) (st' := [.int 1, .int (Int32.ofNat (2 ^ n))]) (M' := M) rfl rfl rfl ?_
    refine xev_0 (e := (.iload_n 2, 0, 0, 0)) (pc' := 14) (L' := L) (st' := [.int (Int32.ofNat n), .int 1, .int (Int32.ofNat (2 ^ n))]) (M' := M) rfl rfl (ev_ld1 f2) ?_
    refine xev_0 (e := (.ishl, 0, 0, 0)) (pc' := 15) (L' := L) (st' := [.int (1 <<< (Int32.ofNat n &&& 31)), .int (Int32.ofNat (2 ^ n))]) (M' := M) rfl rfl rfl ?_
    refine xev_0 (e := (.if_icmp .ge 126, 141, 0, 0)) (pc' := 141) (L' := L) (st' := []) (M' := M) rfl rfl (ev_ic (cv_end hn)) ?_
    refine xev_0 (e := (.iload_n 3, 0, 0, 0)) (pc' := 142) (L' := L) (st' := [.int 0]) (M' := M) rfl rfl (ev_ld1 f3) ?_
    exact xev_2 (e := (.ireturn, 0, 0, 0)) rfl rfl rfl
  | d + 1, s, L, hs, h0, f4, f2, f3, hL => by
    have hlt : s < 2 ^ n := by omega
    have h12 : 2 ^ n ≤ 2 ^ 12 := Nat.pow_le_pow_right (by decide) (by omega)
    have h4096 : (2 : Nat) ^ 12 = 4096 := rfl
    obtain ⟨c, c1, c2, c3⟩ := ev_cost (sc := sc) F (s := s) (by omega)
    refine xev_0 (e := (.iload 4, 0, 0, 0)) (pc' := 12) (L' := L) (st' := [.int (Int32.ofNat s)]) (M' := M) rfl rfl (ev_ld2 f4) ?_
    refine xev_0 (e := (.iconst 1, 0, 0, 0)) (pc' := 13) (L' := L) (st' := [.int 1, .int (Int32.ofNat s)]) (M' := M) rfl rfl rfl ?_
    refine xev_0 (e := (.iload_n 2, 0, 0, 0)) (pc' := 14) (L' := L) (st' := [.int (Int32.ofNat n), .int 1, .int (Int32.ofNat s)]) (M' := M) rfl rfl (ev_ld1 f2) ?_
    refine xev_0 (e := (.ishl, 0, 0, 0)) (pc' := 15) (L' := L) (st' := [.int (1 <<< (Int32.ofNat n &&& 31)), .int (Int32.ofNat s)]) (M' := M) rfl rfl rfl ?_
    refine xev_0 (e := (.if_icmp .ge 126, 141, 0, 0)) (pc' := 18) (L' := L) (st' := []) (M' := M) rfl rfl (ev_icn (cv_on hn hlt)) ?_
    refine xev_0 (e := (.iconst 0, 0, 0, 0)) (pc' := 19) (L' := L) (st' := [.int 0]) (M' := M) rfl rfl rfl ?_
    refine xev_0 (e := (.istore 5, 0, 0, 0)) (pc' := 21) (L' := xst1 L 5 (.int 0)) (st' := []) (M' := M) rfl rfl rfl ?_
    refine xev_0 (e := (.iconst 0, 0, 0, 0)) (pc' := 22) (L' := xst1 L 5 (.int 0)) (st' := [.int 0]) (M' := M) rfl rfl rfl ?_
    refine xev_0 (e := (.istore 6, 0, 0, 0)) (pc' := 24) (L' := xst1 (xst1 L 5 (.int 0)) 6 (.int 0)) (st' := []) (M' := M) rfl rfl rfl ?_
    rw [hL]
    refine ev_inner F hn (b := 0) ?_ n 0 (by omega)
    refine xev_0 (e := (.iload_n 1, 0, 0, 0)) (pc' := 66) (L' := [(6, .int (Int32.ofNat n)), (5, .int 0), (4, .int (Int32.ofNat s)), (3, .int 0), (0, .ref a), (1, .int 0), (2, .int (Int32.ofNat n))]) (st' := [.int 0]) (M' := M) rfl rfl rfl ?_
    refine xev_0 (e := (.iload 5, 0, 0, 0)) (pc' := 68) (L' := [(6, .int (Int32.ofNat n)), (5, .int 0), (4, .int (Int32.ofNat s)), (3, .int 0), (0, .ref a), (1, .int 0), (2, .int (Int32.ofNat n))]) (st' := [.int 0, .int 0]) (M' := M) rfl rfl rfl ?_
    refine xev_0 (e := (.iconst (-1), 0, 0, 0)) (pc' := 69) (L' := [(6, .int (Int32.ofNat n)), (5, .int 0), (4, .int (Int32.ofNat s)), (3, .int 0), (0, .ref a), (1, .int 0), (2, .int (Int32.ofNat n))]) (st' := [.int (-1), .int 0, .int 0]) (M' := M) rfl rfl rfl ?_
    refine xev_0 (e := (.ixor, 0, 0, 0)) (pc' := 70) (L' := [(6, .int (Int32.ofNat n)), (5, .int 0), (4, .int (Int32.ofNat s)), (3, .int 0), (0, .ref a), (1, .int 0), (2, .int (Int32.ofNat n))]) (st' := [.int (0 ^^^ (-1)), .int 0]) (M' := M) rfl rfl rfl ?_
    refine xev_0 (e := (.iand, 0, 0, 0)) (pc' := 71) (L' := [(6, .int (Int32.ofNat n)), (5, .int 0), (4, .int (Int32.ofNat s)), (3, .int 0), (0, .ref a), (1, .int 0), (2, .int (Int32.ofNat n))]) (st' := [.int (0 &&& (0 ^^^ (-1)))]) (M' := M) rfl rfl rfl ?_
    refine xev_0 (e := (.ifCond .eq 6, 77, 0, 0)) (pc' := 77) (L' := [(6, .int (Int32.ofNat n)), (5, .int 0), (4, .int (Int32.ofNat s)), (3, .int 0), (0, .ref a), (1, .int 0), (2, .int (Int32.ofNat n))]) (st' := []) (M' := M) rfl rfl (ev_if rfl) ?_
    refine xev_0 (e := (.iload_n 3, 0, 0, 0)) (pc' := 78) (L' := [(6, .int (Int32.ofNat n)), (5, .int 0), (4, .int (Int32.ofNat s)), (3, .int 0), (0, .ref a), (1, .int 0), (2, .int (Int32.ofNat n))]) (st' := [.int 0]) (M' := M) rfl rfl rfl ?_
    refine xev_0 (e := (.iconst (-1), 0, 0, 0)) (pc' := 79) (L' := [(6, .int (Int32.ofNat n)), (5, .int 0), (4, .int (Int32.ofNat s)), (3, .int 0), (0, .ref a), (1, .int 0), (2, .int (Int32.ofNat n))]) (st' := [.int (-1), .int 0]) (M' := M) rfl rfl rfl ?_
    refine xev_0 (e := (.if_icmp .ne 7, 86, 0, 0)) (pc' := 86) (L' := [(6, .int (Int32.ofNat n)), (5, .int 0), (4, .int (Int32.ofNat s)), (3, .int 0), (0, .ref a), (1, .int 0), (2, .int (Int32.ofNat n))]) (st' := []) (M' := M) rfl rfl (ev_ic (by decide)) ?_
    refine xev_0 (e := (.aload_n 0, 0, 0, 0)) (pc' := 87) (L' := [(6, .int (Int32.ofNat n)), (5, .int 0), (4, .int (Int32.ofNat s)), (3, .int 0), (0, .ref a), (1, .int 0), (2, .int (Int32.ofNat n))]) (st' := [.ref a]) (M' := M) rfl rfl rfl ?_
    refine xev_0 (e := (.iload 4, 0, 0, 0)) (pc' := 89) (L' := [(6, .int (Int32.ofNat n)), (5, .int 0), (4, .int (Int32.ofNat s)), (3, .int 0), (0, .ref a), (1, .int 0), (2, .int (Int32.ofNat n))]) (st' := [.int (Int32.ofNat s), .ref a]) (M' := M) rfl rfl rfl ?_
    refine xev_1 (e := (.invokevirtual 381, 316, 2, 12)) (as := [.ref a, .int (Int32.ofNat s)]) (rest := []) (r' := rr_316) (v := some (.int (Int32.ofNat c))) (M1 := M) rfl rfl rfl (ev_rv rfl F.1) rfl rfl c3 ?_
    change xev sc rr_317 92 [(6, .int (Int32.ofNat n)), (5, .int 0), (4, .int (Int32.ofNat s)), (3, .int 0), (0, .ref a), (1, .int 0), (2, .int (Int32.ofNat n))] [.int (Int32.ofNat c)] M _
    refine xev_0 (e := (.aload_n 0, 0, 0, 0)) (pc' := 93) (L' := [(6, .int (Int32.ofNat n)), (5, .int 0), (4, .int (Int32.ofNat s)), (3, .int 0), (0, .ref a), (1, .int 0), (2, .int (Int32.ofNat n))]) (st' := [.ref a, .int (Int32.ofNat c)]) (M' := M) rfl rfl rfl ?_
    refine xev_0 (e := (.iload_n 3, 0, 0, 0)) (pc' := 94) (L' := [(6, .int (Int32.ofNat n)), (5, .int 0), (4, .int (Int32.ofNat s)), (3, .int 0), (0, .ref a), (1, .int 0), (2, .int (Int32.ofNat n))]) (st' := [.int 0, .ref a, .int (Int32.ofNat c)]) (M' := M) rfl rfl rfl ?_
    refine xev_1 (e := (.invokevirtual 381, 316, 2, 12)) (as := [.ref a, .int 0]) (rest := [.int (Int32.ofNat c)]) (r' := rr_316) (v := some (.int 0)) (M1 := M) rfl rfl rfl (ev_rv rfl F.1) rfl rfl ev_cost0 ?_
    change xev sc rr_317 97 [(6, .int (Int32.ofNat n)), (5, .int 0), (4, .int (Int32.ofNat s)), (3, .int 0), (0, .ref a), (1, .int 0), (2, .int (Int32.ofNat n))] [.int 0, .int (Int32.ofNat c)] M _
    refine xev_0 (e := (.if_icmp .eq 18, 115, 0, 0)) (pc' := 100) (L' := [(6, .int (Int32.ofNat n)), (5, .int 0), (4, .int (Int32.ofNat s)), (3, .int 0), (0, .ref a), (1, .int 0), (2, .int (Int32.ofNat n))]) (st' := []) (M' := M) rfl rfl (ev_icn (cv_c1 c (by omega) (c2 (by omega)))) ?_
    refine xev_0 (e := (.aload_n 0, 0, 0, 0)) (pc' := 101) (L' := [(6, .int (Int32.ofNat n)), (5, .int 0), (4, .int (Int32.ofNat s)), (3, .int 0), (0, .ref a), (1, .int 0), (2, .int (Int32.ofNat n))]) (st' := [.ref a]) (M' := M) rfl rfl rfl ?_
    refine xev_0 (e := (.iload 4, 0, 0, 0)) (pc' := 103) (L' := [(6, .int (Int32.ofNat n)), (5, .int 0), (4, .int (Int32.ofNat s)), (3, .int 0), (0, .ref a), (1, .int 0), (2, .int (Int32.ofNat n))]) (st' := [.int (Int32.ofNat s), .ref a]) (M' := M) rfl rfl rfl ?_
    refine xev_1 (e := (.invokevirtual 381, 316, 2, 12)) (as := [.ref a, .int (Int32.ofNat s)]) (rest := []) (r' := rr_316) (v := some (.int (Int32.ofNat c))) (M1 := M) rfl rfl rfl (ev_rv rfl F.1) rfl rfl c3 ?_
    change xev sc rr_317 106 [(6, .int (Int32.ofNat n)), (5, .int 0), (4, .int (Int32.ofNat s)), (3, .int 0), (0, .ref a), (1, .int 0), (2, .int (Int32.ofNat n))] [.int (Int32.ofNat c)] M _
    refine xev_0 (e := (.aload_n 0, 0, 0, 0)) (pc' := 107) (L' := [(6, .int (Int32.ofNat n)), (5, .int 0), (4, .int (Int32.ofNat s)), (3, .int 0), (0, .ref a), (1, .int 0), (2, .int (Int32.ofNat n))]) (st' := [.ref a, .int (Int32.ofNat c)]) (M' := M) rfl rfl rfl ?_
    refine xev_0 (e := (.iload_n 3, 0, 0, 0)) (pc' := 108) (L' := [(6, .int (Int32.ofNat n)), (5, .int 0), (4, .int (Int32.ofNat s)), (3, .int 0), (0, .ref a), (1, .int 0), (2, .int (Int32.ofNat n))]) (st' := [.int 0, .ref a, .int (Int32.ofNat c)]) (M' := M) rfl rfl rfl ?_
    refine xev_1 (e := (.invokevirtual 381, 316, 2, 12)) (as := [.ref a, .int 0]) (rest := [.int (Int32.ofNat c)]) (r' := rr_316) (v := some (.int 0)) (M1 := M) rfl rfl rfl (ev_rv rfl F.1) rfl rfl ev_cost0 ?_
    change xev sc rr_317 111 [(6, .int (Int32.ofNat n)), (5, .int 0), (4, .int (Int32.ofNat s)), (3, .int 0), (0, .ref a), (1, .int 0), (2, .int (Int32.ofNat n))] [.int 0, .int (Int32.ofNat c)] M _
    refine xev_0 (e := (.isub, 0, 0, 0)) (pc' := 112) (L' := [(6, .int (Int32.ofNat n)), (5, .int 0), (4, .int (Int32.ofNat s)), (3, .int 0), (0, .ref a), (1, .int 0), (2, .int (Int32.ofNat n))]) (st' := [.int ((Int32.ofNat c) - 0)]) (M' := M) rfl rfl rfl ?_
    refine xev_0 (e := (.goto 13, 125, 0, 0)) (pc' := 125) (L' := [(6, .int (Int32.ofNat n)), (5, .int 0), (4, .int (Int32.ofNat s)), (3, .int 0), (0, .ref a), (1, .int 0), (2, .int (Int32.ofNat n))]) (st' := [.int ((Int32.ofNat c) - 0)]) (M' := M) rfl rfl rfl ?_
    refine xev_0 (e := (.istore 6, 0, 0, 0)) (pc' := 127) (L' := [(6, .int ((Int32.ofNat c) - 0)), (5, .int 0), (4, .int (Int32.ofNat s)), (3, .int 0), (0, .ref a), (1, .int 0), (2, .int (Int32.ofNat n))]) (st' := []) (M' := M) rfl rfl rfl ?_
    refine xev_0 (e := (.iload 6, 0, 0, 0)) (pc' := 129) (L' := [(6, .int ((Int32.ofNat c) - 0)), (5, .int 0), (4, .int (Int32.ofNat s)), (3, .int 0), (0, .ref a), (1, .int 0), (2, .int (Int32.ofNat n))]) (st' := [.int ((Int32.ofNat c) - 0)]) (M' := M) rfl rfl rfl ?_
    refine xev_0 (e := (.ifCond .ge 6, 135, 0, 0)) (pc' := 135) (L' := [(6, .int ((Int32.ofNat c) - 0)), (5, .int 0), (4, .int (Int32.ofNat s)), (3, .int 0), (0, .ref a), (1, .int 0), (2, .int (Int32.ofNat n))]) (st' := []) (M' := M) rfl rfl (ev_if (cv_c2 c (by omega))) ?_
    refine xev_0 (e := (.iinc 4 1, 0, 0, 0)) (pc' := 138) (L' := [(4, .int ((Int32.ofNat s) + Int32.ofInt 1)), (6, .int ((Int32.ofNat c) - 0)), (5, .int 0), (3, .int 0), (0, .ref a), (1, .int 0), (2, .int (Int32.ofNat n))]) (st' := []) (M' := M) rfl rfl rfl ?_
    refine xev_0 (e := (.goto (-128), 10, 0, 0)) (pc' := 10) (L' := [(4, .int ((Int32.ofNat s) + Int32.ofInt 1)), (6, .int ((Int32.ofNat c) - 0)), (5, .int 0), (3, .int 0), (0, .ref a), (1, .int 0), (2, .int (Int32.ofNat n))]) (st' := []) (M' := M) rfl rfl rfl ?_
    rw [show Int32.ofNat s + Int32.ofInt 1 = Int32.ofNat (s + 1) from i_add s 1]
    exact ev_sets F hn d (s + 1) _ (by omega) (by omega) rfl rfl rfl rfl
theorem ev_covering (F : cvF M a aA aS sl AT SH) {n : Nat} (hn : n < 13) (hn0 : 0 < n) : xev sc rr_317 5 [(0, .ref a), (1, .int 0), (2, .int (Int32.ofNat n))] [] M (some (.int 0), M) := by
  have hp : 2 ^ n = 1 + (2 ^ n - 1) := by have := Nat.two_pow_pos n; omega
  refine xev_0 (e := (.iconst (-1), 0, 0, 0)) (pc' := 6) (L' := [(0, .ref a), (1, .int 0), (2, .int (Int32.ofNat n))]) (st' := [.int (-1)]) (M' := M) rfl rfl rfl ?_
  refine xev_0 (e := (.istore_n 3, 0, 0, 0)) (pc' := 7) (L' := [(3, .int (-1)), (0, .ref a), (1, .int 0), (2, .int (Int32.ofNat n))]) (st' := []) (M' := M) rfl rfl rfl ?_
  refine xev_0 (e := (.iconst 0, 0, 0, 0)) (pc' := 8) (L' := [(3, .int (-1)), (0, .ref a), (1, .int 0), (2, .int (Int32.ofNat n))]) (st' := [.int 0]) (M' := M) rfl rfl rfl ?_
  refine xev_0 (e := (.istore 4, 0, 0, 0)) (pc' := 10) (L' := [(4, .int 0), (3, .int (-1)), (0, .ref a), (1, .int 0), (2, .int (Int32.ofNat n))]) (st' := []) (M' := M) rfl rfl rfl ?_
  refine xev_0 (e := (.iload 4, 0, 0, 0)) (pc' := 12) (L' := [(4, .int 0), (3, .int (-1)), (0, .ref a), (1, .int 0), (2, .int (Int32.ofNat n))]) (st' := [.int 0]) (M' := M) rfl rfl rfl ?_
  refine xev_0 (e := (.iconst 1, 0, 0, 0)) (pc' := 13) (L' := [(4, .int 0), (3, .int (-1)), (0, .ref a), (1, .int 0), (2, .int (Int32.ofNat n))]) (st' := [.int 1, .int 0]) (M' := M) rfl rfl rfl ?_
  refine xev_0 (e := (.iload_n 2, 0, 0, 0)) (pc' := 14) (L' := [(4, .int 0), (3, .int (-1)), (0, .ref a), (1, .int 0), (2, .int (Int32.ofNat n))]) (st' := [.int (Int32.ofNat n), .int 1, .int 0]) (M' := M) rfl rfl rfl ?_
  refine xev_0 (e := (.ishl, 0, 0, 0)) (pc' := 15) (L' := [(4, .int 0), (3, .int (-1)), (0, .ref a), (1, .int 0), (2, .int (Int32.ofNat n))]) (st' := [.int (1 <<< ((Int32.ofNat n) &&& 31)), .int 0]) (M' := M) rfl rfl rfl ?_
  refine xev_0 (e := (.if_icmp .ge 126, 141, 0, 0)) (pc' := 18) (L' := [(4, .int 0), (3, .int (-1)), (0, .ref a), (1, .int 0), (2, .int (Int32.ofNat n))]) (st' := []) (M' := M) rfl rfl (ev_icn (cv_on hn (s := 0) (Nat.two_pow_pos n))) ?_
  refine xev_0 (e := (.iconst 0, 0, 0, 0)) (pc' := 19) (L' := [(4, .int 0), (3, .int (-1)), (0, .ref a), (1, .int 0), (2, .int (Int32.ofNat n))]) (st' := [.int 0]) (M' := M) rfl rfl rfl ?_
  refine xev_0 (e := (.istore 5, 0, 0, 0)) (pc' := 21) (L' := [(5, .int 0), (4, .int 0), (3, .int (-1)), (0, .ref a), (1, .int 0), (2, .int (Int32.ofNat n))]) (st' := []) (M' := M) rfl rfl rfl ?_
  refine xev_0 (e := (.iconst 0, 0, 0, 0)) (pc' := 22) (L' := [(5, .int 0), (4, .int 0), (3, .int (-1)), (0, .ref a), (1, .int 0), (2, .int (Int32.ofNat n))]) (st' := [.int 0]) (M' := M) rfl rfl rfl ?_
  refine xev_0 (e := (.istore 6, 0, 0, 0)) (pc' := 24) (L' := [(6, .int 0), (5, .int 0), (4, .int 0), (3, .int (-1)), (0, .ref a), (1, .int 0), (2, .int (Int32.ofNat n))]) (st' := []) (M' := M) rfl rfl rfl ?_
  refine ev_inner F hn (s := 0) (b := -1) ?_ n 0 (by omega)
  refine xev_0 (e := (.iload_n 1, 0, 0, 0)) (pc' := 66) (L' := [(6, .int (Int32.ofNat n)), (5, .int 0), (4, .int (Int32.ofNat 0)), (3, .int (-1)), (0, .ref a), (1, .int 0), (2, .int (Int32.ofNat n))]) (st' := [.int 0]) (M' := M) rfl rfl rfl ?_
  refine xev_0 (e := (.iload 5, 0, 0, 0)) (pc' := 68) (L' := [(6, .int (Int32.ofNat n)), (5, .int 0), (4, .int (Int32.ofNat 0)), (3, .int (-1)), (0, .ref a), (1, .int 0), (2, .int (Int32.ofNat n))]) (st' := [.int 0, .int 0]) (M' := M) rfl rfl rfl ?_
  refine xev_0 (e := (.iconst (-1), 0, 0, 0)) (pc' := 69) (L' := [(6, .int (Int32.ofNat n)), (5, .int 0), (4, .int (Int32.ofNat 0)), (3, .int (-1)), (0, .ref a), (1, .int 0), (2, .int (Int32.ofNat n))]) (st' := [.int (-1), .int 0, .int 0]) (M' := M) rfl rfl rfl ?_
  refine xev_0 (e := (.ixor, 0, 0, 0)) (pc' := 70) (L' := [(6, .int (Int32.ofNat n)), (5, .int 0), (4, .int (Int32.ofNat 0)), (3, .int (-1)), (0, .ref a), (1, .int 0), (2, .int (Int32.ofNat n))]) (st' := [.int (0 ^^^ (-1)), .int 0]) (M' := M) rfl rfl rfl ?_
  refine xev_0 (e := (.iand, 0, 0, 0)) (pc' := 71) (L' := [(6, .int (Int32.ofNat n)), (5, .int 0), (4, .int (Int32.ofNat 0)), (3, .int (-1)), (0, .ref a), (1, .int 0), (2, .int (Int32.ofNat n))]) (st' := [.int (0 &&& (0 ^^^ (-1)))]) (M' := M) rfl rfl rfl ?_
  refine xev_0 (e := (.ifCond .eq 6, 77, 0, 0)) (pc' := 77) (L' := [(6, .int (Int32.ofNat n)), (5, .int 0), (4, .int (Int32.ofNat 0)), (3, .int (-1)), (0, .ref a), (1, .int 0), (2, .int (Int32.ofNat n))]) (st' := []) (M' := M) rfl rfl (ev_if rfl) ?_
  refine xev_0 (e := (.iload_n 3, 0, 0, 0)) (pc' := 78) (L' := [(6, .int (Int32.ofNat n)), (5, .int 0), (4, .int (Int32.ofNat 0)), (3, .int (-1)), (0, .ref a), (1, .int 0), (2, .int (Int32.ofNat n))]) (st' := [.int (-1)]) (M' := M) rfl rfl rfl ?_
  refine xev_0 (e := (.iconst (-1), 0, 0, 0)) (pc' := 79) (L' := [(6, .int (Int32.ofNat n)), (5, .int 0), (4, .int (Int32.ofNat 0)), (3, .int (-1)), (0, .ref a), (1, .int 0), (2, .int (Int32.ofNat n))]) (st' := [.int (-1), .int (-1)]) (M' := M) rfl rfl rfl ?_
  refine xev_0 (e := (.if_icmp .ne 7, 86, 0, 0)) (pc' := 82) (L' := [(6, .int (Int32.ofNat n)), (5, .int 0), (4, .int (Int32.ofNat 0)), (3, .int (-1)), (0, .ref a), (1, .int 0), (2, .int (Int32.ofNat n))]) (st' := []) (M' := M) rfl rfl (ev_icn (by decide)) ?_
  refine xev_0 (e := (.iconst (-1), 0, 0, 0)) (pc' := 83) (L' := [(6, .int (Int32.ofNat n)), (5, .int 0), (4, .int (Int32.ofNat 0)), (3, .int (-1)), (0, .ref a), (1, .int 0), (2, .int (Int32.ofNat n))]) (st' := [.int (-1)]) (M' := M) rfl rfl rfl ?_
  refine xev_0 (e := (.goto 42, 125, 0, 0)) (pc' := 125) (L' := [(6, .int (Int32.ofNat n)), (5, .int 0), (4, .int (Int32.ofNat 0)), (3, .int (-1)), (0, .ref a), (1, .int 0), (2, .int (Int32.ofNat n))]) (st' := [.int (-1)]) (M' := M) rfl rfl rfl ?_
  refine xev_0 (e := (.istore 6, 0, 0, 0)) (pc' := 127) (L' := [(6, .int (-1)), (5, .int 0), (4, .int (Int32.ofNat 0)), (3, .int (-1)), (0, .ref a), (1, .int 0), (2, .int (Int32.ofNat n))]) (st' := []) (M' := M) rfl rfl rfl ?_
  refine xev_0 (e := (.iload 6, 0, 0, 0)) (pc' := 129) (L' := [(6, .int (-1)), (5, .int 0), (4, .int (Int32.ofNat 0)), (3, .int (-1)), (0, .ref a), (1, .int 0), (2, .int (Int32.ofNat n))]) (st' := [.int (-1)]) (M' := M) rfl rfl rfl ?_
  refine xev_0 (e := (.ifCond .ge 6, 135, 0, 0)) (pc' := 132) (L' := [(6, .int (-1)), (5, .int 0), (4, .int (Int32.ofNat 0)), (3, .int (-1)), (0, .ref a), (1, .int 0), (2, .int (Int32.ofNat n))]) (st' := []) (M' := M) rfl rfl (ev_ifn (by decide)) ?_
  refine xev_0 (e := (.iload 4, 0, 0, 0)) (pc' := 134) (L' := [(6, .int (-1)), (5, .int 0), (4, .int (Int32.ofNat 0)), (3, .int (-1)), (0, .ref a), (1, .int 0), (2, .int (Int32.ofNat n))]) (st' := [.int (Int32.ofNat 0)]) (M' := M) rfl rfl rfl ?_
  refine xev_0 (e := (.istore_n 3, 0, 0, 0)) (pc' := 135) (L' := [(3, .int (Int32.ofNat 0)), (6, .int (-1)), (5, .int 0), (4, .int (Int32.ofNat 0)), (0, .ref a), (1, .int 0), (2, .int (Int32.ofNat n))]) (st' := []) (M' := M) rfl rfl rfl ?_
  refine xev_0 (e := (.iinc 4 1, 0, 0, 0)) (pc' := 138) (L' := [(4, .int ((Int32.ofNat 0) + Int32.ofInt 1)), (3, .int (Int32.ofNat 0)), (6, .int (-1)), (5, .int 0), (0, .ref a), (1, .int 0), (2, .int (Int32.ofNat n))]) (st' := []) (M' := M) rfl rfl rfl ?_
  refine xev_0 (e := (.goto (-128), 10, 0, 0)) (pc' := 10) (L' := [(4, .int ((Int32.ofNat 0) + Int32.ofInt 1)), (3, .int (Int32.ofNat 0)), (6, .int (-1)), (5, .int 0), (0, .ref a), (1, .int 0), (2, .int (Int32.ofNat n))]) (st' := []) (M' := M) rfl rfl rfl ?_
  rw [show Int32.ofNat 0 + Int32.ofInt 1 = Int32.ofNat 1 from rfl]
  exact ev_sets F hn (2 ^ n - 1) 1 _ (by omega) (by omega) rfl rfl rfl rfl
end CV
