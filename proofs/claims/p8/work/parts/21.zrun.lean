/-! THE SAME, WITH EACH INSTRUCTION AS A SMALL FUNCTION OF ITS OWN: what the kernel runs -/
abbrev zF : Type := List (Int × Int) → List Value → Nat → xL → List Value → xM → Option xC
abbrev zT : Type := List (List (Option (zF ⊕ xE)))
abbrev zR : Type := zT × Nat × Nat
noncomputable def zcv (e : xE) : zF ⊕ xE := bif Nat.beq (xkind e) 0 then .inl (fun bx sa pc L st M => ya1F bx sa e pc L st M) else .inr e
noncomputable def zPI (n : Nat) (v : Int32) : zF := fun _ _ pc L st M => some (pc + n, L, .int v :: st, M)
noncomputable def zPL (n : Nat) (v : Int64) : zF := fun _ _ pc L st M => some (pc + n, L, .long v :: st, M)
noncomputable def zL1 (n i : Nat) : zF := fun _ _ pc L st M => fl1 n pc i L st M
noncomputable def zL2 (n i : Nat) : zF := fun _ _ pc L st M => fl2 n pc i L st M
noncomputable def zLA (n i : Nat) : zF := fun _ _ pc L st M => fpA n pc i L st M
noncomputable def zS1 (n i : Nat) : zF := fun _ _ pc L st M => fs1 n pc i L st M
noncomputable def zS2 (n i : Nat) : zF := fun _ _ pc L st M => fs2 n pc i L st M
noncomputable def zSA (n i : Nat) : zF := fun _ _ pc L st M => fsA n pc i L st M
noncomputable def zinc (i : Nat) (n : Int) : zF := fun _ _ pc L st M => finc i n pc L st M
noncomputable def zadd : zF := fun bx _ pc L st M => yadd bx pc L st M
noncomputable def zsub : zF := fun bx _ pc L st M => ysub bx pc L st M
noncomputable def zmul : zF := fun _ _ pc L st M => yii (fun x y => x * y) pc L st M
noncomputable def zandI : zF := fun _ _ pc L st M => yand pc L st M
noncomputable def zor : zF := fun _ _ pc L st M => yii (fun x y => x ||| y) pc L st M
noncomputable def zxor : zF := fun _ _ pc L st M => xii (fun x y => x ^^^ y) pc L st M
noncomputable def zshl : zF := fun _ _ pc L st M => xii (fun x y => x <<< (y &&& 31)) pc L st M
noncomputable def zshr : zF := fun _ _ pc L st M => yii (fun x y => x >>> (y &&& 31)) pc L st M
noncomputable def zushr : zF := fun _ _ pc L st M => yii (fun x y => (x.toUInt32 >>> (y.toUInt32 &&& Int32.toUInt32 31)).toInt32) pc L st M
noncomputable def zdiv : zF := fun _ _ pc L st M => match st with
    | .int y :: .int x :: r => bif decide (y = 0) then none else some (pc + 1, L, .int (x / y) :: r, M)
    | _ => none
noncomputable def zrem : zF := fun _ _ pc L st M => match st with
    | .int y :: .int x :: r => bif decide (y = 0) then none else some (pc + 1, L, .int (x - x / y * y) :: r, M)
    | _ => none
noncomputable def zneg : zF := fun _ _ pc L st M => xi (fun x => -x) pc L st M
noncomputable def zi2b : zF := fun _ _ pc L st M => yi (fun x => x.toInt8.toInt32) pc L st M
noncomputable def zi2s : zF := fun _ _ pc L st M => xi (fun x => x.toInt16.toInt32) pc L st M
noncomputable def zi2l : zF := fun _ _ pc L st M => match st with
    | .int x :: r => some (pc + 1, L, .long x.toInt64 :: r, M)
    | .float u :: r => some (pc + 1, L, .double u.toUInt64 :: r, M)
    | _ => none
noncomputable def zl2i : zF := fun _ _ pc L st M => match st with
    | .long x :: r => some (pc + 1, L, .int x.toInt32 :: r, M)
    | _ => none
noncomputable def zladd : zF := fun _ _ pc L st M => yll (fun x y => x + y) pc L st M
noncomputable def zlsub : zF := fun _ _ pc L st M => yll (fun x y => x - y) pc L st M
noncomputable def zlmul : zF := fun _ _ pc L st M => xll (fun x y => x * y) pc L st M
noncomputable def zland : zF := fun _ _ pc L st M => yll (fun x y => x &&& y) pc L st M
noncomputable def zlor : zF := fun _ _ pc L st M => yll (fun x y => x ||| y) pc L st M
noncomputable def zlxor : zF := fun _ _ pc L st M => xll (fun x y => x ^^^ y) pc L st M
noncomputable def zldiv : zF := fun _ _ pc L st M => match st with
    | .long y :: .long x :: r => bif decide (y = 0) then none else some (pc + 1, L, .long (x / y) :: r, M)
    | _ => none
noncomputable def zlrem : zF := fun _ _ pc L st M => match st with
    | .long y :: .long x :: r => bif decide (y = 0) then none else some (pc + 1, L, .long (x - x / y * y) :: r, M)
    | _ => none
noncomputable def zlshl : zF := fun _ _ pc L st M => yli (fun x y => x <<< (y.toInt64 &&& 63)) pc L st M
noncomputable def zlshr : zF := fun _ _ pc L st M => xli (fun x y => x >>> (y.toInt64 &&& 63)) pc L st M
noncomputable def zlushr : zF := fun _ _ pc L st M => xli (fun x y => (x.toUInt64 >>> (y.toInt64.toUInt64 &&& Int64.toUInt64 63)).toInt64) pc L st M
noncomputable def zlcm : zF := fun bx _ pc L st M => match st with
    | .long y :: .long x :: r => some (pc + 1, L, .int (lg_cmp x y) :: r, M)
    | .long y :: .double u :: r => bif Nat.beq u.toNat 0 then none else bif decide ((ybd bx u.toNat).2 < y.toInt) then some (pc + 1, L, .int (-1) :: r, M) else bif decide (y.toInt < (ybd bx u.toNat).1) then some (pc + 1, L, .int 1 :: r, M) else bif decide (y.toInt ≤ (ybd bx u.toNat).1) then some (pc + 1, L, .float 1 :: r, M) else bif decide ((ybd bx u.toNat).2 ≤ y.toInt) then some (pc + 1, L, .float 2 :: r, M) else none
    | _ => none
noncomputable def zdup : zF := fun _ _ pc L st M => match st with
    | v :: r => bif Nat.beq (xcat v) 1 then some (pc + 1, L, v :: v :: r, M) else none
    | _ => none
noncomputable def zdup2 : zF := fun _ _ pc L st M => match st with
    | v :: w :: r => bif Nat.beq (xcat v) 1 && Nat.beq (xcat w) 1 then some (pc + 1, L, v :: w :: v :: w :: r, M) else bif Nat.beq (xcat v) 2 then some (pc + 1, L, v :: v :: w :: r, M) else none
    | _ => none
noncomputable def zpop : zF := fun _ _ pc L st M => match st with
    | v :: r => bif Nat.beq (xcat v) 1 then some (pc + 1, L, r, M) else none
    | _ => none
noncomputable def zgo (t : Nat) : zF := fun _ _ _ L st M => some (t, L, st, M)
noncomputable def zic (c : ClassFile.Cond) (t : Nat) : zF := fun bx _ pc L st M => fic c t bx pc L st M
noncomputable def zif (c : ClassFile.Cond) (t : Nat) : zF := fun bx _ pc L st M => fif c t bx pc L st M
noncomputable def zsw (dflt lo hi : Int) (offs : Array Int) : zF := fun bx _ pc L st M => match st with
    | .float u :: r => bif Nat.beq u.toNat 0 then none else bif decide ((ybd bx u.toNat).2 < lo) || decide (hi < (ybd bx u.toNat).1) then some (((pc : Int) + dflt).toNat, L, r, M) else none
    | _ => xsw dflt lo hi offs pc L st M
noncomputable def ziald : zF := fun _ sa pc L st M => fiald sa pc L st M
noncomputable def zald' (k : Nat) : zF := fun _ _ pc L st M => fald k pc L st M
noncomputable def zaald : zF := fun _ _ pc L st M => match xald 23 pc L st M with
    | some q => some q
    | none => xald 24 pc L st M
noncomputable def ziast : zF := fun _ _ pc L st M => fast 20 ygI pc L st M
noncomputable def zbast : zF := fun _ _ pc L st M => fast 21 ygB pc L st M
noncomputable def zlast : zF := fun _ _ pc L st M => fast 22 ygL pc L st M
noncomputable def zaast : zF := fun _ _ pc L st M => xastW 10 pc L st M
noncomputable def zalen : zF := fun _ sa pc L st M => match st with
    | .retAddr 0 :: r => (match ysc sa with
      | some sl => some (pc + 1, L, .int (Int32.ofNat sl.length) :: r, M)
      | none => none)
    | .ref a :: r => xlen [] pc L (.ref a :: r) M
    | _ => none
noncomputable def znewa (t : ArrayType) : zF := fun _ _ pc L st M => xnewa t pc L st M
noncomputable def znewq : zF := fun _ _ pc L st M => xnewq pc L st M
noncomputable def zmna : zF := fun _ _ pc L st M => xmna pc L st M
noncomputable def znew (c : Nat) : zF := fun _ _ pc L st M => some (pc + 3, L, .ref M.length :: st, M ++ [(c, xdf c)])
noncomputable def zget' (c k : Nat) : zF := fun _ _ pc L st M => fget c k pc L st M
noncomputable def zput' (c k : Nat) : zF := fun _ _ pc L st M => fputf c k pc L st M
noncomputable def zobj : zF := fun _ _ pc L st M => match st with
    | .ref _ :: r => bif Nat.beq 5000 5000 && xcat8 r then some (pc + 3, L, r, M) else none
    | _ => none
noncomputable def zcopy' : zF := fun _ _ pc L st M => xcopy pc L st M
noncomputable def zmax : zF := fun _ _ pc L st M => xmath (fun x y => if x < y then y else x) pc L st M
noncomputable def zmin : zF := fun _ _ pc L st M => xmath (fun x y => if y < x then y else x) pc L st M
noncomputable def zabs : zF := fun _ _ pc L st M => match st with
      | .int x :: r => bif xcat8 r then some (pc + 3, L, .int (if 0 ≤ x then x else 0 - x) :: r, M) else none
      | _ => none
noncomputable def zno' : zF := fun _ _ _ _ _ _ => none
noncomputable def zat (T : zT) (pc : Nat) : Option (zF ⊕ xE) := match fnth T (pc / 8) with
  | some l => match fnth l (pc % 8) with
    | some e => e
    | none => none
  | none => none
noncomputable def zrun (zm : Nat → Option zR) (bx : List (Int × Int)) (sa : List Value) : Nat → zR → Nat → xL → List Value → xM → Option (Option Value × xM)
  | 0, _, _, _, _, _ => none
  | f + 1, r, pc, L, st, M => match zat r.1 pc with
    | none => none
    | some (.inl g) => match g bx sa pc L st M with
      | none => none
      | some q => zrun zm bx sa f r q.1 q.2.1 q.2.2.1 q.2.2.2
    | some (.inr e) => match xkind e with
      | 1 => match xpop e.2.2.1 [] st with
        | none => none
        | some (as, rest) => bif xcat8 rest && xrecv e as M then (match zm e.2.1 with
          | none => none
          | some r' => bif Nat.ble (xcats as) r'.2.1 then (match zrun zm bx sa f r' 0 (lv_args 0 as) [] M with
            | none => none
            | some q => zrun zm bx sa f r (pc + 3) L (xpush q.1 rest) q.2) else none) else none
      | _ => match xend r.2.2 e st with
        | none => none
        | some v => some (v, M)
def zrel (zr : zR) (r : xR) : Prop := (zr.1 = [] ∨ zr.1 = r.1.map (fun l => l.map (Option.map zcv))) ∧ zr.2 = r.2
theorem xnth_map {α β : Type} (g : α → β) : ∀ (l : List α) (n : Nat), xnth (l.map g) n = (xnth l n).map g
  | [], n => by simp [xnth]
  | a :: l, 0 => by simp [xnth]
  | a :: l, n + 1 => by simp only [List.map_cons, xnth]; exact xnth_map g l n
theorem zat_ok {zr : zR} {r : xR} {pc : Nat} {x : zF ⊕ xE} (h : zrel zr r) (hx : zat zr.1 pc = some x) : ∃ e, xat r.1 pc = some e ∧ x = zcv e := by
  rcases h.1 with h1 | h1
  · rw [h1] at hx
    simp [zat, fnth_eq, xnth] at hx
  · rw [h1] at hx
    unfold zat at hx
    rw [fnth_eq, xnth_map] at hx
    unfold xat
    cases h2 : xnth r.1 (pc / 8) with
    | none => rw [h2] at hx; cases hx
    | some l =>
      rw [h2] at hx
      simp only [Option.map_some] at hx
      rw [fnth_eq, xnth_map] at hx
      dsimp only
      cases h3 : xnth l (pc % 8) with
      | none => rw [h3] at hx; cases hx
      | some o =>
        rw [h3] at hx
        simp only [Option.map_some] at hx
        cases o with
        | none => cases hx
        | some e =>
          cases hx
          exact ⟨e, rfl, rfl⟩
theorem zrun_ok {zm : Nat → Option zR} (hz : ∀ y zr, zm y = some zr → ∃ r, xmeth y = some r ∧ zrel zr r) {bx : List (Int × Int)} {sa : List Value} : ∀ (f : Nat) {zr : zR} {r : xR} {pc : Nat} {L : xL} {st : List Value} {M : xM} {q : Option Value × xM}, zrel zr r → zrun zm bx sa f zr pc L st M = some q → yrun xmeth xty xdf bx sa f r pc L st M = some q
  | 0, _, _, _, _, _, _, _, _, h => by simp [zrun] at h
  | f + 1, zr, r, pc, L, st, M, q, hr, h => by
    simp only [zrun] at h
    simp only [yrun]
    split at h
    · cases h
    · rename_i g hg
      obtain ⟨e, he, hx⟩ := zat_ok hr hg
      rw [he]
      try dsimp only
      unfold zcv at hx
      cases hk : Nat.beq (xkind e) 0 with
      | false => rw [hk] at hx; cases hx
      | true =>
        rw [hk] at hx
        cases hx
        rw [Nat.eq_of_beq_eq_true hk]
        dsimp only at h ⊢
        split at h
        · cases h
        · rename_i q0 hq0
          rw [← ya1F_eq, hq0]
          exact zrun_ok hz f hr h
    · rename_i e hg
      obtain ⟨e', he, hx⟩ := zat_ok hr hg
      rw [he]
      try dsimp only
      unfold zcv at hx
      cases hk : Nat.beq (xkind e') 0 with
      | true => rw [hk] at hx; cases hx
      | false =>
        rw [hk] at hx
        cases hx
        have hk0 : xkind e ≠ 0 := fun q => by rw [q] at hk; cases hk
        split at h
        · rename_i hk1
          rw [hk1]
          try dsimp only
          split at h
          · cases h
          · rename_i ar rest hp
            rw [hp]
            try dsimp only
            cases hc : (xcat8 rest && xrecv e ar M) with
            | false => rw [hc] at h; cases h
            | true =>
              rw [hc] at h
              simp only [cond_true] at h ⊢
              split at h
              · cases h
              · rename_i zr' hzr'
                obtain ⟨r', hr', hrel⟩ := hz _ _ hzr'
                rw [hr']
                try dsimp only
                rw [← hrel.2]
                cases hcc : Nat.ble (xcats ar) zr'.2.1 with
                | false => rw [hcc] at h; cases h
                | true =>
                  rw [hcc] at h
                  simp only [cond_true] at h ⊢
                  split at h
                  · cases h
                  · rename_i q1 hq1
                    rw [zrun_ok hz f hrel hq1]
                    exact zrun_ok hz f hr h
        · rename_i hk1
          rw [← hr.2]
          split
          · rename_i z; exact absurd z hk0
          · rename_i z; exact absurd z hk1
          · exact h
