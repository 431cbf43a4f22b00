/-! THE SAME OVER ROWS IN CHUNKS: a store costs a chunk, not the row -/
abbrev wO : Type := Nat × List (List Value)
abbrev wM : Type := List (List wO)
abbrev wC : Type := Nat × xL × List Value × wM
abbrev wF : Type := List (Int × Int) → List Value → Nat → xL → List Value → wM → Option wC
/-- all chunks but the last are of 64 -/
def wok : List (List Value) → Prop
  | [] => True
  | [_] => True
  | a :: b :: l => a.length = 64 ∧ wok (b :: l)
/-- all chunks but the last are of 16 -/
def vok : List (List wO) → Prop
  | [] => True
  | [_] => True
  | a :: b :: l => a.length = 16 ∧ vok (b :: l)
def wfl (Z : wM) : xM := Z.flatten.map fun o => (o.1, o.2.flatten)
def wwf (Z : wM) : Prop := vok Z ∧ ∀ o ∈ Z.flatten, wok o.2
noncomputable def wnth (cs : List (List Value)) (i : Nat) : Option Value := @Option.rec (List Value) (fun _ => Option Value) none (fun l => fnth l (i % 64)) (fnth cs (i / 64))
noncomputable def wset (cs : List (List Value)) (i : Nat) (v : Value) : List (List Value) := @Option.rec (List Value) (fun _ => List (List Value)) cs (fun l => fset cs (i / 64) (fset l (i % 64) v)) (fnth cs (i / 64))
theorem wnth_one {a : List Value} {i : Nat} {v : Value} (h : wnth [a] i = some v) : xnth a i = some v := by
  unfold wnth at h
  rw [fnth_eq] at h
  by_cases hi : i / 64 = 0
  · rw [hi] at h
    simp only [xnth] at h
    rw [fnth_eq] at h
    rw [show i % 64 = i by omega] at h
    exact h
  · obtain ⟨k, hk⟩ : ∃ k, i / 64 = k + 1 := ⟨i / 64 - 1, by omega⟩
    rw [hk] at h
    simp [xnth] at h
theorem wnth_eq : ∀ {cs : List (List Value)} {i : Nat} {v : Value}, wok cs → wnth cs i = some v → xnth cs.flatten i = some v
  | [], i, v, _, h => by
    unfold wnth at h
    rw [fnth_eq] at h
    simp [xnth] at h
  | [a], i, v, _, h => by
    have h3 := wnth_one h
    simpa using h3
  | a :: b :: l, i, v, hw, h => by
    by_cases hi : i < 64
    · have h2 : wnth [a] i = some v := by
        unfold wnth at h ⊢
        rw [fnth_eq] at h ⊢
        rw [show i / 64 = 0 by omega] at h ⊢
        exact h
      have h3 := wnth_one h2
      rw [xnth_eq] at h3 ⊢
      rw [List.flatten_cons, List.getElem?_append_left (by rw [hw.1]; exact hi)]
      exact h3
    · have h2 : wnth (b :: l) (i - 64) = some v := by
        unfold wnth at h ⊢
        rw [fnth_eq] at h ⊢
        rw [show i / 64 = (i - 64) / 64 + 1 by omega, show i % 64 = (i - 64) % 64 by omega] at h
        exact h
      have h3 := wnth_eq hw.2 h2
      rw [xnth_eq] at h3 ⊢
      rw [List.flatten_cons, List.getElem?_append_right (by rw [hw.1]; omega), hw.1]
      exact h3
theorem wset_eq : ∀ {cs : List (List Value)} {i : Nat} {v w : Value}, wok cs → wnth cs i = some w → (wset cs i v).flatten = cs.flatten.set i v ∧ wok (wset cs i v)
  | [], i, v, w, _, h => by
    unfold wnth at h
    rw [fnth_eq] at h
    simp [xnth] at h
  | [a], i, v, w, _, h => by
    unfold wnth at h
    rw [fnth_eq] at h
    by_cases hi : i / 64 = 0
    · unfold wset
      rw [fnth_eq, hi]
      simp only [xnth]
      rw [fset_eq, fset_eq, show i % 64 = i by omega]
      simp [wok]
    · obtain ⟨k, hk⟩ : ∃ k, i / 64 = k + 1 := ⟨i / 64 - 1, by omega⟩
      rw [hk] at h
      simp [xnth] at h
  | a :: b :: l, i, v, w, hw, h => by
    by_cases hi : i < 64
    · unfold wset
      rw [fnth_eq, show i / 64 = 0 by omega]
      simp only [xnth]
      rw [fset_eq, fset_eq, show i % 64 = i by omega]
      refine ⟨?_, ?_⟩
      · simp only [List.set_cons_zero, List.flatten_cons]
        rw [List.set_append_left _ _ (by rw [hw.1]; exact hi)]
      · simp only [List.set_cons_zero]
        exact ⟨by simpa using hw.1, hw.2⟩
    · have h2 : wnth (b :: l) (i - 64) = some w := by
        unfold wnth at h ⊢
        rw [fnth_eq] at h ⊢
        rw [show i / 64 = (i - 64) / 64 + 1 by omega, show i % 64 = (i - 64) % 64 by omega] at h
        exact h
      obtain ⟨h3, h4⟩ := wset_eq (v := v) hw.2 h2
      have h5 : wset (a :: b :: l) i v = a :: wset (b :: l) (i - 64) v := by
        unfold wset
        rw [fnth_eq, fnth_eq, show i / 64 = (i - 64) / 64 + 1 by omega, show i % 64 = (i - 64) % 64 by omega]
        simp only [xnth]
        cases xnth (b :: l) ((i - 64) / 64) with
        | none => rfl
        | some c =>
          dsimp only
          rw [fset_eq, fset_eq, fset_eq]
          rfl
      rw [h5]
      refine ⟨?_, ?_⟩
      · rw [List.flatten_cons, h3]
        show a ++ (b :: l).flatten.set (i - 64) v = (a ++ (b :: l).flatten).set i v
        rw [List.set_append_right _ _ (by rw [hw.1]; omega), hw.1]
      · cases h6 : wset (b :: l) (i - 64) v with
        | nil => trivial
        | cons x y => rw [h6] at h4; exact ⟨hw.1, h4⟩
noncomputable def vnth (cs : List (List wO)) (i : Nat) : Option wO := @Option.rec (List wO) (fun _ => Option wO) none (fun l => fnth l (i % 16)) (fnth cs (i / 16))
noncomputable def vset (cs : List (List wO)) (i : Nat) (v : wO) : List (List wO) := @Option.rec (List wO) (fun _ => List (List wO)) cs (fun l => fset cs (i / 16) (fset l (i % 16) v)) (fnth cs (i / 16))
theorem vnth_one {a : List wO} {i : Nat} {v : wO} (h : vnth [a] i = some v) : xnth a i = some v := by
  unfold vnth at h
  rw [fnth_eq] at h
  by_cases hi : i / 16 = 0
  · rw [hi] at h
    simp only [xnth] at h
    rw [fnth_eq] at h
    rw [show i % 16 = i by omega] at h
    exact h
  · obtain ⟨k, hk⟩ : ∃ k, i / 16 = k + 1 := ⟨i / 16 - 1, by omega⟩
    rw [hk] at h
    simp [xnth] at h
theorem vnth_eq : ∀ {cs : List (List wO)} {i : Nat} {v : wO}, vok cs → vnth cs i = some v → xnth cs.flatten i = some v
  | [], i, v, _, h => by
    unfold vnth at h
    rw [fnth_eq] at h
    simp [xnth] at h
  | [a], i, v, _, h => by
    have h3 := vnth_one h
    simpa using h3
  | a :: b :: l, i, v, hw, h => by
    by_cases hi : i < 16
    · have h2 : vnth [a] i = some v := by
        unfold vnth at h ⊢
        rw [fnth_eq] at h ⊢
        rw [show i / 16 = 0 by omega] at h ⊢
        exact h
      have h3 := vnth_one h2
      rw [xnth_eq] at h3 ⊢
      rw [List.flatten_cons, List.getElem?_append_left (by rw [hw.1]; exact hi)]
      exact h3
    · have h2 : vnth (b :: l) (i - 16) = some v := by
        unfold vnth at h ⊢
        rw [fnth_eq] at h ⊢
        rw [show i / 16 = (i - 16) / 16 + 1 by omega, show i % 16 = (i - 16) % 16 by omega] at h
        exact h
      have h3 := vnth_eq hw.2 h2
      rw [xnth_eq] at h3 ⊢
      rw [List.flatten_cons, List.getElem?_append_right (by rw [hw.1]; omega), hw.1]
      exact h3
theorem vset_eq : ∀ {cs : List (List wO)} {i : Nat} {v w : wO}, vok cs → vnth cs i = some w → (vset cs i v).flatten = cs.flatten.set i v ∧ vok (vset cs i v)
  | [], i, v, w, _, h => by
    unfold vnth at h
    rw [fnth_eq] at h
    simp [xnth] at h
  | [a], i, v, w, _, h => by
    unfold vnth at h
    rw [fnth_eq] at h
    by_cases hi : i / 16 = 0
    · unfold vset
      rw [fnth_eq, hi]
      simp only [xnth]
      rw [fset_eq, fset_eq, show i % 16 = i by omega]
      simp [vok]
    · obtain ⟨k, hk⟩ : ∃ k, i / 16 = k + 1 := ⟨i / 16 - 1, by omega⟩
      rw [hk] at h
      simp [xnth] at h
  | a :: b :: l, i, v, w, hw, h => by
    by_cases hi : i < 16
    · unfold vset
      rw [fnth_eq, show i / 16 = 0 by omega]
      simp only [xnth]
      rw [fset_eq, fset_eq, show i % 16 = i by omega]
      refine ⟨?_, ?_⟩
      · simp only [List.set_cons_zero, List.flatten_cons]
        rw [List.set_append_left _ _ (by rw [hw.1]; exact hi)]
      · simp only [List.set_cons_zero]
        exact ⟨by simpa using hw.1, hw.2⟩
    · have h2 : vnth (b :: l) (i - 16) = some w := by
        unfold vnth at h ⊢
        rw [fnth_eq] at h ⊢
        rw [show i / 16 = (i - 16) / 16 + 1 by omega, show i % 16 = (i - 16) % 16 by omega] at h
        exact h
      obtain ⟨h3, h4⟩ := vset_eq (v := v) hw.2 h2
      have h5 : vset (a :: b :: l) i v = a :: vset (b :: l) (i - 16) v := by
        unfold vset
        rw [fnth_eq, fnth_eq, show i / 16 = (i - 16) / 16 + 1 by omega, show i % 16 = (i - 16) % 16 by omega]
        simp only [xnth]
        cases xnth (b :: l) ((i - 16) / 16) with
        | none => rfl
        | some c =>
          dsimp only
          rw [fset_eq, fset_eq, fset_eq]
          rfl
      rw [h5]
      refine ⟨?_, ?_⟩
      · rw [List.flatten_cons, h3]
        show a ++ (b :: l).flatten.set (i - 16) v = (a ++ (b :: l).flatten).set i v
        rw [List.set_append_right _ _ (by rw [hw.1]; omega), hw.1]
      · cases h6 : vset (b :: l) (i - 16) v with
        | nil => trivial
        | cons x y => rw [h6] at h4; exact ⟨hw.1, h4⟩
noncomputable def warr (Z : wM) (a k : Nat) : Option (List (List Value)) := @Option.rec wO (fun _ => Option (List (List Value))) none (fun o => @Bool.rec (fun _ => Option (List (List Value))) none (some o.2) (Nat.beq o.1 k)) (vnth Z a)
theorem warr_eq {Z : wM} {a k : Nat} {cs : List (List Value)} (hw : wwf Z) (h : warr Z a k = some cs) : xarr (wfl Z) a k = some cs.flatten ∧ wok cs ∧ vnth Z a = some (k, cs) := by
  unfold warr at h
  cases h1 : vnth Z a with
  | none => rw [h1] at h; cases h
  | some o =>
    rw [h1] at h
    cases hk : Nat.beq o.1 k with
    | false => simp only [hk] at h; cases h
    | true =>
      simp only [hk] at h
      cases h
      have e := Nat.eq_of_beq_eq_true hk
      subst e
      have h2 := vnth_eq hw.1 h1
      refine ⟨?_, hw.2 o (by rw [xnth_eq] at h2; exact List.mem_of_getElem? h2), rfl⟩
      unfold xarr wfl
      rw [xnth_map, h2]
      simp
theorem wfl_set {Z : wM} {a k : Nat} {o : wO} {cs : List (List Value)} (hw : wwf Z) (h : vnth Z a = some o) : wfl (vset Z a (k, cs)) = (wfl Z).set a (k, cs.flatten) := by
  unfold wfl
  rw [(vset_eq (v := (k, cs)) hw.1 h).1, List.map_set]
theorem wwf_set {Z : wM} {a k : Nat} {o : wO} {cs : List (List Value)} (hw : wwf Z) (h : vnth Z a = some o) (hc : wok cs) : wwf (vset Z a (k, cs)) := by
  obtain ⟨h1, h2⟩ := vset_eq (v := (k, cs)) hw.1 h
  refine ⟨h2, ?_⟩
  intro o ho
  rw [h1] at ho
  rcases List.mem_or_eq_of_mem_set ho with h | h
  · exact hw.2 o h
  · subst h; exact hc
noncomputable def wald (k : Nat) (pc : Nat) (L : xL) (st : List Value) (Z : wM) : Option wC := match st with
  | .int j :: .ref a :: r => match warr Z a k with
    | some cs => bif Nat.blt (fpl j) 2147483648 then (match wnth cs (fpl j) with
      | some v => some (pc + 1, L, v :: r, Z)
      | none => none) else none
    | none => none
  | _ => none
noncomputable def wast (k : Nat) (g : Value → Option Value) (pc : Nat) (L : xL) (st : List Value) (Z : wM) : Option wC := match st with
  | v :: .int j :: .ref a :: r => match g v with
    | some w => match warr Z a k with
      | some cs => bif Nat.blt (fpl j) 2147483648 then (match wnth cs (fpl j) with
        | some _ => some (pc + 1, L, r, vset Z a (k, wset cs (fpl j) w))
        | none => none) else none
      | none => none
    | none => none
  | _ => none
noncomputable def wget (ci k pc : Nat) (L : xL) (st : List Value) (Z : wM) : Option wC := match st with
  | .ref a :: r => match warr Z a ci with
    | some cs => match wnth cs k with
      | some v => some (pc + 3, L, v :: r, Z)
      | none => none
    | none => none
  | _ => none
noncomputable def wput (ci k pc : Nat) (L : xL) (st : List Value) (Z : wM) : Option wC := match st with
  | .float u :: .ref a :: r => (match xty ci k with
    | .int => (match warr Z a ci with
      | some cs => (match wnth cs k with
        | some _ => some (pc + 3, L, r, vset Z a (ci, wset cs k (.float u)))
        | none => none)
      | none => none)
    | _ => none)
  | v :: .ref a :: r => bif xfit (xty ci k) v then (match warr Z a ci with
    | some cs => (match wnth cs k with
      | some _ => some (pc + 3, L, r, vset Z a (ci, wset cs k v))
      | none => none)
    | none => none) else none
  | _ => none
noncomputable def wlen (sa : List Value) (pc : Nat) (L : xL) (st : List Value) (Z : wM) : Option wC := match st with
  | .retAddr 0 :: r => (match ysc sa with
    | some sl => some (pc + 1, L, .int (Int32.ofNat sl.length) :: r, Z)
    | none => none)
  | .ref a :: r => (match vnth Z a with
    | some o => bif Nat.beq o.1 20 || Nat.beq o.1 22 then some (pc + 1, L, .int (Int32.ofNat o.2.flatten.length) :: r, Z) else none
    | none => none)
  | _ => none
def wchk (f : Nat) : List Value → List (List Value) := @Nat.rec (fun _ => List Value → List (List Value)) (fun l => [l]) (fun _ ih l => match l with
  | [] => []
  | _ :: _ => bif Nat.ble l.length 64 then [l] else l.take 64 :: ih (l.drop 64)) f
theorem wchk_ok : ∀ (f : Nat) (l : List Value), (wchk f l).flatten = l ∧ wok (wchk f l)
  | 0, l => ⟨by show [l].flatten = l; simp, trivial⟩
  | f + 1, [] => by simp [wchk, wok]
  | f + 1, a :: l => by
    have ih := wchk_ok f ((a :: l).drop 64)
    have e : wchk (f + 1) (a :: l) = bif Nat.ble (a :: l).length 64 then [a :: l] else (a :: l).take 64 :: wchk f ((a :: l).drop 64) := rfl
    rw [e]
    cases h : Nat.ble (a :: l).length 64 with
    | true => simp [wok]
    | false =>
      simp only [cond_false]
      refine ⟨?_, ?_⟩
      · rw [List.flatten_cons, ih.1, List.take_append_drop]
      · have hl : ((a :: l).take 64).length = 64 := by
          rw [List.length_take]
          have : ¬ (a :: l).length ≤ 64 := fun q => by rw [Nat.ble_eq.mpr q] at h; cases h
          omega
        cases h6 : wchk f ((a :: l).drop 64) with
        | nil => trivial
        | cons x y => rw [h6] at ih; exact ⟨hl, ih.2⟩
noncomputable def wacopy (k pc : Nat) (L : xL) (n dp sp : Int32) (d s : Nat) (r : List Value) (Z : wM) : Option wC := match warr Z s k with
  | some cs => match warr Z d k with
    | some cd => bif decide (sp < 0) || decide (dp < 0) || decide (n < 0) || Nat.blt cs.flatten.length (sp.toNatClampNeg + n.toNatClampNeg) || Nat.blt cd.flatten.length (dp.toNatClampNeg + n.toNatClampNeg) then none
      else some (pc + 3, L, r, vset Z d (k, wchk 1000 (xcpy cs.flatten cd.flatten sp.toNatClampNeg dp.toNatClampNeg n.toNatClampNeg)))
    | none => none
  | none => none
noncomputable def wcopy (pc : Nat) (L : xL) (st : List Value) (Z : wM) : Option wC := match st with
  | .int n :: .int dp :: .ref d :: .int sp :: .ref s :: r => bif xcat8 r then (match vnth Z d with
    | some o => bif Nat.beq o.1 20 then wacopy 20 pc L n dp sp d s r Z else wacopy 22 pc L n dp sp d s r Z
    | none => none) else none
  | _ => none
noncomputable def wlift (g : zF) : wF := fun bx sa pc L st Z => @Option.rec xC (fun _ => Option wC) none (fun q => some (q.1, q.2.1, q.2.2.1, Z)) (g bx sa pc L st [])
def wq (q : wC) : xC := (q.1, q.2.1, q.2.2.1, wfl q.2.2.2)
section WM
variable {pc : Nat} {L : xL} {st : List Value} {Z : wM} {q : wC}
theorem wblt {j : Int32} (h : Nat.blt (fpl j) 2147483648 = true) : ¬ j < 0 := fun q => by rw [fblt_no q] at h; cases h
theorem wald_ok {k : Nat} (hw : wwf Z) (h : wald k pc L st Z = some q) : xald k pc L st (wfl Z) = some (wq q) ∧ wwf q.2.2.2 := by
  unfold wald at h
  split at h
  · rename_i j a r
    split at h
    · rename_i cs hcs
      obtain ⟨h1, h2, h3⟩ := warr_eq hw hcs
      cases hb : Nat.blt (fpl j) 2147483648 with
      | false => simp [hb] at h
      | true =>
        simp only [hb, cond_true] at h
        have hj := wblt hb
        split at h
        · rename_i v hv
          cases h
          have h4 := wnth_eq h2 hv
          rw [fpl_pos hj] at h4
          refine ⟨?_, hw⟩
          unfold xald
          dsimp only
          rw [h1]
          dsimp only
          rw [xix_yes hj (flen_some h4)]
          dsimp only
          rw [h4]
          rfl
        · cases h
    · cases h
  · cases h
theorem wast_ok {k : Nat} {g : Value → Option Value} (hw : wwf Z) (h : wast k g pc L st Z = some q) : xast k g pc L st (wfl Z) = some (wq q) ∧ wwf q.2.2.2 := by
  unfold wast at h
  split at h
  · rename_i v j a r
    split at h
    · rename_i w hg
      split at h
      · rename_i cs hcs
        obtain ⟨h1, h2, h3⟩ := warr_eq hw hcs
        cases hb : Nat.blt (fpl j) 2147483648 with
        | false => simp [hb] at h
        | true =>
          simp only [hb, cond_true] at h
          have hj := wblt hb
          split at h
          · rename_i v0 hv
            cases h
            have h4 := wnth_eq h2 hv
            obtain ⟨h5, h6⟩ := wset_eq (v := w) h2 hv
            rw [fpl_pos hj] at h4
            refine ⟨?_, wwf_set hw h3 h6⟩
            unfold xast
            dsimp only
            rw [hg]
            dsimp only
            rw [h1]
            dsimp only
            rw [xix_yes hj (flen_some h4)]
            dsimp only
            unfold wq xwr
            dsimp only
            rw [wfl_set hw h3, h5, fpl_pos hj]
          · cases h
      · cases h
    · cases h
  · cases h
theorem wget_ok {ci k : Nat} (hw : wwf Z) (h : wget ci k pc L st Z = some q) : xget ci k pc L st (wfl Z) = some (wq q) ∧ wwf q.2.2.2 := by
  unfold wget at h
  split at h
  · split at h
    · rename_i cs hcs
      obtain ⟨h1, h2, h3⟩ := warr_eq hw hcs
      split at h
      · rename_i v hv
        cases h
        refine ⟨?_, hw⟩
        unfold xget
        dsimp only
        rw [h1]
        dsimp only
        rw [wnth_eq h2 hv]
        rfl
      · cases h
    · cases h
  · cases h
end WM
