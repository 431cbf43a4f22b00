/-! STEPS WITHOUT MEMORY, AND THE OTHERS OVER CHUNKS -/
def xsm (M : xM) (o : Option xC) : Option xC := match o with
  | some q => some (q.1, q.2.1, q.2.2.1, M)
  | none => none
noncomputable def wl (Z : wM) (o : Option xC) : Option wC := @Option.rec xC (fun _ => Option wC) none (fun q => some (q.1, q.2.1, q.2.2.1, Z)) o
section HM
variable {bx : List (Int × Int)} {sa : List Value} {pc : Nat} {L : xL} {st : List Value} {M : xM}
theorem hm_fl1 {n i : Nat} : fl1 n pc i L st M = xsm M (fl1 n pc i L st []) := by
  unfold fl1
  cases ffind L i with
  | none => rfl
  | some v => cases v <;> rfl
theorem hm_fl2 {n i : Nat} : fl2 n pc i L st M = xsm M (fl2 n pc i L st []) := by
  unfold fl2
  cases ffind L i with
  | none => rfl
  | some v => cases v <;> rfl
theorem hm_fpA {n i : Nat} : fpA n pc i L st M = xsm M (fpA n pc i L st []) := by
  unfold fpA
  cases ffind L i with
  | none => rfl
  | some v =>
    cases v with
    | retAddr k => cases k <;> rfl
    | _ => rfl
theorem hm_finc {i : Nat} {n : Int} : finc i n pc L st M = xsm M (finc i n pc L st []) := by
  unfold finc
  cases ffind L i with
  | none => rfl
  | some v => cases v <;> rfl
theorem hm_fs1 {n i : Nat} : fs1 n pc i L st M = xsm M (fs1 n pc i L st []) := by
  rcases st with _ | ⟨v, st⟩
  · rfl
  · cases v <;> rfl
theorem hm_fs2 {n i : Nat} : fs2 n pc i L st M = xsm M (fs2 n pc i L st []) := by
  rcases st with _ | ⟨v, st⟩
  · rfl
  · cases v <;> rfl
theorem hm_fsA {n i : Nat} : fsA n pc i L st M = xsm M (fsA n pc i L st []) := by
  rcases st with _ | ⟨v, st⟩
  · rfl
  · cases v <;> rfl
theorem hm_yii {g : Int32 → Int32 → Int32} : yii g pc L st M = xsm M (yii g pc L st []) := by
  rcases st with _ | ⟨v, _ | ⟨w, st⟩⟩
  · rfl
  · cases v <;> rfl
  · cases v <;> cases w <;> rfl
theorem hm_xii {g : Int32 → Int32 → Int32} : xii g pc L st M = xsm M (xii g pc L st []) := by
  rcases st with _ | ⟨v, _ | ⟨w, st⟩⟩
  · rfl
  · cases v <;> rfl
  · cases v <;> cases w <;> rfl
theorem hm_yll {g : Int64 → Int64 → Int64} : yll g pc L st M = xsm M (yll g pc L st []) := by
  rcases st with _ | ⟨v, _ | ⟨w, st⟩⟩
  · rfl
  · cases v <;> rfl
  · cases v <;> cases w <;> rfl
theorem hm_xll {g : Int64 → Int64 → Int64} : xll g pc L st M = xsm M (xll g pc L st []) := by
  rcases st with _ | ⟨v, _ | ⟨w, st⟩⟩
  · rfl
  · cases v <;> rfl
  · cases v <;> cases w <;> rfl
theorem hm_yli {g : Int64 → Int32 → Int64} : yli g pc L st M = xsm M (yli g pc L st []) := by
  rcases st with _ | ⟨v, _ | ⟨w, st⟩⟩
  · rfl
  · cases v <;> rfl
  · cases v <;> cases w <;> rfl
theorem hm_xli {g : Int64 → Int32 → Int64} : xli g pc L st M = xsm M (xli g pc L st []) := by
  rcases st with _ | ⟨v, _ | ⟨w, st⟩⟩
  · rfl
  · cases v <;> rfl
  · cases v <;> cases w <;> rfl
theorem hm_yi {g : Int32 → Int32} : yi g pc L st M = xsm M (yi g pc L st []) := by
  rcases st with _ | ⟨v, st⟩
  · rfl
  · cases v <;> rfl
theorem hm_xi {g : Int32 → Int32} : xi g pc L st M = xsm M (xi g pc L st []) := by
  rcases st with _ | ⟨v, st⟩
  · rfl
  · cases v <;> rfl
theorem hm_yadd : yadd bx pc L st M = xsm M (yadd bx pc L st []) := by
  rcases st with _ | ⟨v, _ | ⟨w, st⟩⟩
  · rfl
  · cases v <;> rfl
  · cases v <;> cases w <;> first | rfl | (simp only [yadd, cond_eq_ite]; split <;> rfl)
theorem hm_ysub : ysub bx pc L st M = xsm M (ysub bx pc L st []) := by
  rcases st with _ | ⟨v, _ | ⟨w, st⟩⟩
  · rfl
  · cases v <;> rfl
  · cases v <;> cases w <;> first | rfl | (simp only [ysub, cond_eq_ite]; split <;> rfl)
theorem hm_yand : yand pc L st M = xsm M (yand pc L st []) := by
  rcases st with _ | ⟨v, _ | ⟨w, st⟩⟩
  · rfl
  · cases v <;> rfl
  · cases v <;> cases w <;> first | rfl | (rename_i n; cases n <;> first | rfl | (simp only [yand, cond_eq_ite]; split <;> rfl))
theorem hm_zdiv : zdiv bx sa pc L st M = xsm M (zdiv bx sa pc L st []) := by
  rcases st with _ | ⟨v, _ | ⟨w, st⟩⟩
  · rfl
  · cases v <;> rfl
  · cases v <;> cases w <;> first | rfl | (simp only [zdiv, cond_eq_ite]; split <;> rfl)
theorem hm_zrem : zrem bx sa pc L st M = xsm M (zrem bx sa pc L st []) := by
  rcases st with _ | ⟨v, _ | ⟨w, st⟩⟩
  · rfl
  · cases v <;> rfl
  · cases v <;> cases w <;> first | rfl | (simp only [zrem, cond_eq_ite]; split <;> rfl)
theorem hm_zldiv : zldiv bx sa pc L st M = xsm M (zldiv bx sa pc L st []) := by
  rcases st with _ | ⟨v, _ | ⟨w, st⟩⟩
  · rfl
  · cases v <;> rfl
  · cases v <;> cases w <;> first | rfl | (simp only [zldiv, cond_eq_ite]; split <;> rfl)
theorem hm_zlrem : zlrem bx sa pc L st M = xsm M (zlrem bx sa pc L st []) := by
  rcases st with _ | ⟨v, _ | ⟨w, st⟩⟩
  · rfl
  · cases v <;> rfl
  · cases v <;> cases w <;> first | rfl | (simp only [zlrem, cond_eq_ite]; split <;> rfl)
theorem hm_zi2l : zi2l bx sa pc L st M = xsm M (zi2l bx sa pc L st []) := by
  rcases st with _ | ⟨v, st⟩
  · rfl
  · cases v <;> rfl
theorem hm_zl2i : zl2i bx sa pc L st M = xsm M (zl2i bx sa pc L st []) := by
  rcases st with _ | ⟨v, st⟩
  · rfl
  · cases v <;> rfl
theorem hm_zlcm : zlcm bx sa pc L st M = xsm M (zlcm bx sa pc L st []) := by
  rcases st with _ | ⟨v, _ | ⟨w, st⟩⟩
  · rfl
  · cases v <;> rfl
  · cases v <;> cases w <;> first | rfl | (simp only [zlcm, cond_eq_ite]; repeat' split) <;> rfl
theorem hm_zdup : zdup bx sa pc L st M = xsm M (zdup bx sa pc L st []) := by
  rcases st with _ | ⟨v, st⟩
  · rfl
  · simp only [zdup, cond_eq_ite]
    split <;> rfl
theorem hm_zdup2 : zdup2 bx sa pc L st M = xsm M (zdup2 bx sa pc L st []) := by
  rcases st with _ | ⟨v, _ | ⟨w, st⟩⟩
  · rfl
  · rfl
  · simp only [zdup2, cond_eq_ite]
    repeat' split
    all_goals rfl
theorem hm_zpop : zpop bx sa pc L st M = xsm M (zpop bx sa pc L st []) := by
  rcases st with _ | ⟨v, st⟩
  · rfl
  · simp only [zpop, cond_eq_ite]
    split <;> rfl
theorem hm_ydec {c : ClassFile.Cond} {t : Nat} {r : List Value} {o : Option (Int × Int × Int × Int)} : (match o with
    | some q => match ydec c q.1 q.2.1 q.2.2.1 q.2.2.2 with
      | some b => some (bif b then t else pc + 3, L, r, M)
      | none => none
    | none => (none : Option xC)) = xsm M (match o with
    | some q => match ydec c q.1 q.2.1 q.2.2.1 q.2.2.2 with
      | some b => some (bif b then t else pc + 3, L, r, [])
      | none => none
    | none => (none : Option xC)) := by
  cases o with
  | none => rfl
  | some q =>
    dsimp only
    cases ydec c q.1 q.2.1 q.2.2.1 q.2.2.2 <;> rfl
theorem hm_fic {c : ClassFile.Cond} {t : Nat} : fic c t bx pc L st M = xsm M (fic c t bx pc L st []) := by
  rcases st with _ | ⟨v, _ | ⟨w, st⟩⟩
  · rfl
  · cases v <;> rfl
  · cases v <;> cases w <;> first | exact hm_ydec | rfl
theorem hm_fif {c : ClassFile.Cond} {t : Nat} : fif c t bx pc L st M = xsm M (fif c t bx pc L st []) := by
  rcases st with _ | ⟨v, st⟩
  · rfl
  · cases v <;> first | exact hm_ydec | rfl
theorem hm_xsw {d lo hi : Int} {offs : Array Int} : xsw d lo hi offs pc L st M = xsm M (xsw d lo hi offs pc L st []) := by
  rcases st with _ | ⟨v, st⟩
  · rfl
  · cases v <;> first | rfl | (simp only [xsw, cond_eq_ite]; repeat' split) <;> rfl
theorem hm_zsw {d lo hi : Int} {offs : Array Int} : zsw d lo hi offs bx sa pc L st M = xsm M (zsw d lo hi offs bx sa pc L st []) := by
  rcases st with _ | ⟨v, st⟩
  · rfl
  · cases v <;> first | (simp only [zsw]; exact hm_xsw) | ((simp only [zsw, cond_eq_ite]; repeat' split) <;> rfl)
theorem hm_xmath {g : Int32 → Int32 → Int32} : xmath g pc L st M = xsm M (xmath g pc L st []) := by
  rcases st with _ | ⟨v, _ | ⟨w, st⟩⟩
  · rfl
  · cases v <;> rfl
  · cases v <;> cases w <;> first | rfl | (simp only [xmath, cond_eq_ite]; split <;> rfl)
theorem hm_zabs : zabs bx sa pc L st M = xsm M (zabs bx sa pc L st []) := by
  rcases st with _ | ⟨v, st⟩
  · rfl
  · cases v <;> first | rfl | (simp only [zabs, cond_eq_ite]; split <;> rfl)
end HM
theorem wl_ok {Z : wM} {q : wC} {F : xM → Option xC} (hw : wwf Z) (hF : ∀ M, F M = xsm M (F [])) (h : wl Z (F []) = some q) : F (wfl Z) = some (wq q) ∧ wwf q.2.2.2 := by
  rw [hF]
  cases h0 : F [] with
  | none => rw [h0] at h; cases h
  | some p => rw [h0] at h; cases h; exact ⟨rfl, hw⟩
noncomputable def wiald (sa : List Value) (pc : Nat) (L : xL) (st : List Value) (Z : wM) : Option wC := match st with
  | .int j :: .retAddr 0 :: r => match ysc sa with
    | some sl => (match xix j sl.length with
      | some i => (match xnth sl i with
        | some v => some (pc + 1, L, v :: r, Z)
        | none => none)
      | none => none)
    | none => none
  | _ => wald 20 pc L st Z
noncomputable def waald (pc : Nat) (L : xL) (st : List Value) (Z : wM) : Option wC := match wald 23 pc L st Z with
  | some q => some q
  | none => wald 24 pc L st Z
section WN
variable {pc : Nat} {L : xL} {st : List Value} {Z : wM} {q : wC}
theorem wiald_ok {sa : List Value} (hw : wwf Z) (h : wiald sa pc L st Z = some q) : fiald sa pc L st (wfl Z) = some (wq q) ∧ wwf q.2.2.2 := by
  unfold wiald at h
  split at h
  · rename_i j r
    have hf : fiald sa pc L (.int j :: .retAddr 0 :: r) (wfl Z) = (match ysc sa with
      | some sl => (match xix j sl.length with
        | some i => (match xnth sl i with
          | some v => some (pc + 1, L, v :: r, wfl Z)
          | none => none)
        | none => none)
      | none => none) := rfl
    try rw [hf]
    split at h
    · rename_i sl hsl
      try rw [hsl]
      try dsimp only
      split at h
      · rename_i i hi
        try rw [hi]
        try dsimp only
        split at h
        · rename_i v hv
          try rw [hv]
          cases h
          exact ⟨rfl, hw⟩
        · cases h
      · cases h
    · cases h
  · rename_i hno
    have h2 := wald_ok hw h
    unfold fiald
    split
    · exact (hno _ _ rfl).elim
    · rw [fald_eq]
      exact h2
theorem xarr_two {M : xM} {a j k : Nat} {sl : List Value} (h : xarr M a j = some sl) (hne : j ≠ k) : xarr M a k = none := by
  unfold xarr at h ⊢
  cases h1 : xnth M a with
  | none => rfl
  | some o =>
    rw [h1] at h
    dsimp only at h ⊢
    cases hb : Nat.beq o.1 j with
    | false => rw [hb] at h; cases h
    | true =>
      have e := Nat.eq_of_beq_eq_true hb
      cases hc : Nat.beq o.1 k with
      | false => rfl
      | true => exact (hne (e.symm.trans (Nat.eq_of_beq_eq_true hc))).elim
theorem xald_two {M : xM} {j k : Nat} {q : xC} (h : xald j pc L st M = some q) (hne : j ≠ k) : xald k pc L st M = none := by
  unfold xald at h ⊢
  split at h
  · try dsimp only
    split at h
    · rename_i sl hsl
      rw [xarr_two hsl hne]
    · cases h
  · cases h
theorem waald_ok (hw : wwf Z) (h : waald pc L st Z = some q) : (match xald 23 pc L st (wfl Z) with
    | some q => some q
    | none => xald 24 pc L st (wfl Z)) = some (wq q) ∧ wwf q.2.2.2 := by
  unfold waald at h
  split at h
  · rename_i p hp
    cases h
    obtain ⟨h1, h2⟩ := wald_ok hw hp
    rw [h1]
    exact ⟨rfl, h2⟩
  · obtain ⟨h1, h2⟩ := wald_ok hw h
    rw [xald_two h1 (by decide : (24 : Nat) ≠ 23)]
    exact ⟨h1, h2⟩
theorem wput_ok {ci k : Nat} (hw : wwf Z) (h : wput ci k pc L st Z = some q) : fputf ci k pc L st (wfl Z) = some (wq q) ∧ wwf q.2.2.2 := by
  unfold wput at h
  split at h
  · rename_i u a r
    split at h
    · rename_i hty
      split at h
      · rename_i cs hcs
        obtain ⟨h1, h2, h3⟩ := warr_eq hw hcs
        split at h
        · rename_i v0 hv
          cases h
          have h4 := wnth_eq h2 hv
          obtain ⟨h5, h6⟩ := wset_eq (v := .float u) h2 hv
          refine ⟨?_, wwf_set hw h3 h6⟩
          unfold fputf
          dsimp only
          rw [hty]
          dsimp only
          rw [h1]
          dsimp only
          rw [Nat.blt_eq.mpr (flen_some h4)]
          simp only [cond_true]
          unfold wq xwr
          dsimp only
          rw [wfl_set hw h3, h5]
        · cases h
      · cases h
    · cases h
  · rename_i v a r hno
    cases hf : xfit (xty ci k) v with
    | false => rw [hf] at h; cases h
    | true =>
      rw [hf] at h
      simp only [cond_true] at h
      split at h
      · rename_i cs hcs
        obtain ⟨h1, h2, h3⟩ := warr_eq hw hcs
        split at h
        · rename_i v0 hv
          cases h
          have h4 := wnth_eq h2 hv
          obtain ⟨h5, h6⟩ := wset_eq (v := v) h2 hv
          refine ⟨?_, wwf_set hw h3 h6⟩
          unfold fputf
          split
          · rename_i heq
            cases heq
            exact (hno _ rfl).elim
          · rw [fput_eq]
            unfold xput
            dsimp only
            rw [hf]
            simp only [cond_true]
            rw [h1]
            dsimp only
            rw [Nat.blt_eq.mpr (flen_some h4)]
            simp only [cond_true]
            unfold wq xwr
            dsimp only
            rw [wfl_set hw h3, h5]
        · cases h
      · cases h
  · cases h
theorem wlen_ok {bx : List (Int × Int)} {sa : List Value} (hw : wwf Z) (h : wlen sa pc L st Z = some q) : zalen bx sa pc L st (wfl Z) = some (wq q) ∧ wwf q.2.2.2 := by
  unfold wlen at h
  split at h
  · split at h
    · rename_i sl hsl
      cases h
      refine ⟨?_, hw⟩
      unfold zalen
      try dsimp only
      rw [hsl]
      rfl
    · cases h
  · split at h
    · rename_i a r o ho
      have ho2 := vnth_eq hw.1 ho
      cases hb : (Nat.beq o.1 20 || Nat.beq o.1 22) with
      | false => rw [hb] at h; cases h
      | true =>
        rw [hb] at h
        cases h
        refine ⟨?_, hw⟩
        unfold zalen
        dsimp only
        unfold xlen
        dsimp only
        unfold wfl
        rw [xnth_map, ho2]
        simp only [Option.map_some, hb, cond_true]
        rfl
    · cases h
  · cases h
theorem wacopy_ok {k d s : Nat} {n dp sp : Int32} {r : List Value} (hw : wwf Z) (h : wacopy k pc L n dp sp d s r Z = some q) : xacopy k pc L n dp sp d s r (wfl Z) = some (wq q) ∧ wwf q.2.2.2 ∧ ∃ sl, xarr (wfl Z) s k = some sl := by
  unfold wacopy at h
  split at h
  · rename_i cs hcs
    obtain ⟨h1, h2, h3⟩ := warr_eq hw hcs
    split at h
    · rename_i cd hcd
      obtain ⟨g1, g2, g3⟩ := warr_eq hw hcd
      unfold xacopy
      rw [h1]
      dsimp only
      rw [g1]
      dsimp only
      revert h
      generalize (decide (sp < 0) || decide (dp < 0) || decide (n < 0) || Nat.blt cs.flatten.length (sp.toNatClampNeg + n.toNatClampNeg) || Nat.blt cd.flatten.length (dp.toNatClampNeg + n.toNatClampNeg)) = b
      intro h
      cases b with
      | true => cases h
      | false =>
        simp only [cond_false] at h ⊢
        cases h
        obtain ⟨k1, k2⟩ := wchk_ok 1000 (xcpy cs.flatten cd.flatten sp.toNatClampNeg dp.toNatClampNeg n.toNatClampNeg)
        refine ⟨?_, wwf_set hw g3 k2, _, rfl⟩
        unfold wq
        dsimp only
        rw [wfl_set hw g3, k1]
    · cases h
  · cases h
theorem wcopy_ok (hw : wwf Z) (h : wcopy pc L st Z = some q) : xcopy pc L st (wfl Z) = some (wq q) ∧ wwf q.2.2.2 := by
  unfold wcopy at h
  split at h
  · rename_i n dp d sp s r
    unfold xcopy
    dsimp only
    cases hc : xcat8 r with
    | false => rw [hc] at h; cases h
    | true =>
      rw [hc] at h
      simp only [cond_true] at h ⊢
      split at h
      · rename_i o ho
        cases hb : Nat.beq o.1 20 with
        | true =>
          rw [hb] at h
          obtain ⟨h1, h2, -⟩ := wacopy_ok hw h
          rw [h1]
          exact ⟨rfl, h2⟩
        | false =>
          rw [hb] at h
          obtain ⟨h1, h2, sl, h3⟩ := wacopy_ok hw h
          have h4 : xacopy 20 pc L n dp sp d s r (wfl Z) = none := by
            unfold xacopy
            rw [xarr_two h3 (by decide : (22 : Nat) ≠ 20)]
          rw [h4]
          exact ⟨h1, h2⟩
      · cases h
  · cases h
end WN
