section XS2
variable {p : Program} {l : Launch} {e : Env} {R : Room} {s : State} {m : MethodId} {args : Array Value} {below : List Frame} {meth : Method} {c : Code} {H : Heap} {locs : List Loc} {cells slots : Nat} {Q : State → Prop}
variable {cc : ByteArray} {nL : Nat} {own : String} {D : va_G} {H0 : Heap} {b : Nat → Nat} {sc : List Int32} {as : List Nat} {tys : List (ClassId × FieldType)} {M : xM} {L lv : xL} {ls : Array Slot} {pc : Nat} {st st0 : List Value} {q : xC}
theorem xre20 {sl : List Value} {E : va_E} (h : xre b as tys (20, sl) E) : ∃ (cA : ClassId) (t0 : Nat) (f : Nat → Int32), tys[t0]? = some (cA, .int) ∧ E = .inl (cA, sl.length, .inl f) ∧ ∀ (j : Nat) (v : Value), sl[j]? = some v → v = .int (f j) := by
  rcases h with ⟨_, h⟩ | ⟨h0, _⟩ | ⟨h0, _⟩ | ⟨h0, _⟩ | ⟨h0, _⟩ | ⟨h0, _⟩
  all_goals first | exact h | (simp at h0)
theorem xre21 {sl : List Value} {E : va_E} (h : xre b as tys (21, sl) E) : ∃ (cA : ClassId) (t0 : Nat) (f : Nat → Int32), tys[t0]? = some (cA, .byte) ∧ E = .inl (cA, sl.length, .inl f) ∧ ∀ (j : Nat) (v : Value), sl[j]? = some v → v = .int (f j) := by
  rcases h with ⟨h0, _⟩ | ⟨_, h⟩ | ⟨h0, _⟩ | ⟨h0, _⟩ | ⟨h0, _⟩ | ⟨h0, _⟩
  all_goals first | exact h | (simp at h0)
theorem xre22 {sl : List Value} {E : va_E} (h : xre b as tys (22, sl) E) : ∃ (cA : ClassId) (t0 : Nat) (f : Nat → Int64), tys[t0]? = some (cA, .long) ∧ E = .inl (cA, sl.length, .inr (.inl f)) ∧ ∀ (j : Nat) (v : Value), sl[j]? = some v → v = .long (f j) := by
  rcases h with ⟨h0, _⟩ | ⟨h0, _⟩ | ⟨_, h⟩ | ⟨h0, _⟩ | ⟨h0, _⟩ | ⟨h0, _⟩
  all_goals first | exact h | (simp at h0)
theorem xre23 {sl : List Value} {E : va_E} (h : xre b as tys (23, sl) E) : ∃ (cA : ClassId) (t0 : Nat) (f : Nat → Option Nat), tys[t0]? = some (cA, .object "LaterPrints$World") ∧ E = .inl (cA, sl.length, .inr (.inr (.inr (.inr f)))) ∧ ∀ (j : Nat) (v : Value), sl[j]? = some v → xrv b as v (va_rf (f j)) := by
  rcases h with ⟨h0, _⟩ | ⟨h0, _⟩ | ⟨h0, _⟩ | ⟨_, h⟩ | ⟨h0, _⟩ | ⟨h0, _⟩
  all_goals first | exact h | (simp at h0)
theorem xre24 {sl : List Value} {E : va_E} (h : xre b as tys (24, sl) E) : ∃ (cA : ClassId) (t0 : Nat) (f : Nat → Option Nat), tys[t0]? = some (cA, .array .long) ∧ E = .inl (cA, sl.length, .inr (.inr (.inr (.inr f)))) ∧ ∀ (j : Nat) (v : Value), sl[j]? = some v → xrv b as v (va_rf (f j)) := by
  rcases h with ⟨h0, _⟩ | ⟨h0, _⟩ | ⟨h0, _⟩ | ⟨h0, _⟩ | ⟨_, h⟩ | ⟨h0, _⟩
  all_goals first | exact h | (simp at h0)
theorem xreO {k : Nat} (hk : k < 20) {sl : List Value} {E : va_E} (h : xre b as tys (k, sl) E) : ∃ fs : List Value, E = .inr (k, fs) ∧ xrs b as sl fs := by
  rcases h with ⟨h0, _⟩ | ⟨h0, _⟩ | ⟨h0, _⟩ | ⟨h0, _⟩ | ⟨h0, _⟩ | ⟨_, h⟩
  all_goals first | exact h | (simp at h0; omega)
theorem xs_iald (C : CallFix p m c cc nL s args xG own) (hX : xXX sc b s H0) (hbl : b 0 < H0.size) (hd : decode cc pc = .ok (.iaload, 1)) (h : xiald sc pc L st M = some q)
    (hl : lv_has ls nL lv) (hL : xrl b as L lv) (hs : xrs b as st st0) (hM : xSt D H0 b s as tys M H locs) (kk : xKK p l e R s m args below meth c cells slots Q D H0 b nL as M q) :
    W p l e R s m args below meth c H locs cells slots Q (F0 m pc ls st0) := by
  unfold xiald at h
  split at h
  · rename_i j r
    split at h
    · rename_i i hi
      cases h
      obtain ⟨v1, s1, rfl, h1, v2, s2, rfl, h2, h3⟩ := hs
      obtain rfl : v2 = .ref (b 0) := h2
      cases h1
      obtain ⟨g1, rfl, g3⟩ := xix_eq hi
      obtain ⟨ws, hK, hP, hD, hS, hm⟩ := id hM
      exact va_sld C.1 C.2.1 hX.1 hbl (by omega) hS g1 hd (kk.same rfl rfl hl hL ⟨_, _, rfl, rfl, h3⟩ hM)
    · cases h
  · obtain ⟨ws, a0, i0, j, sl, r, r', v, E, hK, hP, hw, hE, g1, g2, rfl, rfl, h3⟩ := xi_ald h hs hM
    obtain ⟨cA, t0, f, ht, rfl, hf⟩ := xre20 hE
    rw [hf _ _ g2] at kk
    exact va_iald C.1 C.2.1 hK hP i0 t0 hw ht g1 hd (kk.same rfl rfl hl hL ⟨_, _, rfl, rfl, h3⟩ hM)
theorem xs_bald (C : CallFix p m c cc nL s args xG own) (hd : decode cc pc = .ok (.baload, 1)) (h : xald 21 pc L st M = some q)
    (hl : lv_has ls nL lv) (hL : xrl b as L lv) (hs : xrs b as st st0) (hM : xSt D H0 b s as tys M H locs) (kk : xKK p l e R s m args below meth c cells slots Q D H0 b nL as M q) :
    W p l e R s m args below meth c H locs cells slots Q (F0 m pc ls st0) := by
  obtain ⟨ws, a0, i0, j, sl, r, r', v, E, hK, hP, hw, hE, g1, g2, rfl, rfl, h3⟩ := xi_ald h hs hM
  obtain ⟨cA, t0, f, ht, rfl, hf⟩ := xre21 hE
  rw [hf _ _ g2] at kk
  exact va_bald C.1 C.2.1 hK hP i0 t0 hw ht g1 hd (kk.same rfl rfl hl hL ⟨_, _, rfl, rfl, h3⟩ hM)
theorem xs_lald (C : CallFix p m c cc nL s args xG own) (hd : decode cc pc = .ok (.laload, 1)) (h : xald 22 pc L st M = some q)
    (hl : lv_has ls nL lv) (hL : xrl b as L lv) (hs : xrs b as st st0) (hM : xSt D H0 b s as tys M H locs) (kk : xKK p l e R s m args below meth c cells slots Q D H0 b nL as M q) :
    W p l e R s m args below meth c H locs cells slots Q (F0 m pc ls st0) := by
  obtain ⟨ws, a0, i0, j, sl, r, r', v, E, hK, hP, hw, hE, g1, g2, rfl, rfl, h3⟩ := xi_ald h hs hM
  obtain ⟨cA, t0, f, ht, rfl, hf⟩ := xre22 hE
  rw [hf _ _ g2] at kk
  exact va_lald C.1 C.2.1 hK hP i0 t0 hw ht g1 hd (kk.same rfl rfl hl hL ⟨_, _, rfl, rfl, h3⟩ hM)
theorem va_aldA {ws : va_W} {a : Nat} {rest : List Value} (hexec : p.tables.exec = Jvm.exec) (hb : c.code = cc) (hK : va_K D xcl tys s) (hP : va_P D xcl ws H) (q0 t0 : Nat) {cA : ClassId} {ty : FieldType} (href : ty.isReference = true) {n : Nat} {f : Nat → Option Nat} (ha : ws[q0]? = some (a, .inl (cA, n, .inr (.inr (.inr (.inr f)))))) (ht : tys[t0]? = some (cA, ty)) {i : Int32} (hin : vp_in i n) (hdg : decode cc pc = .ok (.aaload, 1))
    (kk : W p l e R s m args below meth c H locs cells slots Q (F0 m (pc + 1) ls (va_rf (f i.toNatClampNeg) :: rest))) : W p l e R s m args below meth c H locs cells slots Q (F0 m pc ls (.int i :: .ref a :: rest)) := by
  have hlt : i.toNatClampNeg < n := Nat.not_le.mp fun q => hin (Or.inr q)
  exact W.aald (v := va_rf (f i.toNatClampNeg)) (ty := ty) hexec hb (hP q0 _ ha) ((hK.2 t0 _ ht).1 n (fun j => va_rf (f j))) href (fun q => by cases q) (by show ¬ (i < 0 ∨ (arrV _ _ _).slots.size ≤ _); rw [arrV_size]; exact hin) (by show (arrV _ _ _).slots[_]? = _; rw [arrV_read _ _ hlt]) rfl rfl hdg kk
theorem xs_aald (C : CallFix p m c cc nL s args xG own) (hd : decode cc pc = .ok (.aaload, 1)) (h : (match xald 23 pc L st M with | some q => some q | none => xald 24 pc L st M) = some q)
    (hl : lv_has ls nL lv) (hL : xrl b as L lv) (hs : xrs b as st st0) (hM : xSt D H0 b s as tys M H locs) (kk : xKK p l e R s m args below meth c cells slots Q D H0 b nL as M q) :
    W p l e R s m args below meth c H locs cells slots Q (F0 m pc ls st0) := by
  split at h
  · rename_i q' h'
    cases h
    obtain ⟨ws, a0, i0, j, sl, r, r', v, E, hK, hP, hw, hE, g1, g2, rfl, rfl, h3⟩ := xi_ald h' hs hM
    obtain ⟨cA, t0, f, ht, rfl, hf⟩ := xre23 hE
    exact va_aldA C.1 C.2.1 hK hP i0 t0 rfl hw ht g1 hd (kk.same rfl rfl hl hL ⟨_, _, rfl, hf _ _ g2, h3⟩ hM)
  · obtain ⟨ws, a0, i0, j, sl, r, r', v, E, hK, hP, hw, hE, g1, g2, rfl, rfl, h3⟩ := xi_ald h hs hM
    obtain ⟨cA, t0, f, ht, rfl, hf⟩ := xre24 hE
    exact va_aldA C.1 C.2.1 hK hP i0 t0 rfl hw ht g1 hd (kk.same rfl rfl hl hL ⟨_, _, rfl, hf _ _ g2, h3⟩ hM)
/-- a row is written -/
theorem xi_ast {k : Nat} {g : Value → Option Value} (h : xast k g pc L st M = some q) (hs : xrs b as st st0) (hM : xSt D H0 b s as tys M H locs) :
    ∃ (ws : va_W) (a0 i0 : Nat) (j : Int32) (sl r r' : List Value) (v v' w : Value) (E : va_E), va_K D xcl tys s ∧ va_P D xcl ws H ∧ va_D (fun q : Nat => H0.size ≤ q) ws ∧ va_S (fun q : Nat => H0.size ≤ q) H0 H locs ∧ xrm b as tys M ws ∧ M[i0]? = some (k, sl) ∧ ws[i0]? = some (a0, E) ∧ xre b as tys (k, sl) E ∧ vp_in j sl.length ∧ g v = some w ∧ xrv b as v v' ∧ q = (pc + 1, L, r, M.set i0 (k, sl.set j.toNatClampNeg w)) ∧ st0 = v' :: .int j :: .ref a0 :: r' ∧ xrs b as r r' := by
  unfold xast at h
  split at h
  · rename_i v j a r
    split at h
    · rename_i w hw0
      split at h
      · rename_i sl hsl
        split at h
        · rename_i i hi
          cases h
          obtain ⟨v0, s0, rfl, h0, v1, s1, rfl, h1, v2, s2, rfl, ⟨a0, ha, rfl⟩, h3⟩ := hs
          cases h1
          obtain ⟨ws, hK, hP, hD, hS, hm⟩ := hM
          obtain ⟨a1, E, hw, ha', hE⟩ := xrm_at hm (xarr_eq hsl)
          cases ha.symm.trans ha'
          obtain ⟨g1, g2, g3⟩ := xix_eq hi
          subst g2
          exact ⟨ws, a0, a, j, sl, r, s2, v, v0, w, E, hK, hP, hD, hS, hm, xarr_eq hsl, hw, hE, g1, hw0, h0, rfl, rfl, h3⟩
        · cases h
      · cases h
    · cases h
  · cases h
theorem xset_get {α : Type} {sl : List Value} {f : Nat → α} {mk : α → Value} {i : Nat} {x : α} (hf : ∀ (j : Nat) (v : Value), sl[j]? = some v → v = mk (f j)) : ∀ (j : Nat) (v : Value), (sl.set i (mk x))[j]? = some v → v = mk (if j = i then x else f j) := by
  intro j v hv
  rw [List.getElem?_set] at hv
  by_cases hij : i = j
  · subst hij
    simp at hv
    simp [← hv.2]
  · simp only [hij, if_false] at hv
    rw [if_neg (fun q => hij q.symm)]
    exact hf j v hv
theorem xs_iast (C : CallFix p m c cc nL s args xG own) (hd : decode cc pc = .ok (.iastore, 1)) (h : xast 20 xgI pc L st M = some q)
    (hl : lv_has ls nL lv) (hL : xrl b as L lv) (hs : xrs b as st st0) (hM : xSt D H0 b s as tys M H locs) (kk : xKK p l e R s m args below meth c cells slots Q D H0 b nL as M q) :
    W p l e R s m args below meth c H locs cells slots Q (F0 m pc ls st0) := by
  obtain ⟨ws, a0, i0, j, sl, r, r', v, v', w, E, hK, hP, hD, hS, hm, hi0, hw, hE, g1, g2, hv, rfl, rfl, h3⟩ := xi_ast h hs hM
  obtain ⟨cA, t0, f, ht, rfl, hf⟩ := xre20 hE
  cases v with
  | int x =>
    cases g2
    cases hv
    refine va_iast C.1 C.2.1 hK hP hD hS i0 t0 hw ht g1 hd (fun H1 locs1 hP1 hD1 hS1 => ?_)
    refine kk.same (by simp) (xz_set hi0 (by simp)) hl hL h3 ⟨_, hK, hP1, hD1, hS1, xrm_set hm hw (Or.inl ⟨rfl, cA, t0, _, ht, by simp only [List.length_set]; rfl, xset_get (mk := Value.int) hf⟩)⟩
  | _ => cases g2
theorem xs_bast (C : CallFix p m c cc nL s args xG own) (hd : decode cc pc = .ok (.bastore, 1)) (h : xast 21 xgB pc L st M = some q)
    (hl : lv_has ls nL lv) (hL : xrl b as L lv) (hs : xrs b as st st0) (hM : xSt D H0 b s as tys M H locs) (kk : xKK p l e R s m args below meth c cells slots Q D H0 b nL as M q) :
    W p l e R s m args below meth c H locs cells slots Q (F0 m pc ls st0) := by
  obtain ⟨ws, a0, i0, j, sl, r, r', v, v', w, E, hK, hP, hD, hS, hm, hi0, hw, hE, g1, g2, hv, rfl, rfl, h3⟩ := xi_ast h hs hM
  obtain ⟨cA, t0, f, ht, rfl, hf⟩ := xre21 hE
  cases v with
  | int x =>
    cases g2
    cases hv
    refine va_bast C.1 C.2.1 hK hP hD hS i0 t0 hw ht g1 hd (fun H1 locs1 hP1 hD1 hS1 => ?_)
    rw [vp_nar_byte] at hP1 hD1
    refine kk.same (by simp) (xz_set hi0 (by simp)) hl hL h3 ⟨_, hK, hP1, hD1, hS1, xrm_set hm hw (Or.inr (Or.inl ⟨rfl, cA, t0, _, ht, by simp only [List.length_set]; rfl, xset_get (mk := Value.int) hf⟩))⟩
  | _ => cases g2
theorem xs_last (C : CallFix p m c cc nL s args xG own) (hd : decode cc pc = .ok (.lastore, 1)) (h : xast 22 xgL pc L st M = some q)
    (hl : lv_has ls nL lv) (hL : xrl b as L lv) (hs : xrs b as st st0) (hM : xSt D H0 b s as tys M H locs) (kk : xKK p l e R s m args below meth c cells slots Q D H0 b nL as M q) :
    W p l e R s m args below meth c H locs cells slots Q (F0 m pc ls st0) := by
  obtain ⟨ws, a0, i0, j, sl, r, r', v, v', w, E, hK, hP, hD, hS, hm, hi0, hw, hE, g1, g2, hv, rfl, rfl, h3⟩ := xi_ast h hs hM
  obtain ⟨cA, t0, f, ht, rfl, hf⟩ := xre22 hE
  cases v with
  | long x =>
    cases g2
    cases hv
    refine va_last C.1 C.2.1 hK hP hD hS i0 t0 hw ht g1 hd (fun H1 locs1 hP1 hD1 hS1 => ?_)
    refine kk.same (by simp) (xz_set hi0 (by simp)) hl hL h3 ⟨_, hK, hP1, hD1, hS1, xrm_set hm hw (Or.inr (Or.inr (Or.inl ⟨rfl, cA, t0, _, ht, by simp only [List.length_set]; rfl, xset_get (mk := Value.long) hf⟩)))⟩
  | _ => cases g2
theorem xs_aast (C : CallFix p m c cc nL s args xG own) (hd : decode cc pc = .ok (.aastore, 1)) (h : xastW 10 pc L st M = some q)
    (hl : lv_has ls nL lv) (hL : xrl b as L lv) (hs : xrs b as st st0) (hM : xSt D H0 b s as tys M H locs) (kk : xKK p l e R s m args below meth c cells slots Q D H0 b nL as M q) :
    W p l e R s m args below meth c H locs cells slots Q (F0 m pc ls st0) := by
  unfold xastW at h
  split at h
  · rename_i v j a r
    split at h
    · rename_i vs hvs
      split at h
      · rename_i sl hsl
        split at h
        · rename_i i hi
          cases h
          obtain ⟨v0, s0, rfl, h0, v1, s1, rfl, h1, v2, s2, rfl, ⟨a0, ha, rfl⟩, h3⟩ := hs
          cases h1
          obtain ⟨av, hav, rfl⟩ := id h0
          obtain ⟨ws, hK, hP, hD, hS, hm⟩ := hM
          obtain ⟨a1, E, hw, ha', hE⟩ := xrm_at hm (xarr_eq hsl)
          cases ha.symm.trans ha'
          obtain ⟨a2, Ev, hwv, hav', hEv⟩ := xrm_at hm (xarr_eq hvs)
          cases hav.symm.trans hav'
          obtain ⟨g1, g2, g3⟩ := xix_eq hi
          subst g2
          obtain ⟨cA, t0, f, ht, rfl, hf⟩ := xre23 hE
          obtain ⟨fs, rfl, -⟩ := xreO (by decide) hEv
          refine va_astq (r := (RX10, TX10, 10)) C.1 C.2.1 hK hP hD hS a t0 v 10 hw ht hwv rfl g1 hd (fun H1 locs1 hP1 hD1 hS1 => ?_)
          refine kk.same (by simp [xwr]) (xz_set (xarr_eq hsl) (by simp)) hl hL h3 ⟨_, hK, hP1, hD1, hS1, xrm_set hm hw (Or.inr (Or.inr (Or.inr (Or.inl ⟨rfl, cA, t0, _, ht, by simp only [List.length_set]; rfl, ?_⟩))))⟩
          intro k u hu
          rw [List.getElem?_set] at hu
          by_cases hij : j.toNatClampNeg = k
          · subst hij
            simp at hu
            rw [← hu.2]
            simpa [va_up, va_rf] using h0
          · simp only [hij, if_false] at hu
            have := hf k u hu
            have hne : ¬ k = j.toNatClampNeg := fun q => hij q.symm
            simpa [va_up, hne] using this
        · cases h
      · cases h
    · cases h
  · cases h
theorem xs_alen (C : CallFix p m c cc nL s args xG own) (hX : xXX sc b s H0) (hbl : b 0 < H0.size) (hd : decode cc pc = .ok (.arraylength, 1)) (h : xlen sc pc L st M = some q)
    (hl : lv_has ls nL lv) (hL : xrl b as L lv) (hs : xrs b as st st0) (hM : xSt D H0 b s as tys M H locs) (kk : xKK p l e R s m args below meth c cells slots Q D H0 b nL as M q) :
    W p l e R s m args below meth c H locs cells slots Q (F0 m pc ls st0) := by
  unfold xlen at h
  split at h
  · rename_i r
    cases h
    obtain ⟨v2, s2, rfl, h2, h3⟩ := hs
    obtain rfl : v2 = .ref (b 0) := h2
    obtain ⟨ws, hK, hP, hD, hS, hm⟩ := id hM
    exact va_slen C.1 C.2.1 hX.1 hbl (by omega) hS hd (kk.same rfl rfl hl hL ⟨_, _, rfl, rfl, h3⟩ hM)
  · rename_i a r
    split at h
    · rename_i o ho
      rw [xnth_eq] at ho
      cases hk : (Nat.beq o.1 20 || Nat.beq o.1 22) with
      | false => simp [hk] at h
      | true =>
        simp [hk] at h
        subst h
        obtain ⟨v2, s2, rfl, ⟨a0, ha, rfl⟩, h3⟩ := hs
        obtain ⟨ws, hK, hP, hD, hS, hm⟩ := id hM
        obtain ⟨a1, E, hw, ha', hE⟩ := xrm_at hm ho
        cases ha.symm.trans ha'
        obtain ⟨k, sl⟩ := o
        simp only [Bool.or_eq_true, Nat.beq_eq] at hk
        rcases hk with hk | hk
        · change k = _ at hk
          subst hk
          obtain ⟨cA, t0, f, ht, rfl, hf⟩ := xre20 hE
          exact va_alen C.1 C.2.1 hK hP a t0 hw ht rfl hd (kk.same rfl rfl hl hL ⟨_, _, rfl, rfl, h3⟩ hM)
        · change k = _ at hk
          subst hk
          obtain ⟨cA, t0, f, ht, rfl, hf⟩ := xre22 hE
          exact va_alen C.1 C.2.1 hK hP a t0 hw ht rfl hd (kk.same rfl rfl hl hL ⟨_, _, rfl, rfl, h3⟩ hM)
    · cases h
  · cases h
theorem xs_get (C : CallFix p m c cc nL s args xG own) {ci k idx : Nat} {C0 : String} {T : u_T} {N : Nat} (hci : ci < 20) (hc : xcl[ci]? = some (C0, T, N)) (hk : k < N) (hw0 : Cond.fieldLink own idx (T k).1 (T k).2.1 (T k).2.2.1 ∈ xG) (hd : decode cc pc = .ok (.getfield idx, 3)) (h : xget ci k pc L st M = some q)
    (hl : lv_has ls nL lv) (hL : xrl b as L lv) (hs : xrs b as st st0) (hM : xSt D H0 b s as tys M H locs) (kk : xKK p l e R s m args below meth c cells slots Q D H0 b nL as M q) :
    W p l e R s m args below meth c H locs cells slots Q (F0 m pc ls st0) := by
  unfold xget at h
  split at h
  · rename_i a r
    split at h
    · rename_i sl hsl
      split at h
      · rename_i v hv
        cases h
        obtain ⟨v2, s2, rfl, ⟨a0, ha, rfl⟩, h3⟩ := hs
        obtain ⟨ws, hK, hP, hD, hS, hm⟩ := id hM
        obtain ⟨a1, E, hw, ha', hE⟩ := xrm_at hm (xarr_eq hsl)
        cases ha.symm.trans ha'
        obtain ⟨fs, rfl, hfs⟩ := xreO hci hE
        rw [xnth_eq] at hv
        obtain ⟨v', hv', hvv⟩ := xrs_get hfs hv
        exact va_get (D := D) C.1 C.2.1 C.2.2.2.2 (xlay ci _ hc) C.2.2.2.1 hK hP a hw hc k hk (C.2.2.2.2 _ hw0) (fun _ h9 => h9) hv' hd (kk.same rfl rfl hl hL ⟨_, _, rfl, hvv, h3⟩ hM)
      · cases h
    · cases h
  · cases h
theorem xfit_ok {ty : FieldType} {v v' : Value} (h : xfit ty v = true) (hv : xrv b as v v') : narrow ty v' = v' ∧ fits ty v' = true := by
  unfold xfit at h
  split at h
  · cases hv; exact ⟨rfl, rfl⟩
  · rename_i x
    cases hv
    simp only [Bool.or_eq_true, decide_eq_true_eq] at h
    rcases h with rfl | rfl
    · exact ⟨rfl, rfl⟩
    · exact ⟨rfl, rfl⟩
  · cases hv; exact ⟨rfl, rfl⟩
  · obtain ⟨a, -, rfl⟩ := hv; exact ⟨rfl, rfl⟩
  · obtain ⟨a, -, rfl⟩ := hv; exact ⟨rfl, rfl⟩
  · cases h
theorem xs_put (C : CallFix p m c cc nL s args xG own) {ci k idx : Nat} {C0 : String} {T : u_T} {N : Nat} (hci : ci < 20) (hc : xcl[ci]? = some (C0, T, N)) (hk : k < N) (hw0 : Cond.fieldLink own idx (T k).1 (T k).2.1 (T k).2.2.1 ∈ xG) (hfin : (T k).2.2.2 = false ∨ (meth.name = "<init>" ∧ (T k).1 = own)) (hd : decode cc pc = .ok (.putfield idx, 3)) (h : xput xty ci k pc L st M = some q)
    (hl : lv_has ls nL lv) (hL : xrl b as L lv) (hs : xrs b as st st0) (hM : xSt D H0 b s as tys M H locs) (kk : xKK p l e R s m args below meth c cells slots Q D H0 b nL as M q) :
    W p l e R s m args below meth c H locs cells slots Q (F0 m pc ls st0) := by
  unfold xput at h
  split at h
  · rename_i v a r
    cases hf : xfit (xty ci k) v with
    | false => simp [hf] at h
    | true =>
      simp only [hf, cond_true] at h
      split at h
      · rename_i sl hsl
        cases hlt : Nat.blt k sl.length with
        | false => simp [hlt] at h
        | true =>
          simp only [hlt, cond_true] at h
          cases h
          obtain ⟨v1, s1, rfl, h1, v2, s2, rfl, ⟨a0, ha, rfl⟩, h3⟩ := hs
          obtain ⟨ws, hK, hP, hD, hS, hm⟩ := hM
          obtain ⟨a1, E, hw, ha', hE⟩ := xrm_at hm (xarr_eq hsl)
          cases ha.symm.trans ha'
          obtain ⟨fs, rfl, hfs⟩ := xreO hci hE
          obtain ⟨n1, n2⟩ := xfit_ok hf h1
          have hkl : k < fs.length := by
            rw [xrs_len hfs]
            exact Nat.blt_eq.mp hlt
          have fin : ∀ (H1 : Heap) (locs1 : List Loc), va_P D xcl (ws.set a (a0, .inr (ci, fs.set k v1))) H1 → va_D (fun q : Nat => H0.size ≤ q) (ws.set a (a0, .inr (ci, fs.set k v1))) → va_S (fun q : Nat => H0.size ≤ q) H0 H1 locs1 → W p l e R s m args below meth c H1 locs1 cells slots Q (F0 m (pc + 3) ls s2) := by
            intro H1 locs1 hP1 hD1 hS1
            exact kk.same (by simp [xwr]) (xz_set (xarr_eq hsl) (by simp)) hl hL h3 ⟨_, hK, hP1, hD1, hS1, xrm_set hm hw (Or.inr (Or.inr (Or.inr (Or.inr (Or.inr ⟨hci, _, rfl, xrs_set h1 k hfs⟩)))))⟩
          rcases hfin with hfin | ⟨hin, hdecl⟩
          · exact va_put (D := D) C.1 C.2.1 C.2.2.2.2 (xlay ci _ hc) (xty ci) (xtyc ci _ hc) (xnm ci _ hc) C.2.2.2.1 hK hP hD hS a hw hc k hk (C.2.2.2.2 _ hw0) (fun _ h9 => h9) hfin (xtyc ci _ hc k hk) n1 n2 hkl hd fin
          · cases hb : (T k).2.2.2 with
            | false => exact va_put (D := D) C.1 C.2.1 C.2.2.2.2 (xlay ci _ hc) (xty ci) (xtyc ci _ hc) (xnm ci _ hc) C.2.2.2.1 hK hP hD hS a hw hc k hk (C.2.2.2.2 _ hw0) (fun _ h9 => h9) hb (xtyc ci _ hc k hk) n1 n2 hkl hd fin
            | true => exact va_putF (D := D) C.1 C.2.1 C.2.2.2.2 (xlay ci _ hc) (xty ci) (xtyc ci _ hc) (xnm ci _ hc) C.2.2.2.1 hK hP hD hS a hw hc k hk (C.2.2.2.2 _ hw0) (fun _ h9 => h9) hb hin hdecl (xtyc ci _ hc k hk) n1 n2 hkl hd fin
      · cases h
  · cases h
end XS2
