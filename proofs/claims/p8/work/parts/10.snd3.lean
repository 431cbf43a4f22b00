section XS3
variable {p : Program} {l : Launch} {e : Env} {R : Room} {s : State} {m : MethodId} {args : Array Value} {below : List Frame} {meth : Method} {c : Code} {H : Heap} {locs : List Loc} {cells slots : Nat} {Q : State → Prop}
variable {cc : ByteArray} {nL : Nat} {own : String} {D : va_G} {H0 : Heap} {b : Nat → Nat} {sc : List Int32} {as : List Nat} {tys : List (ClassId × FieldType)} {M : xM} {L lv : xL} {ls : Array Slot} {pc : Nat} {st st0 : List Value} {q : xC}
theorem xrv_dflt {v : Value} (h : v = .int 0 ∨ v = .long 0 ∨ v = .null) : xrv b as v v := by
  rcases h with rfl | rfl | rfl <;> rfl
theorem xrs_dflt : ∀ {l : List Value}, (∀ v ∈ l, v = .int 0 ∨ v = .long 0 ∨ v = .null) → xrs b as l l
  | [], _ => rfl
  | v :: l, h => ⟨v, l, rfl, xrv_dflt (h v List.mem_cons_self), xrs_dflt (fun w hw => h w (List.mem_cons_of_mem _ hw))⟩
theorem xdf_in {ci : Nat} : ∀ v ∈ xdf ci, v = .int 0 ∨ v = .long 0 ∨ v = .null := by
  intro v hv
  refine xdf_ok v ?_
  unfold xdf at hv
  split at hv
  · rename_i l hl
    rw [xnth_eq] at hl
    exact List.mem_flatten.mpr ⟨l, List.mem_of_getElem? hl, hv⟩
  · cases hv
theorem xlast (as : List Nat) (q : Nat) : (as ++ [q])[as.length]? = some q := by simp
theorem xrm_len {ws : va_W} (h : xrm b as tys M ws) : as.length = M.length := by
  rw [← h.1, List.length_map, h.2.1]
theorem xs_new (C : CallFix p m c cc nL s args xG own) {ci idx : Nat} {C0 : String} {T : u_T} {N : Nat} (hci : ci < 20) (hc : xcl[ci]? = some (C0, T, N)) (hw0 : Cond.classLink own idx C0 ∈ xG) (hd : decode cc pc = .ok (.new idx, 3)) (h : some (pc + 3, L, Value.ref M.length :: st, M ++ [(ci, xdf ci)]) = some q)
    (hr : cells + (q.2.2.2.length - M.length) ≤ R.cells ∧ slots + (xz q.2.2.2 - xz M) ≤ R.slots)
    (hl : lv_has ls nL lv) (hL : xrl b as L lv) (hs : xrs b as st st0) (hM : xSt D H0 b s as tys M H locs) (kk : xKK p l e R s m args below meth c cells slots Q D H0 b nL as M q) :
    W p l e R s m args below meth c H locs cells slots Q (F0 m pc ls st0) := by
  cases h
  obtain ⟨ws, hK, hP, hD, hS, hm⟩ := hM
  have hlen := xdfl ci _ hc
  simp only at hlen
  have hz : xz (M ++ [(ci, xdf ci)]) - xz M = N := by
    rw [xz_app]
    simp [xz, hlen]
  have hz2 : (M ++ [(ci, xdf ci)]).length - M.length = 1 := by simp
  simp only [hz, hz2] at hr
  refine va_new (D := D) C.1 C.2.1 C.2.2.2.2 (xlay ci _ hc) (xty ci) (xtyc ci _ hc) C.2.2.2.1 (C.2.2.2.2 _ hw0) (C.2.2.2.2 _ (xini ci _ hc).2) (C.2.2.2.2 _ (xini ci _ hc).1) hK hP hD hS (fun _ h => h) hc (xdfc ci _ hc) hr.1 hr.2 hd (fun a H1 hP1 hD1 hS1 => ?_)
  have k2 := kk (as ++ [a]) tys H1 locs ls (.ref a :: st0) lv ⟨[a], rfl⟩ hl (xrl_mono hL) ⟨_, _, rfl, ⟨a, by rw [← xrm_len hm]; exact xlast as a, rfl⟩, xrs_mono hs⟩ ⟨_, hK, hP1, hD1, hS1, by
    have h9 := xrm_push (tx := []) hm (q := a) (e := .inr (ci, xdf ci)) (o := (ci, xdf ci)) (Or.inr (Or.inr (Or.inr (Or.inr (Or.inr ⟨hci, xdf ci, rfl, xrs_dflt xdf_in⟩)))))
    simpa using h9⟩
  simp only [hz, hz2] at k2
  exact k2
theorem xget_rep {n : Nat} {v : Value} {j : Nat} {w : Value} (h : (List.replicate n v)[j]? = some w) : w = v := by
  have := List.mem_of_getElem? h
  exact List.eq_of_mem_replicate this
theorem xblt {n : Int32} (h : (decide (n < 0) || Nat.blt 100000 n.toNatClampNeg) = false) : ¬ n < 0 ∧ n.toNatClampNeg ≤ 100000 := by
  simp only [Bool.or_eq_false_iff, decide_eq_false_iff_not] at h
  refine ⟨h.1, ?_⟩
  rcases Nat.lt_or_ge 100000 n.toNatClampNeg with q | q
  · rw [Nat.blt_eq.mpr q] at h
    cases h.2
  · exact q
theorem xs_newa (C : CallFix p m c cc nL s args xG own) {t : ArrayType} (hw0 : ∀ ty ∈ [FieldType.int, .long, .byte], Cond.arrayClass ty ∈ xG) (hd : decode cc pc = .ok (.newarray t, 2)) (h : xnewa t pc L st M = some q)
    (hr : cells + (q.2.2.2.length - M.length) ≤ R.cells ∧ slots + (xz q.2.2.2 - xz M) ≤ R.slots)
    (hl : lv_has ls nL lv) (hL : xrl b as L lv) (hs : xrs b as st st0) (hM : xSt D H0 b s as tys M H locs) (kk : xKK p l e R s m args below meth c cells slots Q D H0 b nL as M q) :
    W p l e R s m args below meth c H locs cells slots Q (F0 m pc ls st0) := by
  unfold xnewa at h
  split at h
  · rename_i n r
    split at h
    · rename_i k v hk
      cases hcnd : (decide (n < 0) || Nat.blt 100000 n.toNatClampNeg) with
      | true => simp [hcnd] at h
      | false =>
        simp only [hcnd, cond_false] at h
        cases h
        obtain ⟨hn, hb5⟩ := xblt hcnd
        obtain ⟨v1, s1, rfl, h1, h3⟩ := hs
        cases h1
        obtain ⟨ws, hK, hP, hD, hS, hm⟩ := hM
        have hz : xz (M ++ [(k, List.replicate n.toNatClampNeg v)]) - xz M = n.toNatClampNeg := by
          rw [xz_app]
          simp [xz]
        have hz2 : (M ++ [(k, List.replicate n.toNatClampNeg v)]).length - M.length = 1 := by simp
        simp only [hz, hz2] at hr
        have fin : ∀ (a : Nat) (cA : ClassId) (H1 : Heap) (ty : FieldType) (E : va_E), va_K D xcl (tys ++ [(cA, ty)]) s → va_P D xcl (ws ++ [(a, E)]) H1 → va_D (fun q : Nat => H0.size ≤ q) (ws ++ [(a, E)]) → va_S (fun q : Nat => H0.size ≤ q) H0 H1 locs → xre b (as ++ [a]) (tys ++ [(cA, ty)]) (k, List.replicate n.toNatClampNeg v) E → W p l e R s m args below meth c H1 locs (cells + 1) (slots + n.toNatClampNeg) Q (F0 m (pc + 2) ls (.ref a :: s1)) := by
          intro a cA H1 ty E hK1 hP1 hD1 hS1 hE
          have k2 := kk (as ++ [a]) (tys ++ [(cA, ty)]) H1 locs ls (.ref a :: s1) lv ⟨[a], rfl⟩ hl (xrl_mono hL) ⟨_, _, rfl, ⟨a, by rw [← xrm_len hm]; exact xlast as a, rfl⟩, xrs_mono h3⟩ ⟨_, hK1, hP1, hD1, hS1, xrm_push hm hE⟩
          simp only [hz, hz2] at k2
          exact k2
        have tl : ∀ (cA : ClassId) (ty : FieldType), (tys ++ [(cA, ty)])[tys.length]? = some (cA, ty) := fun cA ty => by simp
        cases t with
        | int =>
          cases hk
          exact va_newa (ty := .int) (a0 := (n.toNatClampNeg, .inl fun _ => 0)) C.1 C.2.1 (C.2.2.2.2 _ (hw0 _ (by decide))) rfl hK hP hD hS (fun _ h => h) (fun _ => rfl) hn rfl (by simp only [componentBytes]; omega) hr.1 hr.2 hd (fun a cA H1 hK1 hP1 hD1 hS1 => fin a cA H1 _ _ hK1 hP1 hD1 hS1 (Or.inl ⟨rfl, cA, tys.length, fun _ => 0, tl _ _, by simp, fun j w hw => xget_rep hw⟩))
        | byte =>
          cases hk
          exact va_newa (ty := .byte) (a0 := (n.toNatClampNeg, .inl fun _ => 0)) C.1 C.2.1 (C.2.2.2.2 _ (hw0 _ (by decide))) rfl hK hP hD hS (fun _ h => h) (fun _ => rfl) hn rfl (by simp only [componentBytes]; omega) hr.1 hr.2 hd (fun a cA H1 hK1 hP1 hD1 hS1 => fin a cA H1 _ _ hK1 hP1 hD1 hS1 (Or.inr (Or.inl ⟨rfl, cA, tys.length, fun _ => 0, tl _ _, by simp, fun j w hw => xget_rep hw⟩)))
        | long =>
          cases hk
          exact va_newa (ty := .long) (a0 := (n.toNatClampNeg, .inr (.inl fun _ => 0))) C.1 C.2.1 (C.2.2.2.2 _ (hw0 _ (by decide))) rfl hK hP hD hS (fun _ h => h) (fun _ => rfl) hn rfl (by simp only [componentBytes]; omega) hr.1 hr.2 hd (fun a cA H1 hK1 hP1 hD1 hS1 => fin a cA H1 _ _ hK1 hP1 hD1 hS1 (Or.inr (Or.inr (Or.inl ⟨rfl, cA, tys.length, fun _ => 0, tl _ _, by simp, fun j w hw => xget_rep hw⟩))))
        | _ => cases hk
    · cases h
  · cases h
theorem xs_newq (C : CallFix p m c cc nL s args xG own) {idx : Nat} (hw0 : Cond.classLink own idx "LaterPrints$World" ∈ xG) (hw1 : va_AO "LaterPrints$World" s) (hd : decode cc pc = .ok (.anewarray idx, 3)) (h : xnewq pc L st M = some q)
    (hr : cells + (q.2.2.2.length - M.length) ≤ R.cells ∧ slots + (xz q.2.2.2 - xz M) ≤ R.slots)
    (hl : lv_has ls nL lv) (hL : xrl b as L lv) (hs : xrs b as st st0) (hM : xSt D H0 b s as tys M H locs) (kk : xKK p l e R s m args below meth c cells slots Q D H0 b nL as M q) :
    W p l e R s m args below meth c H locs cells slots Q (F0 m pc ls st0) := by
  unfold xnewq at h
  split at h
  · rename_i n r
    cases hcnd : (decide (n < 0) || Nat.blt 100000 n.toNatClampNeg) with
    | true => simp [hcnd] at h
    | false =>
      simp only [hcnd, cond_false] at h
      cases h
      obtain ⟨hn, hb5⟩ := xblt hcnd
      obtain ⟨v1, s1, rfl, h1, h3⟩ := hs
      cases h1
      obtain ⟨ws, hK, hP, hD, hS, hm⟩ := hM
      have hz : xz (M ++ [(23, List.replicate n.toNatClampNeg Value.null)]) - xz M = n.toNatClampNeg := by
        rw [xz_app]
        simp [xz]
      have hz2 : (M ++ [(23, List.replicate n.toNatClampNeg Value.null)]).length - M.length = 1 := by simp
      simp only [hz, hz2] at hr
      refine va_newq C.1 C.2.1 C.2.2.2.1 (C.2.2.2.2 _ hw0) hw1 hK hP hD hS (fun _ h => h) hn rfl (by omega) hr.1 hr.2 hd (fun a cA H1 hK1 hP1 hD1 hS1 => ?_)
      have k2 := kk (as ++ [a]) (tys ++ [(cA, _)]) H1 locs ls (.ref a :: s1) lv ⟨[a], rfl⟩ hl (xrl_mono hL) ⟨_, _, rfl, ⟨a, by rw [← xrm_len hm]; exact xlast as a, rfl⟩, xrs_mono h3⟩ ⟨_, hK1, hP1, hD1, hS1, xrm_push hm (Or.inr (Or.inr (Or.inr (Or.inl ⟨rfl, cA, tys.length, fun _ => none, by simp, by simp, fun j w hw => by rw [xget_rep hw]; rfl⟩))))⟩
      simp only [hz, hz2] at k2
      exact k2
  · cases h
theorem xcpy_len {sl dl : List Value} {sp dp n : Nat} (h1 : sp + n ≤ sl.length) (h2 : dp + n ≤ dl.length) : (xcpy sl dl sp dp n).length = dl.length := by
  unfold xcpy
  simp only [List.length_append, List.length_take, List.length_drop]
  omega
theorem xcpy_get {α : Type} {sl dl : List Value} {sp dp n : Nat} {f g : Nat → α} {mk : α → Value} (h1 : sp + n ≤ sl.length) (h2 : dp + n ≤ dl.length) (hf : ∀ (j : Nat) (v : Value), sl[j]? = some v → v = mk (f j)) (hg : ∀ (j : Nat) (v : Value), dl[j]? = some v → v = mk (g j)) :
    ∀ (j : Nat) (v : Value), (xcpy sl dl sp dp n)[j]? = some v → v = mk (va_cpy f g sp dp n j) := by
  intro j v hv
  unfold xcpy at hv
  have e1 : (dl.take dp).length = dp := by rw [List.length_take]; omega
  have e2 : ((sl.drop sp).take n).length = n := by rw [List.length_take, List.length_drop]; omega
  unfold va_cpy
  by_cases c1 : j < dp
  · rw [List.getElem?_append_left (by omega), List.getElem?_take] at hv
    rw [if_pos c1] at hv
    rw [if_neg (by omega)]
    exact hg j v hv
  · rw [List.getElem?_append_right (by omega), e1] at hv
    by_cases c2 : j < dp + n
    · rw [List.getElem?_append_left (by omega), List.getElem?_take, if_pos (by omega), List.getElem?_drop] at hv
      rw [if_pos ⟨by omega, c2⟩]
      exact hf _ v hv
    · rw [List.getElem?_append_right (by omega), e2, List.getElem?_drop] at hv
      rw [if_neg (by omega)]
      have : dp + n + (j - dp - n) = j := by omega
      rw [this] at hv
      exact hg j v hv
theorem xs_copy (C : CallFix p m c cc nL s args xG own) {idx : Nat} (hw0 : Cond.methodLink own idx arraycopyName ∈ xG) (hw1 : Cond.native arraycopyName ∈ xG) (hw2 : Cond.static arraycopyName ∈ xG) (hw3 : Cond.initialized "java/lang/System" ∈ xG) (hfr : 1 ≤ R.frames) (hlo : 26 ≤ R.locals) (hd : decode cc pc = .ok (.invokestatic idx, 3)) (h : xcopy pc L st M = some q)
    (hl : lv_has ls nL lv) (hL : xrl b as L lv) (hs : xrs b as st st0) (hM : xSt D H0 b s as tys M H locs) (kk : xKK p l e R s m args below meth c cells slots Q D H0 b nL as M q) :
    W p l e R s m args below meth c H locs cells slots Q (F0 m pc ls st0) := by
  unfold xcopy at h
  split at h
  · rename_i n dp d sp s' r
    cases hc8 : xcat8 r with
    | false => simp [hc8] at h
    | true =>
      simp only [hc8, cond_true] at h
      obtain ⟨v1, s1, rfl, h1, v2, s2, rfl, h2, v3, s3, rfl, ⟨ad, had, rfl⟩, v4, s4, rfl, h4, v5, s5, rfl, ⟨as', has, rfl⟩, h6⟩ := hs
      cases h1; cases h2; cases h4
      have hcat : (s5.map fun v => v.category).sum ≤ 8 := by
        rw [xrs_cats h6]
        exact Nat.le_of_ble_eq_true hc8
      have hlo2 : (s5.map fun v => v.category).sum + (nativeFrameWords "java/lang/System" "arraycopy" 5 + 11) ≤ R.locals := by
        have : nativeFrameWords "java/lang/System" "arraycopy" 5 = 7 := by decide
        omega
      obtain ⟨ws, hK, hP, hD, hS, hm⟩ := id hM
      have both : ∀ k, xacopy k pc L n dp sp d s' r M = some q → ∃ sl dl, M[s']? = some (k, sl) ∧ M[d]? = some (k, dl) ∧ ¬ sp < 0 ∧ ¬ dp < 0 ∧ ¬ n < 0 ∧ sp.toNatClampNeg + n.toNatClampNeg ≤ sl.length ∧ dp.toNatClampNeg + n.toNatClampNeg ≤ dl.length ∧ q = (pc + 3, L, r, M.set d (k, xcpy sl dl sp.toNatClampNeg dp.toNatClampNeg n.toNatClampNeg)) := by
        intro k hk
        unfold xacopy at hk
        split at hk
        · rename_i sl hsl
          split at hk
          · rename_i dl hdl
            cases hcc : (decide (sp < 0) || decide (dp < 0) || decide (n < 0) || Nat.blt sl.length (sp.toNatClampNeg + n.toNatClampNeg) || Nat.blt dl.length (dp.toNatClampNeg + n.toNatClampNeg)) with
            | true => simp [hcc] at hk
            | false =>
              simp only [hcc, cond_false] at hk
              cases hk
              simp only [Bool.or_eq_false_iff, decide_eq_false_iff_not] at hcc
              obtain ⟨⟨⟨⟨c1, c2⟩, c3⟩, c4⟩, c5⟩ := hcc
              refine ⟨sl, dl, xarr_eq hsl, xarr_eq hdl, c1, c2, c3, ?_, ?_, rfl⟩
              · rcases Nat.lt_or_ge sl.length (sp.toNatClampNeg + n.toNatClampNeg) with z | z
                · rw [Nat.blt_eq.mpr z] at c4
                  cases c4
                · exact z
              · rcases Nat.lt_or_ge dl.length (dp.toNatClampNeg + n.toNatClampNeg) with z | z
                · rw [Nat.blt_eq.mpr z] at c5
                  cases c5
                · exact z
          · cases hk
        · cases hk
      have hml : c.maxLocals = ls.size := by rw [hl.1]; exact C.2.2.1
      split at h
      · rename_i q' hq'
        cases h
        obtain ⟨sl, dl, e1, e2, c1, c2, c3, c4, c5, rfl⟩ := both 20 hq'
        obtain ⟨a1, E1, hw, ha1, hE1⟩ := xrm_at hm e1
        cases has.symm.trans ha1
        obtain ⟨a2, E2, hww, ha2, hE2⟩ := xrm_at hm e2
        cases had.symm.trans ha2
        obtain ⟨cA, t0, f, ht, rfl, hf⟩ := xre20 hE1
        obtain ⟨cB, t1, g, ht1, rfl, hg⟩ := xre20 hE2
        refine va_copyi C.1 C.2.1 hml C.2.2.2.1 (C.2.2.2.2 _ hw0) (C.2.2.2.2 _ hw1) (C.2.2.2.2 _ hw2) (C.2.2.2.2 _ hw3) hK hP hD hS s' d t0 t1 hw hww ht ht1 rfl c1 c2 c3 c4 c5 (fun _ _ => rfl) hfr hlo2 hd (fun H1 locs1 hP1 hD1 hS1 => ?_)
        exact kk.same (by simp) (xz_set e2 (xcpy_len c4 c5)) hl hL h6 ⟨_, hK, hP1, hD1, hS1, xrm_set hm hww (Or.inl ⟨rfl, cB, t1, _, ht1, by rw [show ((20, xcpy sl dl sp.toNatClampNeg dp.toNatClampNeg n.toNatClampNeg) : xO).2.length = dl.length from xcpy_len c4 c5], xcpy_get (mk := Value.int) c4 c5 hf hg⟩)⟩
      · obtain ⟨sl, dl, e1, e2, c1, c2, c3, c4, c5, rfl⟩ := both 22 h
        obtain ⟨a1, E1, hw, ha1, hE1⟩ := xrm_at hm e1
        cases has.symm.trans ha1
        obtain ⟨a2, E2, hww, ha2, hE2⟩ := xrm_at hm e2
        cases had.symm.trans ha2
        obtain ⟨cA, t0, f, ht, rfl, hf⟩ := xre22 hE1
        obtain ⟨cB, t1, g, ht1, rfl, hg⟩ := xre22 hE2
        refine va_copyl C.1 C.2.1 hml C.2.2.2.1 (C.2.2.2.2 _ hw0) (C.2.2.2.2 _ hw1) (C.2.2.2.2 _ hw2) (C.2.2.2.2 _ hw3) hK hP hD hS s' d t0 t1 hw hww ht ht1 rfl c1 c2 c3 c4 c5 (fun _ _ => rfl) hfr hlo2 hd (fun H1 locs1 hP1 hD1 hS1 => ?_)
        exact kk.same (by simp) (xz_set e2 (xcpy_len c4 c5)) hl hL h6 ⟨_, hK, hP1, hD1, hS1, xrm_set hm hww (Or.inr (Or.inr (Or.inl ⟨rfl, cB, t1, _, ht1, by rw [show ((22, xcpy sl dl sp.toNatClampNeg dp.toNatClampNeg n.toNatClampNeg) : xO).2.length = dl.length from xcpy_len c4 c5], xcpy_get (mk := Value.long) c4 c5 hf hg⟩)))⟩
  · cases h
end XS3
