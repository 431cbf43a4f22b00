section XS4
variable {p : Program} {l : Launch} {e : Env} {R : Room} {s : State} {m : MethodId} {args : Array Value} {below : List Frame} {meth : Method} {c : Code} {H : Heap} {locs : List Loc} {cells slots : Nat} {Q : State → Prop}
variable {cc : ByteArray} {nL : Nat} {own : String} {D : va_G} {H0 : Heap} {b : Nat → Nat} {sc : List Int32} {as : List Nat} {tys : List (ClassId × FieldType)} {M : xM} {L lv : xL} {ls : Array Slot} {pc : Nat} {st st0 : List Value} {q : xC}
theorem xrm_app {tx : List (ClassId × FieldType)} {ws : va_W} (h : xrm b as tys M ws) {N : xM} {ex : va_W} (hl : N.length = ex.length) (he : ∀ (i : Nat) (o : xO) (q : Nat × va_E), N[i]? = some o → ex[i]? = some q → xre b (as ++ ex.map (fun q => q.1)) (tys ++ tx) o q.2) : xrm b (as ++ ex.map (fun q => q.1)) (tys ++ tx) (M ++ N) (ws ++ ex) := by
  obtain ⟨h1, h2, h3⟩ := h
  refine ⟨by rw [List.map_append, h1], by simp [h2, hl], fun j o' hj x hx => ?_⟩
  by_cases hlt : j < M.length
  · rw [List.getElem?_append_left hlt] at hj
    rw [List.getElem?_append_left (by omega)] at hx
    exact xre_mono (h3 j o' hj x hx)
  · rw [List.getElem?_append_right (by omega)] at hj hx
    rw [h2] at hj
    exact he _ o' x hj hx
theorem xz_rep (n : Nat) (o : xO) : xz (List.replicate n o) = n * o.2.length := by
  induction n with
  | zero => simp [xz]
  | succ n ih => simp [List.replicate_succ, xz, ih, Nat.succ_mul]; omega
theorem xs_mna (C : CallFix p m c cc nL s args xG own) {idx : Nat} (hw0 : Cond.classLink own idx ("[" ++ (FieldType.array .long).toString) ∈ xG) (hw1 : va_AOA .long s) (hw2 : Cond.arrayClass .long ∈ xG) (hd : decode cc pc = .ok (.multianewarray idx 2, 4)) (h : xmna pc L st M = some q)
    (hr : cells + (q.2.2.2.length - M.length) ≤ R.cells ∧ slots + (xz q.2.2.2 - xz M) ≤ R.slots)
    (hl : lv_has ls nL lv) (hL : xrl b as L lv) (hs : xrs b as st st0) (hM : xSt D H0 b s as tys M H locs) (kk : xKK p l e R s m args below meth c cells slots Q D H0 b nL as M q) :
    W p l e R s m args below meth c H locs cells slots Q (F0 m pc ls st0) := by
  unfold xmna at h
  split at h
  · rename_i k n r
    cases hcnd : (decide (n < 0) || Nat.blt 100000 n.toNatClampNeg || (decide (k < 0) || Nat.blt 100000 k.toNatClampNeg)) with
    | true => simp [hcnd] at h
    | false =>
      simp only [hcnd, cond_false] at h
      cases h
      rw [Bool.or_eq_false_iff] at hcnd
      obtain ⟨hn, hn5⟩ := xblt hcnd.1
      obtain ⟨hk, hk5⟩ := xblt hcnd.2
      obtain ⟨v1, s1, rfl, h1, v2, s2, rfl, h2, h3⟩ := hs
      cases h1; cases h2
      obtain ⟨ws, hK, hP, hD, hS, hm⟩ := hM
      have hz : xz ((M ++ [(24, xrefs (M.length + 1) n.toNatClampNeg)]) ++ List.replicate n.toNatClampNeg (22, List.replicate k.toNatClampNeg (Value.long 0))) - xz M = n.toNatClampNeg + n.toNatClampNeg * k.toNatClampNeg := by
        rw [xz_app, xz_app, xz_rep]
        simp [xz, xrefs]
        omega
      have hz2 : ((M ++ [(24, xrefs (M.length + 1) n.toNatClampNeg)]) ++ List.replicate n.toNatClampNeg (22, List.replicate k.toNatClampNeg (Value.long 0))).length - M.length = 1 + n.toNatClampNeg := by
        simp
        omega
      simp only [hz, hz2] at hr
      obtain ⟨cy, kA, comp, f1, f2, f3⟩ := Cond.arrayClass_spec (C.2.2.2.2 _ hw2)
      have hKy : va_K D xcl [(cy, .long)] s := by
        refine ⟨hK.1, fun i x hx => ?_⟩
        have hi : i < 1 := (List.getElem?_eq_some_iff.mp hx).1
        rw [show i = 0 by omega] at hx
        cases hx
        exact ⟨fun n z => ⟨fun k h => (by cases h), kA, f2, comp, f3⟩, f1⟩
      refine va_mna (X := ws) (L := []) (f := fun _ => .inr (0, [])) (cy := cy) (ty := .long) (z := (k.toNatClampNeg, .inr (.inl fun _ => 0))) C.1 C.2.1 C.2.2.2.1 (C.2.2.2.2 _ hw0) hw1 (C.2.2.2.2 _ hw2) f1 hK (by simpa [va_pl] using hP) (by simpa [va_pl] using hD) hS (fun _ h => h) hn hk rfl rfl (by omega) (by simp only [componentBytes]; omega) (by omega) rfl rfl hr.1 hr.2 (fun c => ?_) hd (fun a rr cA H1 hinj _ hK1 hP1 hD1 hS1 => ?_)
      · show ({ cls := c, slots := Array.replicate k.toNatClampNeg (.long 0), vm := .none } : Cell) = _
        rw [arrV_new]
        rfl
      · have ee : (ws ++ [(a, Sum.inl (cA, n.toNatClampNeg, Sum.inr (Sum.inr (Sum.inr (Sum.inr (fun i => if i < n.toNatClampNeg then some (rr i) else none))))))]) ++ va_pl ([] ++ (List.range n.toNatClampNeg).map rr) (vr_up (fun _ => (Sum.inr (0, []) : va_E)) ((List.range n.toNatClampNeg).map rr) (.inl (cy, (k.toNatClampNeg, .inr (.inl fun _ => 0))))) =
            ws ++ ((a, Sum.inl (cA, n.toNatClampNeg, Sum.inr (Sum.inr (Sum.inr (Sum.inr (fun i => if i < n.toNatClampNeg then some (rr i) else none)))))) :: (List.range n.toNatClampNeg).map (fun i => (rr i, (Sum.inl (cy, (k.toNatClampNeg, .inr (.inl fun _ => 0))) : va_E)))) := by
          rw [List.append_assoc, List.nil_append]
          congr 1
          simp only [List.cons_append, List.nil_append, List.cons.injEq, true_and, va_pl, List.map_map]
          apply List.map_congr_left
          intro i hi
          simp only [Function.comp]
          rw [vr_up_in (List.mem_map.mpr ⟨i, hi, rfl⟩)]
        rw [ee] at hP1 hD1
        have has : ∀ i : Nat, i < n.toNatClampNeg → (as ++ ((a, (Sum.inl (cA, n.toNatClampNeg, Sum.inr (Sum.inr (Sum.inr (Sum.inr (fun i => if i < n.toNatClampNeg then some (rr i) else none))))) : va_E)) :: (List.range n.toNatClampNeg).map (fun i => (rr i, (Sum.inl (cy, (k.toNatClampNeg, .inr (.inl fun _ => 0))) : va_E)))).map (fun q => q.1))[M.length + 1 + i]? = some (rr i) := by
          intro i hi
          have hal := xrm_len hm
          rw [List.getElem?_append_right (by omega)]
          rw [show M.length + 1 + i - as.length = i + 1 by omega]
          simp [hi]
        have hx := xrm_app (tx := [(cA, .array .long)] ++ [(cy, .long)]) hm (N := (24, xrefs (M.length + 1) n.toNatClampNeg) :: List.replicate n.toNatClampNeg (22, List.replicate k.toNatClampNeg (Value.long 0))) (ex := (a, Sum.inl (cA, n.toNatClampNeg, Sum.inr (Sum.inr (Sum.inr (Sum.inr (fun i => if i < n.toNatClampNeg then some (rr i) else none)))))) :: (List.range n.toNatClampNeg).map (fun i => (rr i, (Sum.inl (cy, (k.toNatClampNeg, .inr (.inl fun _ => 0))) : va_E)))) (by simp) (fun i o x ho hx => by
          cases i with
          | zero =>
            simp at ho hx
            subst ho; subst hx
            refine Or.inr (Or.inr (Or.inr (Or.inr (Or.inl ⟨rfl, cA, tys.length, (fun i => if i < n.toNatClampNeg then some (rr i) else none), by simp, by simp [xrefs], fun j v hv => ?_⟩))))
            simp only [xrefs, List.getElem?_map, Option.map_eq_some_iff, List.getElem?_range] at hv
            obtain ⟨j', hj', rfl⟩ := hv
            have hjn : j < n.toNatClampNeg := by
              rcases Nat.lt_or_ge j n.toNatClampNeg with z | z
              · exact z
              · rw [List.getElem?_eq_none (by simpa using z)] at hj'
                cases hj'
            have hjj : j' = j := by
              rw [List.getElem?_range hjn] at hj'
              exact (Option.some.inj hj').symm
            subst hjj
            exact ⟨rr j', has j' hjn, by simp [hjn, va_rf]⟩
          | succ i =>
            simp only [List.getElem?_cons_succ] at ho hx
            have ho' := List.eq_of_mem_replicate (List.mem_of_getElem? ho)
            subst ho'
            rw [List.getElem?_map, Option.map_eq_some_iff] at hx
            obtain ⟨i', -, rfl⟩ := hx
            exact Or.inr (Or.inr (Or.inl ⟨rfl, cy, tys.length + 1, fun _ => 0, by simp, by simp, fun j v hv => xget_rep hv⟩)))
        have k2 := kk (as ++ ((a, (Sum.inl (cA, n.toNatClampNeg, Sum.inr (Sum.inr (Sum.inr (Sum.inr (fun i => if i < n.toNatClampNeg then some (rr i) else none))))) : va_E)) :: (List.range n.toNatClampNeg).map (fun i => (rr i, (Sum.inl (cy, (k.toNatClampNeg, .inr (.inl fun _ => 0))) : va_E)))).map (fun q => q.1)) (tys ++ ([(cA, .array .long)] ++ [(cy, .long)])) H1 locs ls (.ref a :: s2) lv ⟨_, rfl⟩ hl (xrl_mono hL) ⟨_, _, rfl, ⟨a, by
          rw [List.getElem?_append_right (by have := xrm_len hm; omega), show M.length - as.length = 0 by have := xrm_len hm; omega]
          rfl, rfl⟩, xrs_mono h3⟩ ⟨_, by rw [← List.append_assoc]; exact hK1.app hKy, hP1, hD1, hS1, by simpa using hx⟩
        simp only [hz, hz2] at k2
        exact W.cs (by omega) (by omega) k2
  · cases h
theorem xs_icmp (C : CallFix p m c cc nL s args xG own) {cnd : ClassFile.Cond} {off : Int} {tgt : Nat} (ht : (pc : Int) + off = (tgt : Int)) (hd : decode cc pc = .ok (.if_icmp cnd off, 3)) (h : (match st with | .int y :: .int x :: r => some (bif xcmp cnd x y then tgt else pc + 3, L, r, M) | _ => none) = some q)
    (hl : lv_has ls nL lv) (hL : xrl b as L lv) (hs : xrs b as st st0) (hM : xSt D H0 b s as tys M H locs) (kk : xKK p l e R s m args below meth c cells slots Q D H0 b nL as M q) :
    W p l e R s m args below meth c H locs cells slots Q (F0 m pc ls st0) := by
  split at h
  · rename_i y x r
    cases h
    obtain ⟨v1, s1, rfl, h1, v2, s2, rfl, h2, h3⟩ := hs
    cases h1; cases h2
    have yes : xcmp cnd x y = true → W p l e R s m args below meth c H locs cells slots Q (F0 m tgt ls s2) := fun g => by
      rw [g] at kk
      exact kk.same rfl rfl hl hL h3 hM
    have no : xcmp cnd x y = false → W p l e R s m args below meth c H locs cells slots Q (F0 m (pc + 3) ls s2) := fun g => by
      rw [g] at kk
      exact kk.same rfl rfl hl hL h3 hM
    cases cnd with
    | eq => exact lv_icmp_eq C.1 C.2.1 hd ht (fun hc => yes (by simp [xcmp, hc])) (fun hc => no (by simp [xcmp, hc]))
    | ne => exact lv_icmp_ne C.1 C.2.1 hd ht (fun hc => yes (by simp [xcmp, hc])) (fun hc => no (by simpa [xcmp] using hc))
    | lt => exact lv_icmp_lt C.1 C.2.1 hd ht (fun hc => yes (by simp [xcmp, hc])) (fun hc => no (by simpa [xcmp] using hc))
    | ge => exact lv_icmp_ge C.1 C.2.1 hd ht (fun hc => yes (by simp [xcmp, hc])) (fun hc => no (by simpa [xcmp] using hc))
    | gt => exact lv_icmp_gt C.1 C.2.1 hd ht (fun hc => yes (by simp [xcmp, hc])) (fun hc => no (by simpa [xcmp] using hc))
    | le => exact lv_icmp_le C.1 C.2.1 hd ht (fun hc => yes (by simp [xcmp, hc])) (fun hc => no (by simpa [xcmp] using hc))
  · cases h
theorem xs_if (C : CallFix p m c cc nL s args xG own) {cnd : ClassFile.Cond} {off : Int} {tgt : Nat} (ht : (pc : Int) + off = (tgt : Int)) (hd : decode cc pc = .ok (.ifCond cnd off, 3)) (h : (match st with | .int x :: r => some (bif xcmp cnd x 0 then tgt else pc + 3, L, r, M) | _ => none) = some q)
    (hl : lv_has ls nL lv) (hL : xrl b as L lv) (hs : xrs b as st st0) (hM : xSt D H0 b s as tys M H locs) (kk : xKK p l e R s m args below meth c cells slots Q D H0 b nL as M q) :
    W p l e R s m args below meth c H locs cells slots Q (F0 m pc ls st0) := by
  split at h
  · rename_i x r
    cases h
    obtain ⟨v1, s1, rfl, h1, h3⟩ := hs
    cases h1
    have yes : xcmp cnd x 0 = true → W p l e R s m args below meth c H locs cells slots Q (F0 m tgt ls s1) := fun g => by
      rw [g] at kk
      exact kk.same rfl rfl hl hL h3 hM
    have no : xcmp cnd x 0 = false → W p l e R s m args below meth c H locs cells slots Q (F0 m (pc + 3) ls s1) := fun g => by
      rw [g] at kk
      exact kk.same rfl rfl hl hL h3 hM
    cases cnd with
    | eq => exact lv_if_eq C.1 C.2.1 hd ht (fun hc => yes (by simp [xcmp, hc])) (fun hc => no (by simp [xcmp, hc]))
    | ne => exact lv_if_ne C.1 C.2.1 hd ht (fun hc => yes (by simp [xcmp, hc])) (fun hc => no (by simpa [xcmp] using hc))
    | lt => exact lv_if_lt C.1 C.2.1 hd ht (fun hc => yes (by simp [xcmp, hc])) (fun hc => no (by simpa [xcmp] using hc))
    | ge => exact lv_if_ge C.1 C.2.1 hd ht (fun hc => yes (by simp [xcmp, hc])) (fun hc => no (by simpa [xcmp] using hc))
    | gt => exact lv_if_gt C.1 C.2.1 hd ht (fun hc => yes (by simp [xcmp, hc])) (fun hc => no (by simpa [xcmp] using hc))
    | le => exact lv_if_le C.1 C.2.1 hd ht (fun hc => yes (by simp [xcmp, hc])) (fun hc => no (by simpa [xcmp] using hc))
  · cases h
theorem xs_sw (C : CallFix p m c cc nL s args xG own) {dflt lo hi : Int} {offs : Array Int} {len : Nat} (hd : decode cc pc = .ok (.tableswitch dflt lo hi offs, len)) (h0 : 0 ≤ (pc : Int) + dflt) (h1 : ∀ o ∈ offs.toList, 0 ≤ (pc : Int) + o) (h : xsw dflt lo hi offs pc L st M = some q)
    (hl : lv_has ls nL lv) (hL : xrl b as L lv) (hs : xrs b as st st0) (hM : xSt D H0 b s as tys M H locs) (kk : xKK p l e R s m args below meth c cells slots Q D H0 b nL as M q) :
    W p l e R s m args below meth c H locs cells slots Q (F0 m pc ls st0) := by
  unfold xsw at h
  split at h
  · rename_i x r
    obtain ⟨v1, s1, rfl, g1, h3⟩ := hs
    cases g1
    cases hc : (decide (x.toInt < lo) || decide (hi < x.toInt)) with
    | true =>
      simp only [hc, cond_true] at h
      cases h
      simp only [Bool.or_eq_true, decide_eq_true_eq] at hc
      exact lv_tableOut C.1 C.2.1 hd hc (Int.toNat_of_nonneg h0).symm (kk.same rfl rfl hl hL h3 hM)
    | false =>
      simp only [hc, cond_false] at h
      split at h
      · rename_i off ho
        cases h
        simp only [Bool.or_eq_false_iff, decide_eq_false_iff_not] at hc
        rw [xnth_eq, Array.getElem?_toList] at ho
        exact lv_tableIn C.1 C.2.1 hd hc.1 hc.2 ho (Int.toNat_of_nonneg (h1 off (by
          rw [← Array.getElem?_toList] at ho
          exact List.mem_of_getElem? ho))).symm (kk.same rfl rfl hl hL h3 hM)
      · cases h
  · cases h
theorem xs_iinc (C : CallFix p m c cc nL s args xG own) {i : Nat} {n : Int} (hi : i < nL) (hd : decode cc pc = .ok (.iinc i n, 3)) (h : (match xfind L i with | some (.int v) => some (pc + 3, xst1 L i (.int (v + Int32.ofInt n)), st, M) | _ => none) = some q)
    (hl : lv_has ls nL lv) (hL : xrl b as L lv) (hs : xrs b as st st0) (hM : xSt D H0 b s as tys M H locs) (kk : xKK p l e R s m args below meth c cells slots Q D H0 b nL as M q) :
    W p l e R s m args below meth c H locs cells slots Q (F0 m pc ls st0) := by
  split at h
  · rename_i v hf
    cases h
    obtain ⟨k, v', h1, h2⟩ := xrl_find hL hf
    cases h2
    exact lv_iinc C.1 C.2.1 hd hl h1 rfl hi rfl (fun ls' hl' => kk.same rfl rfl hl' ⟨_, _, rfl, rfl, xrl_drop1 i hL⟩ hs hM)
  · cases h
theorem xs_idiv (C : CallFix p m c cc nL s args xG own) (hd : decode cc pc = .ok (.idiv, 1)) (h : (match st with | .int y :: .int x :: r => bif decide (y = 0) then none else some (pc + 1, L, Value.int (x / y) :: r, M) | _ => none) = some q)
    (hl : lv_has ls nL lv) (hL : xrl b as L lv) (hs : xrs b as st st0) (hM : xSt D H0 b s as tys M H locs) (kk : xKK p l e R s m args below meth c cells slots Q D H0 b nL as M q) :
    W p l e R s m args below meth c H locs cells slots Q (F0 m pc ls st0) := by
  split at h
  · rename_i y x r
    cases hc : decide (y = 0) with
    | true => simp [hc] at h
    | false =>
      simp only [hc, cond_false] at h
      cases h
      obtain ⟨v1, s1, rfl, h1, v2, s2, rfl, h2, h3⟩ := hs
      cases h1; cases h2
      exact lv_idiv C.1 C.2.1 hd (of_decide_eq_false hc) (kk.same rfl rfl hl hL ⟨_, _, rfl, rfl, h3⟩ hM)
  · cases h
theorem xs_irem (C : CallFix p m c cc nL s args xG own) (hd : decode cc pc = .ok (.irem, 1)) (h : (match st with | .int y :: .int x :: r => bif decide (y = 0) then none else some (pc + 1, L, Value.int (x - x / y * y) :: r, M) | _ => none) = some q)
    (hl : lv_has ls nL lv) (hL : xrl b as L lv) (hs : xrs b as st st0) (hM : xSt D H0 b s as tys M H locs) (kk : xKK p l e R s m args below meth c cells slots Q D H0 b nL as M q) :
    W p l e R s m args below meth c H locs cells slots Q (F0 m pc ls st0) := by
  split at h
  · rename_i y x r
    cases hc : decide (y = 0) with
    | true => simp [hc] at h
    | false =>
      simp only [hc, cond_false] at h
      cases h
      obtain ⟨v1, s1, rfl, h1, v2, s2, rfl, h2, h3⟩ := hs
      cases h1; cases h2
      exact lv_irem C.1 C.2.1 hd (of_decide_eq_false hc) (kk.same rfl rfl hl hL ⟨_, _, rfl, rfl, h3⟩ hM)
  · cases h
theorem xs_ldiv (C : CallFix p m c cc nL s args xG own) (hd : decode cc pc = .ok (.ldiv, 1)) (h : (match st with | .long y :: .long x :: r => bif decide (y = 0) then none else some (pc + 1, L, Value.long (x / y) :: r, M) | _ => none) = some q)
    (hl : lv_has ls nL lv) (hL : xrl b as L lv) (hs : xrs b as st st0) (hM : xSt D H0 b s as tys M H locs) (kk : xKK p l e R s m args below meth c cells slots Q D H0 b nL as M q) :
    W p l e R s m args below meth c H locs cells slots Q (F0 m pc ls st0) := by
  split at h
  · rename_i y x r
    cases hc : decide (y = 0) with
    | true => simp [hc] at h
    | false =>
      simp only [hc, cond_false] at h
      cases h
      obtain ⟨v1, s1, rfl, h1, v2, s2, rfl, h2, h3⟩ := hs
      cases h1; cases h2
      exact lv_ldiv C.1 C.2.1 hd (of_decide_eq_false hc) (kk.same rfl rfl hl hL ⟨_, _, rfl, rfl, h3⟩ hM)
  · cases h
theorem xs_lrem (C : CallFix p m c cc nL s args xG own) (hd : decode cc pc = .ok (.lrem, 1)) (h : (match st with | .long y :: .long x :: r => bif decide (y = 0) then none else some (pc + 1, L, Value.long (x - x / y * y) :: r, M) | _ => none) = some q)
    (hl : lv_has ls nL lv) (hL : xrl b as L lv) (hs : xrs b as st st0) (hM : xSt D H0 b s as tys M H locs) (kk : xKK p l e R s m args below meth c cells slots Q D H0 b nL as M q) :
    W p l e R s m args below meth c H locs cells slots Q (F0 m pc ls st0) := by
  split at h
  · rename_i y x r
    cases hc : decide (y = 0) with
    | true => simp [hc] at h
    | false =>
      simp only [hc, cond_false] at h
      cases h
      obtain ⟨v1, s1, rfl, h1, v2, s2, rfl, h2, h3⟩ := hs
      cases h1; cases h2
      exact lv_lrem C.1 C.2.1 hd (of_decide_eq_false hc) (kk.same rfl rfl hl hL ⟨_, _, rfl, rfl, h3⟩ hM)
  · cases h
theorem xs_i2l (C : CallFix p m c cc nL s args xG own) (hd : decode cc pc = .ok (.i2l, 1)) (h : (match st with | .int x :: r => some (pc + 1, L, Value.long x.toInt64 :: r, M) | _ => none) = some q)
    (hl : lv_has ls nL lv) (hL : xrl b as L lv) (hs : xrs b as st st0) (hM : xSt D H0 b s as tys M H locs) (kk : xKK p l e R s m args below meth c cells slots Q D H0 b nL as M q) :
    W p l e R s m args below meth c H locs cells slots Q (F0 m pc ls st0) := by
  split at h
  · cases h
    obtain ⟨v1, s1, rfl, h1, h3⟩ := hs
    cases h1
    exact lv_i2l C.1 C.2.1 hd rfl (kk.same rfl rfl hl hL ⟨_, _, rfl, rfl, h3⟩ hM)
  · cases h
theorem xs_l2i (C : CallFix p m c cc nL s args xG own) (hd : decode cc pc = .ok (.l2i, 1)) (h : (match st with | .long x :: r => some (pc + 1, L, Value.int x.toInt32 :: r, M) | _ => none) = some q)
    (hl : lv_has ls nL lv) (hL : xrl b as L lv) (hs : xrs b as st st0) (hM : xSt D H0 b s as tys M H locs) (kk : xKK p l e R s m args below meth c cells slots Q D H0 b nL as M q) :
    W p l e R s m args below meth c H locs cells slots Q (F0 m pc ls st0) := by
  split at h
  · cases h
    obtain ⟨v1, s1, rfl, h1, h3⟩ := hs
    cases h1
    exact lv_l2i C.1 C.2.1 hd rfl (kk.same rfl rfl hl hL ⟨_, _, rfl, rfl, h3⟩ hM)
  · cases h
theorem xs_lcmp (C : CallFix p m c cc nL s args xG own) (hd : decode cc pc = .ok (.lcmp, 1)) (h : (match st with | .long y :: .long x :: r => some (pc + 1, L, Value.int (lg_cmp x y) :: r, M) | _ => none) = some q)
    (hl : lv_has ls nL lv) (hL : xrl b as L lv) (hs : xrs b as st st0) (hM : xSt D H0 b s as tys M H locs) (kk : xKK p l e R s m args below meth c cells slots Q D H0 b nL as M q) :
    W p l e R s m args below meth c H locs cells slots Q (F0 m pc ls st0) := by
  split at h
  · cases h
    obtain ⟨v1, s1, rfl, h1, v2, s2, rfl, h2, h3⟩ := hs
    cases h1; cases h2
    exact W.lcmp C.1 C.2.1 hd (kk.same rfl rfl hl hL ⟨_, _, rfl, rfl, h3⟩ hM)
  · cases h
theorem xs_dup (C : CallFix p m c cc nL s args xG own) (hd : decode cc pc = .ok (.dup, 1)) (h : (match st with | v :: r => bif Nat.beq (xcat v) 1 then some (pc + 1, L, v :: v :: r, M) else none | _ => none) = some q)
    (hl : lv_has ls nL lv) (hL : xrl b as L lv) (hs : xrs b as st st0) (hM : xSt D H0 b s as tys M H locs) (kk : xKK p l e R s m args below meth c cells slots Q D H0 b nL as M q) :
    W p l e R s m args below meth c H locs cells slots Q (F0 m pc ls st0) := by
  split at h
  · rename_i v r
    cases hc : Nat.beq (xcat v) 1 with
    | false => simp [hc] at h
    | true =>
      simp only [hc, cond_true] at h
      cases h
      obtain ⟨v1, s1, rfl, h1, h3⟩ := hs
      exact lv_dup C.1 C.2.1 hd ((xrv_cat h1).trans (Nat.eq_of_beq_eq_true hc)) (kk.same rfl rfl hl hL ⟨_, _, rfl, h1, _, _, rfl, h1, h3⟩ hM)
  · cases h
theorem xs_pop (C : CallFix p m c cc nL s args xG own) (hd : decode cc pc = .ok (.pop, 1)) (h : (match st with | v :: r => bif Nat.beq (xcat v) 1 then some (pc + 1, L, r, M) else none | _ => none) = some q)
    (hl : lv_has ls nL lv) (hL : xrl b as L lv) (hs : xrs b as st st0) (hM : xSt D H0 b s as tys M H locs) (kk : xKK p l e R s m args below meth c cells slots Q D H0 b nL as M q) :
    W p l e R s m args below meth c H locs cells slots Q (F0 m pc ls st0) := by
  split at h
  · rename_i v r
    cases hc : Nat.beq (xcat v) 1 with
    | false => simp [hc] at h
    | true =>
      simp only [hc, cond_true] at h
      cases h
      obtain ⟨v1, s1, rfl, h1, h3⟩ := hs
      exact lv_pop C.1 C.2.1 hd ((xrv_cat h1).trans (Nat.eq_of_beq_eq_true hc)) (kk.same rfl rfl hl hL h3 hM)
  · cases h
theorem xs_dup2 (C : CallFix p m c cc nL s args xG own) (hd : decode cc pc = .ok (.dup2, 1)) (h : (match st with | v :: w :: r => bif Nat.beq (xcat v) 1 && Nat.beq (xcat w) 1 then some (pc + 1, L, v :: w :: v :: w :: r, M) else bif Nat.beq (xcat v) 2 then some (pc + 1, L, v :: v :: w :: r, M) else none | _ => none) = some q)
    (hl : lv_has ls nL lv) (hL : xrl b as L lv) (hs : xrs b as st st0) (hM : xSt D H0 b s as tys M H locs) (kk : xKK p l e R s m args below meth c cells slots Q D H0 b nL as M q) :
    W p l e R s m args below meth c H locs cells slots Q (F0 m pc ls st0) := by
  split at h
  · rename_i v w r
    obtain ⟨v1, s1, rfl, h1, v2, s2, rfl, h2, h3⟩ := hs
    cases hc : (Nat.beq (xcat v) 1 && Nat.beq (xcat w) 1) with
    | true =>
      simp only [hc, cond_true] at h
      cases h
      rw [Bool.and_eq_true] at hc
      exact lv_dup2_11 C.1 C.2.1 hd ((xrv_cat h1).trans (Nat.eq_of_beq_eq_true hc.1)) ((xrv_cat h2).trans (Nat.eq_of_beq_eq_true hc.2)) (kk.same rfl rfl hl hL ⟨_, _, rfl, h1, _, _, rfl, h2, _, _, rfl, h1, _, _, rfl, h2, h3⟩ hM)
    | false =>
      simp only [hc, cond_false] at h
      cases hc2 : Nat.beq (xcat v) 2 with
      | false => simp [hc2] at h
      | true =>
        simp only [hc2, cond_true] at h
        cases h
        exact lv_dup2_2 C.1 C.2.1 hd ((xrv_cat h1).trans (Nat.eq_of_beq_eq_true hc2)) (kk.same rfl rfl hl hL ⟨_, _, rfl, h1, _, _, rfl, h1, _, _, rfl, h2, h3⟩ hM)
  · cases h
theorem xs_obj (C : CallFix p m c cc nL s args xG own) {idx : Nat} (hw0 : Cond.methodLink own idx objectInit ∈ xG) (hw1 : Cond.instanceMethod objectInit ∈ xG) (hw2 : Cond.code objectInit ⟨#[0xb1]⟩ 1 none ∈ xG) (hfr : 1 ≤ R.frames) (hlo : 26 ≤ R.locals) (hd : decode cc pc = .ok (.invokespecial idx, 3)) {a : Nat} (h : (match st with | .ref _ :: r => bif Nat.beq a 5000 && xcat8 r then some (pc + 3, L, r, M) else none | _ => none) = some q)
    (hl : lv_has ls nL lv) (hL : xrl b as L lv) (hs : xrs b as st st0) (hM : xSt D H0 b s as tys M H locs) (kk : xKK p l e R s m args below meth c cells slots Q D H0 b nL as M q) :
    W p l e R s m args below meth c H locs cells slots Q (F0 m pc ls st0) := by
  split at h
  · rename_i i r
    cases hc : (Nat.beq a 5000 && xcat8 r) with
    | false => simp [hc] at h
    | true =>
      simp only [hc, cond_true] at h
      cases h
      rw [Bool.and_eq_true] at hc
      obtain ⟨v1, s1, rfl, ⟨a0, ha, rfl⟩, h3⟩ := hs
      have hcat : (s1.map fun v => v.category).sum ≤ 8 := by
        rw [xrs_cats h3]
        exact Nat.le_of_ble_eq_true hc.2
      refine W.objInit C.1 C.2.1 C.2.2.2.1 (C.2.2.2.2 _ hw0) (C.2.2.2.2 _ hw1) (C.2.2.2.2 _ hw2) rfl (hl.1.trans C.2.2.1.symm) rfl hd hfr ?_ (kk.same rfl rfl hl hL h3 hM)
      show 2 * 0 + _ + 12 ≤ _
      omega
  · cases h
theorem xs_math (C : CallFix p m c cc nL s args xG own) {g : Int32 → Int32 → Int32} (hrow : ∀ (x y : Int32) (r : List Value), (r.map fun v => v.category).sum + 13 ≤ R.locals → W p l e R s m args below meth c H locs cells slots Q (F0 m (pc + 3) ls (.int (g x y) :: r)) → W p l e R s m args below meth c H locs cells slots Q (F0 m pc ls (.int y :: .int x :: r)))
    (hlo : 26 ≤ R.locals) (h : xmath g pc L st M = some q) (hl : lv_has ls nL lv) (hL : xrl b as L lv) (hs : xrs b as st st0) (hM : xSt D H0 b s as tys M H locs) (kk : xKK p l e R s m args below meth c cells slots Q D H0 b nL as M q) :
    W p l e R s m args below meth c H locs cells slots Q (F0 m pc ls st0) := by
  unfold xmath at h
  split at h
  · rename_i y x r
    cases hc : xcat8 r with
    | false => simp [hc] at h
    | true =>
      simp only [hc, cond_true] at h
      cases h
      obtain ⟨v1, s1, rfl, h1, v2, s2, rfl, h2, h3⟩ := hs
      cases h1; cases h2
      have hcat : (s2.map fun v => v.category).sum ≤ 8 := by
        rw [xrs_cats h3]
        exact Nat.le_of_ble_eq_true hc
      exact hrow _ _ _ (by omega) (kk.same rfl rfl hl hL ⟨_, _, rfl, rfl, h3⟩ hM)
  · cases h
theorem xs_abs (C : CallFix p m c cc nL s args xG own) {idx : Nat} (hw0 : Cond.methodLink own idx Lib.Math.abs.name ∈ xG) (hw1 : Cond.static Lib.Math.abs.name ∈ xG) (hw2 : Cond.initialized "java/lang/Math" ∈ xG) (hw3 : Cond.code Lib.Math.abs.name Lib.Math.abs.code 1 (some .int) ∈ xG) (hfr : 1 ≤ R.frames) (hlo : 26 ≤ R.locals) (hr : cells ≤ R.cells ∧ slots ≤ R.slots) (hd : decode cc pc = .ok (.invokestatic idx, 3))
    (h : (match st with | .int x :: r => bif xcat8 r then some (pc + 3, L, Value.int (if 0 ≤ x then x else 0 - x) :: r, M) else none | _ => none) = some q) (hl : lv_has ls nL lv) (hL : xrl b as L lv) (hs : xrs b as st st0) (hM : xSt D H0 b s as tys M H locs) (kk : xKK p l e R s m args below meth c cells slots Q D H0 b nL as M q) :
    W p l e R s m args below meth c H locs cells slots Q (F0 m pc ls st0) := by
  split at h
  · rename_i x r
    cases hc : xcat8 r with
    | false => simp [hc] at h
    | true =>
      simp only [hc, cond_true] at h
      cases h
      obtain ⟨v1, s1, rfl, h1, h3⟩ := hs
      cases h1
      have hcat : (s1.map fun v => v.category).sum ≤ 8 := by
        rw [xrs_cats h3]
        exact Nat.le_of_ble_eq_true hc
      exact va_mabs C.1 C.2.1 (by rw [hl.1]; exact C.2.2.1) C.2.2.2.1 (C.2.2.2.2 _ hw0) (C.2.2.2.2 _ hw1) (C.2.2.2.2 _ hw2) (C.2.2.2.2 _ hw3) hfr (by omega) hr.1 hr.2 hd (kk.same rfl rfl hl hL ⟨_, _, rfl, rfl, h3⟩ hM)
  · cases h
end XS4
