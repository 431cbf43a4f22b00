def xvv (v : Option Value) : Prop := match v with
  | none => True
  | some (.int _) => True
  | some (.long _) => True
  | _ => False
/-- the end of a method, by what it answers -/
def xRet (cc : ByteArray) (rk pc : Nat) (v : Option Value) : Prop := match v with
  | none => rk = 0 ∧ decode cc pc = .ok (.return_, 1)
  | some (.int x) => decode cc pc = .ok (.ireturn, 1) ∧ (rk = 1 ∨ (rk = 3 ∧ (x = 0 ∨ x = 1)))
  | some (.long _) => decode cc pc = .ok (.lreturn, 1) ∧ rk = 2
  | _ => False
theorem xRet.vv {cc : ByteArray} {rk pc : Nat} {v : Option Value} (h : xRet cc rk pc v) : xvv v := by
  cases v with
  | none => trivial
  | some x => cases x <;> first | trivial | exact h
theorem xend_ok {rk : Nat} {e : xE} {st : List Value} {v : Option Value} (h : xend rk e st = some v) {cc : ByteArray} {pc : Nat} (hd : decode cc pc = .ok (e.1, xln e)) : st = v.toList ∧ xRet cc rk pc v := by
  obtain ⟨ins, ea, eb, ez⟩ := e
  unfold xend at h
  split at h
  · rename_i hi
    cases hi
    cases hc : Nat.beq rk 0 with
    | false => simp [hc] at h
    | true =>
      simp only [hc, cond_true] at h
      split at h
      · cases h
        exact ⟨rfl, Nat.eq_of_beq_eq_true hc, hd⟩
      · cases h
  · rename_i hi
    cases hi
    split at h
    · rename_i x
      cases hc : (Nat.beq rk 1 || (Nat.beq rk 3 && (decide (x = 0) || decide (x = 1)))) with
      | false => simp [hc] at h
      | true =>
        simp only [hc, cond_true] at h
        cases h
        simp only [Bool.or_eq_true, Bool.and_eq_true, Nat.beq_eq, decide_eq_true_eq] at hc
        exact ⟨rfl, hd, hc⟩
    · cases h
  · rename_i hi
    cases hi
    split at h
    · rename_i x
      cases hc : Nat.beq rk 2 with
      | false => simp [hc] at h
      | true =>
        simp only [hc, cond_true] at h
        cases h
        exact ⟨rfl, hd, Nat.eq_of_beq_eq_true hc⟩
    · cases h
  · cases h
theorem xvv_rel {b : Nat → Nat} {as : List Nat} {v : Option Value} (h : xvv v) {w : List Value} (hw : xrs b as v.toList w) : w = v.toList := by
  cases v with
  | none => exact hw
  | some x =>
    cases x with
    | int y => obtain ⟨v', s', rfl, h1, h2⟩ := hw; cases h1; cases h2; rfl
    | long y => obtain ⟨v', s', rfl, h1, h2⟩ := hw; cases h1; cases h2; rfl
    | _ => exact h.elim
theorem xvv_push {b : Nat → Nat} {as : List Nat} {v : Option Value} (h : xvv v) {r r' : List Value} (hr : xrs b as r r') : xrs b as (xpush v r) (v.toList ++ r') := by
  cases v with
  | none => exact hr
  | some x =>
    cases x with
    | int y => exact ⟨_, _, rfl, rfl, hr⟩
    | long y => exact ⟨_, _, rfl, rfl, hr⟩
    | _ => exact h.elim
theorem xsl_len {b : Nat → Nat} {as : List Nat} : ∀ {l w : List Value}, xrs b as l w → (lg_sl w).length = xcats l
  | [], _, h => by cases h; rfl
  | v :: l, _, ⟨v', l', h1, h2, h3⟩ => by
    subst h1
    have ih := xsl_len h3
    have hc := xrv_cat h2
    unfold lg_sl at ih ⊢
    simp only [List.flatMap_cons, List.length_append, ih, xcats]
    rcases lv_cat v' with q | q
    · simp [q] at hc ⊢
      omega
    · simp [q] at hc ⊢
      omega
def xPc (sc : List Int32) (D : va_G) (H0 : Heap) (b : Nat → Nat) (as : List Nat) (tys : List (ClassId × FieldType)) (M : xM) (ar : List Value) : Array Value → State → Prop := fun a U => a = ar.toArray ∧ xSt D H0 b U as tys M U.heap [] ∧ xnw b U ∧ xXX sc b U H0 ∧ b 0 < H0.size
def xQc (D : va_G) (H0 : Heap) (b : Nat → Nat) (as : List Nat) (M : xM) (v : Option Value) : Array Value → State → Outcome → State → Prop := fun _ _ o t => o = .returned v ∧ xvv v ∧ ∃ (as' : List Nat) (tys' : List (ClassId × FieldType)), (∃ ex, as' = as ++ ex) ∧ xSt D H0 b t as' tys' M t.heap []
theorem xSt.moved {D : va_G} {H0 : Heap} {b : Nat → Nat} {s t : State} {as : List Nat} {tys : List (ClassId × FieldType)} {M : xM} {H : Heap} {locs locs' : List Loc} (hvm : s.vm.Alike t.vm) (hl : ∀ q ∈ locs', H0.size ≤ q.base) (h : xSt D H0 b s as tys M H locs) : xSt D H0 b t as tys M H locs' := by
  obtain ⟨ws, hK, hP, hD, hS, hm⟩ := h
  exact ⟨ws, va_K.moved hvm hK, hP, hD, ⟨hS.1, hS.2.1, hl⟩, hm⟩
theorem xX_moved {sc : List Int32} {b : Nat → Nat} {s t : State} {H : Heap} (hvm : s.vm.Alike t.vm) (h : xXX sc b s H) : xXX sc b t H := by
  obtain ⟨⟨scr, h1, h2, h3⟩, adV, h4, h5, h6⟩ := h
  exact ⟨⟨scr, h1, State.isArrayOf_alike hvm h2, h3⟩, adV, vk_S.moved hvm h4, va_Z.moved hvm h5, va_Zq.moved hvm h6⟩
theorem xPc_blind {sc : List Int32} {D : va_G} {H0 : Heap} {b : Nat → Nat} {as : List Nat} {tys : List (ClassId × FieldType)} {M : xM} {ar : List Value} : FrameBlind (xPc sc D H0 b as tys M ar) := by
  intro a U g mk h
  obtain ⟨h1, h2, h3, h4, h5⟩ := h
  have hv : U.vm.Alike (U.calling g mk a).vm := Vm.Alike.refl U.vm
  exact ⟨h1, xSt.moved hv (fun _ h => by cases h) h2, xnw.same (U := U.calling g mk a) rfl h3, xX_moved hv h4, h5⟩
/-- what a run says, at a fuel -/
def xSound (l : Launch) (sc : List Int32) (f : Nat) : Prop := ∀ {y : Nat} {r : xR} {i : xI} {pc : Nat} {L : xL} {st : List Value} {M : xM} {v : Option Value} {Mf : xM}, srun xmeth xty xdf sc f r pc L st M = some (v, Mf) → xmeth y = some r → xinf y = some i → xeok y = true →
  ∀ {p : Program} {e : Env} {R : Room} {s : State} {m : MethodId} {args : Array Value} {below : List Frame} {meth : Method} {c : Code} {H : Heap} {locs : List Loc} {cells slots : Nat} {Q : State → Prop} {D : va_G} {H0 : Heap} {b : Nat → Nat} {as : List Nat} {tys : List (ClassId × FieldType)} {lv : xL} {ls : Array Slot} {st0 : List Value},
    CallFix p m c i.2.1 r.2.1 s args xG (xown i.2.2.2.2.1) → (i.1.name = "<init>" → meth.name = "<init>") → xnw b s → xXX sc b s H0 → b 0 < H0.size → i.2.2.1 ≤ R.frames → i.2.2.2.1 ≤ R.locals →
    (cells + (Mf.length - M.length) ≤ R.cells ∧ slots + (xz Mf - xz M) ≤ R.slots) → lv_has ls r.2.1 lv → xrl b as L lv → xrs b as st st0 → xSt D H0 b s as tys M H locs →
    (∀ (as' : List Nat) (tys' : List (ClassId × FieldType)) (H' : Heap) (locs' : List Loc) (ls' : Array Slot) (pc' : Nat), (∃ ex, as' = as ++ ex) → xSt D H0 b s as' tys' Mf H' locs' → xRet i.2.1 r.2.2 pc' v → W p l e R s m args below meth c H' locs' (cells + (Mf.length - M.length)) (slots + (xz Mf - xz M)) Q (F0 m pc' ls' v.toList)) →
    W p l e R s m args below meth c H locs cells slots Q (F0 m pc ls st0)
set_option maxHeartbeats 1000000 in
theorem xmet {l : Launch} {sc : List Int32} {f : Nat} (IH : xSound l sc f) {y : Nat} {r : xR} {i : xI} {ar ar' : List Value} {M Mf : xM} {v : Option Value} (h : srun xmeth xty xdf sc f r 0 (lv_args 0 ar) [] M = some (v, Mf)) (hm : xmeth y = some r) (hi : xinf y = some i) (hy : xeok y = true) (hpl : plainName i.1.cls = true) (hown : xown i.2.2.2.2.1 = i.1.cls) (hcat : xcats ar ≤ r.2.1)
    {D : va_G} {H0 : Heap} {b : Nat → Nat} {as : List Nat} {tys : List (ClassId × FieldType)} (har : xrs b as ar ar') :
    Met l i.1 (.code i.1 i.2.1 r.2.1 (xret r.2.2) :: xG) { frames := i.2.2.1, cells := Mf.length - M.length, slots := xz Mf - xz M, locals := i.2.2.2.1 } (xPc sc D H0 b as tys M ar') (xQc D H0 b as Mf v) (Mf.length - M.length) (xz Mf - xz M) (fun q => H0.size ≤ q) := by
  refine Met.ofW (cc := i.2.1) (maxL := r.2.1) (ret := xret r.2.2) hpl rfl ?_
  intro p e s m args below meth c s₁ B hml hv
  obtain ⟨rfl, hst, hnw, hX, hbl⟩ := hv
  have hx := B.exec
  have hb := B.bytes
  have hr := B.returns
  have hts := atoms_spec (ws := Cond.code i.1 i.2.1 r.2.1 (xret r.2.2) :: xG) B.pre
  have hfc : s.vm.findClass i.1.cls = some m.cls := findClass_of_methodNamed B.named
  have hlocks := B.notSynchronized
  have hin : meth.name = i.1.name := (name_of_methodNamed B.named B.method).1
  rw [lg_entry_eq]
  have hl := lv_entry ar' (n := r.2.1) (by rw [xsl_len har]; exact hcat)
  refine IH h hm hi hy ⟨hx, hb, hml, by rw [hown]; exact hfc, fun w hw => hts w (List.mem_cons_of_mem _ hw)⟩ (fun q => hin.trans q) hnw hX hbl (Nat.le_refl _) (Nat.le_refl _) ⟨?_, ?_⟩ hl (xrl_args 0 har) rfl hst ?_
  · rw [Nat.zero_add]; exact Nat.le_refl _
  · rw [Nat.zero_add]; exact Nat.le_refl _
  · intro as' tys' H' locs' ls' pc' hex hst' hret
    rw [Nat.zero_add, Nat.zero_add]
    have hf : ∀ q ∈ locs', (fun q : Nat => H0.size ≤ q) q.base := by
      obtain ⟨ws, -, -, -, hS, -⟩ := hst'
      exact hS.2.2
    have fin : ∀ t : State, t.heap = H' → s.WarmedH t.vm → xQc D H0 b as Mf v ar'.toArray s (.returned v) t := fun t ht hW => ⟨rfl, hret.vv, as', tys', hex, by rw [ht]; exact xSt.moved hW.alike (fun _ h => by cases h) hst'⟩
    cases v with
    | none =>
      obtain ⟨h1, h2⟩ := hret
      rw [h1] at hr
      exact W.vret hx hb hr fin hf h2
    | some x =>
      cases x with
      | int z =>
        obtain ⟨h2, h1⟩ := hret
        rcases h1 with h1 | ⟨h1, h3⟩
        · rw [h1] at hr
          exact W.iret hx hb hr fin hf h2
        · rw [h1] at hr
          exact W.zret (ty := .boolean) hx hb hr (by rcases h3 with rfl | rfl <;> rfl) fin hf h2
      | long z =>
        obtain ⟨h2, h1⟩ := hret
        rw [h1] at hr
        exact W.lret hx hb hr fin hf h2
      | _ => exact hret.elim
theorem xgo {p : Program} {l : Launch} {e : Env} {R : Room} {s : State} {m : MethodId} {args : Array Value} {below : List Frame} {meth : Method} {c : Code} {H : Heap} {locs : List Loc} {cells slots : Nat} {Q : State → Prop} {pc : Nat} {ls : Array Slot} {st0 rest : List Value} {mc ms : Nat} {Qa : State → Outcome → State → Prop} {free : Addr → Prop}
    (hr : va_Run p l e R s m args below meth c H locs cells slots mc ms (F0 m pc ls st0) rest Qa free)
    (kk : ∀ (v : Option Value) (st₀ t : State) (L : List Loc), s.vm.Alike t.vm → (∀ q ∈ L, free q.base) → Qa st₀ (.returned v) t → W p l e R s m args below meth c t.heap (locs ++ L) (cells + mc) (slots + ms) Q (F0 m (pc + 3) ls (v.toList ++ rest))) : W p l e R s m args below meth c H locs cells slots Q (F0 m pc ls st0) := by
  intro T hT X
  obtain ⟨v, st₀, t, T', L, h0, X', hL, e1, e2, hq, st⟩ := hr T hT X
  obtain ⟨t2, a1, b1⟩ := kk v st₀ t L (by rw [← e2]; exact X'.warmed.alike) hL hq T' e1 X'
  exact ⟨t2, st t2 a1, b1⟩
theorem xgoodIn {y : MethodName} {cc : ByteArray} {n : Nat} {rt : Option FieldType} (h : Cond.code y cc n rt ∈ xG) : GoodIn xG (.code y cc n rt :: xG) := by
  intro w hw
  rcases List.mem_cons.mp hw with rfl | hw
  · exact ⟨h, good_of_word (List.mem_filter.mp h).2⟩
  · exact ⟨hw, good_of_word (List.mem_filter.mp hw).2⟩
set_option maxRecDepth 20000 in
theorem xown_all : (List.range 357).all (fun y => match xinf y with | some i => decide (xown i.2.2.2.2.1 = i.1.cls) | none => false) = true := by decide +kernel
theorem xown_in {y : Nat} {i : xI} (hy : y < 357) (hi : xinf y = some i) : xown i.2.2.2.2.1 = i.1.cls := by
  have h := List.all_eq_true.mp xown_all y (List.mem_range.mpr hy)
  rw [hi] at h
  exact of_decide_eq_true h
theorem xmok_in {y : Nat} {i : xI} {r : xR} (hy : y < 356) (hi : xinf y = some i) (hr : xmeth y = some r) : Cond.code i.1 i.2.1 r.2.1 (xret r.2.2) ∈ xG ∧ Cond.initialized i.1.cls ∈ xG ∧ (i.2.2.2.2.2.1 = 0 → Cond.static i.1 ∈ xG) ∧ (i.2.2.2.2.2.1 = 1 → Cond.instanceMethod i.1 ∈ xG ∧ Cond.selects i.1.cls i.1 i.1 ∈ xG) ∧ (i.2.2.2.2.2.1 = 2 → Cond.instanceMethod i.1 ∈ xG ∧ i.1.name = "<init>" ∧ xret r.2.2 = none) ∧ plainName i.1.cls = true ∧ (i.1.cls ≠ "java/lang/invoke/MethodHandle" ∧ i.1.cls ≠ "java/lang/invoke/VarHandle") ∧ (parseMethodDescriptor i.1.desc).map (fun d => d.parameters.length) = some i.2.2.2.2.2.2.1 := by
  have h := xmok_all y hy
  unfold xmok at h
  rw [hi] at h
  dsimp only at h
  rw [hr] at h
  dsimp only at h
  simp only [Bool.and_eq_true, decide_eq_true_eq] at h
  obtain ⟨⟨⟨⟨h1, h2⟩, h3⟩, h4⟩, h5⟩ := h
  refine ⟨xcw_all y i r hy hi hr, xgd_in h1, fun e => ?_, fun e => ?_, fun e => ?_, h3, h4, h5⟩
  · rw [e] at h2
    exact xgd_in h2
  · rw [e] at h2
    simp only [Bool.and_eq_true] at h2
    exact ⟨xgd_in h2.1, xgd_in h2.2⟩
  · rw [e] at h2
    simp only [Bool.and_eq_true, decide_eq_true_eq] at h2
    exact ⟨xgd_in h2.1.1, h2.1.2, h2.2⟩
theorem xML_in {o i y : Nat} {j : xI} (h : xhas3 xML o i y = true) (hj : xinf y = some j) : Cond.methodLink (xown o) i j.1 ∈ xG := by
  obtain ⟨q, hq, rfl, rfl, rfl⟩ := xhas3_in h
  have h1 := List.all_eq_true.mp xML_ok q hq
  unfold xML_c at h1
  rw [hj] at h1
  exact xgd_in h1
theorem xMN_in {o i y : Nat} {b : Nat → Nat} {j : xI} {U : State} (hN : xnw b U) (h : xhas3 xMN o i y = true) (hj : xinf y = some j) : va_Nw (.methodLinkNest (xown o) i j.1 "LaterPrints") U := by
  obtain ⟨q, hq, rfl, rfl, rfl⟩ := xhas3_in h
  exact hN.1 q hq j hj
theorem xcall_in {kind own fr lo idx : Nat} {e : xE} (h : xcall kind own fr lo idx e = true) : ∃ (i : xI) (r : xR), e.2.1 < 356 ∧ xinf e.2.1 = some i ∧ xmeth e.2.1 = some r ∧ i.2.2.2.2.2.1 = kind ∧ i.2.2.1 + 1 ≤ fr ∧ 8 + (r.2.1 + 11) + i.2.2.2.1 ≤ lo ∧
    (kind = 0 → i.2.2.2.2.2.2.1 = e.2.2.1 ∧ (xhas3 xMN own idx e.2.1 = true ∨ xhas3 xML own idx e.2.1 = true)) ∧
    (kind = 1 → i.2.2.2.2.2.2.1 + 1 = e.2.2.1 ∧ xhas3 xML own idx e.2.1 = true ∧ e.2.2.2.toNat < 20 ∧ ∃ z : vw_C, xcl[e.2.2.2.toNat]? = some z ∧ z.1 = i.1.cls) ∧
    (kind = 2 → i.2.2.2.2.2.2.1 + 1 = e.2.2.1 ∧ (xhas3 xMN own idx e.2.1 = true ∨ xhas3 xML own idx e.2.1 = true)) := by
  unfold xcall at h
  simp only [Bool.and_eq_true] at h
  obtain ⟨hlt, h⟩ := h
  split at h
  · rename_i i hi
    split at h
    · rename_i r hr
      simp only [Bool.and_eq_true] at h
      obtain ⟨⟨⟨h1, h2⟩, h3⟩, h4⟩ := h
      refine ⟨i, r, Nat.blt_eq.mp hlt, hi, hr, Nat.eq_of_beq_eq_true h1, Nat.blt_eq.mp h2, Nat.le_of_ble_eq_true h3, fun e0 => ?_, fun e0 => ?_, fun e0 => ?_⟩
      · subst e0
        simp only [Bool.and_eq_true, Nat.beq_eq] at h4
        refine ⟨h4.1, ?_⟩
        cases hc : decide (e.2.2.2 = 1) with
        | true => rw [hc] at h4; exact Or.inl h4.2
        | false => rw [hc] at h4; exact Or.inr h4.2
      · subst e0
        simp only [Bool.and_eq_true, Nat.beq_eq] at h4
        obtain ⟨⟨⟨g1, g2⟩, g3⟩, g4⟩ := h4
        refine ⟨g1, g2, Nat.blt_eq.mp g3, ?_⟩
        split at g4
        · rename_i z hz
          exact ⟨z, hz, of_decide_eq_true g4⟩
        · cases g4
      · subst e0
        simp only [Bool.and_eq_true, Nat.beq_eq] at h4
        refine ⟨h4.1, ?_⟩
        cases hc : decide (e.2.2.2 = 1) with
        | true => rw [hc] at h4; exact Or.inl h4.2
        | false => rw [hc] at h4; exact Or.inr h4.2
    · cases h
  · cases h
set_option maxHeartbeats 2000000 in
/-- a call, whichever: the run that it gives -/
theorem xcall_run {l : Launch} {sc : List Int32} {f : Nat} (IH : xSound l sc f) {o fr lo nL : Nat} {ee : xE} {cc : ByteArray} {ini : Bool} {p : Program} {e : Env} {R : Room} {s : State} {m : MethodId} {args : Array Value} {below : List Frame} {meth : Method} {c : Code} {H : Heap} {locs : List Loc} {cells slots : Nat} {D : va_G} {H0 : Heap} {b : Nat → Nat} {as : List Nat} {tys : List (ClassId × FieldType)} {ls : Array Slot} {pc : Nat} {st st0 ar rest : List Value} {M M1 : xM} {v : Option Value} {r' : xR} {lv : xL}
    (C : CallFix p m c cc nL s args xG (xown o)) (hN : xnw b s) (hX : xXX sc b s H0) (hbl : b 0 < H0.size) (hfr : fr ≤ R.frames) (hlo : lo ≤ R.locals) (hd : decode cc pc = .ok (ee.1, xln ee)) (hchk : xchk o ini nL fr lo pc ee = true) (hkind : xkind ee = 1)
    (hp : xpop ee.2.2.1 [] st = some (ar, rest)) (hc8 : xcat8 rest = true) (hrc : xrecv ee ar M = true) (hm : xmeth ee.2.1 = some r') (hcat : xcats ar ≤ r'.2.1) (hrun : srun xmeth xty xdf sc f r' 0 (lv_args 0 ar) [] M = some (v, M1))
    (hr : cells + (M1.length - M.length) ≤ R.cells ∧ slots + (xz M1 - xz M) ≤ R.slots) (hl : lv_has ls nL lv) (hs : xrs b as st st0) (hM : xSt D H0 b s as tys M H locs) :
    ∃ (rest' : List Value) (A : Array Value), xrs b as rest rest' ∧ va_Run p l e R s m args below meth c H locs cells slots (M1.length - M.length) (xz M1 - xz M) (F0 m pc ls st0) rest' (xQc D H0 b as M1 v A) (fun q => H0.size ≤ q) := by
  obtain ⟨ar', rest', g1, g2, -, g4, g5, g6⟩ := xpop_ok (acc' := []) ee.2.2.1 hp rfl hs
  simp only [List.length_nil, Nat.sub_zero, Nat.add_zero, List.take_length] at g4 g6
  subst g4
  have hcats : (rest'.map fun v => v.category).sum ≤ 8 := by
    rw [xrs_cats g2]
    exact Nat.le_of_ble_eq_true hc8
  have hst0 : ∀ U : State, U.heap = H → s.WarmedH U.vm → xPc sc D H0 b as tys M ar' ar'.toArray U := fun U hU hW => ⟨rfl, by rw [hU]; exact xSt.moved hW.alike (fun _ h => by cases h) hM, hN.warm hW, xX_moved hW.alike hX, hbl⟩
  obtain ⟨ins, ea, eb, ez⟩ := ee
  cases ins
  case invokestatic idx =>
    simp only [xkind] at hkind
    simp only [xchk] at hchk
    cases hble : Nat.ble 5001 ea with
    | true => rw [hble] at hkind; cases hkind
    | false =>
      rw [hble] at hchk
      obtain ⟨i, r, hy, hi, hr2, k0, f0, l0, q0, -, -⟩ := xcall_in hchk
      cases hm.symm.trans hr2
      obtain ⟨w1, w2, w3, w4, w5, w6, w7, w8⟩ := xmok_in hy hi hm
      have hMet := xmet IH hrun hm hi (xeok_all _ (by omega)) w6 (xown_in (by omega) hi) hcat (D := D) (H0 := H0) (tys := tys) g1
      obtain ⟨q1, q2⟩ := q0 rfl
      refine ⟨rest', ar'.toArray, g2, ?_⟩
      rcases q2 with q2 | q2
      · exact va_runSN (n := i.2.2.2.2.2.2.1) C hMet ⟨va_cnB i.2.2.2.2.2.2.1 C.2.2.2.2 (xgoodIn w1) rfl rfl rfl (xMN_in hN q2 hi) (C.2.2.2.2 _ w2) ⟨w7.1, w7.2, w8⟩ ⟨by show i.2.2.1 + 1 ≤ _; omega, by show 8 + (r'.2.1 + 11) + i.2.2.2.1 ≤ _; omega⟩, C.2.2.2.2 _ (w3 k0), trivial⟩ ⟨xPc_blind, hst0⟩ rfl (by rw [g6]; exact q1.symm) hl.1 rfl (lv_room hcats) hd hr
      · exact va_runS (n := i.2.2.2.2.2.2.1) C hMet ⟨callB_of i.2.2.2.2.2.2.1 C.2.2.2.2 (xgoodIn w1) rfl rfl rfl (C.2.2.2.2 _ w2) (C.2.2.2.2 _ (xML_in q2 hi)) ⟨w7.1, w7.2, w8⟩ ⟨by show i.2.2.1 + 1 ≤ _; omega, by show 8 + (r'.2.1 + 11) + i.2.2.2.1 ≤ _; omega⟩, C.2.2.2.2 _ (w3 k0)⟩ ⟨xPc_blind, hst0⟩ rfl (by rw [g6]; exact q1.symm) hl.1 rfl (lv_room hcats) hd hr
  case invokespecial idx =>
    simp only [xkind] at hkind
    simp only [xchk] at hchk
    cases hble : Nat.ble 5000 ea with
    | true => rw [hble] at hkind; cases hkind
    | false =>
      rw [hble] at hchk
      obtain ⟨i, r, hy, hi, hr2, k0, f0, l0, -, -, q0⟩ := xcall_in hchk
      cases hm.symm.trans hr2
      obtain ⟨w1, w2, w3, w4, w5, w6, w7, w8⟩ := xmok_in hy hi hm
      have hMet := xmet IH hrun hm hi (xeok_all _ (by omega)) w6 (xown_in (by omega) hi) hcat (D := D) (H0 := H0) (tys := tys) g1
      obtain ⟨q1, q2⟩ := q0 rfl
      obtain ⟨v1, v2, v3⟩ := w5 k0
      rw [v3] at hMet w1
      unfold xrecv at hrc
      dsimp only at hrc
      split at hrc
      · rename_i a tl
        obtain ⟨x', tl', rfl, ⟨a0, ha, rfl⟩, g3⟩ := g1
        refine ⟨rest', (Value.ref a0 :: tl').toArray, g2, ?_⟩
        simp only [List.length_cons] at g6
        dsimp only at q1 g6
        rcases q2 with q2 | q2
        · exact va_runIN (n := i.2.2.2.2.2.2.1) (b := a0) (As := tl') C hMet ⟨va_cnB i.2.2.2.2.2.2.1 C.2.2.2.2 (xgoodIn w1) rfl rfl rfl (xMN_in hN q2 hi) (C.2.2.2.2 _ w2) ⟨w7.1, w7.2, w8⟩ ⟨by show i.2.2.1 + 1 ≤ _; omega, by show 8 + (r'.2.1 + 11) + i.2.2.2.1 ≤ _; omega⟩, v2, C.2.2.2.2 _ v1⟩ ⟨xPc_blind, hst0⟩ rfl (by omega) hl.1 (by simp) (lv_room hcats) hd hr
        · exact va_runI (n := i.2.2.2.2.2.2.1) (b := a0) (As := tl') C hMet ⟨callB_of i.2.2.2.2.2.2.1 C.2.2.2.2 (xgoodIn w1) rfl rfl rfl (C.2.2.2.2 _ w2) (C.2.2.2.2 _ (xML_in q2 hi)) ⟨w7.1, w7.2, w8⟩ ⟨by show i.2.2.1 + 1 ≤ _; omega, by show 8 + (r'.2.1 + 11) + i.2.2.2.1 ≤ _; omega⟩, v2, C.2.2.2.2 _ v1⟩ ⟨xPc_blind, hst0⟩ rfl (by omega) hl.1 (by simp) (lv_room hcats) hd hr
      · cases hrc
  case invokevirtual idx =>
    simp only [xkind] at hkind
    simp only [xchk] at hchk
    cases hble : Nat.ble 5000 ea with
    | true => rw [hble] at hkind; cases hkind
    | false =>
      rw [hble] at hchk
      obtain ⟨i, r, hy, hi, hr2, k0, f0, l0, -, q0, -⟩ := xcall_in hchk
      cases hm.symm.trans hr2
      obtain ⟨w1, w2, w3, w4, w5, w6, w7, w8⟩ := xmok_in hy hi hm
      have hMet := xmet IH hrun hm hi (xeok_all _ (by omega)) w6 (xown_in (by omega) hi) hcat (D := D) (H0 := H0) (tys := tys) g1
      obtain ⟨q1, q2, q3, z, q4, q5⟩ := q0 rfl
      obtain ⟨v1, v2⟩ := w4 k0
      unfold xrecv at hrc
      dsimp only at hrc
      split at hrc
      · rename_i a tl
        obtain ⟨x', tl', rfl, ⟨a0, ha, rfl⟩, g3⟩ := g1
        refine ⟨rest', (Value.ref a0 :: tl').toArray, g2, ?_⟩
        simp only [List.length_cons] at g6
        dsimp only at q1 g6
        split at hrc
        · rename_i sl hsl
          obtain ⟨ws, hK, hP, hD, hS, hxm⟩ := id hM
          obtain ⟨a1, E, hw, ha', hE⟩ := xrm_at hxm (xarr_eq hsl)
          cases ha.symm.trans ha'
          obtain ⟨fs, rfl, -⟩ := xreO q3 hE
          have hrecv := va_recv hK hP q4 hw
          rw [q5] at hrecv
          exact va_runV (n := i.2.2.2.2.2.2.1) (C := i.1.cls) (b := a0) (As := tl') C hMet ⟨callB_of i.2.2.2.2.2.2.1 C.2.2.2.2 (xgoodIn w1) rfl rfl rfl (C.2.2.2.2 _ w2) (C.2.2.2.2 _ (xML_in q2 hi)) ⟨w7.1, w7.2, w8⟩ ⟨by show i.2.2.1 + 1 ≤ _; omega, by show 8 + (r'.2.1 + 11) + i.2.2.2.1 ≤ _; omega⟩, C.2.2.2.2 _ v1, C.2.2.2.2 _ v2⟩ ⟨xPc_blind, hrecv, hst0⟩ rfl (by omega) hl.1 (by simp) (lv_room hcats) hd hr
        · cases hrc
      · cases hrc
  all_goals (simp only [xkind] at hkind; try cases hkind)
set_option maxHeartbeats 2000000 in
theorem xsound (l : Launch) (sc : List Int32) (f : Nat) : xSound l sc f := by
  induction f with
  | zero =>
    intro y r i pc L st M v Mf h
    simp [srun] at h
  | succ f IH =>
    intro y r i pc L st M v Mf h hmy hiy heok p e R s m args below meth c H locs cells slots Q D H0 b as tys lv ls st0 C hin hN hX hbl hfr hlo hr hl hL hs hM ret
    have hgr := srun_grows (f + 1) h
    simp only [srun] at h
    split at h
    · cases h
    · rename_i ee hee
      have hee2 : (decide (decode i.2.1 pc = .ok (ee.1, xln ee)) && xchk i.2.2.2.2.1 (decide (i.1.name = "<init>")) r.2.1 i.2.2.1 i.2.2.2.1 pc ee) = true := by
        have hq := heok
        unfold xeok at hq
        rw [hiy] at hq
        dsimp only at hq
        rw [hmy] at hq
        exact xat_ok hq hee
      simp only [Bool.and_eq_true, decide_eq_true_eq] at hee2
      obtain ⟨hd, hchk⟩ := hee2
      split at h
      · split at h
        · cases h
        · rename_i q hq
          have h1 := s1_grows hq
          have h2 := srun_grows f h
          refine s1_ok C (fun hini => hin (of_decide_eq_true hini)) hN hX hbl hfr hlo hd hchk hq ⟨by omega, by omega⟩ hl hL hs hM ?_
          intro as' tys' H' locs' ls' st' lv' hex hl' hL' hs' hM'
          refine IH h hmy hiy heok C hin hN hX hbl hfr hlo ⟨by omega, by omega⟩ hl' hL' hs' hM' ?_
          intro as2 tys2 H2 locs2 ls2 pc2 hex2 hM2 hret
          obtain ⟨ex, rfl⟩ := hex
          obtain ⟨ex2, rfl⟩ := hex2
          exact W.cs (by omega) (by omega) (ret _ tys2 H2 locs2 ls2 pc2 ⟨ex ++ ex2, by simp⟩ hM2 hret)
      · rename_i hkind
        split at h
        · cases h
        · rename_i ar rest hp
          cases hc : (xcat8 rest && xrecv ee ar M) with
          | false => simp [hc] at h
          | true =>
            simp only [hc, cond_true] at h
            rw [Bool.and_eq_true] at hc
            split at h
            · cases h
            · rename_i r' hr'
              cases hcc : Nat.ble (xcats ar) r'.2.1 with
              | false => simp [hcc] at h
              | true =>
                simp only [hcc, cond_true] at h
                split at h
                · cases h
                · rename_i q hq
                  obtain ⟨v1, M1⟩ := q
                  have h1 : M.length ≤ M1.length ∧ xz M ≤ xz M1 := srun_grows f hq
                  have h2 : M1.length ≤ Mf.length ∧ xz M1 ≤ xz Mf := srun_grows f h
                  obtain ⟨rest', A, g1, g2⟩ := xcall_run IH (cells := cells) (slots := slots) (locs := locs) C hN hX hbl hfr hlo hd hchk hkind hp hc.1 hc.2 hr' (Nat.le_of_ble_eq_true hcc) hq ⟨by omega, by omega⟩ hl hs hM
                  refine xgo g2 ?_
                  intro w st₀ t Lc hvm hLc hQ
                  obtain ⟨hv, hvv, as', tys', ⟨ex, rfl⟩, hst'⟩ := hQ
                  cases hv
                  refine IH h hmy hiy heok C hin hN hX hbl hfr hlo ⟨by dsimp only; omega, by dsimp only; omega⟩ hl (xrl_mono hL) (xvv_push hvv (xrs_mono g1)) (xSt.moved (locs' := locs ++ Lc) hvm.symm (fun q hq => ?_) hst') ?_
                  · rcases List.mem_append.mp hq with hq | hq
                    · obtain ⟨ws, -, -, -, hS, -⟩ := hM
                      exact hS.2.2 q hq
                    · exact hLc q hq
                  · intro as2 tys2 H2 locs2 ls2 pc2 hex2 hM2 hret
                    obtain ⟨ex2, rfl⟩ := hex2
                    exact W.cs (by dsimp only; omega) (by dsimp only; omega) (ret _ tys2 H2 locs2 ls2 pc2 ⟨ex ++ ex2, by simp⟩ hM2 hret)
      · split at h
        · cases h
        · rename_i v' hv'
          cases h
          obtain ⟨rfl, hret⟩ := xend_ok hv' hd
          have hst1 := xvv_rel hret.vv hs
          subst hst1
          exact W.cs (by simp) (by simp) (ret as tys H locs ls pc ⟨[], by simp⟩ hM hret)
