def R_law : String := "LaterPrintsLaw"
def lw_P (b : Addr) (xs : List Int32) (args : Array Value) (s : State) : Prop := args = #[.ref b] ∧ s.IntsAt b xs ∧ xs.length ≤ 6 ∧ (Jvm.Cond.and given_1 narrow_1).before args s = true
def lw_Q (_ : Array Value) (s : State) (o : Outcome) (t : State) : Prop := o = .returned (some (.int 1)) ∧ Framed s o t [] 600000 7302250
def lw_Z (below : List Frame) (a : Array Value) (s : State) : State → Prop := fun t => ∃ o, t.status = .running ∧ Ended t below o ∧ lw_Q a s o t
/-- the law's own end, with 1 on the stack, nothing written that was there before, its room as the claim has it -/
theorem lw_ret {p : Program} {l : Launch} {e : Env} {s : State} {m : MethodId} {below : List Frame} {meth : Method} {c : Code} {b : Nat} (hx : p.tables.exec = Jvm.exec) (hb : c.code = code) (hr : meth.sig.returnType = ret) (hlocks : meth.locks = false) {pc : Nat} {H : Heap} {ls : Array Slot} (hdg : decode code pc = .ok (.ireturn, 1)) : W p l e room_1 s m #[Value.ref b] below meth c H [] 600000 7302250 (lw_Z below #[Value.ref b] s) (F0 m pc ls [.int 1]) := by
  intro T hT X
  obtain ⟨fs, hret, hrun, hended, hW, hframe⟩ := X.leave (v := some (.int 1)) (hlocks := hlocks) (fun h => by rw [hr] at h; cases h)
  have hmeth' : T.vm.method? m = some meth := X.method'
  refine ⟨T.setFrames fs, ?_, .returned (some (.int 1)), hrun, hended, rfl, ⟨_, rfl⟩, hW, hframe⟩
  jvm_step X.here [X.here.top, hx, hb, hdg, hmeth', hr, ret, narrow_b1]
  (try refine ⟨rfl, ?_⟩); (try refine ⟨rfl, ?_⟩)
  first | (intro acts; rw [hret _ acts rfl rfl rfl]) | rw [hret _ _ rfl rfl rfl]
  exact Steps.refl _
/-- what holds at the law's entry: the machine, the code, the tables' words (any of lw_tbl by 'hts w (by decide +kernel)'), the script of L ints xs at the cell b, what the Statement gives of the start (any of its parts by flat_of_before) -/
def lw_At (p : Program) (s : State) (m : MethodId) (meth : Method) (c : Code) (b L : Nat) (xs : Nat → Int32) : Prop :=
  p.tables.exec = Jvm.exec ∧ c.code = code ∧ meth.sig.returnType = ret ∧ c.maxLocals = 4 ∧ s.vm.findClass R_law = some m.cls ∧ (∀ w ∈ lw_tbl, w.before #[Value.ref b] s = true) ∧ va_X b L xs s s.heap ∧ b < s.heap.size ∧ meth.locks = false ∧ (Jvm.Cond.and given_1 narrow_1).before #[Value.ref b] s = true
/-- what is wanted of the interpreter: the law ends, answers 1, within the room -/
def lawDone (sc : List Int32) : Prop := ∃ f Mf, xrun xmeth xty xdf sc f rLawX 0 [(0, .retAddr 0)] [] [] = some (some (.int 1), Mf) ∧ (Mf.length ≤ 600000 ∧ xz Mf ≤ 7302250)
theorem xD_ex {s : State} {args : Array Value} (hts : ∀ w ∈ xG, w.before args s = true) : ∃ D : va_G, va_K D xcl [] s := by
  have H0 : ∀ (c : Nat) (q : vw_C), xcl[c]? = some q → ∃ z : ClassId × (Nat → Nat), u_Kn s q.1 q.2.1 q.2.2 z.1 z.2 := fun c q h => by
    obtain ⟨cC, iS, h1⟩ := u_known (n := q.2.2) hts (xlay c q h) (hts _ (xini c q h).2)
    exact ⟨(cC, iS), h1⟩
  obtain ⟨z0, -⟩ := H0 0 _ rfl
  have H : ∀ c : Nat, ∃ z : ClassId × (Nat → Nat), ∀ q : vw_C, xcl[c]? = some q → u_Kn s q.1 q.2.1 q.2.2 z.1 z.2 := fun c => by
    cases h : xcl[c]? with
    | none => exact ⟨z0, fun q h1 => by cases h1⟩
    | some q =>
      obtain ⟨z, hz⟩ := H0 c q h
      exact ⟨z, fun q1 h1 => by cases h1; exact hz⟩
  exact ⟨(fun c => (Classical.choose (H c)).1, fun c => (Classical.choose (H c)).2), fun c q h => Classical.choose_spec (H c) q h, fun k q h => by simp at h⟩
theorem law_inf : xinf 356 = some (⟨"LaterPrintsLaw", "law", "([I)Z"⟩, code, 11, 246, 16, 9, 1, 0, 0, 0, 0) := rfl
theorem law_nw {s : State} {args : Array Value} (hts : ∀ w ∈ lw_tbl, w.before args s = true) : xnw s := by
  refine ⟨fun q hq i hi => ?_, va_AO.of (hts _ xw_oW), hts _ xw_oJ⟩
  have h1 := List.all_eq_true.mp xMN_ok q hq
  unfold xMN_c at h1
  rw [hi] at h1
  exact va_Nw.of rfl (hts _ (xpw_in (of_decide_eq_true h1)))
theorem start_of {p : Program} {e : Env} {s : State} {m : MethodId} {below : List Frame} {meth : Method} {c : Code} (l : Launch) {b L : Nat} {xs : Nat → Int32} (hL : L ≤ 6) (C0 : lw_At p s m meth c b L xs) (hd : ∀ sc : List Int32, sc.length ≤ 6 → lawDone sc) : W p l e room_1 s m #[Value.ref b] below meth c s.heap [] 0 0 (lw_Z below #[Value.ref b] s) (entryFrame m ([Value.ref b] : List Value).toArray 4) := by
  obtain ⟨hx, hb, hr, hml, hown, hts, hX, hbl, hlocks, hgv⟩ := id C0
  have htG : ∀ w ∈ xG, w.before #[Value.ref b] s = true := fun w hw => hts w (List.mem_filter.mp hw).1
  obtain ⟨D, hK⟩ := xD_ex htG
  have hsl : ((List.range L).map xs).length = L := by simp
  have hX' : va_X b ((List.range L).map xs).length (fun j => ((List.range L).map xs).getD j 0) s s.heap := by
    obtain ⟨scr, hcb, hof, hkn, hsz, hval⟩ := hX
    refine ⟨scr, hcb, hof, hkn, by rw [hsl]; exact hsz, fun j hj => ?_⟩
    rw [hsl] at hj
    rw [hval j hj]
    simp [List.getD, hj]
  obtain ⟨f, Mf, hrun, hm1, hm2⟩ := hd ((List.range L).map xs) (by rw [hsl]; exact hL)
  have hl := lv_entry ([.ref b]) (n := 4) (Nat.le_of_ble_eq_true rfl)
  rw [lg_entry_eq]
  generalize (lg_sl ([.ref b]) ++ List.replicate (4 - (lg_sl ([.ref b])).length) Slot.unset).toArray = ls at hl ⊢
  have hl : lv_has ls 4 [(0, .ref b)] := hl
  refine xsound l ((List.range L).map xs) f hrun rLawX_ok law_inf (xeok_all 356 (by omega)) (D := D) (H0 := s.heap) (b := b) (as := []) (tys := []) (lv := [(0, .ref b)]) (locs := []) (st0 := []) ⟨hx, hb, hml, hown, htG⟩ (fun q => absurd q (by decide)) (law_nw hts) hX' hbl (Nat.le_of_ble_eq_true rfl) (Nat.le_of_ble_eq_true rfl) ⟨?_, ?_⟩ hl ⟨_, _, rfl, ⟨rfl, rfl⟩, rfl⟩ rfl ⟨[], hK, fun k q h => by simp at h, ⟨fun i j p q h => by simp at h, fun k q h => by simp at h⟩, va_S.rf, rfl, rfl, fun i o h => by simp at h⟩ ?_
  · show 0 + (Mf.length - 0) ≤ 600000
    omega
  · show 0 + (xz Mf - 0) ≤ 7302250
    omega
  · intro as' tys' H' locs' ls' pc' hex hM' hret
    obtain ⟨ws, -, -, -, hS, -⟩ := hM'
    refine va_forget (fun q hq => hS.2.2 q hq) ?_
    refine W.widen (k := 600000) (n := 7302250) (by show 0 + (Mf.length - 0) ≤ 600000; omega) (by show 0 + (xz Mf - 0) ≤ 7302250; omega) ?_
    exact lw_ret hx hb hr hlocks hret.1
