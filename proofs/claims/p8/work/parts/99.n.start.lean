/-! p5: FROM THE MACHINE's START TO THE INTERPRETER's -/
def R_law : String := "LaterPrintsLaw"
def lw_P (b : Addr) (xs : List Int32) (args : Array Value) (s : State) : Prop := args = #[.ref b] ∧ s.IntsAt b xs ∧ xs.length ≤ 3072 ∧ (Jvm.Cond.and given_1 narrow_1).before args s = true
def lw_Q (_ : Array Value) (s : State) (o : Outcome) (t : State) : Prop := o = .returned (some (.int 1)) ∧ Framed s o t [] 600000 7302250
def lw_Z (below : List Frame) (a : Array Value) (s : State) : State → Prop := fun t => ∃ o, t.status = .running ∧ Ended t below o ∧ lw_Q a s o t
/-- the law's own end, with 1 on the stack, nothing written that was there before, its room as the claim has it -/
theorem lw_ret {p : Program} {l : Launch} {e : Env} {s : State} {m : MethodId} {below : List Frame} {meth : Method} {c : Code} {b : Nat} (hx : p.tables.exec = Jvm.exec) (hb : c.code = code) (hr : meth.sig.returnType = ret) (hlocks : meth.locks = false) {pc : Nat} {H : Heap} {ls : Array Slot} (hdg : decode code pc = .ok (.ireturn, 1)) : W p l e room_1 s m #[Value.ref b] below meth c H [] 600000 7302250 (lw_Z below #[Value.ref b] s) (F0 m pc ls [.int 1]) := by
  intro T hT X
  obtain ⟨fs, hret, hrun, hended, hW, hframe⟩ := X.leave (v := some (.int 1)) (hlocks := hlocks) (fun h => by rw [hr] at h; cases h)
  have hmeth' : T.vm.method? m = some meth := X.method'
  refine ⟨T.setFrames fs, ?_, .returned (some (.int 1)), hrun, hended, rfl, ⟨_, rfl⟩, hW, hframe⟩
  jvm_step X.here [X.here.top, hx, hb, hdg, hmeth', hr, ret, narrow_b1]
  (try refine ⟨rfl, ?_⟩); (try refine ⟨rfl, ?_⟩)
  first | (intro acts; rw [hret _ acts rfl rfl rfl]) | rw [hret _ _ rfl rfl rfl]
  exact Steps.refl _
/-- what holds at the law's entry: the machine, the code, the tables' words (any of lw_tbl by 'hts w (by decide +kernel)'), the script of L ints xs at the cell b, what the Statement gives of the start (any of its parts by flat_of_before) -/
def lw_At (p : Program) (s : State) (m : MethodId) (meth : Method) (c : Code) (b L : Nat) (xs : Nat → Int32) : Prop :=
  p.tables.exec = Jvm.exec ∧ c.code = code ∧ meth.sig.returnType = ret ∧ c.maxLocals = 4 ∧ s.vm.findClass R_law = some m.cls ∧ (∀ w ∈ lw_tbl, w.before #[Value.ref b] s = true) ∧ va_X b L xs s s.heap ∧ b < s.heap.size ∧ meth.locks = false ∧ (Jvm.Cond.and given_1 narrow_1).before #[Value.ref b] s = true
theorem xD_ex {s : State} {args : Array Value} (hts : ∀ w ∈ xG, w.before args s = true) : ∃ D : va_G, va_K D xcl [] s := by
  have H0 : ∀ (c : Nat) (q : vw_C), xcl[c]? = some q → ∃ z : ClassId × (Nat → Nat), u_Kn s q.1 q.2.1 q.2.2 z.1 z.2 := fun c q h => by
    obtain ⟨cC, iS, h1⟩ := u_known (n := q.2.2) hts (xlay c q h) (hts _ (xini c q h).2)
    exact ⟨(cC, iS), h1⟩
  obtain ⟨z0, -⟩ := H0 0 _ rfl
  have H : ∀ c : Nat, ∃ z : ClassId × (Nat → Nat), ∀ q : vw_C, xcl[c]? = some q → u_Kn s q.1 q.2.1 q.2.2 z.1 z.2 := fun c => by
    cases h : xcl[c]? with
    | none => exact ⟨z0, fun q h1 => by cases h1⟩
    | some q =>
      obtain ⟨z, hz⟩ := H0 c q h
      exact ⟨z, fun q1 h1 => by cases h1; exact hz⟩
  exact ⟨(fun c => (Classical.choose (H c)).1, fun c => (Classical.choose (H c)).2), fun c q h => Classical.choose_spec (H c) q h, fun k q h => by simp at h⟩
theorem law_inf : xinf 356 = some (⟨"LaterPrintsLaw", "law", "([I)Z"⟩, code, 12, 268, 16, 9, 1, 0, 0, 0, 0) := rfl
/-! the strings, out of what the Statement gives of the start -/
def sTm (i : Nat) : Term := match i with
  | 0 => .string "LaterPrints$Reader" 78
  | _ => .string "LaterPrintsModel" 177
def sVal (i : Nat) : Term := .field (sTm i) "java/lang/String" "value" "[B"
def sNa (k : Nat) (w : Cond) : Bool := decide (xnth (flatC (Jvm.Cond.and given_1 narrow_1)) k = some w)
theorem sNa_in {args : Array Value} {s : State} {k : Nat} {w : Cond} (hb : (Jvm.Cond.and given_1 narrow_1).before args s = true) (h : sNa k w = true) : w.before args s = true := by
  have h := of_decide_eq_true h
  rw [xnth_eq] at h
  exact flat_of_before _ hb w (List.mem_of_getElem? h)
set_option maxRecDepth 100000 in
theorem sEl_ok : (List.range 2).all (fun i => (List.range (xsN.getD i 0)).all (fun j => sNa (13 + 166 * i + j) (.eq (.elem (sVal i) (.int (Int32.ofNat j))) (.int ((xsB.getD i []).getD j 0))))) = true := by decide +kernel
set_option maxRecDepth 100000 in
theorem sHd_ok : (List.range 2).all (fun i => sNa (9 + 166 * i) (.exactly (sTm i) "java/lang/String") && (sNa (10 + 166 * i) (.eq (.field (sTm i) "java/lang/String" "coder" "B") (.int 0)) && (sNa (11 + 166 * i) (.arrayOf (sVal i) .byte) && sNa (12 + 166 * i) (.eq (.length (sVal i)) (.int (Int32.ofNat (xsN.getD i 0))))))) = true := by decide +kernel
set_option maxRecDepth 100000 in
theorem sNe_ok : sNa 342 (.not (.eq (sTm 0) (sTm 1))) = true := by decide +kernel
set_option maxRecDepth 100000 in
theorem sCs_ok : sNa 4 (.eq (.static "java/lang/String" "COMPACT_STRINGS" "Z") (.int 1)) = true := by decide +kernel
set_option maxRecDepth 100000 in
theorem sSi_ok : sNa 5 (.isRef (.static "jdk/internal/util/Preconditions" "SIOOBE_FORMATTER" "Ljava/util/function/BiFunction;")) = true := by decide +kernel
theorem sw_r0 : Cond.stringRef "LaterPrints$Reader" 78 xsT0 ∈ lw_tbl := xpw_in (i := 3139) (by decide +kernel)
theorem sw_r1 : Cond.stringRef "LaterPrintsModel" 177 xsT1 ∈ lw_tbl := xpw_in (i := 7166) (by decide +kernel)
theorem sw_lC : Cond.laysStatic "java/lang/String" "COMPACT_STRINGS" "Z" ∈ lw_tbl := xpw_in (i := 3149) (by decide +kernel)
theorem sw_lS : Cond.laysStatic "jdk/internal/util/Preconditions" "SIOOBE_FORMATTER" "Ljava/util/function/BiFunction;" ∈ lw_tbl := xpw_in (i := 3165) (by decide +kernel)
theorem sw_iS : Cond.initialized "java/lang/String" ∈ lw_tbl := xpw_in (i := 1017) (by decide +kernel)
theorem sw_iP : Cond.initialized "jdk/internal/util/Preconditions" ∈ lw_tbl := xpw_in (i := 1019) (by decide +kernel)
theorem strs_of {s : State} {args : Array Value} (hts : ∀ w ∈ lw_tbl, w.before args s = true) (hgv : (Jvm.Cond.and given_1 narrow_1).before args s = true) : ∃ adK adV : Nat → Nat, vk_S 2 xsN xsB adK adV (fun q => s.heap.size ≤ q) s s.heap ∧ (∀ i : Nat, i < 2 → (sTm i).eval args s none [] s = some (.ref (adK i))) ∧ va_Z "java/lang/String" "COMPACT_STRINGS" "Z" (.int 1) (fun q => s.heap.size ≤ q) s s.heap ∧ va_Zq "jdk/internal/util/Preconditions" "SIOOBE_FORMATTER" "Ljava/util/function/BiFunction;" (fun q => s.heap.size ≤ q) s s.heap := by
  have hA : ∀ a : Nat, a < s.heap.size → ¬ s.heap.size ≤ a := fun a h => by omega
  have hd : ∀ i : Nat, i < 2 → _ := fun i hi => List.all_eq_true.mp sHd_ok i (List.mem_range.mpr hi)
  simp only [Bool.and_eq_true] at hd
  have he : ∀ i : Nat, i < 2 → ∀ j : Nat, j < xsN.getD i 0 → _ := fun i hi j hj => List.all_eq_true.mp (List.all_eq_true.mp sEl_ok i (List.mem_range.mpr hi)) j (List.mem_range.mpr hj)
  have hne : ∀ i j : Nat, i < 2 → j < 2 → i ≠ j → (Cond.not (Cond.eq (sTm i) (sTm j))).before args s = true ∨ (Cond.not (Cond.eq (sTm j) (sTm i))).before args s = true := fun i j hi hj hij => by
    have e : (i = 0 ∧ j = 1) ∨ (i = 1 ∧ j = 0) := by omega
    rcases e with ⟨rfl, rfl⟩ | ⟨rfl, rfl⟩
    · exact Or.inl (sNa_in hgv sNe_ok)
    · exact Or.inr (sNa_in hgv sNe_ok)
  obtain ⟨adK, adV, h1, h2⟩ := vk_Sof (args := args) (s := s) (N := 2) (tm := sTm) (len := xsN) (byt := xsB) (A := fun q => s.heap.size ≤ q) sx_len (fun i hi => sNa_in hgv (hd i hi).1) (fun i hi => sNa_in hgv (hd i hi).2.1) (fun i hi => sNa_in hgv (hd i hi).2.2.1) (fun i hi => sNa_in hgv (hd i hi).2.2.2) (fun i hi j hj => sNa_in hgv (he i hi j hj)) hne hA
  exact ⟨adK, adV, h1, h2, va_Zof (hts _ sw_lC) (hts _ sw_iS) (va_eqi (sNa_in hgv sCs_ok)) hA, va_Zqof (hts _ sw_lS) (hts _ sw_iP) (sNa_in hgv sSi_ok) hA⟩
theorem law_nw {s : State} {args : Array Value} {bb : Nat → Nat} (hts : ∀ w ∈ lw_tbl, w.before args s = true) (e0 : (sTm 0).eval args s none [] s = some (.ref (bb 1))) (e1 : (sTm 1).eval args s none [] s = some (.ref (bb 2))) : xnw bb s := by
  refine ⟨fun q hq i hi => ?_, va_AO.of (hts _ xw_oW), hts _ xw_oJ, vk_R.of (hts _ sw_r0) e0, vk_R.of (hts _ sw_r1) e1⟩
  have h1 := List.all_eq_true.mp xMN_ok q hq
  unfold xMN_c at h1
  rw [hi] at h1
  exact va_Nw.of rfl (hts _ (xpw_in (of_decide_eq_true h1)))
theorem start_of {p : Program} {e : Env} {s : State} {m : MethodId} {below : List Frame} {meth : Method} {c : Code} (l : Launch) {b L : Nat} {xs : Nat → Int32} (hL : L ≤ 3072) (C0 : lw_At p s m meth c b L xs) (hd : ∀ sc : List Int32, sc.length ≤ 3072 → lawDone sc) : W p l e room_1 s m #[Value.ref b] below meth c s.heap [] 0 0 (lw_Z below #[Value.ref b] s) (entryFrame m ([Value.ref b] : List Value).toArray 4) := by
  obtain ⟨hx, hb, hr, hml, hown, hts, hX, hbl, hlocks, hgv⟩ := id C0
  have htG : ∀ w ∈ xG, w.before #[Value.ref b] s = true := fun w hw => hts w (List.mem_filter.mp hw).1
  obtain ⟨D, hK⟩ := xD_ex htG
  obtain ⟨adK, adV, hS, hE, hZ, hZq⟩ := strs_of hts hgv
  have hsl : ((List.range L).map xs).length = L := by simp
  have hX' : va_X b ((List.range L).map xs).length (fun j => ((List.range L).map xs).getD j 0) s s.heap := by
    obtain ⟨scr, hcb, hof, hkn, hsz, hval⟩ := hX
    refine ⟨scr, hcb, hof, hkn, by rw [hsl]; exact hsz, fun j hj => ?_⟩
    rw [hsl] at hj
    rw [hval j hj]
    simp [List.getD, hj]
  obtain ⟨f, Mf, hrun, hm1, hm2⟩ := hd ((List.range L).map xs) (by rw [hsl]; exact hL)
  have hl := lv_entry ([.ref b]) (n := 4) (Nat.le_of_ble_eq_true rfl)
  rw [lg_entry_eq]
  generalize (lg_sl ([.ref b]) ++ List.replicate (4 - (lg_sl ([.ref b])).length) Slot.unset).toArray = ls at hl ⊢
  have hl : lv_has ls 4 [(0, .ref b)] := hl
  have hbb : ∃ bb : Nat → Nat, bb 0 = b ∧ (∀ k, bb (k + 1) = adK k) := ⟨fun n => match n with
    | 0 => b
    | k + 1 => adK k, rfl, fun _ => rfl⟩
  obtain ⟨bb, bb0, bb1⟩ := hbb
  have hS' : vk_S 2 xsN xsB (fun k => bb (k + 1)) adV (fun q => s.heap.size ≤ q) s s.heap := by
    have : (fun k => bb (k + 1)) = adK := funext bb1
    rw [this]
    exact hS
  have hXX : xXX ((List.range L).map xs) bb s s.heap := by
    refine ⟨?_, adV, hS', hZ, hZq⟩
    rw [bb0]
    exact hX'
  have hnw : xnw bb s := law_nw hts (by rw [bb1]; exact hE 0 (by omega)) (by rw [bb1]; exact hE 1 (by omega))
  refine xsound l ((List.range L).map xs) f hrun rLawX_ok law_inf (xeok_all 356 (by omega)) (D := D) (H0 := s.heap) (b := bb) (as := []) (tys := []) (lv := [(0, .ref b)]) (locs := []) (st0 := []) ⟨hx, hb, hml, hown, htG⟩ (fun q => absurd q (by decide)) hnw hXX (by rw [bb0]; exact hbl) (Nat.le_of_ble_eq_true rfl) (Nat.le_of_ble_eq_true rfl) ⟨?_, ?_⟩ hl ⟨_, _, rfl, (by show Value.ref b = .ref (bb 0); rw [bb0]), rfl⟩ rfl ⟨[], hK, fun k q h => by simp at h, ⟨fun i j p q h => by simp at h, fun k q h => by simp at h⟩, va_S.rf, rfl, rfl, fun i o h => by simp at h⟩ ?_
  · show 0 + (Mf.length - 0) ≤ 600000
    omega
  · show 0 + (xz Mf - 0) ≤ 7302250
    omega
  · intro as' tys' H' locs' ls' pc' hex hM' hret
    obtain ⟨ws, -, -, -, hS2, -⟩ := hM'
    refine va_forget (fun q hq => hS2.2.2 q hq) ?_
    refine W.widen (k := 600000) (n := 7302250) (by show 0 + (Mf.length - 0) ≤ 600000; omega) (by show 0 + (xz Mf - 0) ≤ 7302250; omega) ?_
    exact lw_ret hx hb hr hlocks hret.1
theorem whole_start {p : Program} {e : Env} {s : State} {m : MethodId} {below : List Frame} {meth : Method} {c : Code} (l : Launch) {b L : Nat} {xs : Nat → Int32} (hL : L ≤ 3072) (C0 : lw_At p s m meth c b L xs) : W p l e room_1 s m #[Value.ref b] below meth c s.heap [] 0 0 (lw_Z below #[Value.ref b] s) (entryFrame m ([Value.ref b] : List Value).toArray 4) := start_of l hL C0 law5_done
