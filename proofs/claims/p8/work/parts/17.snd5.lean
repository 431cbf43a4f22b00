/-! ONE INSTRUCTION, WHATEVER IT IS -/
theorem xhas4_in {t : List (Nat × Nat × Nat × Nat × Nat)} {o i c k : Nat} (h : xhas4 t o i c k = true) : ∃ q ∈ t, q.2.1 = o ∧ q.2.2.1 = i ∧ q.2.2.2.1 = c ∧ q.2.2.2.2 = k := by
  unfold xhas4 at h
  obtain ⟨q, hq, h⟩ := List.any_eq_true.mp h
  simp only [Bool.and_eq_true, Nat.beq_eq] at h
  exact ⟨q, hq, h.1.1.1, h.1.1.2, h.1.2, h.2⟩
theorem xhas3_in {t : List (Nat × Nat × Nat × Nat)} {o i c : Nat} (h : xhas3 t o i c = true) : ∃ q ∈ t, q.2.1 = o ∧ q.2.2.1 = i ∧ q.2.2.2 = c := by
  unfold xhas3 at h
  obtain ⟨q, hq, h⟩ := List.any_eq_true.mp h
  simp only [Bool.and_eq_true, Nat.beq_eq] at h
  exact ⟨q, hq, h.1.1, h.1.2, h.2⟩
theorem xhas2_in {t : List (Nat × Nat × Nat)} {o i : Nat} (h : xhas2 t o i = true) : ∃ q ∈ t, q.2.1 = o ∧ q.2.2 = i := by
  unfold xhas2 at h
  obtain ⟨q, hq, h⟩ := List.any_eq_true.mp h
  simp only [Bool.and_eq_true, Nat.beq_eq] at h
  exact ⟨q, hq, h.1, h.2⟩
theorem xhasZ_in {t : List (Nat × Nat × Nat × Int)} {o i : Nat} {z : Int} (h : xhasZ t o i z = true) : ∃ q ∈ t, q.2.1 = o ∧ q.2.2.1 = i ∧ q.2.2.2 = z := by
  unfold xhasZ at h
  obtain ⟨q, hq, h⟩ := List.any_eq_true.mp h
  simp only [Bool.and_eq_true, Nat.beq_eq, decide_eq_true_eq] at h
  exact ⟨q, hq, h.1.1, h.1.2, h.2⟩
theorem xFT_in {o i c k : Nat} (h : xhas4 xFT o i c k = true) : ∃ (C0 : String) (T : u_T) (N : Nat), c < 20 ∧ xcl[c]? = some (C0, T, N) ∧ k < N ∧ Cond.fieldLink (xown o) i (T k).1 (T k).2.1 (T k).2.2.1 ∈ xG := by
  obtain ⟨q, hq, rfl, rfl, rfl, rfl⟩ := xhas4_in h
  have h1 := List.all_eq_true.mp xFT_ok q hq
  unfold xFT_c at h1
  split at h1
  · rename_i z hz
    simp only [Bool.and_eq_true] at h1
    obtain ⟨C0, T, N⟩ := z
    refine ⟨C0, T, N, ?_, hz, Nat.blt_eq.mp h1.1, xgd_in h1.2⟩
    have := (List.getElem?_eq_some_iff.mp hz).1
    have h13 : xcl.length = 13 := rfl
    omega
  · cases h1
theorem xKT_in {o i c : Nat} (h : xhas3 xKT o i c = true) : ∃ (C0 : String) (T : u_T) (N : Nat), c < 20 ∧ xcl[c]? = some (C0, T, N) ∧ Cond.classLink (xown o) i C0 ∈ xG := by
  obtain ⟨q, hq, rfl, rfl, rfl⟩ := xhas3_in h
  have h1 := List.all_eq_true.mp xKT_ok q hq
  unfold xKT_c at h1
  split at h1
  · rename_i z hz
    obtain ⟨C0, T, N⟩ := z
    refine ⟨C0, T, N, ?_, hz, xgd_in h1⟩
    have := (List.getElem?_eq_some_iff.mp hz).1
    have h13 : xcl.length = 13 := rfl
    omega
  · cases h1
theorem xOB_in {o i : Nat} (h : xhas2 xOB o i = true) : Cond.methodLink (xown o) i objectInit ∈ xG := by
  obtain ⟨q, hq, rfl, rfl⟩ := xhas2_in h
  exact xgd_in (List.all_eq_true.mp xOB_ok q hq)
theorem xAC_in {o i : Nat} (h : xhas2 xAC o i = true) : Cond.methodLink (xown o) i arraycopyName ∈ xG := by
  obtain ⟨q, hq, rfl, rfl⟩ := xhas2_in h
  exact xgd_in (List.all_eq_true.mp xAC_ok q hq)
theorem xCT_in {o i : Nat} {z : Int} (h : xhasZ xCT o i z = true) : Cond.constant (xown o) i (Int32.ofInt z) ∈ xG := by
  obtain ⟨q, hq, rfl, rfl, rfl⟩ := xhasZ_in h
  exact xgd_in (List.all_eq_true.mp xCT_ok q hq)
theorem xJT_in {o i : Nat} {z : Int} (h : xhasZ xJT o i z = true) : Cond.constantLong (xown o) i (Int64.ofInt z) ∈ xG := by
  obtain ⟨q, hq, rfl, rfl, rfl⟩ := xhasZ_in h
  exact xgd_in (List.all_eq_true.mp xJT_ok q hq)
theorem xMM_in {o i c : Nat} (h : xhas3 xMM o i c = true) : (c = 5002 → Cond.methodLink (xown o) i Lib.Math.max.name ∈ xG) ∧ (c = 5003 → Cond.methodLink (xown o) i Lib.Math.min.name ∈ xG) ∧ (c = 5004 → Cond.methodLink (xown o) i Lib.Math.abs.name ∈ xG) := by
  obtain ⟨q, hq, rfl, rfl, rfl⟩ := xhas3_in h
  have h1 := List.all_eq_true.mp xMM_ok q hq
  refine ⟨fun e => ?_, fun e => ?_, fun e => ?_⟩ <;>
  · unfold xMM_c at h1
    rw [e] at h1
    exact xgd_in h1
/-- the words that the kit's walk doesn't carry along -/
def xnw (b : Nat → Nat) (U : State) : Prop := (∀ q ∈ xMN, ∀ i : xI, xinf q.2.2.2 = some i → va_Nw (.methodLinkNest (xown q.2.1) q.2.2.1 i.1 "LaterPrints") U) ∧ va_AO "LaterPrints$World" U ∧ va_AOA .long U ∧ vk_R "LaterPrints$Reader" 78 xsT0 (b 1) U ∧ vk_R "LaterPrintsModel" 177 xsT1 (b 2) U
theorem xnw.warm {b : Nat → Nat} {s U : State} (hW : s.WarmedH U.vm) (h : xnw b s) : xnw b U := ⟨fun q hq i hi => va_Nw.warmM hW (h.1 q hq i hi), va_AO.moved hW.alike h.2.1, va_AOA.moved hW.alike h.2.2.1, vk_R.warm hW h.2.2.2.1, vk_R.warm hW h.2.2.2.2⟩
theorem xnw.same {b : Nat → Nat} {s U : State} (hv : s.vm = U.vm) (h : xnw b s) : xnw b U := ⟨fun q hq i hi => va_Nw.same rfl hv (h.1 q hq i hi), va_AO.moved (by rw [hv]; exact Vm.Alike.refl _) h.2.1, va_AOA.moved (by rw [hv]; exact Vm.Alike.refl _) h.2.2.1, vk_R.same hv.symm h.2.2.2.1, vk_R.same hv.symm h.2.2.2.2⟩
theorem xw_arr : ∀ ty ∈ [FieldType.int, .long, .byte], Cond.arrayClass ty ∈ xG := by
  intro ty hty
  simp only [List.mem_cons, List.not_mem_nil, or_false] at hty
  rcases hty with rfl | rfl | rfl
  · exact xw_aI
  · exact xw_aJ
  · exact xw_aB
section XS5
variable {p : Program} {l : Launch} {e : Env} {R : Room} {s : State} {m : MethodId} {args : Array Value} {below : List Frame} {meth : Method} {c : Code} {H : Heap} {locs : List Loc} {cells slots : Nat} {Q : State → Prop}
variable {cc : ByteArray} {nL : Nat} {D : va_G} {H0 : Heap} {b : Nat → Nat} {sc : List Int32} {as : List Nat} {tys : List (ClassId × FieldType)} {M : xM} {L lv : xL} {ls : Array Slot} {pc : Nat} {st st0 : List Value} {q : xC}
set_option maxHeartbeats 4000000 in
theorem x1_ok {o fr lo : Nat} {ini : Bool} {ee : xE} (C : CallFix p m c cc nL s args xG (xown o)) (hini : ini = true → meth.name = "<init>") (hN : xnw b s) (hX : xXX sc b s H0) (hbl : b 0 < H0.size) (hfr : fr ≤ R.frames) (hlo : lo ≤ R.locals)
    (hd : decode cc pc = .ok (ee.1, xln ee)) (hchk : xchk o ini nL fr lo pc ee = true) (h : x1 xty xdf sc ee pc L st M = some q)
    (hr : cells + (q.2.2.2.length - M.length) ≤ R.cells ∧ slots + (xz q.2.2.2 - xz M) ≤ R.slots)
    (hl : lv_has ls nL lv) (hL : xrl b as L lv) (hs : xrs b as st st0) (hM : xSt D H0 b s as tys M H locs) (kk : xKK p l e R s m args below meth c cells slots Q D H0 b nL as M q) :
    W p l e R s m args below meth c H locs cells slots Q (F0 m pc ls st0) := by
  obtain ⟨ins, ea, eb, ez⟩ := ee
  cases ins
  case iconst n => cases h; exact xi_push (lv_iconst C.1 C.2.1 hd rfl) rfl hl hL hs hM kk
  case bipush n => cases h; exact xi_push (lv_bipush C.1 C.2.1 hd rfl) rfl hl hL hs hM kk
  case sipush n => cases h; exact xi_push (lv_sipush C.1 C.2.1 hd rfl) rfl hl hL hs hM kk
  case lconst n => cases h; exact xi_push (lv_lconst C.1 C.2.1 hd rfl) rfl hl hL hs hM kk
  case ldc idx =>
    simp only [x1] at h
    simp only [xchk] at hchk
    cases hb : Nat.beq ea 0 with
    | true =>
      rw [hb] at h hchk
      simp only [cond_true] at h hchk
      cases h
      exact xi_push (lv_ldc C.1 C.2.1 C.2.2.2.1 (C.2.2.2.2 _ (xCT_in hchk)) hd) rfl hl hL hs hM kk
    | false =>
      rw [hb] at h
      cases h
  case ldc_w idx =>
    simp only [x1] at h
    simp only [xchk, Bool.or_eq_true, Bool.not_eq_true'] at hchk
    cases hb : Nat.beq ea 0 with
    | false => simp [hb] at h
    | true =>
      simp only [hb, cond_true] at h
      cases h
      rcases hchk with hc | hc
      · rw [hb] at hc; cases hc
      · exact xi_push (lv_ldcw C.1 C.2.1 C.2.2.2.1 (C.2.2.2.2 _ (xCT_in hc)) hd) rfl hl hL hs hM kk
  case ldc2_w idx => cases h; exact xi_push (lv_ldc2 C.1 C.2.1 C.2.2.2.1 (C.2.2.2.2 _ (xJT_in hchk)) hd) rfl hl hL hs hM kk
  case iload i => exact xi_pI (fun x hx k => lv_iload C.1 C.2.1 hd hx k) h hl hL hs hM kk
  case iload_n i => exact xi_pI (fun x hx k => lv_iload_n C.1 C.2.1 hd rfl hx k) h hl hL hs hM kk
  case lload i => exact xi_pL (fun x hx k => lv_lload C.1 C.2.1 hd hx k) h hl hL hs hM kk
  case lload_n i => exact xi_pL (fun x hx k => lv_lload_n C.1 C.2.1 hd rfl hx k) h hl hL hs hM kk
  case aload i => exact xi_pA (fun x hx k => lv_aload C.1 C.2.1 hd hx k) h hl hL hs hM kk
  case aload_n i => exact xi_pA (fun x hx k => lv_aload_n C.1 C.2.1 hd rfl hx k) h hl hL hs hM kk
  case istore i => exact xi_sI (fun x r lv' hlv k => lv_istore C.1 C.2.1 hd hl (Nat.blt_eq.mp hchk) hlv k) h hL hs hM kk
  case istore_n i => exact xi_sI (fun x r lv' hlv k => lv_istore_n C.1 C.2.1 hd rfl hl (Nat.blt_eq.mp hchk) hlv k) h hL hs hM kk
  case lstore i => exact xi_sL (fun x r lv' hlv k => lv_lstore C.1 C.2.1 hd hl (Nat.blt_eq.mp hchk) hlv k) h hL hs hM kk
  case lstore_n i => exact xi_sL (fun x r lv' hlv k => lv_lstore_n C.1 C.2.1 hd rfl hl (Nat.blt_eq.mp hchk) hlv k) h hL hs hM kk
  case astore i => exact xi_sA (fun x r lv' hlv k => lv_astore C.1 C.2.1 hd hl (Nat.blt_eq.mp hchk) hlv k) h hL hs hM kk
  case astore_n i => exact xi_sA (fun x r lv' hlv k => lv_astore_n C.1 C.2.1 hd rfl hl (Nat.blt_eq.mp hchk) hlv k) h hL hs hM kk
  case iinc i n => exact xs_iinc C (Nat.blt_eq.mp hchk) hd h hl hL hs hM kk
  case iadd => exact xi_ii (fun x y r k => lv_iadd C.1 C.2.1 hd k) h hl hL hs hM kk
  case isub => exact xi_ii (fun x y r k => lv_isub C.1 C.2.1 hd k) h hl hL hs hM kk
  case imul => exact xi_ii (fun x y r k => lv_imul C.1 C.2.1 hd k) h hl hL hs hM kk
  case iand => exact xi_ii (fun x y r k => lv_iand C.1 C.2.1 hd k) h hl hL hs hM kk
  case ior => exact xi_ii (fun x y r k => lv_ior C.1 C.2.1 hd k) h hl hL hs hM kk
  case ixor => exact xi_ii (fun x y r k => lv_ixor C.1 C.2.1 hd k) h hl hL hs hM kk
  case ishl => exact xi_ii (fun x y r k => lv_ishl C.1 C.2.1 hd k) h hl hL hs hM kk
  case ishr => exact xi_ii (fun x y r k => lv_ishr C.1 C.2.1 hd k) h hl hL hs hM kk
  case iushr => exact xi_ii (fun x y r k => lv_iushr C.1 C.2.1 hd rfl k) h hl hL hs hM kk
  case idiv => exact xs_idiv C hd h hl hL hs hM kk
  case irem => exact xs_irem C hd h hl hL hs hM kk
  case ineg => exact xi_i (fun x r k => lv_ineg C.1 C.2.1 hd k) h hl hL hs hM kk
  case i2b => exact xi_i (fun x r k => lv_i2b C.1 C.2.1 hd rfl k) h hl hL hs hM kk
  case i2s => exact xi_i (fun x r k => lv_i2s C.1 C.2.1 hd rfl k) h hl hL hs hM kk
  case i2l => exact xs_i2l C hd h hl hL hs hM kk
  case l2i => exact xs_l2i C hd h hl hL hs hM kk
  case ladd => exact xi_ll (fun x y r k => lv_ladd C.1 C.2.1 hd k) h hl hL hs hM kk
  case lsub => exact xi_ll (fun x y r k => lv_lsub C.1 C.2.1 hd k) h hl hL hs hM kk
  case lmul => exact xi_ll (fun x y r k => lv_lmul C.1 C.2.1 hd k) h hl hL hs hM kk
  case land => exact xi_ll (fun x y r k => lv_land C.1 C.2.1 hd k) h hl hL hs hM kk
  case lor => exact xi_ll (fun x y r k => lv_lor C.1 C.2.1 hd k) h hl hL hs hM kk
  case lxor => exact xi_ll (fun x y r k => lv_lxor C.1 C.2.1 hd k) h hl hL hs hM kk
  case ldiv => exact xs_ldiv C hd h hl hL hs hM kk
  case lrem => exact xs_lrem C hd h hl hL hs hM kk
  case lshl => exact xi_li (fun x y r k => lv_lshl C.1 C.2.1 hd rfl k) h hl hL hs hM kk
  case lshr => exact xi_li (fun x y r k => lv_lshr C.1 C.2.1 hd rfl k) h hl hL hs hM kk
  case lushr => exact xi_li (fun x y r k => lv_lushr C.1 C.2.1 hd rfl k) h hl hL hs hM kk
  case lcmp => exact xs_lcmp C hd h hl hL hs hM kk
  case dup => exact xs_dup C hd h hl hL hs hM kk
  case dup2 => exact xs_dup2 C hd h hl hL hs hM kk
  case pop => exact xs_pop C hd h hl hL hs hM kk
  case goto off =>
    simp only [xchk, decide_eq_true_eq] at hchk
    cases h
    exact lv_goto C.1 C.2.1 hd hchk (kk.same rfl rfl hl hL hs hM)
  case if_icmp cnd off =>
    simp only [xchk, decide_eq_true_eq] at hchk
    exact xs_icmp C hchk hd h hl hL hs hM kk
  case ifCond cnd off =>
    simp only [xchk, decide_eq_true_eq] at hchk
    exact xs_if C hchk hd h hl hL hs hM kk
  case tableswitch d l1 h1 offs =>
    simp only [xchk, Bool.and_eq_true, decide_eq_true_eq, List.all_eq_true] at hchk
    exact xs_sw C hd hchk.1 hchk.2 h hl hL hs hM kk
  case iaload => exact xs_iald C hX hbl hd h hl hL hs hM kk
  case baload => exact xs_bald C hd h hl hL hs hM kk
  case laload => exact xs_lald C hd h hl hL hs hM kk
  case aaload => exact xs_aald C hd h hl hL hs hM kk
  case iastore => exact xs_iast C hd h hl hL hs hM kk
  case bastore => exact xs_bast C hd h hl hL hs hM kk
  case lastore => exact xs_last C hd h hl hL hs hM kk
  case aastore => exact xs_aast C hd h hl hL hs hM kk
  case arraylength => exact xs_alen C hX hbl hd h hl hL hs hM kk
  case newarray t => exact xs_newa C xw_arr hd h hr hl hL hs hM kk
  case anewarray idx =>
    simp only [xchk, Bool.and_eq_true, Nat.beq_eq] at hchk
    obtain ⟨rfl, rfl⟩ := hchk
    exact xs_newq C xw_kW hN.2.1 hd h hr hl hL hs hM kk
  case multianewarray idx d =>
    simp only [xchk, Bool.and_eq_true, Nat.beq_eq] at hchk
    obtain ⟨⟨rfl, rfl⟩, rfl⟩ := hchk
    exact xs_mna C xw_kJ hN.2.2.1 xw_aJ hd h hr hl hL hs hM kk
  case new idx =>
    obtain ⟨C0, T, N, h1, h2, h3⟩ := xKT_in hchk
    exact xs_new C h1 h2 h3 hd h hr hl hL hs hM kk
  case getfield idx =>
    obtain ⟨C0, T, N, h1, h2, h3, h4⟩ := xFT_in hchk
    exact xs_get C h1 h2 h3 h4 hd h hl hL hs hM kk
  case putfield idx =>
    simp only [xchk, Bool.and_eq_true] at hchk
    obtain ⟨hc1, hc2⟩ := hchk
    obtain ⟨C0, T, N, h1, h2, h3, h4⟩ := xFT_in hc1
    rw [h2] at hc2
    simp only [Bool.or_eq_true, Bool.not_eq_true', Bool.and_eq_true, decide_eq_true_eq] at hc2
    exact xs_put C h1 h2 h3 h4 (hc2.imp (fun z => z) (fun z => ⟨hini z.1, z.2⟩)) hd h hl hL hs hM kk
  case invokespecial idx =>
    simp only [x1] at h
    simp only [xchk] at hchk
    by_cases ha : ea = 5000
    · subst ha
      simp only [show Nat.ble 5000 5000 = true from rfl, cond_true, show Nat.beq 5000 5000 = true from rfl, Bool.not_true, Bool.false_or, Bool.and_eq_true] at hchk
      exact xs_obj (a := 5000) C (xOB_in hchk.1.1) xw_objI xw_objC (Nat.le_trans (Nat.le_of_ble_eq_true hchk.1.2) hfr) (Nat.le_trans (Nat.le_of_ble_eq_true hchk.2) hlo) hd h hl hL hs hM kk
    · have hb : Nat.beq ea 5000 = false := by
        cases hq : Nat.beq ea 5000 with
        | false => rfl
        | true => exact absurd (Nat.eq_of_beq_eq_true hq) ha
      simp only [hb, Bool.false_and, cond_false] at h
      split at h <;> cases h
  case invokestatic idx =>
    simp only [x1] at h
    simp only [xchk] at hchk
    have hz : cells ≤ R.cells ∧ slots ≤ R.slots := ⟨by omega, by omega⟩
    have hml : c.maxLocals = ls.size := by rw [hl.1]; exact C.2.2.1
    split at h
    · simp only [show Nat.ble 5001 5001 = true from rfl, cond_true, show Nat.ble 5005 5001 = false from rfl, show Nat.beq 5001 5001 = true from rfl, Bool.false_or, Bool.and_eq_true] at hchk
      exact xs_copy C (xAC_in hchk.1.1) xw_acN xw_acS xw_sys (Nat.le_trans (Nat.le_of_ble_eq_true hchk.1.2) hfr) (Nat.le_trans (Nat.le_of_ble_eq_true hchk.2) hlo) hd h hl hL hs hM kk
    · simp only [show Nat.ble 5001 5002 = true from rfl, cond_true, show Nat.ble 5005 5002 = false from rfl, show Nat.beq 5002 5001 = false from rfl, cond_false, Bool.false_or, Bool.and_eq_true] at hchk
      have hfr1 := Nat.le_trans (Nat.le_of_ble_eq_true hchk.1.2) hfr
      exact xs_math C (fun x y r hlr k => va_mmax C.1 C.2.1 hml C.2.2.2.1 (C.2.2.2.2 _ ((xMM_in hchk.1.1).1 rfl)) (C.2.2.2.2 _ xw_max) (C.2.2.2.2 _ xw_mI) (C.2.2.2.2 _ xw_maxC) hfr1 hlr hz.1 hz.2 hd k) (Nat.le_trans (Nat.le_of_ble_eq_true hchk.2) hlo) h hl hL hs hM kk
    · simp only [show Nat.ble 5001 5003 = true from rfl, cond_true, show Nat.ble 5005 5003 = false from rfl, show Nat.beq 5003 5001 = false from rfl, cond_false, Bool.false_or, Bool.and_eq_true] at hchk
      have hfr1 := Nat.le_trans (Nat.le_of_ble_eq_true hchk.1.2) hfr
      exact xs_math C (fun x y r hlr k => va_mmin C.1 C.2.1 hml C.2.2.2.1 (C.2.2.2.2 _ ((xMM_in hchk.1.1).2.1 rfl)) (C.2.2.2.2 _ xw_min) (C.2.2.2.2 _ xw_mI) (C.2.2.2.2 _ xw_minC) hfr1 hlr hz.1 hz.2 hd k) (Nat.le_trans (Nat.le_of_ble_eq_true hchk.2) hlo) h hl hL hs hM kk
    · simp only [show Nat.ble 5001 5004 = true from rfl, cond_true, show Nat.ble 5005 5004 = false from rfl, show Nat.beq 5004 5001 = false from rfl, cond_false, Bool.false_or, Bool.and_eq_true] at hchk
      have hfr1 := Nat.le_trans (Nat.le_of_ble_eq_true hchk.1.2) hfr
      exact xs_abs C ((xMM_in hchk.1.1).2.2 rfl) xw_abs xw_mI xw_absC hfr1 (Nat.le_trans (Nat.le_of_ble_eq_true hchk.2) hlo) hz hd h hl hL hs hM kk
    · cases h
  all_goals cases h
end XS5
