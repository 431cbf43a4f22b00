def yS_coder : MethodName := ⟨"java/lang/String", "coder", "()B"⟩
theorem sc_coder : Cond.code yS_coder prog_18_method_152_code 1 (some .byte) ∈ xG := xgd_in (i := 3147) (by decide +kernel)
def yS_isLatin1 : MethodName := ⟨"java/lang/String", "isLatin1", "()Z"⟩
theorem sc_isLatin1 : Cond.code yS_isLatin1 prog_18_method_154_code 1 (some .boolean) ∈ xG := xgd_in (i := 3157) (by decide +kernel)
def yS_length : MethodName := ⟨"java/lang/String", "length", "()I"⟩
theorem sc_length : Cond.code yS_length prog_18_method_54_code 1 (some .int) ∈ xG := xgd_in (i := 3143) (by decide +kernel)
def yS_charAt : MethodName := ⟨"java/lang/String", "charAt", "(I)C"⟩
theorem sc_charAt : Cond.code yS_charAt prog_18_method_56_code 2 (some .char) ∈ xG := xgd_in (i := 3153) (by decide +kernel)
def yS_check : MethodName := ⟨"java/lang/String", "checkIndex", "(II)V"⟩
theorem sc_check : Cond.code yS_check prog_18_method_155_code 2 none ∈ xG := xgd_in (i := 3163) (by decide +kernel)
def yS_l1 : MethodName := ⟨"java/lang/StringLatin1", "charAt", "([BI)C"⟩
theorem sc_l1 : Cond.code yS_l1 prog_19_method_2_code 2 (some .char) ∈ xG := xgd_in (i := 3160) (by decide +kernel)
def yS_pre : MethodName := ⟨"jdk/internal/util/Preconditions", "checkIndex", "(IILjava/util/function/BiFunction;)I"⟩
theorem sc_pre : Cond.code yS_pre prog_23_method_11_code 3 (some .int) ∈ xG := xgd_in (i := 3168) (by decide +kernel)
theorem sf_cs : Cond.fieldLink "java/lang/String" 38 "java/lang/String" "COMPACT_STRINGS" "Z" ∈ xG := xgd_in (i := 3148) (by decide +kernel)
theorem sf_co : Cond.fieldLink "java/lang/String" 15 "java/lang/String" "coder" "B" ∈ xG := xgd_in (i := 9214) (by decide +kernel)
theorem sf_va : Cond.fieldLink "java/lang/String" 9 "java/lang/String" "value" "[B" ∈ xG := xgd_in (i := 9213) (by decide +kernel)
theorem sf_si : Cond.fieldLink "java/lang/String" 1053 "jdk/internal/util/Preconditions" "SIOOBE_FORMATTER" "Ljava/util/function/BiFunction;" ∈ xG := xgd_in (i := 3164) (by decide +kernel)
theorem sm_coder : Cond.methodLink "java/lang/String" 335 yS_coder ∈ xG := xgd_in (i := 3144) (by decide +kernel)
theorem sm_isL : Cond.methodLink "java/lang/String" 492 yS_isLatin1 ∈ xG := xgd_in (i := 3154) (by decide +kernel)
theorem sm_l1 : Cond.methodLink "java/lang/String" 495 yS_l1 ∈ xG := xgd_in (i := 3158) (by decide +kernel)
theorem sm_chk : Cond.methodLink "java/lang/StringLatin1" 9 yS_check ∈ xG := xgd_in (i := 3161) (by decide +kernel)
theorem sm_pre : Cond.methodLink "java/lang/String" 1059 yS_pre ∈ xG := xgd_in (i := 3166) (by decide +kernel)
theorem sm_lenX : Cond.methodLink "LaterPrints$Reader" 80 yS_length ∈ xG := xgd_in (i := 3140) (by decide +kernel)
theorem sm_chX : Cond.methodLink "LaterPrints$Reader" 85 yS_charAt ∈ xG := xgd_in (i := 3150) (by decide +kernel)
theorem sm_lenM : Cond.methodLink "LaterPrintsModel" 144 yS_length ∈ xG := xgd_in (i := 7171) (by decide +kernel)
theorem sm_chM : Cond.methodLink "LaterPrintsModel" 150 yS_charAt ∈ xG := xgd_in (i := 7172) (by decide +kernel)
theorem si_coder : Cond.instanceMethod yS_coder ∈ xG := xgd_in (i := 3145) (by decide +kernel)
theorem sl_coder : Cond.selects "java/lang/String" yS_coder yS_coder ∈ xG := xgd_in (i := 3146) (by decide +kernel)
theorem si_isLatin1 : Cond.instanceMethod yS_isLatin1 ∈ xG := xgd_in (i := 3155) (by decide +kernel)
theorem sl_isLatin1 : Cond.selects "java/lang/String" yS_isLatin1 yS_isLatin1 ∈ xG := xgd_in (i := 3156) (by decide +kernel)
theorem si_length : Cond.instanceMethod yS_length ∈ xG := xgd_in (i := 3141) (by decide +kernel)
theorem sl_length : Cond.selects "java/lang/String" yS_length yS_length ∈ xG := xgd_in (i := 3142) (by decide +kernel)
theorem si_charAt : Cond.instanceMethod yS_charAt ∈ xG := xgd_in (i := 3151) (by decide +kernel)
theorem sl_charAt : Cond.selects "java/lang/String" yS_charAt yS_charAt ∈ xG := xgd_in (i := 3152) (by decide +kernel)
theorem st_check : Cond.static yS_check ∈ xG := xgd_in (i := 3162) (by decide +kernel)
theorem st_l1 : Cond.static yS_l1 ∈ xG := xgd_in (i := 3159) (by decide +kernel)
theorem st_pre : Cond.static yS_pre ∈ xG := xgd_in (i := 3167) (by decide +kernel)
theorem sn_S : Cond.initialized "java/lang/String" ∈ xG := xgd_in (i := 1017) (by decide +kernel)
theorem sn_L1 : Cond.initialized "java/lang/StringLatin1" ∈ xG := xgd_in (i := 1018) (by decide +kernel)
theorem sn_PR : Cond.initialized "jdk/internal/util/Preconditions" ∈ xG := xgd_in (i := 1019) (by decide +kernel)
def sW (b adV : Nat → Nat) (A : Nat → Prop) (U : State) (H : Heap) : Prop := vk_S 2 xsN xsB (fun k => b (k + 1)) adV A U H ∧ va_Z "java/lang/String" "COMPACT_STRINGS" "Z" (.int 1) A U H ∧ va_Zq "jdk/internal/util/Preconditions" "SIOOBE_FORMATTER" "Ljava/util/function/BiFunction;" A U H
theorem sW.moved {b adV : Nat → Nat} {A : Nat → Prop} {u U : State} {H : Heap} (hvm : u.vm.Alike U.vm) (h : sW b adV A u H) : sW b adV A U H := ⟨vk_S.moved hvm h.1, va_Z.moved hvm h.2.1, va_Zq.moved hvm h.2.2⟩
theorem sW.kept {b adV : Nat → Nat} {A : Nat → Prop} {U : State} {H H1 : Heap} (h : sW b adV A U H) (hq : ∀ a : Nat, a < H.size → ¬ A a → H1[a]? = H[a]?) : sW b adV A U H1 := ⟨vk_S.kept h.1 hq, va_Z.kept h.2.1 hq, va_Zq.kept h.2.2 hq⟩
def sPc (b adV : Nat → Nat) (A : Nat → Prop) (Hh : Heap) (av : List Value) : Array Value → State → Prop := fun a U => a = av.toArray ∧ U.heap = Hh ∧ sW b adV A U Hh
def sQc (Hh : Heap) (v : Option Value) : Array Value → State → Outcome → State → Prop := fun _ _ o t => o = .returned v ∧ t.heap = Hh
theorem sPc_blind {b adV : Nat → Nat} {A : Nat → Prop} {Hh : Heap} {av : List Value} : FrameBlind (sPc b adV A Hh av) := by
  intro a U g mk h
  obtain ⟨h1, h2, h3⟩ := h
  exact ⟨h1, h2, sW.moved (Vm.Alike.refl U.vm) h3⟩
theorem sgoodIn {y : MethodName} {cc : ByteArray} {n : Nat} {rt : Option FieldType} (h : Cond.code y cc n rt ∈ xG) : GoodIn xG (.code y cc n rt :: xG) := by
  intro w hw
  rcases List.mem_cons.mp hw with rfl | hw
  · exact ⟨h, good_of_word (List.mem_filter.mp h).2⟩
  · exact ⟨hw, good_of_word (List.mem_filter.mp hw).2⟩
theorem sgo {p : Program} {l : Launch} {e : Env} {R : Room} {s : State} {m : MethodId} {args : Array Value} {below : List Frame} {meth : Method} {c : Code} {H : Heap} {locs : List Loc} {cells slots : Nat} {Q : State → Prop} {pc : Nat} {ls : Array Slot} {st0 rest : List Value} {v : Option Value} {Aa : Array Value}
    (hr : va_Run p l e R s m args below meth c H locs cells slots 0 0 (F0 m pc ls st0) rest (sQc H v Aa) (fun _ => False))
    (kk : W p l e R s m args below meth c H locs cells slots Q (F0 m (pc + 3) ls (v.toList ++ rest))) : W p l e R s m args below meth c H locs cells slots Q (F0 m pc ls st0) := by
  intro T hT X
  obtain ⟨v', st₀, t, T', L, h0, X', hL, e1, e2, hq, st⟩ := hr T hT X
  obtain ⟨hv, ht⟩ := hq
  cases hv
  have hn : L = [] := List.eq_nil_iff_forall_not_mem.mpr (fun q hq => hL q hq)
  subst hn
  rw [List.append_nil] at X'
  obtain ⟨t2, a1, b1⟩ := kk T' (e1.trans ht) X'
  exact ⟨t2, st t2 a1, b1⟩
theorem srecv {b adV : Nat → Nat} {A : Nat → Prop} {U : State} {H : Heap} {i : Nat} (h : vk_S 2 xsN xsB (fun k => b (k + 1)) adV A U H) (hi : i < 2) : ∃ cell : Cell, H[b (i + 1)]? = some cell ∧ cell.vm.isStatics = false ∧ U.vm.findClass "java/lang/String" = some cell.cls := by
  obtain ⟨cell, h1, h2, h3, -⟩ := (h.1 i hi).1
  exact ⟨cell, h1, h2, h3⟩
theorem sx_shr : ∀ i, i < 2 → Int32.ofNat (xsN.getD i 0) >>> ((0 : Int32) &&& 31) = Int32.ofNat (xsN.getD i 0) := by decide
theorem sx_byte : ∀ i, i < 2 → ∀ j, j < xsN.getD i 0 → ((((xsB.getD i []).getD j 0) &&& 255).toUInt32 % 65536).toInt32 = (xsB.getD i []).getD j 0 := by decide +kernel
theorem sx_b2 : ∀ i, i < 2 → ∀ j, j < xsN.getD i 0 → ((xsB.getD i []).getD j 0).toUInt32.toUInt16.toUInt32.toInt32 = (xsB.getD i []).getD j 0 := by decide +kernel
theorem sx_char : ∀ i, i < 2 → ∀ j, j < xsN.getD i 0 → narrow .char (.int ((xsB.getD i []).getD j 0)) = .int ((xsB.getD i []).getD j 0) := by
  intro i hi j hj
  show Value.int (((xsB.getD i []).getD j 0).toUInt32.toUInt16.toUInt32.toInt32) = _
  rw [sx_b2 i hi j hj]
theorem sx_len : ∀ i, i < 2 → xsN.getD i 0 < 2 ^ 31 := by decide
set_option maxHeartbeats 1000000 in
theorem cS_coder (l : Launch) (b adV : Nat → Nat) (A : Nat → Prop) (Hh : Heap) (i : Nat) (hi : i < 2) : Met l yS_coder (.code yS_coder prog_18_method_152_code 1 (some .byte) :: xG) ({ frames := 0, cells := 0, slots := 0, locals := 0 } : Room) (sPc b adV A Hh [.ref (b (i + 1))]) (sQc Hh (some (.int 0))) 0 0 (fun _ => False) := by
  refine Met.ofW (cc := prog_18_method_152_code) (maxL := 1) (ret := (some .byte)) (by decide) rfl ?_
  intro p e s m args below meth c s₁ B hml hv
  obtain ⟨rfl, hH, hW⟩ := hv
  subst hH
  have hx := B.exec
  have hb := B.bytes
  have hr := B.returns
  have hts0 := atoms_spec (ws := Cond.code yS_coder prog_18_method_152_code 1 (some .byte) :: xG) B.pre
  have hts : ∀ w ∈ xG, w.before _ s = true := fun w hw => hts0 w (List.mem_cons_of_mem _ hw)
  have hown : s.vm.findClass "java/lang/String" = some m.cls := findClass_of_methodNamed B.named
  have hlocks := B.notSynchronized
  have hS : va_S A s.heap s.heap [] := va_S.rf
  have hl := lv_entry ([.ref (b (i + 1))]) (n := 1) (Nat.le_of_ble_eq_true rfl)
  rw [lg_entry_eq]
  generalize (lg_sl ([.ref (b (i + 1))]) ++ List.replicate (1 - (lg_sl ([.ref (b (i + 1))])).length) Slot.unset).toArray = ls at hl ⊢
  have hl : lv_has ls 1 [(0, .ref (b (i + 1)))] := hl
  refine va_gets hx hb hW.2.1 hS hown (hts _ sf_cs) (fun _ h => h) (show decode prog_18_method_152_code 0 = .ok (.getstatic 38, 3) from by decide +kernel) ?_
  refine lv_if_eq (tgt := 13) hx hb (show decode prog_18_method_152_code 3 = .ok (.ifCond .eq 10, 3) from by decide +kernel) (by decide) (fun h => absurd h (by decide)) (fun _ => ?_)
  refine lv_aload_n hx hb (show decode prog_18_method_152_code 6 = .ok (.aload_n 0, 1) from by decide +kernel) rfl (lv_at hl 0 rfl) ?_
  refine vk_getf hx hb (hW.1.1 i hi).2.1 hS hown (hts _ sf_co) (fun _ h => h) (show decode prog_18_method_152_code 7 = .ok (.getfield 15, 3) from by decide +kernel) ?_
  refine lv_goto (tgt := 14) hx hb (show decode prog_18_method_152_code 10 = .ok (.goto 4, 3) from by decide +kernel) (by decide) ?_
  exact W.zret (ty := .byte) hx hb hr rfl (fun t ht _ => ⟨rfl, ht⟩) (fun q h => by cases h) (show decode prog_18_method_152_code 14 = .ok (.ireturn, 1) from by decide +kernel)
set_option maxHeartbeats 1000000 in
theorem cS_isLatin1 (l : Launch) (b adV : Nat → Nat) (A : Nat → Prop) (Hh : Heap) (i : Nat) (hi : i < 2) : Met l yS_isLatin1 (.code yS_isLatin1 prog_18_method_154_code 1 (some .boolean) :: xG) ({ frames := 0, cells := 0, slots := 0, locals := 0 } : Room) (sPc b adV A Hh [.ref (b (i + 1))]) (sQc Hh (some (.int 1))) 0 0 (fun _ => False) := by
  refine Met.ofW (cc := prog_18_method_154_code) (maxL := 1) (ret := (some .boolean)) (by decide) rfl ?_
  intro p e s m args below meth c s₁ B hml hv
  obtain ⟨rfl, hH, hW⟩ := hv
  subst hH
  have hx := B.exec
  have hb := B.bytes
  have hr := B.returns
  have hts0 := atoms_spec (ws := Cond.code yS_isLatin1 prog_18_method_154_code 1 (some .boolean) :: xG) B.pre
  have hts : ∀ w ∈ xG, w.before _ s = true := fun w hw => hts0 w (List.mem_cons_of_mem _ hw)
  have hown : s.vm.findClass "java/lang/String" = some m.cls := findClass_of_methodNamed B.named
  have hlocks := B.notSynchronized
  have hS : va_S A s.heap s.heap [] := va_S.rf
  have hl := lv_entry ([.ref (b (i + 1))]) (n := 1) (Nat.le_of_ble_eq_true rfl)
  rw [lg_entry_eq]
  generalize (lg_sl ([.ref (b (i + 1))]) ++ List.replicate (1 - (lg_sl ([.ref (b (i + 1))])).length) Slot.unset).toArray = ls at hl ⊢
  have hl : lv_has ls 1 [(0, .ref (b (i + 1)))] := hl
  refine va_gets hx hb hW.2.1 hS hown (hts _ sf_cs) (fun _ h => h) (show decode prog_18_method_154_code 0 = .ok (.getstatic 38, 3) from by decide +kernel) ?_
  refine lv_if_eq (tgt := 17) hx hb (show decode prog_18_method_154_code 3 = .ok (.ifCond .eq 14, 3) from by decide +kernel) (by decide) (fun h => absurd h (by decide)) (fun _ => ?_)
  refine lv_aload_n hx hb (show decode prog_18_method_154_code 6 = .ok (.aload_n 0, 1) from by decide +kernel) rfl (lv_at hl 0 rfl) ?_
  refine vk_getf hx hb (hW.1.1 i hi).2.1 hS hown (hts _ sf_co) (fun _ h => h) (show decode prog_18_method_154_code 7 = .ok (.getfield 15, 3) from by decide +kernel) ?_
  refine lv_if_ne (tgt := 17) hx hb (show decode prog_18_method_154_code 10 = .ok (.ifCond .ne 7, 3) from by decide +kernel) (by decide) (fun h => absurd rfl h) (fun _ => ?_)
  refine lv_iconst (v := 1) hx hb (show decode prog_18_method_154_code 13 = .ok (.iconst 1, 1) from by decide +kernel) (by decide) ?_
  refine lv_goto (tgt := 18) hx hb (show decode prog_18_method_154_code 14 = .ok (.goto 4, 3) from by decide +kernel) (by decide) ?_
  exact W.zret (ty := .boolean) hx hb hr rfl (fun t ht _ => ⟨rfl, ht⟩) (fun q h => by cases h) (show decode prog_18_method_154_code 18 = .ok (.ireturn, 1) from by decide +kernel)
set_option maxHeartbeats 1000000 in
theorem cS_length (l : Launch) (b adV : Nat → Nat) (A : Nat → Prop) (Hh : Heap) (i : Nat) (hi : i < 2) : Met l yS_length (.code yS_length prog_18_method_54_code 1 (some .int) :: xG) ({ frames := 1, cells := 0, slots := 0, locals := 20 } : Room) (sPc b adV A Hh [.ref (b (i + 1))]) (sQc Hh (some (.int (Int32.ofNat (xsN.getD i 0))))) 0 0 (fun _ => False) := by
  refine Met.ofW (cc := prog_18_method_54_code) (maxL := 1) (ret := (some .int)) (by decide) rfl ?_
  intro p e s m args below meth c s₁ B hml hv
  obtain ⟨rfl, hH, hW⟩ := hv
  subst hH
  have hx := B.exec
  have hb := B.bytes
  have hr := B.returns
  have hts0 := atoms_spec (ws := Cond.code yS_length prog_18_method_54_code 1 (some .int) :: xG) B.pre
  have hts : ∀ w ∈ xG, w.before _ s = true := fun w hw => hts0 w (List.mem_cons_of_mem _ hw)
  have hown : s.vm.findClass "java/lang/String" = some m.cls := findClass_of_methodNamed B.named
  have hlocks := B.notSynchronized
  have hS : va_S A s.heap s.heap [] := va_S.rf
  have hl := lv_entry ([.ref (b (i + 1))]) (n := 1) (Nat.le_of_ble_eq_true rfl)
  rw [lg_entry_eq]
  generalize (lg_sl ([.ref (b (i + 1))]) ++ List.replicate (1 - (lg_sl ([.ref (b (i + 1))])).length) Slot.unset).toArray = ls at hl ⊢
  have hl : lv_has ls 1 [(0, .ref (b (i + 1)))] := hl
  refine lv_aload_n hx hb (show decode prog_18_method_54_code 0 = .ok (.aload_n 0, 1) from by decide +kernel) rfl (lv_at hl 0 rfl) ?_
  refine vk_getf hx hb (hW.1.1 i hi).2.2.1 hS hown (hts _ sf_va) (fun _ h => h) (show decode prog_18_method_54_code 1 = .ok (.getfield 9, 3) from by decide +kernel) ?_
  refine va_tlen hx hb (hW.1.1 i hi).2.2.2 hS rfl (show decode prog_18_method_54_code 4 = .ok (.arraylength, 1) from by decide +kernel) ?_
  refine lv_aload_n hx hb (show decode prog_18_method_54_code 5 = .ok (.aload_n 0, 1) from by decide +kernel) rfl (lv_at hl 0 rfl) ?_
  refine sgo (va_runV (n := 0) (C := "java/lang/String") (b := b (i + 1)) (As := []) (rest := [.int (Int32.ofNat (xsN.getD i 0))]) ⟨hx, hb, hml, hown, hts⟩ (cS_coder l b adV A s.heap i hi) ⟨callB_of 0 hts (sgoodIn sc_coder) rfl rfl rfl (hts _ sn_S) (hts _ sm_coder) ⟨by decide, by decide, by decide +kernel⟩ ⟨Nat.le_of_ble_eq_true rfl, Nat.le_of_ble_eq_true rfl⟩, hts _ si_coder, hts _ sl_coder⟩ ⟨sPc_blind, srecv hW.1 hi, fun U hU hw => ⟨rfl, hU, sW.moved hw.alike hW⟩⟩ rfl rfl hl.1 rfl (lv_room (Nat.le_of_ble_eq_true rfl)) (show decode prog_18_method_54_code 6 = .ok (.invokevirtual 335, 3) from by decide +kernel) ⟨by omega, by omega⟩) ?_
  refine lv_ishr hx hb (show decode prog_18_method_54_code 9 = .ok (.ishr, 1) from by decide +kernel) ?_
  rw [sx_shr i hi]
  exact W.iret hx hb hr (fun t ht _ => ⟨rfl, ht⟩) (fun q h => by cases h) (show decode prog_18_method_54_code 10 = .ok (.ireturn, 1) from by decide +kernel)
set_option maxHeartbeats 1000000 in
theorem cS_pren (l : Launch) (b adV : Nat → Nat) (A : Nat → Prop) (Hh : Heap) (x n : Int32) (h0 : ¬ x < 0) (h1 : x < n) : Met l yS_pre (.code yS_pre prog_23_method_11_code 3 (some .int) :: xG) ({ frames := 0, cells := 0, slots := 0, locals := 0 } : Room) (sPc b adV A Hh [.int x, .int n, .null]) (sQc Hh (some (.int x))) 0 0 (fun _ => False) := by
  refine Met.ofW (cc := prog_23_method_11_code) (maxL := 3) (ret := (some .int)) (by decide) rfl ?_
  intro p e s m args below meth c s₁ B hml hv
  obtain ⟨rfl, hH, hW⟩ := hv
  subst hH
  have hx := B.exec
  have hb := B.bytes
  have hr := B.returns
  have hts0 := atoms_spec (ws := Cond.code yS_pre prog_23_method_11_code 3 (some .int) :: xG) B.pre
  have hts : ∀ w ∈ xG, w.before _ s = true := fun w hw => hts0 w (List.mem_cons_of_mem _ hw)
  have hown : s.vm.findClass "jdk/internal/util/Preconditions" = some m.cls := findClass_of_methodNamed B.named
  have hlocks := B.notSynchronized
  have hS : va_S A s.heap s.heap [] := va_S.rf
  have hl := lv_entry ([.int x, .int n, .null]) (n := 3) (Nat.le_of_ble_eq_true rfl)
  rw [lg_entry_eq]
  generalize (lg_sl ([.int x, .int n, .null]) ++ List.replicate (3 - (lg_sl ([.int x, .int n, .null])).length) Slot.unset).toArray = ls at hl ⊢
  have hl : lv_has ls 3 [(0, .int x), (1, .int n), (2, .null)] := hl
  refine lv_iload_n hx hb (show decode prog_23_method_11_code 0 = .ok (.iload_n 0, 1) from by decide +kernel) rfl (lv_at hl 0 rfl) ?_
  refine lv_if_lt (tgt := 9) hx hb (show decode prog_23_method_11_code 1 = .ok (.ifCond .lt 8, 3) from by decide +kernel) (by decide) (fun h => absurd h h0) (fun _ => ?_)
  refine lv_iload_n hx hb (show decode prog_23_method_11_code 4 = .ok (.iload_n 0, 1) from by decide +kernel) rfl (lv_at hl 0 rfl) ?_
  refine lv_iload_n hx hb (show decode prog_23_method_11_code 5 = .ok (.iload_n 1, 1) from by decide +kernel) rfl (lv_at hl 1 rfl) ?_
  refine lv_icmp_lt (tgt := 16) hx hb (show decode prog_23_method_11_code 6 = .ok (.if_icmp .lt 10, 3) from by decide +kernel) (by decide) (fun _ => ?_) (fun h => absurd h1 h)
  refine lv_iload_n hx hb (show decode prog_23_method_11_code 16 = .ok (.iload_n 0, 1) from by decide +kernel) rfl (lv_at hl 0 rfl) ?_
  exact W.iret hx hb hr (fun t ht _ => ⟨rfl, ht⟩) (fun q h => by cases h) (show decode prog_23_method_11_code 17 = .ok (.ireturn, 1) from by decide +kernel)
set_option maxHeartbeats 1000000 in
theorem cS_prer (l : Launch) (b adV : Nat → Nat) (A : Nat → Prop) (Hh : Heap) (x n : Int32) (t : Nat) (h0 : ¬ x < 0) (h1 : x < n) : Met l yS_pre (.code yS_pre prog_23_method_11_code 3 (some .int) :: xG) ({ frames := 0, cells := 0, slots := 0, locals := 0 } : Room) (sPc b adV A Hh [.int x, .int n, .ref t]) (sQc Hh (some (.int x))) 0 0 (fun _ => False) := by
  refine Met.ofW (cc := prog_23_method_11_code) (maxL := 3) (ret := (some .int)) (by decide) rfl ?_
  intro p e s m args below meth c s₁ B hml hv
  obtain ⟨rfl, hH, hW⟩ := hv
  subst hH
  have hx := B.exec
  have hb := B.bytes
  have hr := B.returns
  have hts0 := atoms_spec (ws := Cond.code yS_pre prog_23_method_11_code 3 (some .int) :: xG) B.pre
  have hts : ∀ w ∈ xG, w.before _ s = true := fun w hw => hts0 w (List.mem_cons_of_mem _ hw)
  have hown : s.vm.findClass "jdk/internal/util/Preconditions" = some m.cls := findClass_of_methodNamed B.named
  have hlocks := B.notSynchronized
  have hS : va_S A s.heap s.heap [] := va_S.rf
  have hl := lv_entry ([.int x, .int n, .ref t]) (n := 3) (Nat.le_of_ble_eq_true rfl)
  rw [lg_entry_eq]
  generalize (lg_sl ([.int x, .int n, .ref t]) ++ List.replicate (3 - (lg_sl ([.int x, .int n, .ref t])).length) Slot.unset).toArray = ls at hl ⊢
  have hl : lv_has ls 3 [(0, .int x), (1, .int n), (2, .ref t)] := hl
  refine lv_iload_n hx hb (show decode prog_23_method_11_code 0 = .ok (.iload_n 0, 1) from by decide +kernel) rfl (lv_at hl 0 rfl) ?_
  refine lv_if_lt (tgt := 9) hx hb (show decode prog_23_method_11_code 1 = .ok (.ifCond .lt 8, 3) from by decide +kernel) (by decide) (fun h => absurd h h0) (fun _ => ?_)
  refine lv_iload_n hx hb (show decode prog_23_method_11_code 4 = .ok (.iload_n 0, 1) from by decide +kernel) rfl (lv_at hl 0 rfl) ?_
  refine lv_iload_n hx hb (show decode prog_23_method_11_code 5 = .ok (.iload_n 1, 1) from by decide +kernel) rfl (lv_at hl 1 rfl) ?_
  refine lv_icmp_lt (tgt := 16) hx hb (show decode prog_23_method_11_code 6 = .ok (.if_icmp .lt 10, 3) from by decide +kernel) (by decide) (fun _ => ?_) (fun h => absurd h1 h)
  refine lv_iload_n hx hb (show decode prog_23_method_11_code 16 = .ok (.iload_n 0, 1) from by decide +kernel) rfl (lv_at hl 0 rfl) ?_
  exact W.iret hx hb hr (fun t ht _ => ⟨rfl, ht⟩) (fun q h => by cases h) (show decode prog_23_method_11_code 17 = .ok (.ireturn, 1) from by decide +kernel)
set_option maxHeartbeats 1000000 in
theorem cS_check (l : Launch) (b adV : Nat → Nat) (A : Nat → Prop) (Hh : Heap) (x n : Int32) (h0 : ¬ x < 0) (h1 : x < n) : Met l yS_check (.code yS_check prog_18_method_155_code 2 none :: xG) ({ frames := 1, cells := 0, slots := 0, locals := 22 } : Room) (sPc b adV A Hh [.int x, .int n]) (sQc Hh none) 0 0 (fun _ => False) := by
  refine Met.ofW (cc := prog_18_method_155_code) (maxL := 2) (ret := none) (by decide) rfl ?_
  intro p e s m args below meth c s₁ B hml hv
  obtain ⟨rfl, hH, hW⟩ := hv
  subst hH
  have hx := B.exec
  have hb := B.bytes
  have hr := B.returns
  have hts0 := atoms_spec (ws := Cond.code yS_check prog_18_method_155_code 2 none :: xG) B.pre
  have hts : ∀ w ∈ xG, w.before _ s = true := fun w hw => hts0 w (List.mem_cons_of_mem _ hw)
  have hown : s.vm.findClass "java/lang/String" = some m.cls := findClass_of_methodNamed B.named
  have hlocks := B.notSynchronized
  have hS : va_S A s.heap s.heap [] := va_S.rf
  have hl := lv_entry ([.int x, .int n]) (n := 2) (Nat.le_of_ble_eq_true rfl)
  rw [lg_entry_eq]
  generalize (lg_sl ([.int x, .int n]) ++ List.replicate (2 - (lg_sl ([.int x, .int n])).length) Slot.unset).toArray = ls at hl ⊢
  have hl : lv_has ls 2 [(0, .int x), (1, .int n)] := hl
  refine lv_iload_n hx hb (show decode prog_18_method_155_code 0 = .ok (.iload_n 0, 1) from by decide +kernel) rfl (lv_at hl 0 rfl) ?_
  refine lv_iload_n hx hb (show decode prog_18_method_155_code 1 = .ok (.iload_n 1, 1) from by decide +kernel) rfl (lv_at hl 1 rfl) ?_
  rcases hW.2.2 with hZ | ⟨t, hZ⟩
  · refine va_gets hx hb hZ hS hown (hts _ sf_si) (fun _ h => h) (show decode prog_18_method_155_code 2 = .ok (.getstatic 1053, 3) from by decide +kernel) ?_
    refine sgo (va_runS (n := 3) (As := [.int x, .int n, .null]) (rest := []) ⟨hx, hb, hml, hown, hts⟩ (cS_pren l b adV A s.heap x n h0 h1) ⟨callB_of 3 hts (sgoodIn sc_pre) rfl rfl rfl (hts _ sn_PR) (hts _ sm_pre) ⟨by decide, by decide, by decide +kernel⟩ ⟨Nat.le_of_ble_eq_true rfl, Nat.le_of_ble_eq_true rfl⟩, hts _ st_pre⟩ ⟨sPc_blind, fun U hU hw => ⟨rfl, hU, sW.moved hw.alike hW⟩⟩ rfl rfl hl.1 rfl (lv_room (Nat.le_of_ble_eq_true rfl)) (show decode prog_18_method_155_code 5 = .ok (.invokestatic 1059, 3) from by decide +kernel) ⟨by omega, by omega⟩) ?_
    refine lv_pop hx hb (show decode prog_18_method_155_code 8 = .ok (.pop, 1) from by decide +kernel) rfl ?_
    exact W.vret hx hb hr (fun t ht _ => ⟨rfl, ht⟩) (fun q h => by cases h) (show decode prog_18_method_155_code 9 = .ok (.return_, 1) from by decide +kernel)
  · refine va_gets hx hb hZ hS hown (hts _ sf_si) (fun _ h => h) (show decode prog_18_method_155_code 2 = .ok (.getstatic 1053, 3) from by decide +kernel) ?_
    refine sgo (va_runS (n := 3) (As := [.int x, .int n, .ref t]) (rest := []) ⟨hx, hb, hml, hown, hts⟩ (cS_prer l b adV A s.heap x n t h0 h1) ⟨callB_of 3 hts (sgoodIn sc_pre) rfl rfl rfl (hts _ sn_PR) (hts _ sm_pre) ⟨by decide, by decide, by decide +kernel⟩ ⟨Nat.le_of_ble_eq_true rfl, Nat.le_of_ble_eq_true rfl⟩, hts _ st_pre⟩ ⟨sPc_blind, fun U hU hw => ⟨rfl, hU, sW.moved hw.alike hW⟩⟩ rfl rfl hl.1 rfl (lv_room (Nat.le_of_ble_eq_true rfl)) (show decode prog_18_method_155_code 5 = .ok (.invokestatic 1059, 3) from by decide +kernel) ⟨by omega, by omega⟩) ?_
    refine lv_pop hx hb (show decode prog_18_method_155_code 8 = .ok (.pop, 1) from by decide +kernel) rfl ?_
    exact W.vret hx hb hr (fun t ht _ => ⟨rfl, ht⟩) (fun q h => by cases h) (show decode prog_18_method_155_code 9 = .ok (.return_, 1) from by decide +kernel)
set_option maxHeartbeats 1000000 in
theorem cS_l1 (l : Launch) (b adV : Nat → Nat) (A : Nat → Prop) (Hh : Heap) (i : Nat) (hi : i < 2) (x : Int32) (h0 : ¬ x < 0) (h1 : x < Int32.ofNat (xsN.getD i 0)) (h2 : vp_in x (xsN.getD i 0)) (h3 : x.toNatClampNeg < xsN.getD i 0) : Met l yS_l1 (.code yS_l1 prog_19_method_2_code 2 (some .char) :: xG) ({ frames := 2, cells := 0, slots := 0, locals := 43 } : Room) (sPc b adV A Hh [.ref (adV i), .int x]) (sQc Hh (some (.int ((xsB.getD i []).getD x.toNatClampNeg 0)))) 0 0 (fun _ => False) := by
  refine Met.ofW (cc := prog_19_method_2_code) (maxL := 2) (ret := (some .char)) (by decide) rfl ?_
  intro p e s m args below meth c s₁ B hml hv
  obtain ⟨rfl, hH, hW⟩ := hv
  subst hH
  have hx := B.exec
  have hb := B.bytes
  have hr := B.returns
  have hts0 := atoms_spec (ws := Cond.code yS_l1 prog_19_method_2_code 2 (some .char) :: xG) B.pre
  have hts : ∀ w ∈ xG, w.before _ s = true := fun w hw => hts0 w (List.mem_cons_of_mem _ hw)
  have hown : s.vm.findClass "java/lang/StringLatin1" = some m.cls := findClass_of_methodNamed B.named
  have hlocks := B.notSynchronized
  have hS : va_S A s.heap s.heap [] := va_S.rf
  have hl := lv_entry ([.ref (adV i), .int x]) (n := 2) (Nat.le_of_ble_eq_true rfl)
  rw [lg_entry_eq]
  generalize (lg_sl ([.ref (adV i), .int x]) ++ List.replicate (2 - (lg_sl ([.ref (adV i), .int x])).length) Slot.unset).toArray = ls at hl ⊢
  have hl : lv_has ls 2 [(0, .ref (adV i)), (1, .int x)] := hl
  refine lv_iload_n hx hb (show decode prog_19_method_2_code 0 = .ok (.iload_n 1, 1) from by decide +kernel) rfl (lv_at hl 1 rfl) ?_
  refine lv_aload_n hx hb (show decode prog_19_method_2_code 1 = .ok (.aload_n 0, 1) from by decide +kernel) rfl (lv_at hl 0 rfl) ?_
  refine va_tlen hx hb (hW.1.1 i hi).2.2.2 hS rfl (show decode prog_19_method_2_code 2 = .ok (.arraylength, 1) from by decide +kernel) ?_
  refine sgo (va_runS (n := 2) (As := [.int x, .int (Int32.ofNat (xsN.getD i 0))]) (rest := []) ⟨hx, hb, hml, hown, hts⟩ (cS_check l b adV A s.heap x (Int32.ofNat (xsN.getD i 0)) h0 h1) ⟨callB_of 2 hts (sgoodIn sc_check) rfl rfl rfl (hts _ sn_S) (hts _ sm_chk) ⟨by decide, by decide, by decide +kernel⟩ ⟨Nat.le_of_ble_eq_true rfl, Nat.le_of_ble_eq_true rfl⟩, hts _ st_check⟩ ⟨sPc_blind, fun U hU hw => ⟨rfl, hU, sW.moved hw.alike hW⟩⟩ rfl rfl hl.1 rfl (lv_room (Nat.le_of_ble_eq_true rfl)) (show decode prog_19_method_2_code 3 = .ok (.invokestatic 9, 3) from by decide +kernel) ⟨by omega, by omega⟩) ?_
  refine lv_aload_n hx hb (show decode prog_19_method_2_code 6 = .ok (.aload_n 0, 1) from by decide +kernel) rfl (lv_at hl 0 rfl) ?_
  refine lv_iload_n hx hb (show decode prog_19_method_2_code 7 = .ok (.iload_n 1, 1) from by decide +kernel) rfl (lv_at hl 1 rfl) ?_
  refine va_tb hx hb (hW.1.1 i hi).2.2.2 hS h2 rfl (show decode prog_19_method_2_code 8 = .ok (.baload, 1) from by decide +kernel) ?_
  refine lv_sipush (v := 255) hx hb (show decode prog_19_method_2_code 9 = .ok (.sipush 255, 3) from by decide +kernel) (by decide) ?_
  refine lv_iand hx hb (show decode prog_19_method_2_code 12 = .ok (.iand, 1) from by decide +kernel) ?_
  refine lv_i2c hx hb (show decode prog_19_method_2_code 13 = .ok (.i2c, 1) from by decide +kernel) (sx_byte i hi _ h3) ?_
  exact W.zret (ty := .char) hx hb hr (sx_char i hi _ h3) (fun t ht _ => ⟨rfl, ht⟩) (fun q h => by cases h) (show decode prog_19_method_2_code 14 = .ok (.ireturn, 1) from by decide +kernel)
set_option maxHeartbeats 1000000 in
theorem cS_charAt (l : Launch) (b adV : Nat → Nat) (A : Nat → Prop) (Hh : Heap) (i : Nat) (hi : i < 2) (x : Int32) (h0 : ¬ x < 0) (h1 : x < Int32.ofNat (xsN.getD i 0)) (h2 : vp_in x (xsN.getD i 0)) (h3 : x.toNatClampNeg < xsN.getD i 0) : Met l yS_charAt (.code yS_charAt prog_18_method_56_code 2 (some .char) :: xG) ({ frames := 3, cells := 0, slots := 0, locals := 64 } : Room) (sPc b adV A Hh [.ref (b (i + 1)), .int x]) (sQc Hh (some (.int ((xsB.getD i []).getD x.toNatClampNeg 0)))) 0 0 (fun _ => False) := by
  refine Met.ofW (cc := prog_18_method_56_code) (maxL := 2) (ret := (some .char)) (by decide) rfl ?_
  intro p e s m args below meth c s₁ B hml hv
  obtain ⟨rfl, hH, hW⟩ := hv
  subst hH
  have hx := B.exec
  have hb := B.bytes
  have hr := B.returns
  have hts0 := atoms_spec (ws := Cond.code yS_charAt prog_18_method_56_code 2 (some .char) :: xG) B.pre
  have hts : ∀ w ∈ xG, w.before _ s = true := fun w hw => hts0 w (List.mem_cons_of_mem _ hw)
  have hown : s.vm.findClass "java/lang/String" = some m.cls := findClass_of_methodNamed B.named
  have hlocks := B.notSynchronized
  have hS : va_S A s.heap s.heap [] := va_S.rf
  have hl := lv_entry ([.ref (b (i + 1)), .int x]) (n := 2) (Nat.le_of_ble_eq_true rfl)
  rw [lg_entry_eq]
  generalize (lg_sl ([.ref (b (i + 1)), .int x]) ++ List.replicate (2 - (lg_sl ([.ref (b (i + 1)), .int x])).length) Slot.unset).toArray = ls at hl ⊢
  have hl : lv_has ls 2 [(0, .ref (b (i + 1))), (1, .int x)] := hl
  refine lv_aload_n hx hb (show decode prog_18_method_56_code 0 = .ok (.aload_n 0, 1) from by decide +kernel) rfl (lv_at hl 0 rfl) ?_
  refine sgo (va_runV (n := 0) (C := "java/lang/String") (b := b (i + 1)) (As := []) (rest := []) ⟨hx, hb, hml, hown, hts⟩ (cS_isLatin1 l b adV A s.heap i hi) ⟨callB_of 0 hts (sgoodIn sc_isLatin1) rfl rfl rfl (hts _ sn_S) (hts _ sm_isL) ⟨by decide, by decide, by decide +kernel⟩ ⟨Nat.le_of_ble_eq_true rfl, Nat.le_of_ble_eq_true rfl⟩, hts _ si_isLatin1, hts _ sl_isLatin1⟩ ⟨sPc_blind, srecv hW.1 hi, fun U hU hw => ⟨rfl, hU, sW.moved hw.alike hW⟩⟩ rfl rfl hl.1 rfl (lv_room (Nat.le_of_ble_eq_true rfl)) (show decode prog_18_method_56_code 1 = .ok (.invokevirtual 492, 3) from by decide +kernel) ⟨by omega, by omega⟩) ?_
  refine lv_if_eq (tgt := 16) hx hb (show decode prog_18_method_56_code 4 = .ok (.ifCond .eq 12, 3) from by decide +kernel) (by decide) (fun h => absurd h (by decide)) (fun _ => ?_)
  refine lv_aload_n hx hb (show decode prog_18_method_56_code 7 = .ok (.aload_n 0, 1) from by decide +kernel) rfl (lv_at hl 0 rfl) ?_
  refine vk_getf hx hb (hW.1.1 i hi).2.2.1 hS hown (hts _ sf_va) (fun _ h => h) (show decode prog_18_method_56_code 8 = .ok (.getfield 9, 3) from by decide +kernel) ?_
  refine lv_iload_n hx hb (show decode prog_18_method_56_code 11 = .ok (.iload_n 1, 1) from by decide +kernel) rfl (lv_at hl 1 rfl) ?_
  refine sgo (va_runS (n := 2) (As := [.ref (adV i), .int x]) (rest := []) ⟨hx, hb, hml, hown, hts⟩ (cS_l1 l b adV A s.heap i hi x h0 h1 h2 h3) ⟨callB_of 2 hts (sgoodIn sc_l1) rfl rfl rfl (hts _ sn_L1) (hts _ sm_l1) ⟨by decide, by decide, by decide +kernel⟩ ⟨Nat.le_of_ble_eq_true rfl, Nat.le_of_ble_eq_true rfl⟩, hts _ st_l1⟩ ⟨sPc_blind, fun U hU hw => ⟨rfl, hU, sW.moved hw.alike hW⟩⟩ rfl rfl hl.1 rfl (lv_room (Nat.le_of_ble_eq_true rfl)) (show decode prog_18_method_56_code 12 = .ok (.invokestatic 495, 3) from by decide +kernel) ⟨by omega, by omega⟩) ?_
  exact W.zret (ty := .char) hx hb hr (sx_char i hi _ h3) (fun t ht _ => ⟨rfl, ht⟩) (fun q h => by cases h) (show decode prog_18_method_56_code 15 = .ok (.ireturn, 1) from by decide +kernel)
