/-! MACROS ARE SOUND: copies to the front, a word asked for twice -/
def nChk2 : Bool := (nShift 0 2480 620 && nFitB 0 2480 620) && ((nShift 252 2732 360 && nFitB 252 2732 360) && decide (ktB 186 2485 = (0, 0, 999)))
set_option maxRecDepth 100000 in
theorem nChk2_ok : nChk2 = true := by decide +kernel
theorem nChk2_at : (nShift 0 2480 620 = true ∧ nFitB 0 2480 620 = true) ∧ (nShift 252 2732 360 = true ∧ nFitB 252 2732 360 = true) ∧ ktB 186 2485 = (0, 0, 999) := by
  have := nChk2_ok
  unfold nChk2 at this
  simp only [Bool.and_eq_true, decide_eq_true_eq] at this
  exact ⟨this.1, this.2.1, this.2.2⟩
theorem scene_sw {sc : List Int32} {t : nTb} {ml : nMl} {B : xM} {I : tI} {J : tJ} {Q : Option Value → xM → Prop} (hB : kB (nTm t ml) B) (ht : t.1 = (ktK, ktB)) (hq : ∀ L', xfind L' 0 = some (.ref 185) → sw sc (xt_244, 4, 1) 88 L' [] (tMem B (tcp I 186 0 186 2480 620) J) Q) : ∀ (n k : Nat) (x : Int32) (Lc : xL), x.toInt = k → k + n = 620 → xfind Lc 0 = some (.ref 185) → sw sc (xt_244, 4, 1) 59 ((3, .int x) :: Lc) [] (tMem B (tcp I 186 0 186 2480 k) J) Q
  | 0, k, x, Lc, hx, hk, h0 => by
    have e : k = 620 := by omega
    subst e
    refine tw_il rfl rfl ?_
    refine sw_0 rfl rfl rfl ?_
    refine sw_0 rfl rfl (ev_ic (by rw [tc_ge]; exact decide_eq_true (by show (620 : Int) ≤ x.toInt; omega))) ?_
    exact hq _ h0
  | n + 1, k, x, Lc, hx, hk, h0 => by
    have hR := at_ref hB ht
    have ex := i_nat hx
    have es : ((2480 : Int32) + x).toInt = ((2480 + k : Nat) : Int) := by
      rw [ti_add (by show (-2147483648 : Int) ≤ 2480 + x.toInt; omega) (by show 2480 + x.toInt ≤ (2147483647 : Int); omega)]
      show (2480 : Int) + x.toInt = _
      omega
    have en := i_nat es
    refine tw_il rfl rfl ?_
    refine sw_0 rfl rfl rfl ?_
    refine sw_0 rfl rfl (ev_icn (by rw [tc_ge]; exact decide_eq_false (by show ¬ (620 : Int) ≤ x.toInt; omega))) ?_
    refine tw_al rfl h0 ?_
    refine te_getr rfl hR ?_
    refine tw_il rfl rfl ?_
    refine tw_al rfl h0 ?_
    refine te_getr rfl hR ?_
    refine sw_0 rfl rfl rfl ?_
    refine tw_il rfl rfl ?_
    refine sw_0 rfl rfl rfl ?_
    refine tx_iald (j := 2480 + x) rfl (by rw [en]; exact at_slot hB ht (by omega) (nTag_at (by omega))) (by omega) ?_
    refine tx_iast rfl (by rw [ex]; exact at_slot hB ht (by omega) (nTag_at (by omega))) (by omega) ?_
    refine sw_0 rfl rfl rfl ?_
    refine sw_0 rfl rfl rfl ?_
    rw [en, ex]
    have ev : tcp I 186 0 186 2480 k 186 (2480 + k) = I 186 (2480 + k) := tcp_out (by omega)
    have e0 : tup (tcp I 186 0 186 2480 k) 186 k (I 186 (2480 + k)) = tcp I 186 0 186 2480 (k + 1) := by rw [tcp_s, Nat.zero_add]
    rw [ev, e0]
    exact scene_sw hB ht hq n (k + 1) (x + Int32.ofInt 1) (xdrop1 3 Lc) (by rw [i_of1]; exact (i_suc hx (by omega)).1) (by omega) (xfind_drop1 rfl rfl h0)
theorem runs_sw {sc : List Int32} {t : nTb} {ml : nMl} {B : xM} {I : tI} {J : tJ} {Q : Option Value → xM → Prop} (hB : kB (nTm t ml) B) (ht : t.1 = (ktK, ktB)) (hq : ∀ L', xfind L' 0 = some (.ref 185) → sw sc (xt_250, 4, 1) 132 L' [] (tMem B (tcp I 186 252 186 2732 360) J) Q) : ∀ (n k : Nat) (x : Int32) (Lc : xL), x.toInt = ((252 + k : Nat) : Int) → k + n = 360 → xfind Lc 0 = some (.ref 185) → sw sc (xt_250, 4, 1) 103 ((3, .int x) :: Lc) [] (tMem B (tcp I 186 252 186 2732 k) J) Q
  | 0, k, x, Lc, hx, hk, h0 => by
    have e : k = 360 := by omega
    subst e
    refine tw_il rfl rfl ?_
    refine sw_0 rfl rfl rfl ?_
    refine sw_0 rfl rfl (ev_ic (by rw [tc_ge]; exact decide_eq_true (by show (612 : Int) ≤ x.toInt; omega))) ?_
    exact hq _ h0
  | n + 1, k, x, Lc, hx, hk, h0 => by
    have hR := at_ref hB ht
    have ex := i_nat hx
    have es : ((2480 : Int32) + x).toInt = ((2732 + k : Nat) : Int) := by
      rw [ti_add (by show (-2147483648 : Int) ≤ 2480 + x.toInt; omega) (by show 2480 + x.toInt ≤ (2147483647 : Int); omega)]
      show (2480 : Int) + x.toInt = _
      omega
    have en := i_nat es
    refine tw_il rfl rfl ?_
    refine sw_0 rfl rfl rfl ?_
    refine sw_0 rfl rfl (ev_icn (by rw [tc_ge]; exact decide_eq_false (by show ¬ (612 : Int) ≤ x.toInt; omega))) ?_
    refine tw_al rfl h0 ?_
    refine te_getr rfl hR ?_
    refine tw_il rfl rfl ?_
    refine tw_al rfl h0 ?_
    refine te_getr rfl hR ?_
    refine sw_0 rfl rfl rfl ?_
    refine tw_il rfl rfl ?_
    refine sw_0 rfl rfl rfl ?_
    refine tx_iald (j := 2480 + x) rfl (by rw [en]; exact at_slot hB ht (by omega) (nTag_at (by omega))) (by omega) ?_
    refine tx_iast rfl (by rw [ex]; exact at_slot hB ht (by omega) (nTag_at (by omega))) (by omega) ?_
    refine sw_0 rfl rfl rfl ?_
    refine sw_0 rfl rfl rfl ?_
    rw [en, ex]
    have ev : tcp I 186 252 186 2732 k 186 (2732 + k) = I 186 (2732 + k) := tcp_out (by omega)
    rw [ev, ← tcp_s]
    exact runs_sw hB ht hq n (k + 1) (x + Int32.ofInt 1) (xdrop1 3 Lc) (by rw [i_of1]; exact (i_suc hx (by omega)).1) (by omega) (xfind_drop1 rfl rfl h0)
section MP
variable {sc : List Int32} {ml : nMl} {Fr : kQ} {r : xR} {ρ0 : List Int} {Q : Option Value → xM → Prop} {x : nS} {outs : List (Nat × nS)}
theorem nI_cp {B : xM} {I : tI} {J : tJ} {dp sp n : Nat} (hF : nFr ml Fr) (hI : kI (ktT ml) (nQ (ktN sc) Fr) B I J) (hs : nShift dp sp n = true) (hf : nFitB dp sp n = true) (hl : sp + n ≤ 3972) (h5 : ¬ (sp ≤ 5 ∧ 5 < sp + n)) (hm : ∀ k, dp ≤ k → k < dp + n → nmod ml 186 k = true) : kI (ktT ml) (nQ (ktN sc) Fr) B (tcp I 186 dp 186 sp n) J := by
  refine nI_gen hF hI (fun o k => ?_) (nShift_ok hs hI.2.1.1.1)
  by_cases e : o = 186 ∧ dp ≤ k ∧ k < dp + n
  · obtain ⟨rfl, e1, e2⟩ := e
    rw [tcp_in e1 e2]
    exact Or.inr ⟨hm k e1 e2, by decide, nFitB_ok hf hl (fun k hk ht => hI.1 186 (20, 3972) k rfl hk ht) (fun a b => absurd ⟨a, b⟩ h5) e1 e2⟩
  · exact Or.inl (tcp_out e)
theorem mq5_ok (hF : nFr ml Fr) (hy : xmeth 244 = some r) (h : mq5 ml x = some outs) (hg : ∀ q ∈ outs, nG (ktT ml) (nQ (ktN sc) Fr) sc r ρ0 q.1 q.2 Q) : nG (ktT ml) (nQ (ktN sc) Fr) sc r ρ0 57 x Q := by
  obtain ⟨⟨E, L, S, O⟩, D⟩ := x
  have hr : xmeth 244 = some (xt_244, 4, 1) := rfl
  rw [hr] at hy
  cases hy
  unfold mq5 at h
  dsimp only at h
  split at h
  · split at h
    · rename_i l0 hl0
      obtain ⟨hc, h⟩ := bif_n h
      cases h
      simp only [Bool.and_eq_true] at hc
      obtain ⟨⟨cl, cz⟩, cml⟩ := hc
      intro σ L' st B I J ⟨k1, k2, k3, k4⟩ hD hB hI
      have e0 : st = [] := k3
      subst e0
      obtain ⟨w0, f0, g0⟩ := k2 0 l0 hl0
      have e0 := kv_ref g0 cl
      subst e0
      obtain ⟨⟨s1, s2⟩, -, s5⟩ := nChk2_at
      have hI2 := nI_cp hF hI s1 s2 (by omega) (by omega) (fun k a b => nsub_in (l := [(186, 0, 619)]) cml (nmod_1 (by omega) (by omega)))
      have hag : kAg [(186, 0, 619)] B I J B (tcp I 186 0 186 2480 620) J := kAg_cp (fun k a b => nmod_1 (by omega) (by omega))
      have hv : tcp I 186 0 186 2480 620 186 5 = I 186 2485 := tcp_in (by omega) (by omega)
      have hb := hI.1 186 (20, 3972) 2485 rfl (by decide) (show (ktB 186 2485).1 = 0 by rw [s5])
      have e5 : kT.b (ktT ml) 186 2485 = (0, 0, 999) := s5
      rw [e5] at hb
      refine sw_0 rfl rfl rfl ?_
      refine sw_0 rfl rfl rfl ?_
      have hgo := scene_sw (sc := sc) (I := I) (J := J) (Q := Q) hB rfl (fun L2 h2 => hg _ List.mem_cons_self (σ ++ [(I 186 2485).toInt]) L2 [] B _ J ⟨?_, ?_, rfl, ?_⟩ ?_ hB hI2) 620 0 0 (xdrop1 3 L') rfl rfl (xfind_drop1 rfl rfl f0)
      · rw [tcp_0] at hgo
        exact hgo
      · rw [← List.append_assoc]; exact kin_app k1 hb.1 hb.2
      · intro j v hv
        simp only [kfind] at hv
        cases hj : Nat.beq 0 j with
        | false => rw [hj] at hv; cases hv
        | true =>
          rw [hj] at hv
          cases hv
          have ej := Nat.eq_of_beq_eq_true hj
          subst ej
          refine ⟨_, h2, ?_⟩
          rw [← List.append_assoc]
          exact kv_ap g0
      · intro q hq
        rcases List.mem_append.mp hq with hq | hq
        · rw [← List.append_assoc]
          exact kov_ap (nkeep_ok k1 k4 hag) q hq
        · rw [List.mem_singleton] at hq
          subst hq
          refine ⟨5, ?_, ?_⟩
          · rw [← List.append_assoc]; exact knum_ap (kz_ok k1 cz 5 0)
          · dsimp only
            rw [hv, ← List.append_assoc]
            exact ⟨_, kin_new k1, by simp⟩
      · rw [← List.append_assoc]; exact kfs_ap hD
    · cases h
  · cases h
theorem mq6_ok (hF : nFr ml Fr) (hy : xmeth 250 = some r) (h : mq6 ml x = some outs) (hg : ∀ q ∈ outs, nG (ktT ml) (nQ (ktN sc) Fr) sc r ρ0 q.1 q.2 Q) : nG (ktT ml) (nQ (ktN sc) Fr) sc r ρ0 99 x Q := by
  obtain ⟨⟨E, L, S, O⟩, D⟩ := x
  have hr : xmeth 250 = some (xt_250, 4, 1) := rfl
  rw [hr] at hy
  cases hy
  unfold mq6 at h
  dsimp only at h
  split at h
  · split at h
    · rename_i l0 hl0
      obtain ⟨hc, h⟩ := bif_n h
      cases h
      simp only [Bool.and_eq_true] at hc
      obtain ⟨cl, cml⟩ := hc
      intro σ L' st B I J ⟨k1, k2, k3, k4⟩ hD hB hI
      have e0 : st = [] := k3
      subst e0
      obtain ⟨w0, f0, g0⟩ := k2 0 l0 hl0
      have e0 := kv_ref g0 cl
      subst e0
      obtain ⟨-, ⟨s1, s2⟩, -⟩ := nChk2_at
      have hI2 := nI_cp hF hI s1 s2 (by omega) (by omega) (fun k a b => nsub_in (l := [(186, 252, 611)]) cml (nmod_1 (by omega) (by omega)))
      have hag : kAg [(186, 252, 611)] B I J B (tcp I 186 252 186 2732 360) J := kAg_cp (fun k a b => nmod_1 (by omega) (by omega))
      refine sw_0 rfl rfl rfl ?_
      refine sw_0 rfl rfl rfl ?_
      have hgo := runs_sw (sc := sc) (I := I) (J := J) (Q := Q) hB rfl (fun L2 h2 => hg _ List.mem_cons_self σ L2 [] B _ J ⟨k1, ?_, rfl, nkeep_ok k1 k4 hag⟩ hD hB hI2) 360 0 252 (xdrop1 3 L') rfl rfl (xfind_drop1 rfl rfl f0)
      · rw [tcp_0] at hgo
        exact hgo
      · intro j v hv
        simp only [kfind] at hv
        cases hj : Nat.beq 0 j with
        | false => rw [hj] at hv; cases hv
        | true =>
          rw [hj] at hv
          cases hv
          have ej := Nat.eq_of_beq_eq_true hj
          subst ej
          exact ⟨_, h2, g0⟩
    · cases h
  · cases h
/-- a method that changes nothing answers the same twice -/
theorem sw_same {c : nC} {rc : xR} {as : List Value} {B : xM} {I : tI} {J : tJ} (hc : nCon (ktN sc) sc c) (hm : c.2.1 = []) (hy : xmeth c.1.1 = some rc) (ha : kvcs c.1.2.1 as) (hO : nOk (ktN sc) B I) (hp : c.2.2.1 = []) (hr : c.1.2.2 = some (0, -1, 161)) : ∃ y : Int32, sw sc rc 0 (lv_args 0 as) [] (tMem B I J) (fun v M' => v = some (.int y) ∧ M' = tMem B I J) := by
  obtain ⟨g, v, M', hg, B', I', J', rfl, -, hag, -, hv⟩ := hc rc as B I J hy ha hO (by rw [hp]; exact fun q hq => by cases hq)
  rw [hr] at hv
  rw [hm] at hag
  obtain ⟨w, rfl, ⟨y, rfl, -, -⟩, -⟩ := hv
  have eI : I' = I := by
    funext o k
    exact (hag.1 o k rfl).1
  have eJ : J' = J := by
    funext o k
    exact (hag.1 o k rfl).2
  have eB : B' = B := hag.2.1 rfl
  subst eI eJ eB
  exact ⟨y, g, _, _, hg, rfl, rfl⟩
theorem mq7_ok {c : nC} (hc : nCon (ktN sc) sc c) (hcy : c = ((224, [(2, 185, 0), (3, 2, 0)], some (0, -1, 161)), [], [], [])) (hy : xmeth 240 = some r) (h : mq7 x = some outs) (hg : ∀ q ∈ outs, nG (ktT ml) (nQ (ktN sc) Fr) sc r ρ0 q.1 q.2 Q) : nG (ktT ml) (nQ (ktN sc) Fr) sc r ρ0 115 x Q := by
  obtain ⟨⟨E, L, S, O⟩, D⟩ := x
  have hr : xmeth 240 = some (xt_240, 2, 3) := rfl
  rw [hr] at hy
  cases hy
  unfold mq7 at h
  dsimp only at h
  split at h
  · split at h
    · rename_i l0 hl0
      obtain ⟨cl, h⟩ := bif_n h
      cases h
      intro σ L' st B I J ⟨k1, k2, k3, k4⟩ hD hB hI
      have e0 : st = [] := k3
      subst e0
      obtain ⟨w0, f0, g0⟩ := k2 0 l0 hl0
      have e0 := kv_ref g0 cl
      subst e0
      subst hcy
      obtain ⟨y, hsw⟩ := sw_same (rc := (xt_224, 7, 1)) (as := [.ref 185, .retAddr 2]) (J := J) hc rfl rfl ⟨_, _, rfl, ⟨185, rfl, rfl⟩, _, _, rfl, ⟨2, rfl, rfl⟩, rfl⟩ ⟨hB, hI.1, hI.2.1.1⟩ rfl rfl
      have ex1 := hg _ List.mem_cons_self σ L' [] B I J ⟨k1, k2, rfl, k4⟩ hD hB hI
      have ex2 := hg _ (List.mem_cons_of_mem _ List.mem_cons_self) σ L' [] B I J ⟨k1, k2, rfl, k4⟩ hD hB hI
      have recv : xrecv (.invokevirtual 169, 224, 2, 12) [.ref 185, .retAddr 2] (tMem B I J) = true := krecv_ok (T := ktT ml) (ρ := []) (as := [(2, 185, 0), (3, 2, 0)]) hB ⟨_, _, rfl, rfl, _, _, rfl, rfl, rfl⟩ rfl
      have call : ∀ pc (Q' : Option Value → xM → Prop), xat (xt_240, 2, 3).1 pc = some (.aload_n 0, 0, 0, 0) → xat (xt_240, 2, 3).1 (pc + 1) = some (.ldc 177, 1, 1, 0) → xat (xt_240, 2, 3).1 (pc + 1 + 2) = some (.invokevirtual 169, 224, 2, 12) → sw sc (xt_240, 2, 3) (pc + 1 + 2 + 3) L' [.int y] (tMem B I J) Q' → sw sc (xt_240, 2, 3) pc L' [] (tMem B I J) Q' := fun pc Q' a1 a2 a3 kk => by
        refine tw_al a1 f0 ?_
        refine sw_s a2 rfl rfl rfl ?_
        refine sw_1 a3 rfl rfl (by rw [recv]; rfl) (rfl : xmeth 224 = some (xt_224, 7, 1)) rfl hsw ?_
        rintro v M' ⟨rfl, rfl⟩
        exact kk
      refine call 115 Q rfl rfl rfl ?_
      refine sw_0 rfl rfl rfl ?_
      cases c1 : xcmp .gt y 4 with
      | true => exact sw_0 rfl rfl (ev_ic c1) ex1
      | false =>
        refine sw_0 rfl rfl (ev_icn c1) ?_
        refine call 125 Q rfl rfl rfl ?_
        cases c2 : xcmp .ge y 0 with
        | false => exact sw_0 rfl rfl (ev_ifn c2) ex1
        | true =>
          refine sw_0 rfl rfl (ev_if c2) ?_
          refine call 140 Q rfl rfl rfl ?_
          have c3 : xcmp .lt y 0 = false := by
            rw [tc_ge] at c2
            rw [tc_lt]
            have := of_decide_eq_true c2
            exact decide_eq_false (by omega)
          refine sw_0 rfl rfl (ev_ifn c3) ?_
          refine call 149 Q rfl rfl rfl ?_
          refine sw_0 rfl rfl rfl ?_
          exact sw_0 rfl rfl (ev_icn c1) ex2
    · cases h
  · cases h
end MP
