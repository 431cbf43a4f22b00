/-! MACROS ARE SOUND: what begins here -/
theorem kB_tArr {T : kT} {B : xM} {o c n : Nat} (h : kB T B) (ho : T.k o = some (c, n)) (ht : ∀ k, k < n → (T.b o k).1 = 0) : tArr B o c n 0 = true := by
  obtain ⟨sl, h1, h2, h3⟩ := h o _ ho
  dsimp only at h1 h2 h3
  unfold tArr
  rw [h1]
  dsimp only
  rw [h2, Nat.beq_refl, Bool.true_and]
  apply List.all_eq_true.mpr
  intro v hv
  obtain ⟨i, hi, e⟩ := List.getElem_of_mem hv
  obtain ⟨w, w1, w2, -⟩ := h3 i (by omega)
  rw [xnth_eq, List.getElem?_eq_getElem hi] at w1
  cases w1
  rw [← e]
  exact w2 (ht i (by omega))
def bAt (I : tI) (k : Int32) : Int32 := if k.toInt < (I 185 11).toInt then I 192 k.toNatClampNeg &&& 255 else -1
section BA
variable {sc : List Int32} {ml : nMl} {C : kQ} {B : xM} {I : tI} {J : tJ}
theorem byteAt_sw {k : Int32} (hB : kB (ktT ml) B) (hk : 0 ≤ k.toInt) (hs : (I 185 11).toInt ≤ 900) : sw sc (xt_219, 2, 1) 0 [(0, .ref 185), (1, .int k)] [] (tMem B I J) (fun v M' => v = some (.int (bAt I k)) ∧ M' = tMem B I J) := by
  have hS := kB_slot (k := 11) hB (rfl : (ktT ml).k 185 = some (12, 37)) (by decide) rfl
  have hR := kB_ref (k := 9) hB (rfl : (ktT ml).k 185 = some (12, 37)) (by decide) rfl
  have hA := kB_tArr hB (rfl : (ktT ml).k 192 = some (21, 900)) (fun _ _ => rfl)
  refine tw_il rfl rfl ?_
  refine tw_al rfl rfl ?_
  refine te_geti rfl hS ?_
  cases hc : xcmp .ge k (I 185 11) with
  | true =>
    refine sw_0 rfl rfl (ev_ic hc) ?_
    refine sw_0 rfl rfl rfl ?_
    rw [tc_ge] at hc
    have := of_decide_eq_true hc
    refine sw_2 rfl rfl rfl ⟨?_, rfl⟩
    unfold bAt
    rw [if_neg (by omega)]
    rfl
  | false =>
    refine sw_0 rfl rfl (ev_icn hc) ?_
    rw [tc_ge] at hc
    have := of_decide_eq_false hc
    refine tw_al rfl rfl ?_
    refine te_getr (a := 192) rfl hR ?_
    refine tw_il rfl rfl ?_
    refine te_bald rfl hA hk (by show k.toInt < ((900 : Nat) : Int); omega) ?_
    refine sw_0 rfl rfl rfl ?_
    refine sw_0 rfl rfl rfl ?_
    refine sw_0 rfl rfl rfl ?_
    refine sw_2 rfl rfl rfl ⟨?_, rfl⟩
    unfold bAt
    rw [if_pos (by omega)]
    rfl
def isS (c : Int32) : Int32 := if 97 ≤ c.toInt ∧ c.toInt ≤ 122 then 1 else 0
def isD (c : Int32) : Int32 := if 48 ≤ c.toInt ∧ c.toInt ≤ 57 then 1 else 0
theorem isSmall_sw {c : Int32} {M : xM} : sw sc (xt_220, 1, 3) 0 [(0, .int c)] [] M (fun v M' => v = some (.int (isS c)) ∧ M' = M) := by
  refine tw_il rfl rfl ?_
  refine sw_0 rfl rfl rfl ?_
  cases h1 : xcmp .lt c 97 with
  | true =>
    refine sw_0 rfl rfl (ev_ic h1) ?_
    rw [tc_lt] at h1
    have h1 : c.toInt < 97 := of_decide_eq_true h1
    refine sw_0 rfl rfl rfl ?_
    refine sw_2 rfl rfl rfl ⟨?_, rfl⟩
    unfold isS
    rw [if_neg (by omega)]
    rfl
  | false =>
    refine sw_0 rfl rfl (ev_icn h1) ?_
    rw [tc_lt] at h1
    have h1 : ¬ c.toInt < 97 := of_decide_eq_false h1
    refine tw_il rfl rfl ?_
    refine sw_0 rfl rfl rfl ?_
    cases h2 : xcmp .gt c 122 with
    | true =>
      refine sw_0 rfl rfl (ev_ic h2) ?_
      rw [tc_gt] at h2
      have h2 : (122 : Int) < c.toInt := of_decide_eq_true h2
      refine sw_0 rfl rfl rfl ?_
      refine sw_2 rfl rfl rfl ⟨?_, rfl⟩
      unfold isS
      rw [if_neg (by omega)]
      rfl
    | false =>
      refine sw_0 rfl rfl (ev_icn h2) ?_
      rw [tc_gt] at h2
      have h2 : ¬ (122 : Int) < c.toInt := of_decide_eq_false h2
      refine sw_0 rfl rfl rfl ?_
      refine sw_0 rfl rfl rfl ?_
      refine sw_2 rfl rfl rfl ⟨?_, rfl⟩
      unfold isS
      rw [if_pos (by omega)]
      rfl
theorem isDigit_sw {c : Int32} {M : xM} : sw sc (xt_221, 1, 3) 0 [(0, .int c)] [] M (fun v M' => v = some (.int (isD c)) ∧ M' = M) := by
  refine tw_il rfl rfl ?_
  refine sw_0 rfl rfl rfl ?_
  cases h1 : xcmp .lt c 48 with
  | true =>
    refine sw_0 rfl rfl (ev_ic h1) ?_
    rw [tc_lt] at h1
    have h1 : c.toInt < 48 := of_decide_eq_true h1
    refine sw_0 rfl rfl rfl ?_
    refine sw_2 rfl rfl rfl ⟨?_, rfl⟩
    unfold isD
    rw [if_neg (by omega)]
    rfl
  | false =>
    refine sw_0 rfl rfl (ev_icn h1) ?_
    rw [tc_lt] at h1
    have h1 : ¬ c.toInt < 48 := of_decide_eq_false h1
    refine tw_il rfl rfl ?_
    refine sw_0 rfl rfl rfl ?_
    cases h2 : xcmp .gt c 57 with
    | true =>
      refine sw_0 rfl rfl (ev_ic h2) ?_
      rw [tc_gt] at h2
      have h2 : (57 : Int) < c.toInt := of_decide_eq_true h2
      refine sw_0 rfl rfl rfl ?_
      refine sw_2 rfl rfl rfl ⟨?_, rfl⟩
      unfold isD
      rw [if_neg (by omega)]
      rfl
    | false =>
      refine sw_0 rfl rfl (ev_icn h2) ?_
      rw [tc_gt] at h2
      have h2 : ¬ (57 : Int) < c.toInt := of_decide_eq_false h2
      refine sw_0 rfl rfl rfl ?_
      refine sw_0 rfl rfl rfl ?_
      refine sw_2 rfl rfl rfl ⟨?_, rfl⟩
      unfold isD
      rw [if_pos (by omega)]
      rfl
end BA
theorem bAt_bd {I : tI} {k : Int32} : (k.toInt < (I 185 11).toInt ∧ 0 ≤ (bAt I k).toInt ∧ (bAt I k).toInt ≤ 255) ∨ bAt I k = -1 := by
  unfold bAt
  by_cases h : k.toInt < (I 185 11).toInt
  · rw [if_pos h]
    left
    have := ti_and (x := I 192 k.toNatClampNeg) (y := 255) (by decide)
    exact ⟨h, this.1, by have e : (255 : Int32).toInt = 255 := rfl; omega⟩
  · rw [if_neg h]
    exact Or.inr rfl
theorem bAt_same {I I' : tI} {k : Int32} (h1 : I' 185 11 = I 185 11) (h2 : ∀ j, I' 192 j = I 192 j) : bAt I' k = bAt I k := by
  unfold bAt
  rw [h1, h2]
section M8
variable {sc : List Int32} {ml : nMl} {Fr : kQ} {r : xR} {ρ0 : List Int} {Q : Option Value → xM → Prop} {x : nS} {outs : List (Nat × nS)}
theorem mq8_ok (hy : xmeth 222 = some r) (h : mq8 ml x = some outs) (hg : ∀ q ∈ outs, nG (ktT ml) (nQ (ktN sc) Fr) sc r ρ0 q.1 q.2 Q) : nG (ktT ml) (nQ (ktN sc) Fr) sc r ρ0 47 x Q := by
  obtain ⟨⟨E, L, S, O⟩, D⟩ := x
  have hr : xmeth 222 = some (xt_222, 2, 0) := rfl
  rw [hr] at hy
  cases hy
  unfold mq8 at h
  dsimp only at h
  split at h
  · split at h
    · rename_i l0 hl0
      split at h
      · rename_i v hv
        split at h
        · rename_i b hb
          obtain ⟨hc, h⟩ := bif_n h
          cases h
          simp only [Bool.and_eq_true] at hc
          obtain ⟨⟨cl, cv⟩, cz, cml⟩ := hc
          intro σ L' st B I J ⟨k1, k2, k3, k4⟩ hD hB hI
          have e0 : st = [] := k3
          subst e0
          obtain ⟨w0, f0, g0⟩ := k2 0 l0 hl0
          have e0 := kv_ref g0 cl
          subst e0
          have hve := kol_ok (k := 14) k4 hv (kz_ok k1 cz (14 : Int) 0)
          have bE := hI.1 185 (12, 37) 14 rfl (by decide) rfl
          have bS := hI.1 185 (12, 37) 11 rfl (by decide) rfl
          have bE0 : 0 ≤ (I 185 14).toInt := bE.1
          have bS9 : (I 185 11).toInt ≤ 900 := bS.2
          have hS := kB_slot (k := 14) hB (rfl : (ktT ml).k 185 = some (12, 37)) (by decide) rfl
          have hV := kB_slot (k := 15) hB (rfl : (ktT ml).k 185 = some (12, 37)) (by decide) rfl
          have recv : ∀ (I : tI), xrecv (.invokevirtual 120, 219, 2, 12) [.ref 185, .int (I 185 14)] (tMem B I J) = true := fun I => krecv_ok (T := ktT ml) (ρ := [(I 185 14).toInt]) (as := [(2, 185, 0), (0, 0, 0)]) hB ⟨_, _, rfl, rfl, _, _, rfl, ⟨_, rfl, _, rfl, by simp⟩, rfl⟩ rfl
          -- the byte at the end, asked for from a place of the method
          have call : ∀ (I : tI) pc (L2 : xL) (Q' : Option Value → xM → Prop), xfind L2 0 = some (.ref 185) → 0 ≤ (I 185 14).toInt → (I 185 11).toInt ≤ 900 → xat (xt_222, 2, 0).1 pc = some (.aload_n 0, 0, 0, 0) → xat (xt_222, 2, 0).1 (pc + 1) = some (.aload_n 0, 0, 0, 0) → xat (xt_222, 2, 0).1 (pc + 1 + 1) = some (.getfield 117, 12, 14, 0) → xat (xt_222, 2, 0).1 (pc + 1 + 1 + 3) = some (.invokevirtual 120, 219, 2, 12) → sw sc (xt_222, 2, 0) (pc + 1 + 1 + 3 + 3) L2 [.int (bAt I (I 185 14))] (tMem B I J) Q' → sw sc (xt_222, 2, 0) pc L2 [] (tMem B I J) Q' := fun I pc L2 Q' q1 q2 q3 a1 a2 a3 a4 kk => by
            refine tw_al a1 q1 ?_
            refine tw_al a2 q1 ?_
            refine te_geti a3 hS ?_
            refine sw_1 a4 rfl rfl (by rw [recv I]; rfl) (rfl : xmeth 219 = some (xt_219, 2, 1)) rfl (byteAt_sw hB q2 q3) ?_
            rintro v M' ⟨rfl, rfl⟩
            exact kk
          have hI15 : ∀ u : Int32, -1 ≤ u.toInt → u.toInt ≤ 100000 → kI (ktT ml) (nQ (ktN sc) Fr) B (tup I 185 15 u) J := fun u u1 u2 => kI_put hI (show (nmod ml 185 15 && ngc 185 15) = true by rw [nsub_in (l := [(185, 15, 15)]) cml (nmod_1 (by omega) (by omega))]; rfl) (fun _ => ti_bd u)
          have hO15 : ∀ (ρ : List Int) (E' : kE) (u : Int32) (w : kV), kin ρ E' → kov ρ I (kkill E 185 0 15 15 15 O) → kz E' = true → knum ρ w u.toInt → kov ρ (tup I 185 15 u) (((185, 0, 15), w) :: kkill E 185 0 15 15 15 O) → True := fun _ _ _ _ _ _ _ _ _ => trivial
          have kk15 : ∀ (u : Int32), kov (ρ0 ++ σ) (tup I 185 15 u) (kkill E 185 0 15 15 15 O) := fun u => kkill_ok (k := 15) k1 (kz_ok k1 cz (15 : Int) 0) (by omega) (by omega) k4
          have cons15 : ∀ (τ : List Int) (u : Int32) (w : kV), knum (ρ0 ++ σ ++ τ) w u.toInt → kov (ρ0 ++ σ ++ τ) (tup I 185 15 u) (((185, 0, 15), w) :: kkill E 185 0 15 15 15 O) := fun τ u w hw q hq => by
            rcases List.mem_cons.mp hq with rfl | hq
            · exact ⟨15, knum_ap (kz_ok k1 cz (15 : Int) 0), by dsimp only; rw [tup_eq]; exact hw⟩
            · exact kov_ap (kk15 u) q hq
          refine call I 47 L' Q f0 bE0 bS9 rfl rfl rfl rfl ?_
          generalize hcd : bAt I (I 185 14) = c
          have hcb := bAt_bd (I := I) (k := I 185 14)
          rw [hcd] at hcb
          have cb1 : -1 ≤ c.toInt ∧ c.toInt ≤ 255 := by
            rcases hcb with ⟨-, h1, h2⟩ | rfl
            · omega
            · decide
          have f0' : xfind (xst1 L' 1 (.int c)) 0 = some (.ref 185) := xfind_drop1 rfl rfl f0
          refine sw_0 rfl rfl rfl ?_
          refine tw_al rfl f0' ?_
          refine tw_il (v := c) rfl rfl ?_
          refine te_puti rfl hV rfl ?_
          refine tw_il (v := c) rfl rfl ?_
          refine sw_0 rfl rfl rfl ?_
          rcases hcb with ⟨hlt, c0, c255⟩ | rfl
          · have hne : c ≠ -1 := fun e => by
              rw [e] at c0
              exact absurd c0 (by decide)
            refine sw_0 rfl rfl (ev_ic (xc_ne hne)) ?_
            obtain ⟨E2, e1, e2⟩ := kref_ok (v := v) (lo := b.1) (hi := 899) k1 hve (kiv_in k1 hve hb).1 (by omega)
            rw [e1] at hg
            have new : knum (ρ0 ++ σ ++ [c.toInt]) (0, E2.length, 0) c.toInt := ⟨c.toInt, kin_new e2, by simp⟩
            have kvl1 : kvl (ρ0 ++ σ ++ [c.toInt]) (kset false L 1 (0, E2.length, 0)) (xst1 L' 1 (.int c)) := kvl_set1 (kvl_ap k2) ⟨c, rfl, new⟩
            have a95 : 97 ≤ c.toInt → c.toInt ≤ 122 → sw sc (xt_222, 2, 0) 95 (xst1 L' 1 (.int c)) [] (tMem B (tup I 185 15 c) J) Q := fun l1 l2 => hg _ (List.mem_cons_of_mem _ List.mem_cons_self) (σ ++ [c.toInt]) _ [] B _ J ⟨by rw [← List.append_assoc]; exact kin_app e2 l1 l2, by rw [← List.append_assoc]; exact kvl1, rfl, by rw [← List.append_assoc]; exact cons15 _ _ _ new⟩ (by rw [← List.append_assoc]; exact kfs_ap hD) hB (hI15 c (by omega) (by omega))
            have a142 : 48 ≤ c.toInt → c.toInt ≤ 57 → sw sc (xt_222, 2, 0) 142 (xst1 L' 1 (.int c)) [] (tMem B (tup I 185 15 0) J) Q := fun l1 l2 => hg _ (List.mem_cons_of_mem _ (List.mem_cons_of_mem _ List.mem_cons_self)) (σ ++ [c.toInt]) _ [] B _ J ⟨by rw [← List.append_assoc]; exact kin_app e2 l1 l2, by rw [← List.append_assoc]; exact kvl1, rfl, by rw [← List.append_assoc]; exact cons15 _ _ _ (knum_ap (kz_ok k1 cz 0 0))⟩ (by rw [← List.append_assoc]; exact kfs_ap hD) hB (hI15 0 (by decide) (by decide))
            have a208 : sw sc (xt_222, 2, 0) 208 (xst1 L' 1 (.int c)) [] (tMem B (tup I 185 15 c) J) Q := hg _ (List.mem_cons_of_mem _ (List.mem_cons_of_mem _ (List.mem_cons_of_mem _ List.mem_cons_self))) (σ ++ [c.toInt]) _ [] B _ J ⟨by rw [← List.append_assoc]; exact kin_app e2 c0 c255, by rw [← List.append_assoc]; exact kvl1, rfl, by rw [← List.append_assoc]; exact cons15 _ _ _ new⟩ (by rw [← List.append_assoc]; exact kfs_ap hD) hB (hI15 c (by omega) (by omega))
            have es : ∀ u, bAt (tup I 185 15 u) (tup I 185 15 u 185 14) = c := fun u => by
              rw [tup_ne (by omega), bAt_same (I := I) (tup_ne (by omega)) (fun j => tup_ne (by omega)), hcd]
            have b14 : ∀ u, 0 ≤ (tup I 185 15 u 185 14).toInt := fun u => by rw [tup_ne (by omega)]; exact bE0
            have b11 : ∀ u, (tup I 185 15 u 185 11).toInt ≤ 900 := fun u => by rw [tup_ne (by omega)]; exact bS9
            refine tw_il (v := c) rfl rfl ?_
            refine sw_1 (e := (.invokestatic 132, 220, 1, 0)) rfl rfl rfl rfl (rfl : xmeth 220 = some (xt_220, 1, 3)) rfl isSmall_sw ?_
            rintro v1 M1 ⟨rfl, rfl⟩
            by_cases hs : 97 ≤ c.toInt ∧ c.toInt ≤ 122
            · have is1 : isS c = 1 := if_pos hs
              rw [is1]
              refine sw_0 rfl rfl (ev_ifn (by decide)) ?_
              refine call (tup I 185 15 c) 81 _ Q f0' (b14 c) (b11 c) rfl rfl rfl rfl ?_
              rw [es]
              refine sw_1 (e := (.invokestatic 132, 220, 1, 0)) rfl rfl rfl rfl (rfl : xmeth 220 = some (xt_220, 1, 3)) rfl isSmall_sw ?_
              rintro v1 M1 ⟨rfl, rfl⟩
              rw [is1]
              exact sw_0 rfl rfl (ev_ifn (by decide)) (a95 hs.1 hs.2)
            · have is0 : isS c = 0 := if_neg hs
              rw [is0]
              refine sw_0 rfl rfl (ev_if (by decide)) ?_
              refine tw_il (v := c) rfl rfl ?_
              refine sw_1 (e := (.invokestatic 135, 221, 1, 0)) rfl rfl rfl rfl (rfl : xmeth 221 = some (xt_221, 1, 3)) rfl isDigit_sw ?_
              rintro v1 M1 ⟨rfl, rfl⟩
              by_cases hd : 48 ≤ c.toInt ∧ c.toInt ≤ 57
              · have id1 : isD c = 1 := if_pos hd
                rw [id1]
                refine sw_0 rfl rfl (ev_ifn (by decide)) ?_
                refine tw_al rfl f0' ?_
                refine sw_0 rfl rfl rfl ?_
                refine te_puti (v := 0) rfl hV rfl ?_
                have et : tup (tup I 185 15 c) 185 15 0 = tup I 185 15 0 := by
                  funext o k
                  by_cases e : o = 185 ∧ k = 15
                  · obtain ⟨rfl, rfl⟩ := e
                    rw [tup_eq, tup_eq]
                  · rw [tup_ne e, tup_ne e, tup_ne e]
                rw [et]
                refine call (tup I 185 15 0) 128 _ Q f0' (b14 0) (b11 0) rfl rfl rfl rfl ?_
                rw [es]
                refine sw_1 (e := (.invokestatic 135, 221, 1, 0)) rfl rfl rfl rfl (rfl : xmeth 221 = some (xt_221, 1, 3)) rfl isDigit_sw ?_
                rintro v1 M1 ⟨rfl, rfl⟩
                rw [id1]
                exact sw_0 rfl rfl (ev_ifn (by decide)) (a142 hd.1 hd.2)
              · have id0 : isD c = 0 := if_neg hd
                rw [id0]
                exact sw_0 rfl rfl (ev_if (by decide)) a208
          · refine sw_0 rfl rfl (ev_icn (xc_nen rfl)) ?_
            have := hg _ List.mem_cons_self σ (xst1 L' 1 (.int (-1))) [] B (tup I 185 15 (-1)) J ⟨k1, kvl_set1 k2 ⟨-1, rfl, kz_ok k1 cz (-1) 0⟩, rfl, ?_⟩ hD hB (hI15 (-1) (by decide) (by decide))
            · exact this
            · have := cons15 [] (-1) (0, 0, -1) (knum_ap (kz_ok k1 cz (-1) 0))
              rw [List.append_nil] at this
              exact this
        · cases h
      · cases h
    · cases h
  · cases h
end M8
