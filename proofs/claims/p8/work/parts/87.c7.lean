/-! MACROS ARE SOUND: runStep -/
def nTbl : Bool := (List.range 60).all (fun m => (decide (ktB 186 (2732 + 6 * m) = (0, 0, 2530)) && decide (ktB 186 (2733 + 6 * m) = (0, -1, 99))) && (decide (ktB 186 (2736 + 6 * m) = (0, 0, 59)) && ngc 186 (2736 + 6 * m)))
set_option maxRecDepth 100000 in
theorem nTbl_ok : nTbl = true := by decide +kernel
theorem nTbl_at {m : Nat} (h : m < 60) : ktB 186 (2732 + 6 * m) = (0, 0, 2530) ∧ ktB 186 (2733 + 6 * m) = (0, -1, 99) ∧ ktB 186 (2736 + 6 * m) = (0, 0, 59) ∧ ngc 186 (2736 + 6 * m) = true := by
  have := List.all_eq_true.mp nTbl_ok m (List.mem_range.mpr h)
  simp only [Bool.and_eq_true, decide_eq_true_eq] at this
  exact ⟨this.1.1, this.1.2, this.2.1, this.2.2⟩
section MR
variable {sc : List Int32} {ml : nMl} {Fr : kQ} {r : xR} {ρ0 : List Int} {Q : Option Value → xM → Prop} {x : nS} {outs : List (Nat × nS)}
theorem mq3_ok (hF : nFr ml Fr) (hy : xmeth 249 = some r) (h : mq3 ml x = some outs) (hg : ∀ q ∈ outs, nG (ktT ml) (nQ (ktN sc) Fr) sc r ρ0 q.1 q.2 Q) : nG (ktT ml) (nQ (ktN sc) Fr) sc r ρ0 143 x Q := by
  obtain ⟨⟨E, L, S, O⟩, D⟩ := x
  obtain ⟨r1, r2, hr⟩ : ∃ a b, xmeth 249 = some (xt_249, a, b) := ⟨_, _, rfl⟩
  rw [hr] at hy
  cases hy
  unfold mq3 at h
  dsimp only at h
  split at h
  · rename_i u j v
    obtain ⟨hb, h⟩ := bif_n h
    split at h
    · rename_i l0 hl0
      split at h
      · rename_i l3 hl3
        split at h
        · rename_i b hbj
          split at h
          · rename_i bu hbu
            obtain ⟨hc, h⟩ := bif_n h
            cases h
            simp only [Bool.and_eq_true] at hb hc
            obtain ⟨⟨tu, tj⟩, tv⟩ := hb
            obtain ⟨⟨cl, cn, cz⟩, ⟨⟨cb, cbu⟩, ccg, cml⟩, cchk⟩ := hc
            have en := mgE_ok cn
            subst en
            have cb := nwi_ok cb
            have cbu := nwi_ok cbu
            dsimp only at cb cbu
            intro σ L' st B I J ⟨k1, k2, k3, k4⟩ hD hB hI
            obtain ⟨wu, stu, rfl, gu, wj, stj, rfl, gj, wv, stv, rfl, gv, k3⟩ := k3
            have e0 : stv = [] := k3
            subst e0
            obtain ⟨p, rfl, hp⟩ := kv_int gu tu
            obtain ⟨q, rfl, hq⟩ := kv_int gj tj
            have ev := kv_ref gv tv
            subst ev
            obtain ⟨w0, f0, g0⟩ := k2 0 l0 hl0
            have e0 := kv_ref g0 cl
            subst e0
            obtain ⟨w3, f3, g3⟩ := k2 3 l3 hl3
            obtain ⟨q', rfl, hq'⟩ := kv_int g3 tj
            have eq' : q' = q := i32_eq (knw_num hq' hq)
            subst eq'
            obtain ⟨q1, q2, q3⟩ := kk_idx k1 hq hbj (by omega)
            have hxb := kiv_in k1 hq hbj
            have hpb := kiv_in k1 hp hbu
            obtain ⟨m, hm, em⟩ : ∃ m, m < 60 ∧ q'.toNatClampNeg = 2732 + 6 * m := by
              split at ccg
              · rename_i g hg0
                rw [Bool.and_eq_true, decide_eq_true_eq] at ccg
                have c6 := Nat.eq_of_beq_eq_true ccg.1
                obtain ⟨z, z1, z2⟩ := hq
                obtain ⟨t, ht⟩ := ncgf_ok hD (fun f hf => hf) hg0 z z1
                rw [c6] at ht
                refine ⟨(q'.toNatClampNeg - 2732) / 6, by omega, by omega⟩
              · rw [Bool.and_eq_true, decide_eq_true_eq, decide_eq_true_eq] at ccg
                refine ⟨(q'.toNatClampNeg - 2732) / 6, by omega, by omega⟩
            obtain ⟨tb1, tb2, -, -⟩ := nTbl_at hm
            have hkn : knum (ρ0 ++ σ) (0, l3.2.1, l3.2.2) (q'.toNatClampNeg : Int) := by
              rw [q1]
              obtain ⟨z, z1, z2⟩ := hq
              exact ⟨z, z1, z2⟩
            have es : (q' + 1).toInt = q'.toInt + 1 := ti_add (by show (-2147483648 : Int) ≤ q'.toInt + 1; omega) (by show q'.toInt + 1 ≤ 2147483647; omega)
            have en : (q' + 1).toNatClampNeg = q'.toNatClampNeg + 1 := by
              show (q' + 1).toInt.toNat = q'.toInt.toNat + 1
              omega
            have hkn2 : knum (ρ0 ++ σ) (0, l3.2.1, l3.2.2 + 1) ((q'.toNatClampNeg + 1 : Nat) : Int) := by
              obtain ⟨z, z1, z2⟩ := hkn
              exact ⟨z, z1, by dsimp only at z2 ⊢; omega⟩
            have mm := nsub_in (o := 186) (k := q'.toNatClampNeg) cml (nmod_1 (by omega) (by omega))
            have mm2 := nsub_in (o := 186) (k := q'.toNatClampNeg + 1) cml (nmod_1 (by omega) (by omega))
            obtain ⟨hI2, hO2⟩ := nI_two (p1 := p) (p2 := 0) hF hI k1 k4 hD hkn hkn2 (o1 := 186) (o2 := 186) (by omega) ⟨by omega, by omega⟩ ⟨by dsimp only; omega, by dsimp only; omega⟩ hpb ⟨Int.le_refl _, Int.le_refl _⟩ mm mm2 (by decide) (by decide) (by rw [em, tb1]; dsimp only; omega) (by rw [em, show 2732 + 6 * m + 1 = 2733 + 6 * m by omega, tb2]; decide) cchk
            have f0' : xfind (xst1 L' 5 (.int 1)) 0 = some (.ref 185) := xfind_drop1 rfl rfl f0
            have f3' : xfind (xst1 L' 5 (.int 1)) 3 = some (.int q') := xfind_drop1 rfl rfl f3
            have t1 : (ktB 186 q'.toNatClampNeg).1 = 0 := by rw [em, tb1]
            have t2 : (ktB 186 (q'.toNatClampNeg + 1)).1 = 0 := by rw [em, show 2732 + 6 * m + 1 = 2733 + 6 * m by omega, tb2]
            refine tx_iast (o := 186) rfl (kB_slot hB (rfl : (ktT ml).k 186 = some (20, 3972)) (by omega) t1) (by omega) ?_
            refine sw_0 rfl rfl rfl ?_
            refine sw_0 rfl rfl rfl ?_
            refine tw_il2 (v := 1) rfl rfl ?_
            refine sw_0 rfl rfl rfl ?_
            refine sw_0 rfl rfl (ev_icn (by decide)) ?_
            refine tw_al rfl f0' ?_
            refine te_getr (a := 186) rfl (kB_ref hB (o := 185) (c := 12) rfl (k := 0) (by decide) rfl) ?_
            refine tw_il rfl f3' ?_
            refine tw_il2 (v := 1) rfl rfl ?_
            refine sw_0 rfl rfl rfl ?_
            refine sw_0 rfl rfl rfl ?_
            refine tx_iast (o := 186) (j := q' + 1) (v := 0) rfl (by rw [en]; exact kB_slot hB (rfl : (ktT ml).k 186 = some (20, 3972)) (by omega) t2) (by omega) ?_
            rw [en]
            refine hg _ List.mem_cons_self σ _ [] B _ J ⟨k1, kvl_set1 k2 ⟨1, rfl, kz_ok k1 cz 1 0⟩, rfl, ?_⟩ hD hB hI2
            intro q0 hq0
            rcases List.mem_cons.mp hq0 with rfl | hq0
            · exact ⟨q'.toNatClampNeg + 1, hkn2, by dsimp only; rw [tup_eq]; exact kz_ok k1 cz 0 0⟩
            · rcases List.mem_cons.mp hq0 with rfl | hq0
              · exact ⟨q'.toNatClampNeg, hkn, by dsimp only; rw [tup_ne (by omega), tup_eq]; exact hp⟩
              · exact hO2 q0 hq0
          · cases h
        · cases h
      · cases h
    · cases h
  · cases h
theorem kv_num {ρ : List Int} {E : kE} {v : kV} {w : Value} {c : Int} (h : kin ρ E) (hz : kz E = true) (hv : kv ρ v w) (hm : mgE v (0, 0, c) = true) : ∃ x : Int32, w = .int x ∧ x.toInt = c := by
  have e := mgE_ok hm
  subst e
  obtain ⟨x, rfl, hx⟩ := hv
  exact ⟨x, rfl, knw_num hx (kz_ok h hz c 0)⟩
theorem mq4_ok (hF : nFr ml Fr) (hy : xmeth 249 = some r) (h : mq4 ml x = some outs) (hg : ∀ q ∈ outs, nG (ktT ml) (nQ (ktN sc) Fr) sc r ρ0 q.1 q.2 Q) : nG (ktT ml) (nQ (ktN sc) Fr) sc r ρ0 273 x Q := by
  obtain ⟨⟨E, L, S, O⟩, D⟩ := x
  obtain ⟨r1, r2, hr⟩ : ∃ a b, xmeth 249 = some (xt_249, a, b) := ⟨_, _, rfl⟩
  rw [hr] at hy
  cases hy
  unfold mq4 at h
  dsimp only at h
  split at h
  · rename_i v s a o
    obtain ⟨hb, h⟩ := bif_n h
    split at h
    · rename_i n hn
      split at h
      · rename_i bv hbv
        split at h
        · rename_i bn hbn
          obtain ⟨hc, h⟩ := bif_n h
          cases h
          simp only [Bool.and_eq_true] at hb hc
          obtain ⟨⟨tv, ts⟩, ta, to⟩ := hb
          obtain ⟨⟨⟨tn, cz⟩, cv, cn⟩, cml⟩ := hc
          have cv := nwi_ok cv
          have cn := nwi_ok cn
          dsimp only at cv cn
          intro σ L' st B I J ⟨k1, k2, k3, k4⟩ hD hB hI
          obtain ⟨w1, st1, rfl, g1, w2, st2, rfl, g2, w3, st3, rfl, g3, w4, st4, rfl, g4, k3⟩ := k3
          have e0 : st4 = [] := k3
          subst e0
          obtain ⟨p, rfl, hp⟩ := kv_int g1 tv
          obtain ⟨x6, rfl, e6⟩ := kv_num k1 cz g2 ts
          obtain ⟨xa, rfl, ea⟩ := kv_num k1 cz g3 ta
          have ev := kv_ref g4 to
          subst ev
          obtain ⟨wn, fn, gn⟩ := k2 2 n hn
          obtain ⟨y, rfl, hyy⟩ := kv_int gn tn
          have hpb := kiv_in k1 hp hbv
          have hyb := kiv_in k1 hyy hbn
          have m1 : (x6 * p).toInt = 6 * p.toInt := by rw [ti_mul (by rw [e6]; omega) (by rw [e6]; omega), e6]
          have m2 : (xa + x6 * p).toInt = 2732 + 6 * p.toInt := by rw [ti_add (by rw [ea, m1]; omega) (by rw [ea, m1]; omega), ea, m1]
          have m3 : (xa + x6 * p + 4).toInt = 2736 + 6 * p.toInt := by
            rw [ti_add (by show (-2147483648 : Int) ≤ (xa + x6 * p).toInt + 4; omega) (by show (xa + x6 * p).toInt + 4 ≤ 2147483647; omega)]
            show (xa + x6 * p).toInt + 4 = _
            omega
          have m4 : (xa + x6 * p + 4).toNatClampNeg = 2736 + 6 * p.toInt.toNat := by
            show (xa + x6 * p + 4).toInt.toNat = _
            omega
          obtain ⟨-, -, tb, tc⟩ := nTbl_at (m := p.toInt.toNat) (by omega)
          have mm := nsub_in (o := 186) (k := 2736 + 6 * p.toInt.toNat) cml (nmod_1 (by omega) (by omega))
          refine sw_0 rfl rfl rfl ?_
          refine sw_0 rfl rfl rfl ?_
          refine sw_0 rfl rfl rfl ?_
          refine sw_0 rfl rfl rfl ?_
          refine tw_il rfl fn ?_
          refine tx_iast (o := 186) (j := xa + x6 * p + 4) rfl (by rw [m4]; exact kB_slot hB (rfl : (ktT ml).k 186 = some (20, 3972)) (by omega) (show (ktB 186 _).1 = 0 by rw [tb])) (by omega) ?_
          rw [m4]
          refine hg _ List.mem_cons_self σ L' [] B _ J ⟨k1, k2, rfl, ?_⟩ hD hB (kI_put hI (show (nmod ml 186 _ && ngc 186 _) = true by rw [mm, tc]; rfl) (fun _ => show (ktB 186 _).2.1 ≤ _ ∧ _ ≤ (ktB 186 _).2.2 by rw [tb]; dsimp only; omega))
          exact nkeep_ok (B := B) (J := J) (B' := B) (J' := J) k1 k4 ⟨fun o' k' hm => ⟨tup_ne (fun e => by
            rw [e.1, e.2, nmod_1 (by omega) (by omega)] at hm
            cases hm), rfl⟩, fun _ => rfl, rfl, rfl⟩
        · cases h
      · cases h
    · cases h
  · cases h
end MR
