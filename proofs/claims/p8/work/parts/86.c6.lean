/-! MACROS ARE SOUND: stores in pairs -/
section MQ
variable {sc : List Int32} {ml : nMl} {Fr : kQ} {r : xR} {ρ0 : List Int} {Q : Option Value → xM → Prop} {x : nS} {outs : List (Nat × nS)}
theorem mq1_ok (hF : nFr ml Fr) (hy : xmeth 73 = some r) (h : mq1 ml x = some outs) (hg : ∀ q ∈ outs, nG (ktT ml) (nQ (ktN sc) Fr) sc r ρ0 q.1 q.2 Q) : nG (ktT ml) (nQ (ktN sc) Fr) sc r ρ0 18 x Q := by
  obtain ⟨⟨E, L, S, O⟩, D⟩ := x
  obtain ⟨r1, r2, hr⟩ : ∃ a b, xmeth 73 = some (xt_73, a, b) := ⟨_, _, rfl⟩
  rw [hr] at hy
  cases hy
  unfold mq1 at h
  dsimp only at h
  split at h
  · rename_i u j v
    obtain ⟨hb, h⟩ := bif_n h
    split at h
    · rename_i l0 hl0
      split at h
      · rename_i w hw
        split at h
        · rename_i n hn
          split at h
          · rename_i b hbj
            split at h
            · rename_i bu hbu
              split at h
              · rename_i bw hbw
                obtain ⟨hc, h⟩ := bif_n h
                cases h
                simp only [Bool.and_eq_true] at hb hc
                obtain ⟨⟨tu, tj⟩, tv⟩ := hb
                obtain ⟨⟨⟨cl, cw⟩, cn, cz⟩, ⟨⟨cb, cbu⟩, cbw, cml⟩, cchk⟩ := hc
                have en := mgE_ok cn
                subst en
                have cb := nwi_ok cb
                have cbu := nwi_ok cbu
                have cbw := nwi_ok cbw
                dsimp only at cb cbu cbw
                intro σ L' st B I J ⟨k1, k2, k3, k4⟩ hD hB hI
                obtain ⟨wu, stu, rfl, gu, wj, stj, rfl, gj, wv, stv, rfl, gv, k3⟩ := k3
                have e0 : stv = [] := k3
                subst e0
                obtain ⟨p, rfl, hp⟩ := kv_int gu tu
                obtain ⟨q, rfl, hq⟩ := kv_int gj tj
                have ev := kv_ref gv tv
                subst ev
                obtain ⟨w0, f0, g0⟩ := k2 0 l0 hl0
                have e0 := kv_ref g0 cl
                subst e0
                obtain ⟨w2, f2, g2⟩ := k2 2 w hw
                obtain ⟨y, rfl, hyy⟩ := kv_int g2 cw
                obtain ⟨q1, q2, q3⟩ := kk_idx k1 hq hbj (by omega)
                have hxb := kiv_in k1 hq hbj
                have hpb := kiv_in k1 hp hbu
                have hyb := kiv_in k1 hyy hbw
                have hlt : q.toNatClampNeg < 60 := by omega
                have hent : I 61 2 = q := by
                  have := kol_ok (k := 2) k4 hn (kz_ok k1 cz (2 : Int) 0)
                  exact i32_eq (knw_num this hq)
                have hkn : knum (ρ0 ++ σ) (0, n.2.1, n.2.2) (q.toNatClampNeg : Int) := by
                  rw [q1]
                  obtain ⟨z, z1, z2⟩ := hq
                  exact ⟨z, z1, z2⟩
                have mm := nsub_in (o := 62) (k := q.toNatClampNeg) cml (nmod_1 (by omega) (by omega))
                have mm2 := nsub_in (o := 63) (k := q.toNatClampNeg) cml (nmod_2 (nmod_1 (by omega) (by omega)))
                obtain ⟨hI2, hO2⟩ := nI_two (p1 := p) (p2 := y) hF hI k1 k4 hD hkn hkn (o1 := 62) (o2 := 63) (by omega) ⟨by omega, by omega⟩ ⟨by omega, by omega⟩ hpb hyb mm mm2 (by decide) (by decide) (show (0 : Int) ≤ p.toInt ∧ p.toInt ≤ 11 by omega) (show (0 : Int) ≤ y.toInt ∧ y.toInt ≤ 99 by omega) cchk
                refine tx_iast (o := 62) rfl (kB_slot hB (rfl : (ktT ml).k 62 = some (20, 60)) hlt rfl) (by omega) ?_
                refine tw_al rfl f0 ?_
                refine te_getr (a := 63) rfl (kB_ref hB (rfl : (ktT ml).k 61 = some (6, 7)) (k := 4) (by decide) rfl) ?_
                refine tw_al rfl f0 ?_
                refine te_geti rfl (kB_slot hB (rfl : (ktT ml).k 61 = some (6, 7)) (k := 2) (by decide) rfl) ?_
                rw [tup_ne (by omega), hent]
                refine tw_il rfl f2 ?_
                refine tx_iast (o := 63) rfl (kB_slot hB (rfl : (ktT ml).k 63 = some (20, 60)) hlt rfl) (by omega) ?_
                refine hg _ List.mem_cons_self σ L' [] B _ J ⟨k1, k2, rfl, ?_⟩ hD hB hI2
                intro q' hq'
                rcases List.mem_cons.mp hq' with rfl | hq'
                · exact ⟨q.toNatClampNeg, hkn, by dsimp only; rw [tup_eq]; exact hyy⟩
                · rcases List.mem_cons.mp hq' with rfl | hq'
                  · exact ⟨q.toNatClampNeg, hkn, by dsimp only; rw [tup_ne (by omega), tup_eq]; exact hp⟩
                  · exact hO2 q' hq'
              · cases h
            · cases h
          · cases h
        · cases h
      · cases h
    · cases h
  · cases h
theorem mq2_ok (hF : nFr ml Fr) (hy : xmeth 88 = some r) (h : mq2 ml x = some outs) (hg : ∀ q ∈ outs, nG (ktT ml) (nQ (ktN sc) Fr) sc r ρ0 q.1 q.2 Q) : nG (ktT ml) (nQ (ktN sc) Fr) sc r ρ0 183 x Q := by
  obtain ⟨⟨E, L, S, O⟩, D⟩ := x
  obtain ⟨r1, r2, hr⟩ : ∃ a b, xmeth 88 = some (xt_88, a, b) := ⟨_, _, rfl⟩
  rw [hr] at hy
  cases hy
  unfold mq2 at h
  dsimp only at h
  split at h
  · rename_i u j v
    obtain ⟨hb, h⟩ := bif_n h
    split at h
    · rename_i l0 hl0
      split at h
      · rename_i l1 hl1
        split at h
        · rename_i l2 hl2
          split at h
          · rename_i w hw
            split at h
            · rename_i b hbj
              split at h
              · rename_i bu hbu
                split at h
                · rename_i bw hbw
                  obtain ⟨hc, h⟩ := bif_n h
                  cases h
                  simp only [Bool.and_eq_true] at hb hc
                  obtain ⟨⟨tu, tj⟩, tv⟩ := hb
                  obtain ⟨⟨⟨cl, cl2, cw⟩, cn, cz⟩, ⟨⟨cb, cbu⟩, cbw, cml⟩, cchk⟩ := hc
                  have en := mgE_ok cn
                  subst en
                  have cb := nwi_ok cb
                  have cbu := nwi_ok cbu
                  have cbw := nwi_ok cbw
                  dsimp only at cb cbu cbw
                  intro σ L' st B I J ⟨k1, k2, k3, k4⟩ hD hB hI
                  obtain ⟨wu, stu, rfl, gu, wj, stj, rfl, gj, wv, stv, rfl, gv, k3⟩ := k3
                  have e0 : stv = [] := k3
                  subst e0
                  obtain ⟨p, rfl, hp⟩ := kv_int gu tu
                  obtain ⟨q, rfl, hq⟩ := kv_int gj tj
                  have ev := kv_ref gv tv
                  subst ev
                  obtain ⟨w0, f0, g0⟩ := k2 0 l0 hl0
                  have e0 := kv_ref g0 cl
                  subst e0
                  obtain ⟨w2, f2, g2⟩ := k2 2 l2 hl2
                  have e2 := kv_ref g2 cl2
                  subst e2
                  obtain ⟨w1, f1, g1⟩ := k2 1 l1 hl1
                  obtain ⟨q', rfl, hq'⟩ := kv_int g1 tj
                  have eq' : q' = q := i32_eq (knw_num hq' hq)
                  subst eq'
                  have hyy := kol_ok (k := 8) k4 hw (kz_ok k1 cz (8 : Int) 0)
                  obtain ⟨q1, q2, q3⟩ := kk_idx k1 hq hbj (by omega)
                  have hxb := kiv_in k1 hq hbj
                  have hpb := kiv_in k1 hp hbu
                  have hyb := kiv_in k1 hyy hbw
                  have hlt : q'.toNatClampNeg < 6 := by omega
                  have hkn : knum (ρ0 ++ σ) (0, l1.2.1, l1.2.2) (q'.toNatClampNeg : Int) := by
                    rw [q1]
                    obtain ⟨z, z1, z2⟩ := hq
                    exact ⟨z, z1, z2⟩
                  have mm := nsub_in (o := 49) (k := q'.toNatClampNeg) cml (nmod_1 (by omega) (by omega))
                  have mm2 := nsub_in (o := 51) (k := q'.toNatClampNeg) cml (nmod_2 (nmod_1 (by omega) (by omega)))
                  obtain ⟨hI2, hO2⟩ := nI_two (p1 := p) (p2 := I 8 8) hF hI k1 k4 hD hkn hkn (o1 := 49) (o2 := 51) (by omega) ⟨by omega, by omega⟩ ⟨by omega, by omega⟩ hpb hyb mm mm2 (by decide) (by decide) (show (0 : Int) ≤ p.toInt ∧ p.toInt ≤ 2 by omega) (show (-1 : Int) ≤ (I 8 8).toInt ∧ (I 8 8).toInt ≤ 45 by omega) cchk
                  refine tx_iast (o := 49) rfl (kB_slot hB (rfl : (ktT ml).k 49 = some (20, 6)) hlt rfl) (by omega) ?_
                  refine tw_al rfl f2 ?_
                  refine te_getr (a := 51) rfl (kB_ref hB (rfl : (ktT ml).k 47 = some (8, 5)) (k := 4) (by decide) rfl) ?_
                  refine tw_il rfl f1 ?_
                  refine tw_al rfl f0 ?_
                  refine te_getr (a := 8) rfl (kB_ref hB (rfl : (ktT ml).k 35 = some (7, 4)) (k := 1) (by decide) rfl) ?_
                  refine te_geti rfl (kB_slot hB (rfl : (ktT ml).k 8 = some (2, 11)) (k := 8) (by decide) rfl) ?_
                  rw [tup_ne (by omega)]
                  refine tx_iast (o := 51) rfl (kB_slot hB (rfl : (ktT ml).k 51 = some (20, 6)) hlt rfl) (by omega) ?_
                  refine hg _ List.mem_cons_self σ L' [] B _ J ⟨k1, k2, rfl, ?_⟩ hD hB hI2
                  intro q0 hq0
                  rcases List.mem_cons.mp hq0 with rfl | hq0
                  · exact ⟨q'.toNatClampNeg, hkn, by dsimp only; rw [tup_eq]; exact hyy⟩
                  · rcases List.mem_cons.mp hq0 with rfl | hq0
                    · exact ⟨q'.toNatClampNeg, hkn, by dsimp only; rw [tup_ne (by omega), tup_eq]; exact hp⟩
                    · exact hO2 q0 hq0
                · cases h
              · cases h
            · cases h
          · cases h
        · cases h
      · cases h
    · cases h
  · cases h
end MQ
