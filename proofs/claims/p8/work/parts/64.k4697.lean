/-! MORE STEPS OF THE CHECK, 6: strings, Math.abs, long quotients -/
theorem xs_bytes : ∀ k, k < 2 → ∀ i, i < xsN.getD k 0 → 0 ≤ ((xsB.getD k []).getD i 0).toInt ∧ ((xsB.getD k []).getD i 0).toInt ≤ 127 := by decide +kernel
def kstr (pc k : Nat) (s : kS) : kX := bif Nat.blt k 2 then some [(pc + 2, (s.1, s.2.1, (3, k + 1, 0) :: s.2.2.1, s.2.2.2))] else none
def kpS (n pc i : Nat) (s : kS) : kX := match kfind s.2.1 i with
  | some v => bif Nat.beq v.1 3 && Nat.blt 0 v.2.1 then some [(pc + n, (s.1, s.2.1, v :: s.2.2.1, s.2.2.2))] else none
  | none => none
def ksl (pc : Nat) (s : kS) : kX := match s.2.2.1 with
  | v :: S => bif ((Nat.beq v.1 3 && Nat.blt 0 v.2.1) && Nat.blt v.2.1 3) && (kz s.1 && Nat.ble (kcs S) 8) then some [(pc + 3, (s.1, s.2.1, (0, 0, (xsN.getD (v.2.1 - 1) 0 : Int)) :: S, s.2.2.2))] else none
  | _ => none
def ksc (pc : Nat) (s : kS) : kX := match s.2.2.1 with
  | j :: v :: S => bif ((Nat.beq v.1 3 && Nat.blt 0 v.2.1) && Nat.blt v.2.1 3) && (Nat.beq j.1 0 && Nat.ble (kcs S) 8) then (match kiv s.1 j with
    | some b => bif decide (0 ≤ b.1) && decide (b.2 < (xsN.getD (v.2.1 - 1) 0 : Int)) then some [(pc + 3, (s.1 ++ [(0, 127)], s.2.1, (0, s.1.length, 0) :: S, s.2.2.2))] else none
    | none => none) else none
  | _ => none
def kstep6 (e : xE) (pc : Nat) (s : kS) : kX := match e.1 with
  | .ldc _ => bif Nat.beq e.2.1 0 then none else kstr pc e.2.2.1 s
  | .aload i => kpS 2 pc i s
  | .aload_n i => kpS 1 pc i s
  | .invokevirtual _ => bif Nat.beq e.2.1 5005 then ksl pc s else bif Nat.beq e.2.1 5006 then ksc pc s else none
  | _ => none
section KS8
variable {T : kT} {C : kQ} {sc : List Int32} {r : xR} {ρ0 : List Int} {pc : Nat} {s : kS} {Q : Option Value → xM → Prop} {outs : List (Nat × kS)}
theorem kpS_ok {e : xE} {n i : Nat} (he : xat r.1 pc = some e) (hk : xkind e = 0) (hx : ∀ L st M, x1 xty xdf sc e pc L st M = xpA n pc i L st M) (hx0 : ∀ L st M, s0 e pc L st M = xsA1 n pc i L st M) (h : kpS n pc i s = some outs) (hg : ∀ q ∈ outs, kG T C sc r ρ0 q.1 q.2 Q) : kG T C sc r ρ0 pc s Q := by
  unfold kpS at h
  split at h
  · rename_i v hv
    cases hb : (Nat.beq v.1 3 && Nat.blt 0 v.2.1) with
    | false => rw [hb] at h; cases h
    | true =>
      rw [hb] at h
      cases h
      rw [Bool.and_eq_true] at hb
      intro σ L' st B I J ⟨h1, h2, h3, h4⟩ hB hI
      obtain ⟨w, g1, g2⟩ := kvl_find h2 hv
      obtain ⟨t, j, c⟩ := v
      have e0 := Nat.eq_of_beq_eq_true hb.1
      have e1 := Nat.blt_eq.mp hb.2
      dsimp only at e0 e1
      subst e0
      obtain ⟨k, rfl⟩ : ∃ k, j = k + 1 := ⟨j - 1, by omega⟩
      have e2 : w = .retAddr (k + 1) := g2
      subst e2
      refine sw_s he hk ?_ ?_ (hg _ List.mem_cons_self σ L' (.retAddr (k + 1) :: st) B I J ⟨h1, h2, ⟨_, st, rfl, g2, h3⟩, h4⟩ hB hI)
      · rw [hx]
        unfold xpA
        rw [g1]
        try rfl
      · rw [hx0]
        unfold xsA1
        rw [g1]
  · cases h
theorem kstep6_ok {e : xE} (he : xat r.1 pc = some e) (hk : xkind e = 0) (h : kstep6 e pc s = some outs) (hg : ∀ q ∈ outs, kG T C sc r ρ0 q.1 q.2 Q) : kG T C sc r ρ0 pc s Q := by
  obtain ⟨ins, ea, eb, ez⟩ := e
  cases ins
  case ldc i =>
    simp only [kstep6] at h
    cases hb : Nat.beq ea 0 with
    | true => rw [hb] at h; cases h
    | false =>
      rw [hb] at h
      simp only [cond_false, kstr] at h
      cases hb2 : Nat.blt eb 2 with
      | false => rw [hb2] at h; cases h
      | true =>
        rw [hb2] at h
        cases h
        intro σ L' st B I J ⟨h1, h2, h3, h4⟩ hB hI
        refine sw_s he hk ?_ ?_ (hg _ List.mem_cons_self σ L' (.retAddr (eb + 1) :: st) B I J ⟨h1, h2, ⟨_, st, rfl, rfl, h3⟩, h4⟩ hB hI)
        · show (bif Nat.beq ea 0 then _ else none) = none
          rw [hb]
          rfl
        · show (bif Nat.beq ea 0 then none else (bif Nat.blt eb 2 then _ else none)) = _
          rw [hb, hb2]
          rfl
  case aload i => exact kpS_ok he hk (fun _ _ _ => rfl) (fun _ _ _ => rfl) h hg
  case aload_n i => exact kpS_ok he hk (fun _ _ _ => rfl) (fun _ _ _ => rfl) h hg
  case invokevirtual i =>
    obtain ⟨E, L, S, O⟩ := s
    simp only [kstep6] at h
    cases h5 : Nat.beq ea 5005 with
    | true =>
      rw [h5] at h
      simp only [cond_true, ksl] at h
      split at h
      · rename_i v S'
        cases hb : (((Nat.beq v.1 3 && Nat.blt 0 v.2.1) && Nat.blt v.2.1 3) && (kz E && Nat.ble (kcs S') 8)) with
        | false => rw [hb] at h; cases h
        | true =>
          rw [hb] at h
          cases h
          simp only [Bool.and_eq_true] at hb
          obtain ⟨⟨⟨b1, b2⟩, b3⟩, b4, b5⟩ := hb
          intro σ L' st B I J ⟨h1, h2, h3, h4⟩ hB hI
          obtain ⟨w, st', rfl, g1, h3⟩ := h3
          obtain ⟨t, j, c⟩ := v
          have e0 := Nat.eq_of_beq_eq_true b1
          have e1 := Nat.blt_eq.mp b2
          have e2 := Nat.blt_eq.mp b3
          dsimp only at e0 e1 e2
          subst e0
          obtain ⟨k, rfl⟩ : ∃ k, j = k + 1 := ⟨j - 1, by omega⟩
          have e3 : w = .retAddr (k + 1) := g1
          subst e3
          have hk2 : k < 2 := by omega
          refine sw_s he hk rfl (?_ : _ = some (pc + 3, L', .int (Int32.ofNat (xsN.getD k 0)) :: st', tMem B I J)) (hg _ List.mem_cons_self σ L' _ B I J ⟨h1, h2, ⟨_, _, rfl, ⟨_, rfl, ?_⟩, h3⟩, h4⟩ hB hI)
          · show (bif Nat.beq ea 5005 then xslen pc L' (.retAddr (k + 1) :: st') (tMem B I J) else _) = _
            rw [h5]
            show (bif xcat8 st' && Nat.blt k 2 then _ else none) = _
            rw [kcat8 h3 b5, Nat.blt_eq.mpr hk2]
            rfl
          · rw [nI_toInt' (sx_len k hk2), show k + 1 - 1 = k by omega]
            exact kz_ok h1 b4 _ 0
      · cases h
    | false =>
      rw [h5] at h
      simp only [cond_false] at h
      cases h6 : Nat.beq ea 5006 with
      | false => rw [h6] at h; cases h
      | true =>
        rw [h6] at h
        simp only [cond_true, ksc] at h
        split at h
        · rename_i j v S'
          cases hb : (((Nat.beq v.1 3 && Nat.blt 0 v.2.1) && Nat.blt v.2.1 3) && (Nat.beq j.1 0 && Nat.ble (kcs S') 8)) with
          | false => rw [hb] at h; cases h
          | true =>
            rw [hb] at h
            simp only [cond_true] at h
            simp only [Bool.and_eq_true] at hb
            obtain ⟨⟨⟨b1, b2⟩, b3⟩, b4, b5⟩ := hb
            split at h
            · rename_i b hbv
              cases hc : (decide (0 ≤ b.1) && decide (b.2 < (xsN.getD (v.2.1 - 1) 0 : Int))) with
              | false => rw [hc] at h; cases h
              | true =>
                rw [hc] at h
                cases h
                simp only [Bool.and_eq_true, decide_eq_true_eq] at hc
                intro σ L' st B I J ⟨h1, h2, h3, h4⟩ hB hI
                obtain ⟨wj, st1, rfl, g0, w, st', rfl, g1, h3⟩ := h3
                obtain ⟨t, jj, c⟩ := v
                have e0 := Nat.eq_of_beq_eq_true b1
                have e1 := Nat.blt_eq.mp b2
                have e2 := Nat.blt_eq.mp b3
                dsimp only at e0 e1 e2 hc
                subst e0
                obtain ⟨k, rfl⟩ : ∃ k, jj = k + 1 := ⟨jj - 1, by omega⟩
                have e3 : w = .retAddr (k + 1) := g1
                subst e3
                have hk2 : k < 2 := by omega
                obtain ⟨tj, ij, cj⟩ := j
                have e4 := Nat.eq_of_beq_eq_true b4
                dsimp only at e4
                subst e4
                obtain ⟨x, rfl, hx⟩ := g0
                have hxb := kiv_in h1 hx hbv
                rw [show k + 1 - 1 = k by omega] at hc
                have hlt : x.toNatClampNeg < xsN.getD k 0 := by
                  have e : x.toNatClampNeg = x.toInt.toNat := rfl
                  omega
                have bb := xs_bytes k hk2 x.toNatClampNeg hlt
                refine sw_s he hk rfl (?_ : _ = some (pc + 3, L', .int ((xsB.getD k []).getD x.toNatClampNeg 0) :: st', tMem B I J)) (hg _ List.mem_cons_self (σ ++ [((xsB.getD k []).getD x.toNatClampNeg 0).toInt]) L' _ B I J ⟨?_, ?_, ?_, ?_⟩ hB hI)
                · show (bif Nat.beq ea 5005 then _ else bif Nat.beq ea 5006 then xschar pc L' (.int x :: .retAddr (k + 1) :: st') (tMem B I J) else none) = _
                  rw [h5, h6]
                  show (bif xcat8 st' && Nat.blt k 2 then _ else none) = _
                  rw [kcat8 h3 b5, Nat.blt_eq.mpr hk2]
                  simp only [Bool.and_true, cond_true]
                  rw [xix_yes (ti_pos (by omega)) hlt]
                · rw [← List.append_assoc]; exact kin_app h1 bb.1 bb.2
                · rw [← List.append_assoc]; exact kvl_ap h2
                · rw [← List.append_assoc]; exact ⟨_, _, rfl, ⟨_, rfl, _, kin_new h1, by simp⟩, kvs_ap h3⟩
                · rw [← List.append_assoc]; exact kov_ap h4
            · cases h
        · cases h
  all_goals cases h
end KS8
