def nTr (d s : Nat) : Prop := (d + 4 < s ∨ s + 4 < d) ∧ (ktK d = some (6, 7) ∧ ktK s = some (6, 7)) ∧ (∀ a, 1 ≤ a → a ≤ 4 → ktK (d + a) = some (20, 60) ∧ ktK (s + a) = some (20, 60) ∧ (∀ k, ktB (d + a) k = ktB (s + a) k) ∧ ∀ k, (ktB (s + a) k).1 = 0) ∧ (∀ k, k < 3 → ktB d k = ktB s k ∧ (ktB s k).1 = 0) ∧ ktB s 0 = (0, 0, 1) ∧ (∀ a, 1 ≤ a → a ≤ 4 → ktB d (2 + a) = (2, ((d + a : Nat) : Int), 0) ∧ ktB s (2 + a) = (2, ((s + a : Nat) : Int), 0)) ∧ d + 4 < 999
theorem xfit_b {v : Int32} (h1 : 0 ≤ v.toInt) (h2 : v.toInt ≤ 1) : xfit .boolean (.int v) = true := by
  show (decide (v = 0) || decide (v = 1)) = true
  rw [Bool.or_eq_true, decide_eq_true_eq, decide_eq_true_eq]
  rcases (by omega : v.toInt = 0 ∨ v.toInt = 1) with e | e
  · exact Or.inl (i32_eq (by rw [e]; rfl))
  · exact Or.inr (i32_eq (by rw [e]; rfl))
theorem runs_ok {sc : List Int32} {d s : Nat} (hs : nTr d s) (hc : nTk d s 1 60 = true) : nCon (ktN sc) sc ((72, [(2, (d : Int), 0), (2, (s : Int), 0)], none), [(d, 0, 2), (d + 1, 0, 59), (d + 2, 0, 59), (d + 3, 0, 59), (d + 4, 0, 59)], [], []) := by
  intro r as B I J hr hv hO hpre
  have e : xmeth 72 = some (xt_72, 2, 0) := rfl
  have hr : xmeth 72 = some r := hr
  rw [e] at hr
  cases hr
  obtain ⟨v1, s1, rfl, ⟨o, rfl, ho⟩, v2, s2, rfl, ⟨o2, rfl, ho2⟩, e2⟩ := hv
  have e2 : s2 = [] := e2
  subst e2
  dsimp only at ho ho2
  have eo : o = d := by omega
  have eo2 : o2 = s := by omega
  subst eo eo2
  obtain ⟨hne, ⟨kd, ks⟩, hrow, hfl, b0, href, h999⟩ := hs
  have hB := hO.1
  have rd := fun a (h1 : 1 ≤ a) (h2 : a ≤ 4) => ktN_ref hB kd (show 2 + a < 7 by omega) (href a h1 h2).1
  have rs := fun a (h1 : 1 ≤ a) (h2 : a ≤ 4) => ktN_ref hB ks (show 2 + a < 7 by omega) (href a h1 h2).2
  have fd := fun k (h : k < 3) => ktN_slot hB kd (show k < 7 by omega) (by rw [(hfl k h).1]; exact (hfl k h).2)
  have fs := fun k (h : k < 3) => ktN_slot hB ks (show k < 7 by omega) (hfl k h).2
  have bo := hO.2.1 o2 (6, 7) 0 ks (by decide) (show (ktB o2 0).1 = 0 by rw [b0])
  have eb0 : (ktN sc).1.2 o2 0 = (0, 0, 1) := b0
  rw [eb0] at bo
  refine tw_al rfl rfl ?_
  refine tw_al rfl rfl ?_
  refine te_geti rfl (fs 0 (by omega)) ?_
  refine te_puti rfl (fd 0 (by omega)) (xfit_b bo.1 bo.2) ?_
  refine tw_al rfl rfl ?_
  refine tw_al rfl rfl ?_
  refine te_geti rfl (fs 1 (by omega)) ?_
  refine te_puti rfl (fd 1 (by omega)) rfl ?_
  refine tw_al rfl rfl ?_
  refine tw_al rfl rfl ?_
  refine te_geti rfl (fs 2 (by omega)) ?_
  refine te_puti rfl (fd 2 (by omega)) rfl ?_
  refine tw_al rfl rfl ?_
  refine te_getr rfl (rs 1 (by omega) (by omega)) ?_
  refine sw_0 rfl rfl rfl ?_
  refine tw_al rfl rfl ?_
  refine te_getr rfl (rd 1 (by omega) (by omega)) ?_
  refine sw_0 rfl rfl rfl ?_
  refine sw_0 rfl rfl rfl ?_
  refine tw_cp (m := 60) hB rfl (hrow 1 (by omega) (by omega)).2.1 (hrow 1 (by omega) (by omega)).1 (fun k _ => (hrow 1 (by omega) (by omega)).2.2.2 k) (fun k _ => by show (ktB (o + 1) k).1 = 0; rw [(hrow 1 (by omega) (by omega)).2.2.1 k]; exact (hrow 1 (by omega) (by omega)).2.2.2 k) rfl ?_
  refine tw_al rfl rfl ?_
  refine te_getr rfl (rs 2 (by omega) (by omega)) ?_
  refine sw_0 rfl rfl rfl ?_
  refine tw_al rfl rfl ?_
  refine te_getr rfl (rd 2 (by omega) (by omega)) ?_
  refine sw_0 rfl rfl rfl ?_
  refine sw_0 rfl rfl rfl ?_
  refine tw_cp (m := 60) hB rfl (hrow 2 (by omega) (by omega)).2.1 (hrow 2 (by omega) (by omega)).1 (fun k _ => (hrow 2 (by omega) (by omega)).2.2.2 k) (fun k _ => by show (ktB (o + 2) k).1 = 0; rw [(hrow 2 (by omega) (by omega)).2.2.1 k]; exact (hrow 2 (by omega) (by omega)).2.2.2 k) rfl ?_
  refine tw_al rfl rfl ?_
  refine te_getr rfl (rs 3 (by omega) (by omega)) ?_
  refine sw_0 rfl rfl rfl ?_
  refine tw_al rfl rfl ?_
  refine te_getr rfl (rd 3 (by omega) (by omega)) ?_
  refine sw_0 rfl rfl rfl ?_
  refine sw_0 rfl rfl rfl ?_
  refine tw_cp (m := 60) hB rfl (hrow 3 (by omega) (by omega)).2.1 (hrow 3 (by omega) (by omega)).1 (fun k _ => (hrow 3 (by omega) (by omega)).2.2.2 k) (fun k _ => by show (ktB (o + 3) k).1 = 0; rw [(hrow 3 (by omega) (by omega)).2.2.1 k]; exact (hrow 3 (by omega) (by omega)).2.2.2 k) rfl ?_
  refine tw_al rfl rfl ?_
  refine te_getr rfl (rs 4 (by omega) (by omega)) ?_
  refine sw_0 rfl rfl rfl ?_
  refine tw_al rfl rfl ?_
  refine te_getr rfl (rd 4 (by omega) (by omega)) ?_
  refine sw_0 rfl rfl rfl ?_
  refine sw_0 rfl rfl rfl ?_
  refine tw_cp (m := 60) hB rfl (hrow 4 (by omega) (by omega)).2.1 (hrow 4 (by omega) (by omega)).1 (fun k _ => (hrow 4 (by omega) (by omega)).2.2.2 k) (fun k _ => by show (ktB (o + 4) k).1 = 0; rw [(hrow 4 (by omega) (by omega)).2.2.1 k]; exact (hrow 4 (by omega) (by omega)).2.2.2 k) rfl ?_
  rw [show tup I o 0 (I o2 0) o2 1 = I o2 1 from tup_ne (by omega), show tup (tup I o 0 (I o2 0)) o 1 (I o2 1) o2 2 = I o2 2 by rw [tup_ne (by omega), tup_ne (by omega)]]
  generalize hI4 : tcp (tcp (tcp (tcp (tup (tup (tup I o 0 (I o2 0)) o 1 (I o2 1)) o 2 (I o2 2)) (o + 1) 0 (o2 + 1) 0 60) (o + 2) 0 (o2 + 2) 0 60) (o + 3) 0 (o2 + 3) 0 60) (o + 4) 0 (o2 + 4) 0 60 = I4
  have vout : ∀ p k, p < o ∨ o + 4 < p → I4 p k = I p k := fun p k h => by
    rw [← hI4, tcp_out (by omega), tcp_out (by omega), tcp_out (by omega), tcp_out (by omega), tup_ne (by omega), tup_ne (by omega), tup_ne (by omega)]
  have vin : ∀ p k, o + 1 ≤ p → p ≤ o + 4 → k < 60 → I4 p k = I (p - o + o2) k := fun p k h1 h2 hk => by
    rw [← hI4]
    rcases (by omega : p = o + 1 ∨ p = o + 2 ∨ p = o + 3 ∨ p = o + 4) with e | e | e | e
    · subst e
      rw [tcp_out (by omega), tcp_out (by omega), tcp_out (by omega), tcp_in (by omega) (by omega), tup_ne (by omega), tup_ne (by omega), tup_ne (by omega)]
      congr 1 <;> omega
    · subst e
      rw [tcp_out (by omega), tcp_out (by omega), tcp_in (by omega) (by omega), tcp_out (by omega), tup_ne (by omega), tup_ne (by omega), tup_ne (by omega)]
      congr 1 <;> omega
    · subst e
      rw [tcp_out (by omega), tcp_in (by omega) (by omega), tcp_out (by omega), tcp_out (by omega), tup_ne (by omega), tup_ne (by omega), tup_ne (by omega)]
      congr 1 <;> omega
    · subst e
      rw [tcp_in (by omega) (by omega), tcp_out (by omega), tcp_out (by omega), tcp_out (by omega), tup_ne (by omega), tup_ne (by omega), tup_ne (by omega)]
      congr 1 <;> omega
  have v0 : ∀ k, k < 3 → I4 o k = I o2 k := fun k hk => by
    rw [← hI4, tcp_out (by omega), tcp_out (by omega), tcp_out (by omega), tcp_out (by omega)]
    rcases (by omega : k = 0 ∨ k = 1 ∨ k = 2) with e | e | e
    · subst e
      rw [tup_ne (by omega), tup_ne (by omega), tup_eq]
    · subst e
      rw [tup_ne (by omega), tup_eq]
    · subst e
      rw [tup_eq]
  have vk : ∀ p k, o ≤ p → p ≤ o + 4 → (p = o → 3 ≤ k) → (p = o ∨ 60 ≤ k) → I4 p k = I p k := fun p k h1 h2 h3 h4 => by
    rw [← hI4, tcp_out (by omega), tcp_out (by omega), tcp_out (by omega), tcp_out (by omega), tup_ne (by omega), tup_ne (by omega), tup_ne (by omega)]
  refine sw_2 rfl rfl rfl ⟨B, I4, J, rfl, ⟨hB, fun p kn k g1 g2 g3 => ?_, nTk_ok hc hO.2.2.1 vout vin, fun k hk => ?_⟩, ⟨fun p k hm => ?_, fun _ => rfl, rfl, rfl⟩, (fun q hq => by cases hq), rfl⟩
  · by_cases hp : p < o ∨ o + 4 < p
    · rw [vout p k hp]
      exact hO.2.1 p kn k g1 g2 g3
    · by_cases hp0 : p = o ∧ k < 3
      · obtain ⟨rfl, hk3⟩ := hp0
        rw [v0 k hk3]
        have := hO.2.1 o2 (6, 7) k ks (by dsimp only; omega) (hfl k hk3).2
        have ea : (ktN sc).1.2 p k = (ktN sc).1.2 o2 k := (hfl k hk3).1
        rw [ea]
        exact this
      · by_cases hp1 : p = o ∨ 60 ≤ k
        · rw [vk p k (by omega) (by omega) (by omega) hp1]
          exact hO.2.1 p kn k g1 g2 g3
        · rw [vin p k (by omega) (by omega) (by omega)]
          obtain ⟨r1, r2, r3, r4⟩ := hrow (p - o) (by omega) (by omega)
          have := hO.2.1 (o2 + (p - o)) (20, 60) k r2 (by show k < 60; omega) (r4 k)
          have ea : (ktN sc).1.2 p k = (ktN sc).1.2 (o2 + (p - o)) k := by
            have := r3 k
            rw [show o + (p - o) = p by omega] at this
            exact this
          rw [ea, show p - o + o2 = o2 + (p - o) by omega]
          exact this
  · rw [vout 999 k (by omega)]
    exact hO.2.2.2 k hk
  · have hq : ∀ a, a ≤ 4 → ∀ k', k' ≤ 59 → (a = 0 → k' ≤ 2) → nmod [(o, 0, 2), (o + 1, 0, 59), (o + 2, 0, 59), (o + 3, 0, 59), (o + 4, 0, 59)] (o + a) k' = true := fun a ha k' hk' h0 => by
      rcases (by omega : a = 0 ∨ a = 1 ∨ a = 2 ∨ a = 3 ∨ a = 4) with e | e | e | e | e
      · subst e; exact nmod_1 (by omega) (by omega)
      · subst e; exact nmod_2 (nmod_1 (by omega) (by omega))
      · subst e; exact nmod_2 (nmod_2 (nmod_1 (by omega) (by omega)))
      · subst e; exact nmod_2 (nmod_2 (nmod_2 (nmod_1 (by omega) (by omega))))
      · subst e; exact nmod_2 (nmod_2 (nmod_2 (nmod_2 (nmod_1 (by omega) (by omega)))))
    have hz : ¬ (o ≤ p ∧ p ≤ o + 4 ∧ k ≤ 59 ∧ (p = o → k ≤ 2)) := fun ⟨a1, a2, a3, a4⟩ => by
      have := hq (p - o) (by omega) k a3 (fun e => a4 (by omega))
      rw [show o + (p - o) = p by omega] at this
      have hm : nmod [(o, 0, 2), (o + 1, 0, 59), (o + 2, 0, 59), (o + 3, 0, 59), (o + 4, 0, 59)] p k = false := hm
      rw [this] at hm
      cases hm
    refine ⟨?_, rfl⟩
    by_cases hp : p < o ∨ o + 4 < p
    · exact vout p k hp
    · exact vk p k (by omega) (by omega) (by omega) (by omega)
