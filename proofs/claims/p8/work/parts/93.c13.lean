/-! SIGHTS, RUNS TAKEN OVER -/
/-- conditions go along with the rows d + lo .. d + 4, of n places, that come from s -/
def nTk (d s lo n : Nat) : Bool := ngA.all (fun c => ((Nat.blt c.1.1 d || Nat.blt (d + 4) c.1.1) && (Nat.blt c.1.2 d || Nat.blt (d + 4) c.1.2)) || (((Nat.ble (d + lo) c.1.1 && Nat.ble c.1.1 (d + 4)) && (Nat.ble (d + lo) c.1.2 && Nat.ble c.1.2 (d + 4))) && (Nat.blt (c.2.1.2.1 + c.2.1.2.2.1) n && ngA.any (fun c' => decide (c' = ((c.1.1 - d + s, c.1.2 - d + s), c.2))))))
theorem nTk_ok {d s lo n : Nat} {I I' : tI} (h : nTk d s lo n = true) (hC : nCnd ngA I) (h1 : ∀ o k, o < d ∨ d + 4 < o → I' o k = I o k) (h2 : ∀ o k, d + lo ≤ o → o ≤ d + 4 → k < n → I' o k = I (o - d + s) k) : nCnd ngA I' := by
  intro c hc k k1 k2 k3 l1 l2
  have a := List.all_eq_true.mp h c hc
  rw [Bool.or_eq_true] at a
  rcases a with a | a
  · simp only [Bool.and_eq_true, Bool.or_eq_true] at a
    have e1 : c.1.1 < d ∨ d + 4 < c.1.1 := a.1.imp Nat.blt_eq.mp Nat.blt_eq.mp
    have e2 : c.1.2 < d ∨ d + 4 < c.1.2 := a.2.imp Nat.blt_eq.mp Nat.blt_eq.mp
    rw [h1 _ _ e1] at l1 l2
    rw [h1 _ _ e2]
    exact hC c hc k k1 k2 k3 l1 l2
  · simp only [Bool.and_eq_true] at a
    obtain ⟨⟨⟨a1, a2⟩, a3, a4⟩, a5, a6⟩ := a
    have a1 := Nat.le_of_ble_eq_true a1
    have a2 := Nat.le_of_ble_eq_true a2
    have a3 := Nat.le_of_ble_eq_true a3
    have a4 := Nat.le_of_ble_eq_true a4
    have a5 := Nat.blt_eq.mp a5
    obtain ⟨c', hc', e'⟩ := List.any_eq_true.mp a6
    have e' := of_decide_eq_true e'
    have old := hC c' hc' k
    rw [e'] at old
    dsimp only at old
    rw [h2 _ _ a1 a2 (by omega)] at l1 l2
    rw [h2 _ _ a3 a4 (by omega)]
    exact old k1 k2 k3 l1 l2
/-- what is asked of the table, of two sets of rows -/
def nTs (d s : Nat) : Prop := (d + 4 < s ∨ s + 4 < d) ∧ (ktK d = some (8, 5) ∧ ktK s = some (8, 5)) ∧ (∀ a, 2 ≤ a → a ≤ 4 → ktK (d + a) = some (20, 6) ∧ ktK (s + a) = some (20, 6) ∧ (∀ k, ktB (d + a) k = ktB (s + a) k) ∧ ∀ k, (ktB (s + a) k).1 = 0) ∧ (ktK (d + 1) = some (22, 6) ∧ ktK (s + 1) = some (22, 6) ∧ ∀ k, (ktB (d + 1) k).1 = 1 ∧ (ktB (s + 1) k).1 = 1) ∧ (ktB d 0 = (0, 0, 6) ∧ ktB s 0 = (0, 0, 6)) ∧ (∀ a, 1 ≤ a → a ≤ 4 → ktB d a = (2, ((d + a : Nat) : Int), 0) ∧ ktB s a = (2, ((s + a : Nat) : Int), 0)) ∧ d + 4 < 999
theorem ktN_ref {sc : List Int32} {ml : nMl} {B : xM} {o c m k a : Nat} (hB : kB (nTm (ktN sc) ml) B) (ho : ktK o = some (c, m)) (hk : k < m) (hb : ktB o k = (2, (a : Int), 0)) : tRef B o c k a = true := by
  have := kB_ref (k := k) hB ho hk (show (ktB o k).1 = 2 by rw [hb])
  have e : (kT.b (nTm (ktN sc) ml) o k).2.1.toNat = a := by
    show (ktB o k).2.1.toNat = a
    rw [hb]
    rfl
  rw [e] at this
  exact this
theorem ktN_slot {sc : List Int32} {ml : nMl} {B : xM} {o c m k : Nat} (hB : kB (nTm (ktN sc) ml) B) (ho : ktK o = some (c, m)) (hk : k < m) (hb : (ktB o k).1 = 0) : tSlot B o c k 0 = true := kB_slot hB ho hk hb
theorem xfit_i {v : Int32} {c k : Nat} (h : xty c k = .int) : xfit (xty c k) (.int v) = true := by rw [h]; rfl
theorem sights_ok {sc : List Int32} {d s : Nat} (hs : nTs d s) (hc : nTk d s 2 6 = true) : nCon (ktN sc) sc ((91, [(2, (d : Int), 0), (2, (s : Int), 0)], none), [(d, 0, 0), (d + 1, 0, 5), (d + 2, 0, 5), (d + 3, 0, 5), (d + 4, 0, 5)], [], []) := by
  intro r as B I J hr hv hO hpre
  have e : xmeth 91 = some (xt_91, 2, 0) := rfl
  have hr : xmeth 91 = some r := hr
  rw [e] at hr
  cases hr
  obtain ⟨v1, s1, rfl, ⟨o, rfl, ho⟩, v2, s2, rfl, ⟨o2, rfl, ho2⟩, e2⟩ := hv
  have e2 : s2 = [] := e2
  subst e2
  dsimp only at ho ho2
  have eo : o = d := by omega
  have eo2 : o2 = s := by omega
  subst eo eo2
  obtain ⟨hne, ⟨kd, ks⟩, hrow, ⟨nd, ns, nt⟩, ⟨bd, bs⟩, href, h999⟩ := hs
  have hB := hO.1
  have rd := fun a (h1 : 1 ≤ a) (h2 : a ≤ 4) => ktN_ref hB kd (show a < 5 by omega) (href a h1 h2).1
  have rs := fun a (h1 : 1 ≤ a) (h2 : a ≤ 4) => ktN_ref hB ks (show a < 5 by omega) (href a h1 h2).2
  refine tw_al rfl rfl ?_
  refine tw_al rfl rfl ?_
  refine te_geti rfl (ktN_slot hB ks (by omega) (by rw [bs])) ?_
  refine te_puti rfl (ktN_slot hB kd (by omega) (by rw [bd])) rfl ?_
  refine tw_al rfl rfl ?_
  refine te_getr rfl (rs 1 (by omega) (by omega)) ?_
  refine sw_0 rfl rfl rfl ?_
  refine tw_al rfl rfl ?_
  refine te_getr rfl (rd 1 (by omega) (by omega)) ?_
  refine sw_0 rfl rfl rfl ?_
  refine sw_0 rfl rfl rfl ?_
  refine tw_cpL (m := 6) hB rfl ns nd (fun k _ => (nt k).2) (fun k _ => (nt k).1) rfl ?_
  refine tw_al rfl rfl ?_
  refine te_getr rfl (rs 2 (by omega) (by omega)) ?_
  refine sw_0 rfl rfl rfl ?_
  refine tw_al rfl rfl ?_
  refine te_getr rfl (rd 2 (by omega) (by omega)) ?_
  refine sw_0 rfl rfl rfl ?_
  refine sw_0 rfl rfl rfl ?_
  refine tw_cp (m := 6) hB rfl (hrow 2 (by omega) (by omega)).2.1 (hrow 2 (by omega) (by omega)).1 (fun k _ => (hrow 2 (by omega) (by omega)).2.2.2 k) (fun k _ => by show (ktB (o + 2) k).1 = 0; rw [(hrow 2 (by omega) (by omega)).2.2.1 k]; exact (hrow 2 (by omega) (by omega)).2.2.2 k) rfl ?_
  refine tw_al rfl rfl ?_
  refine te_getr rfl (rs 3 (by omega) (by omega)) ?_
  refine sw_0 rfl rfl rfl ?_
  refine tw_al rfl rfl ?_
  refine te_getr rfl (rd 3 (by omega) (by omega)) ?_
  refine sw_0 rfl rfl rfl ?_
  refine sw_0 rfl rfl rfl ?_
  refine tw_cp (m := 6) hB rfl (hrow 3 (by omega) (by omega)).2.1 (hrow 3 (by omega) (by omega)).1 (fun k _ => (hrow 3 (by omega) (by omega)).2.2.2 k) (fun k _ => by show (ktB (o + 3) k).1 = 0; rw [(hrow 3 (by omega) (by omega)).2.2.1 k]; exact (hrow 3 (by omega) (by omega)).2.2.2 k) rfl ?_
  refine tw_al rfl rfl ?_
  refine te_getr rfl (rs 4 (by omega) (by omega)) ?_
  refine sw_0 rfl rfl rfl ?_
  refine tw_al rfl rfl ?_
  refine te_getr rfl (rd 4 (by omega) (by omega)) ?_
  refine sw_0 rfl rfl rfl ?_
  refine sw_0 rfl rfl rfl ?_
  refine tw_cp (m := 6) hB rfl (hrow 4 (by omega) (by omega)).2.1 (hrow 4 (by omega) (by omega)).1 (fun k _ => (hrow 4 (by omega) (by omega)).2.2.2 k) (fun k _ => by show (ktB (o + 4) k).1 = 0; rw [(hrow 4 (by omega) (by omega)).2.2.1 k]; exact (hrow 4 (by omega) (by omega)).2.2.2 k) rfl ?_
  generalize hI4 : tcp (tcp (tcp (tup I o 0 (I o2 0)) (o + 2) 0 (o2 + 2) 0 6) (o + 3) 0 (o2 + 3) 0 6) (o + 4) 0 (o2 + 4) 0 6 = I4
  have vout : ∀ p k, p < o ∨ o + 4 < p → I4 p k = I p k := fun p k h => by
    rw [← hI4, tcp_out (by omega), tcp_out (by omega), tcp_out (by omega), tup_ne (by omega)]
  have vin : ∀ p k, o + 2 ≤ p → p ≤ o + 4 → k < 6 → I4 p k = I (p - o + o2) k := fun p k h1 h2 hk => by
    rw [← hI4]
    rcases (by omega : p = o + 2 ∨ p = o + 3 ∨ p = o + 4) with e | e | e
    · subst e
      rw [tcp_out (by omega), tcp_out (by omega), tcp_in (by omega) (by omega), tup_ne (by omega)]
      congr 1 <;> omega
    · subst e
      rw [tcp_out (by omega), tcp_in (by omega) (by omega), tcp_out (by omega), tup_ne (by omega)]
      congr 1 <;> omega
    · subst e
      rw [tcp_in (by omega) (by omega), tcp_out (by omega), tcp_out (by omega), tup_ne (by omega)]
      congr 1 <;> omega
  have v0 : I4 o 0 = I o2 0 := by
    rw [← hI4, tcp_out (by omega), tcp_out (by omega), tcp_out (by omega), tup_eq]
  have vk : ∀ p k, o ≤ p → p ≤ o + 4 → (p = o → k ≠ 0) → (p = o + 1 ∨ p = o ∨ 6 ≤ k) → I4 p k = I p k := fun p k h1 h2 h3 h4 => by
    rw [← hI4, tcp_out (by omega), tcp_out (by omega), tcp_out (by omega), tup_ne (by omega)]
  refine sw_2 rfl rfl rfl ⟨B, I4, _, rfl, ⟨hB, fun p kn k g1 g2 g3 => ?_, nTk_ok hc hO.2.2.1 vout vin, fun k hk => ?_⟩, ⟨fun p k hm => ?_, fun _ => rfl, rfl, rfl⟩, (fun q hq => by cases hq), rfl⟩
  · by_cases hp : p < o ∨ o + 4 < p
    · rw [vout p k hp]
      exact hO.2.1 p kn k g1 g2 g3
    · by_cases hp0 : p = o ∧ k = 0
      · obtain ⟨rfl, rfl⟩ := hp0
        rw [v0]
        have := hO.2.1 o2 (8, 5) 0 ks (by decide) (show (ktB o2 0).1 = 0 by rw [bs])
        have ea : (ktN sc).1.2 o2 0 = (0, 0, 6) := bs
        have eb : (ktN sc).1.2 p 0 = (0, 0, 6) := bd
        rw [ea] at this
        rw [eb]
        exact this
      · by_cases hp1 : p = o + 1 ∨ p = o ∨ 6 ≤ k
        · rw [vk p k (by omega) (by omega) (by omega) hp1]
          exact hO.2.1 p kn k g1 g2 g3
        · rw [vin p k (by omega) (by omega) (by omega)]
          obtain ⟨r1, r2, r3, r4⟩ := hrow (p - o) (by omega) (by omega)
          have := hO.2.1 (o2 + (p - o)) (20, 6) k r2 (by show k < 6; omega) (r4 k)
          have ea : (ktN sc).1.2 p k = (ktN sc).1.2 (o2 + (p - o)) k := by
            have := r3 k
            rw [show o + (p - o) = p by omega] at this
            exact this
          rw [ea, show p - o + o2 = o2 + (p - o) by omega]
          exact this
  · rw [vout 999 k (by omega)]
    exact hO.2.2.2 k hk
  · have hq : ∀ a, a ≤ 4 → ∀ k', k' ≤ 5 → (a = 0 → k' = 0) → nmod [(o, 0, 0), (o + 1, 0, 5), (o + 2, 0, 5), (o + 3, 0, 5), (o + 4, 0, 5)] (o + a) k' = true := fun a ha k' hk' h0 => by
      rcases (by omega : a = 0 ∨ a = 1 ∨ a = 2 ∨ a = 3 ∨ a = 4) with e | e | e | e | e
      · subst e; exact nmod_1 (by omega) (by omega)
      · subst e; exact nmod_2 (nmod_1 (by omega) (by omega))
      · subst e; exact nmod_2 (nmod_2 (nmod_1 (by omega) (by omega)))
      · subst e; exact nmod_2 (nmod_2 (nmod_2 (nmod_1 (by omega) (by omega))))
      · subst e; exact nmod_2 (nmod_2 (nmod_2 (nmod_2 (nmod_1 (by omega) (by omega)))))
    have hz : ¬ (o ≤ p ∧ p ≤ o + 4 ∧ k ≤ 5 ∧ (p = o → k = 0)) := fun ⟨a1, a2, a3, a4⟩ => by
      have := hq (p - o) (by omega) k a3 (fun e => a4 (by omega))
      rw [show o + (p - o) = p by omega] at this
      have hm : nmod [(o, 0, 0), (o + 1, 0, 5), (o + 2, 0, 5), (o + 3, 0, 5), (o + 4, 0, 5)] p k = false := hm
      rw [this] at hm
      cases hm
    refine ⟨?_, tcp_out (by omega)⟩
    by_cases hp : p < o ∨ o + 4 < p
    · exact vout p k hp
    · exact vk p k (by omega) (by omega) (by omega) (by omega)
