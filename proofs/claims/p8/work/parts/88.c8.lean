/-! COPIES INSIDE THE REFERENCE'S ARRAY -/
def nShift (dp sp n : Nat) : Bool := ngA.all (fun c => ((!Nat.beq c.1.1 186 || (Nat.blt c.2.1.2.1 dp || Nat.ble (dp + n) c.2.1.1)) && (!Nat.beq c.1.2 186 || (Nat.blt (c.2.1.2.1 + c.2.1.2.2.1) dp || Nat.ble (dp + n) (c.2.1.1 + c.2.1.2.2.1)))) ||
  (((Nat.beq c.1.1 186 && Nat.beq c.1.2 186) && (Nat.ble dp c.2.1.1 && Nat.blt (c.2.1.2.1 + c.2.1.2.2.1) (dp + n))) && ngA.any (fun c' => decide (c' = ((186, 186), (c.2.1.1 - dp + sp, c.2.1.2.1 - dp + sp, c.2.1.2.2.1, c.2.1.2.2.2), c.2.2.1, c.2.2.2)))))
theorem tcp_in {α : Type} {f : Nat → Nat → α} {d dp s sp n k : Nat} (h1 : dp ≤ k) (h2 : k < dp + n) : tcp f d dp s sp n d k = f s (sp + (k - dp)) := by
  unfold tcp
  rw [if_pos ⟨rfl, h1, h2⟩]
theorem tcp_out {α : Type} {f : Nat → Nat → α} {d dp s sp n o k : Nat} (h : ¬ (o = d ∧ dp ≤ k ∧ k < dp + n)) : tcp f d dp s sp n o k = f o k := by
  unfold tcp
  rw [if_neg h]
theorem nShift_ok {dp sp n : Nat} {I : tI} (h : nShift dp sp n = true) (hC : nCnd ngA I) : nCnd ngA (tcp I 186 dp 186 sp n) := by
  intro c hc k k1 k2 k3 l1 l2
  have a := List.all_eq_true.mp h c hc
  rw [Bool.or_eq_true] at a
  rcases a with a | a
  · simp only [Bool.and_eq_true, Bool.or_eq_true, Bool.not_eq_true'] at a
    have e1 : tcp I 186 dp 186 sp n c.1.1 k = I c.1.1 k := tcp_out (fun e => by
      rcases a.1 with a1 | a1 | a1
      · rw [e.1, Nat.beq_refl] at a1; cases a1
      · have := Nat.blt_eq.mp a1; omega
      · have := Nat.le_of_ble_eq_true a1; omega)
    have e2 : tcp I 186 dp 186 sp n c.1.2 (k + c.2.1.2.2.1) = I c.1.2 (k + c.2.1.2.2.1) := tcp_out (fun e => by
      rcases a.2 with a1 | a1 | a1
      · rw [e.1, Nat.beq_refl] at a1; cases a1
      · have := Nat.blt_eq.mp a1; omega
      · have := Nat.le_of_ble_eq_true a1; omega)
    rw [e1] at l1 l2
    rw [e2]
    exact hC c hc k k1 k2 k3 l1 l2
  · simp only [Bool.and_eq_true] at a
    obtain ⟨⟨⟨a1, a2⟩, a3, a4⟩, a5⟩ := a
    have a1 := Nat.eq_of_beq_eq_true a1
    have a2 := Nat.eq_of_beq_eq_true a2
    have a3 := Nat.le_of_ble_eq_true a3
    have a4 := Nat.blt_eq.mp a4
    obtain ⟨c', hc', e'⟩ := List.any_eq_true.mp a5
    have e' := of_decide_eq_true e'
    have old := hC c' hc' (sp + (k - dp))
    rw [e'] at old
    dsimp only at old
    rw [a1, tcp_in (by omega) (by omega)] at l1 l2
    rw [a2, tcp_in (by omega) (by omega)]
    have := old (by omega) (by omega) (by rw [show sp + (k - dp) - (c.2.1.1 - dp + sp) = k - c.2.1.1 by omega]; exact k3) l1 l2
    rw [show sp + (k - dp) + c.2.1.2.2.1 = sp + (k + c.2.1.2.2.1 - dp) by omega] at this
    exact this
def nFitB (dp sp n : Nat) : Bool := (List.range n).all (fun i => (Nat.beq (ktB 186 (dp + i)).1 0 && Nat.beq (ktB 186 (sp + i)).1 0) && (decide ((ktB 186 (dp + i)).2.1 ≤ (ktB 186 (sp + i)).2.1) && (decide ((ktB 186 (sp + i)).2.2 ≤ (ktB 186 (dp + i)).2.2) || (Nat.beq (sp + i) 5 && decide (999 ≤ (ktB 186 (dp + i)).2.2)))))
theorem nFitB_ok {dp sp n k : Nat} {I : tI} (h : nFitB dp sp n = true) (hl : sp + n ≤ 3972) (hb : ∀ k, k < 3972 → (ktB 186 k).1 = 0 → (ktB 186 k).2.1 ≤ (I 186 k).toInt ∧ (I 186 k).toInt ≤ (ktB 186 k).2.2) (h5 : sp ≤ 5 → 5 < sp + n → (I 186 5).toInt ≤ 999) (k1 : dp ≤ k) (k2 : k < dp + n) : (ktB 186 k).2.1 ≤ (I 186 (sp + (k - dp))).toInt ∧ (I 186 (sp + (k - dp))).toInt ≤ (ktB 186 k).2.2 := by
  have a := List.all_eq_true.mp h (k - dp) (List.mem_range.mpr (by omega))
  rw [show dp + (k - dp) = k by omega] at a
  simp only [Bool.and_eq_true, Bool.or_eq_true, decide_eq_true_eq] at a
  obtain ⟨⟨a1, a2⟩, a3, a4⟩ := a
  have b := hb (sp + (k - dp)) (by omega) (Nat.eq_of_beq_eq_true a2)
  refine ⟨by omega, ?_⟩
  rcases a4 with a4 | a4
  · omega
  · have e := Nat.eq_of_beq_eq_true a4.1
    rw [e]
    have := h5 (by omega) (by omega)
    omega
theorem nOk_cp {sc : List Int32} {B : xM} {I : tI} {dp sp n : Nat} (hs : nShift dp sp n = true) (hf : nFitB dp sp n = true) (hl : sp + n ≤ 3972) (hO : nOk (ktN sc) B I) (h5 : sp ≤ 5 → 5 < sp + n → (I 186 5).toInt ≤ 999) : nOk (ktN sc) B (tcp I 186 dp 186 sp n) := by
  refine ⟨hO.1, fun o kn k h1 h2 h3 => ?_, nShift_ok hs hO.2.2.1, fun k hk => ?_⟩
  · by_cases e : o = 186 ∧ dp ≤ k ∧ k < dp + n
    · obtain ⟨rfl, e1, e2⟩ := e
      rw [tcp_in e1 e2]
      exact nFitB_ok hf hl (fun k hk ht => hO.2.1 186 (20, 3972) k rfl hk ht) h5 e1 e2
    · rw [tcp_out e]
      exact hO.2.1 o kn k h1 h2 h3
  · rw [tcp_out (fun e => by have := e.1; omega)]
    exact hO.2.2.2 k hk
theorem kAg_cp {B : xM} {I : tI} {J : tJ} {dp sp n : Nat} {l : nMl} (h : ∀ k, dp ≤ k → k < dp + n → nmod l 186 k = true) : kAg l B I J B (tcp I 186 dp 186 sp n) J := ⟨fun o k hm => ⟨tcp_out (fun e => by
    rw [e.1, h k e.2.1 e.2.2] at hm
    cases hm), rfl⟩, fun _ => rfl, rfl, rfl⟩
theorem i_suc {x : Int32} {k : Nat} (h : x.toInt = k) (hk : k < 100000) : (x + 1).toInt = ((k + 1 : Nat) : Int) ∧ (x + 1).toNatClampNeg = k + 1 := by
  have e : (x + 1).toInt = x.toInt + 1 := ti_add (by show (-2147483648 : Int) ≤ x.toInt + 1; omega) (by show x.toInt + 1 ≤ 2147483647; omega)
  refine ⟨by omega, ?_⟩
  show (x + 1).toInt.toNat = k + 1
  omega
theorem i_nat {x : Int32} {k : Nat} (h : x.toInt = k) : x.toNatClampNeg = k := by
  show x.toInt.toNat = k
  omega
theorem i_ge {x y : Int32} : (xcmp .ge x y = true → y.toInt ≤ x.toInt) ∧ (xcmp .ge x y = false → x.toInt < y.toInt) := by
  rw [tc_ge]
  exact ⟨fun h => of_decide_eq_true h, fun h => by have := of_decide_eq_false h; omega⟩
def at186 (ml : nMl) : (ktT ml).k 186 = some (20, 3972) := rfl
theorem at_slot {t : nTb} {ml : nMl} {B : xM} {k : Nat} (hB : kB (nTm t ml) B) (ht : t.1 = (ktK, ktB)) (hk : k < 3972) (hb : (ktB 186 k).1 = 0) : tSlot B 186 20 k 0 = true := by
  refine kB_slot (m := 3972) hB ?_ hk ?_
  · show t.1.1 186 = _
    rw [ht]
    rfl
  · show (t.1.2 186 k).1 = 0
    rw [ht]
    exact hb
theorem at_ref {t : nTb} {ml : nMl} {B : xM} (hB : kB (nTm t ml) B) (ht : t.1 = (ktK, ktB)) : tRef B 185 12 0 186 = true := by
  have := kB_ref (o := 185) (c := 12) (k := 0) (m := 37) hB (by
    show t.1.1 185 = _
    rw [ht]
    rfl) (by decide) (by
    show (t.1.2 185 0).1 = 2
    rw [ht]
    rfl)
  have e : (kT.b (nTm t ml) 185 0).2.1.toNat = 186 := by
    show (t.1.2 185 0).2.1.toNat = 186
    rw [ht]
    rfl
  rw [e] at this
  exact this
def nTag : Bool := (List.range 3972).all (fun k => Nat.beq (ktB 186 k).1 0)
set_option maxRecDepth 100000 in
theorem nTag_ok : nTag = true := by decide +kernel
theorem nTag_at {k : Nat} (h : k < 3972) : (ktB 186 k).1 = 0 := Nat.eq_of_beq_eq_true (List.all_eq_true.mp nTag_ok k (List.mem_range.mpr h))
