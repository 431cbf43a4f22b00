/-! THE LAW ENDS AND ANSWERS 1, over every script of at most 3072 ints (with facts between class and reference) -/
theorem xz_tM {I : tI} {J : tJ} : ∀ (o : Nat) (M : xM), xz (tM I J o M) = xz M
  | _, [] => rfl
  | o, p :: M => by
    simp only [tM, xz]
    rw [tS_len, xz_tM (o + 1) M]
set_option maxRecDepth 100000 in
theorem lwP5_ok : lwP5.all (fun q => !Nat.beq q.1.1 999 && decide ((mI0 q.1.1 q.1.2).toInt = q.2)) = true := by decide +kernel
theorem law5_sw {sc : List Int32} (hl : sc.length ≤ 3072) : sw sc rLawX 0 [(0, .retAddr 0)] [] [] (fun v M' => v = some (.int 1) ∧ (M'.length = mOne.length ∧ xz M' = xz mOne)) := by
  have h := lwchk3_ok (sc := sc) lwKs5 (lwX5 hl) lwcv5 lwgs5 lwq5 rLawX_ok (B := mOne) (I := mI sc) (J := mJ0) (m_nOk sc) (show (mI0 186 5).toInt ≤ 999 by decide) (fun q hq => by
    have h1 := List.all_eq_true.mp lwP5_ok q hq
    rw [Bool.and_eq_true] at h1
    unfold mI
    have e : Nat.beq q.1.1 999 = false := by simpa using h1.1
    rw [e]
    exact of_decide_eq_true h1.2)
  rw [m_self] at h
  refine law_preS (sw_mono h (fun v M' hq => ?_))
  obtain ⟨h1, B', I', J', rfl, h2, h3⟩ := hq
  exact ⟨h1, (tM_len 0 B').trans h2, (xz_tM 0 B').trans h3⟩
/-- what is wanted of the interpreter: the law ends, answers 1, within the room -/
def lawDone (sc : List Int32) : Prop := ∃ f Mf, srun xmeth xty xdf sc f rLawX 0 [(0, .retAddr 0)] [] [] = some (some (.int 1), Mf) ∧ (Mf.length ≤ 600000 ∧ xz Mf ≤ 7302250)
theorem law5_done : ∀ sc : List Int32, sc.length ≤ 3072 → lawDone sc := fun sc hl => by
  obtain ⟨f, v, Mf, h1, rfl, h2, h3⟩ := law5_sw hl
  exact ⟨f, Mf, h1, by rw [h2, one_len]; omega, by rw [h3]; exact one_z⟩
