/-! p6, p8: THE LAW ENDS AND ANSWERS 1, over every script of at most 3072 ints -/
theorem xz_tM {I : tI} {J : tJ} : ∀ (o : Nat) (M : xM), xz (tM I J o M) = xz M
  | _, [] => rfl
  | o, p :: M => by
    simp only [tM, xz]
    rw [tS_len, xz_tM (o + 1) M]
theorem law7_sw {sc : List Int32} (hl : sc.length ≤ 3072) : sw sc rLawX 0 [(0, .retAddr 0)] [] [] (fun v M' => v = some (.int 1) ∧ (M'.length = mOne.length ∧ xz M' = xz mOne)) := by
  have hI : LInv R7 sc mOne (mI sc) mJ0 := by
    refine ⟨m_nOk sc, fun q hq => ?_, fun t ht => .inl ?_⟩
    · rw [List.mem_singleton] at hq
      subst hq
      show 0 ≤ (mI0 186 5).toInt ∧ (mI0 186 5).toInt ≤ 999
      decide
    · rcases (by omega : t = 0 ∨ t = 1 ∨ t = 2 ∨ t = 3) with rfl | rfl | rfl | rfl
      · show mI0 6 0 = -1 ∧ mI0 189 0 = -1
        decide
      · show mI0 6 1 = -1 ∧ mI0 189 1 = -1
        decide
      · show mI0 6 2 = -1 ∧ mI0 189 2 = -1
        decide
      · show mI0 6 3 = -1 ∧ mI0 189 3 = -1
        decide
  have h := lw_loop hl (B0 := mOne) 3078 0 (by omega) (by omega) hI ⟨rfl, rfl⟩
  rw [m_self] at h
  refine law_preS (sw_mono h (fun v M' hq => ?_))
  obtain ⟨h1, B', I', J', rfl, h2, h3⟩ := hq
  exact ⟨h1, (tM_len 0 B').trans h2, (xz_tM 0 B').trans h3⟩
/-- what is wanted of the interpreter: the law ends, answers 1, within the room -/
def lawDone (sc : List Int32) : Prop := ∃ f Mf, srun xmeth xty xdf sc f rLawX 0 [(0, .retAddr 0)] [] [] = some (some (.int 1), Mf) ∧ (Mf.length ≤ 600000 ∧ xz Mf ≤ 7302250)
theorem law5_done : ∀ sc : List Int32, sc.length ≤ 3072 → lawDone sc := fun sc hl => by
  obtain ⟨f, v, Mf, h1, rfl, h2, h3⟩ := law7_sw hl
  exact ⟨f, Mf, h1, by rw [h2, one_len]; omega, by rw [h3]; exact one_z⟩
