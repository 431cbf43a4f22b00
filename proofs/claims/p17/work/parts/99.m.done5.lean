/-! p17: THE LAW ENDS AND ANSWERS 1, over every script of at most 3072 ints -/
theorem xz_tM {I : tI} {J : tJ} : ∀ (o : Nat) (M : xM), xz (tM I J o M) = xz M
  | _, [] => rfl
  | o, p :: M => by
    simp only [tM, xz]
    rw [tS_len, xz_tM (o + 1) M]
theorem law17_sw {sc : List Int32} (hl : sc.length ≤ 3072) : sw sc rLawX 0 [(0, .retAddr 0)] [] [] (fun v M' => v = some (.int 1) ∧ (M'.length = mOne.length ∧ xz M' = xz mOne)) := by
  have hI : LInv R17 sc mOne (mI sc) mJ0 := by
    refine ⟨m_nOk sc, fun q hq => ?_, ⟨0, ⟨by omega, ?_, ?_⟩, fun i hi => absurd hi (by omega)⟩, ⟨0, by omega, ?_, ?_, fun p hp => absurd hp (by omega)⟩, 0, by omega, ⟨?_, ?_⟩, fun j hj => absurd hj (by omega)⟩
    · rw [List.mem_singleton] at hq
      subst hq
      show 0 ≤ (mI0 186 5).toInt ∧ (mI0 186 5).toInt ≤ 999
      decide
    · show mI0 0 4 = 0
      decide
    · show mI0 185 10 = 0
      decide
    · show mI0 12 0 = 0
      decide
    · show mI0 186 2 = 0
      decide
    · show mI0 0 12 = 0
      decide
    · show mI0 185 36 = 0
      decide
  have h := lw_loop hl (B0 := mOne) 3078 0 (by omega) (by omega) hI ⟨rfl, rfl⟩
  rw [m_self] at h
  refine law_preS (sw_mono h (fun v M' hq => ?_))
  obtain ⟨h1, B', I', J', rfl, h2, h3⟩ := hq
  exact ⟨h1, (tM_len 0 B').trans h2, (xz_tM 0 B').trans h3⟩
/-- what is wanted of the interpreter: the law ends, answers 1, within the room -/
def lawDone (sc : List Int32) : Prop := ∃ f Mf, srun xmeth xty xdf sc f rLawX 0 [(0, .retAddr 0)] [] [] = some (some (.int 1), Mf) ∧ (Mf.length ≤ 600000 ∧ xz Mf ≤ 7302250)
theorem law5_done : ∀ sc : List Int32, sc.length ≤ 3072 → lawDone sc := fun sc hl => by
  obtain ⟨f, v, Mf, h1, rfl, h2, h3⟩ := law17_sw hl
  exact ⟨f, Mf, h1, by rw [h2, one_len]; omega, by rw [h3]; exact one_z⟩
