/-! p5: THE LAW ENDS AND ANSWERS 1, over every script of at most 3072 ints -/
theorem law5_sw {sc : List Int32} (hl : sc.length ≤ 3072) : sw sc rLawX 0 [(0, .retAddr 0)] [] [] (fun v M' => v = some (.int 1) ∧ ∃ B' I' J', M' = tMem B' I' J' ∧ kB (ktT []) B') := by
  have h := lwchk_ok (sc := sc) lwKs5 (lwX5 hl) lwq5 rLawX_ok (B := mOne) (I := mI sc) (J := mJ0) (m_nOk sc) (show (mI0 186 5).toInt ≤ 999 by decide)
  rw [m_self] at h
  exact law_preS h
