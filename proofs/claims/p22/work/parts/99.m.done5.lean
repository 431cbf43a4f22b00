/-! THE LAW ENDS AND ANSWERS 1, over every script of at most 3072 ints -/
theorem xz_tM {I : tI} {J : tJ} : ∀ (o : Nat) (M : xM), xz (tM I J o M) = xz M
  | _, [] => rfl
  | o, p :: M => by
    simp only [tM, xz]
    rw [tS_len, xz_tM (o + 1) M]
def stB : Bool := (List.range 120).all (fun k => decide (mI0 33 (k + 1) = mI0 186 (132 + k))) && (List.range 30).all (fun k => decide (mI0 186 (10 + k) = 0)) && decide (mJ0 11 2 = 0)
set_option maxRecDepth 100000 in
theorem stB_ok : stB = true := by decide +kernel
theorem start_Q {sc : List Int32} : WQ 10 0 0 (mI sc) mJ0 (mI sc) mJ0 := by
  have hb := stB_ok
  unfold stB at hb
  rw [Bool.and_eq_true, Bool.and_eq_true] at hb
  obtain ⟨⟨h1, h2⟩, h3⟩ := hb
  refine ⟨0, 0, 0, 0, 0, 0, ⟨⟨by omega, by omega, by omega⟩, ⟨?_, ?_, ?_, ?_, ?_, ?_⟩, ⟨?_, ?_, ?_, ?_, ?_, ?_⟩, ?_, ?_⟩, fun r c hr hc => ?_, fun p hp => by omega, fun i hi => by omega, fun x hx => by omega, fun k hk => ?_, fun p hp => by omega, fun i hi => by omega, fun x hx => by omega⟩
  · show mI0 11 0 = 0
    decide
  · show mI0 11 1 = 0
    decide
  · show mI0 12 0 = 0
    decide
  · show mI0 12 1 = 0
    decide
  · show mI0 21 0 = 0
    decide
  · show mI0 10 6 = 0
    decide
  · show mI0 186 0 = 0
    decide
  · show mI0 186 1 = 0
    decide
  · show mI0 186 2 = 0
    decide
  · show mI0 186 3 = 0
    decide
  · show mI0 186 4 = 0
    decide
  · show mI0 186 5 = 0
    decide
  · show mI0 10 4 = mI0 186 6
    decide
  · show mI0 10 5 = mI0 186 7
    decide
  · have e1 : mI0 186 (10 + (6 * r + c)) = 0 := of_decide_eq_true (List.all_eq_true.mp h2 _ (List.mem_range.mpr (by omega)))
    have e2 : mJ0 11 2 = 0 := of_decide_eq_true h3
    show mI0 186 (10 + (6 * r + c)) = if wb (mJ0 11 2) (10 * r + c) = true then 1 else 0
    rw [e1, e2, if_neg]
    show ¬ wb 0 (10 * r + c) = true
    unfold wb
    rw [show (0 : Int64).toBitVec = 0#64 from rfl, BitVec.getLsbD_zero]
    decide
  · have e1 := of_decide_eq_true (List.all_eq_true.mp h1 _ (List.mem_range.mpr hk))
    show mI0 33 (k + 1) = mI0 186 (0 + 132 + k)
    rw [show 0 + 132 + k = 132 + k by omega]
    exact e1
theorem start_X {sc : List Int32} : RX 10 0 0 (mI sc) mJ0 (mI sc) mJ0 := by
  refine Or.inl ⟨?_, ?_⟩
  · show mI0 26 0 = 0
    decide
  · show mI0 186 8 = -1
    decide
theorem lawD_sw {sc : List Int32} (hl : sc.length ≤ 3072) : sw sc rLawX 0 [(0, .retAddr 0)] [] [] (fun v M' => v = some (.int 1) ∧ (M'.length = mOne.length ∧ xz M' = xz mOne)) := by
  have hI : LInv RQX sc mOne (mI sc) mJ0 := by
    refine ⟨m_nOk sc, fun q hq => ?_, ⟨0, ⟨by omega, ?_, ?_⟩, fun i hi => absurd hi (by omega)⟩, ⟨start_Q, 0, by omega, ⟨?_, ?_⟩, fun j hj => absurd hj (by omega)⟩, ⟨start_X, 0, by omega, ⟨?_, ?_⟩, fun j hj => absurd hj (by omega)⟩⟩
    · rw [List.mem_singleton] at hq
      subst hq
      show 0 ≤ (mI0 186 5).toInt ∧ (mI0 186 5).toInt ≤ 999
      decide
    · show mI0 0 4 = 0
      decide
    · show mI0 185 10 = 0
      decide
    · show mI0 0 12 = 0
      decide
    · show mI0 185 36 = 0
      decide
    · show mI0 0 12 = 0
      decide
    · show mI0 185 36 = 0
      decide
  have h := lw_loop hl (B0 := mOne) 3078 0 (by omega) (by omega) hI ⟨rfl, rfl⟩
  rw [m_self] at h
  refine law_preS (sw_mono h (fun v M' hq => ?_))
  obtain ⟨h1, B', I', J', rfl, h2, h3⟩ := hq
  exact ⟨h1, (tM_len 0 B').trans h2, (xz_tM 0 B').trans h3⟩
/-- what is wanted of the interpreter: the law ends, answers 1, within the room -/
def lawDone (sc : List Int32) : Prop := ∃ f Mf, srun xmeth xty xdf sc f rLawX 0 [(0, .retAddr 0)] [] [] = some (some (.int 1), Mf) ∧ (Mf.length ≤ 600000 ∧ xz Mf ≤ 7302250)
theorem law5_done : ∀ sc : List Int32, sc.length ≤ 3072 → lawDone sc := fun sc hl => by
  obtain ⟨f, v, Mf, h1, rfl, h2, h3⟩ := lawD_sw hl
  exact ⟨f, Mf, h1, by rw [h2, one_len]; omega, by rw [h3]; exact one_z⟩
