/-! feed, runs: the tapes stay alike -/
theorem byt_of {x c : Int32} {s : Nat} (hs : s ≤ 24) (h1 : ((x.toUInt32 >>> (c.toUInt32 &&& Int32.toUInt32 31)).toInt32).toBitVec = x.toBitVec >>> s) (h2 : (x >>> (c &&& 31)).toBitVec = x.toBitVec.sshiftRight s) : ((x.toUInt32 >>> (c.toUInt32 &&& Int32.toUInt32 31)).toInt32).toInt8 = (x >>> (c &&& 31)).toInt8 := by
  apply Int8.toBitVec_inj.mp
  have e : ∀ y : Int32, y.toInt8.toBitVec = y.toBitVec.signExtend 8 := fun _ => rfl
  rw [e, e, h1, h2]
  apply BitVec.eq_of_getLsbD_eq
  intro i hi
  rw [BitVec.getLsbD_signExtend, BitVec.getLsbD_signExtend, if_pos (by omega), if_pos (by omega), BitVec.getLsbD_ushiftRight, BitVec.getLsbD_sshiftRight, if_pos (by omega), decide_eq_false (by omega : ¬ 32 ≤ i)]
  rfl
theorem byt24 (x : Int32) : ((x.toUInt32 >>> ((24 : Int32).toUInt32 &&& Int32.toUInt32 31)).toInt32).toInt8 = (x >>> ((24 : Int32) &&& 31)).toInt8 := byt_of (s := 24) (by omega) rfl (by rw [Int32.toBitVec_shiftRight]; rfl)
theorem byt16 (x : Int32) : ((x.toUInt32 >>> ((16 : Int32).toUInt32 &&& Int32.toUInt32 31)).toInt32).toInt8 = (x >>> ((16 : Int32) &&& 31)).toInt8 := byt_of (s := 16) (by omega) rfl (by rw [Int32.toBitVec_shiftRight]; rfl)
theorem byt8 (x : Int32) : ((x.toUInt32 >>> ((8 : Int32).toUInt32 &&& Int32.toUInt32 31)).toInt32).toInt8 = (x >>> ((8 : Int32) &&& 31)).toInt8 := byt_of (s := 8) (by omega) rfl (by rw [Int32.toBitVec_shiftRight]; rfl)
theorem byt0 (x : Int32) : ((x.toUInt32 >>> ((0 : Int32).toUInt32 &&& Int32.toUInt32 31)).toInt32).toInt8 = (x >>> ((0 : Int32) &&& 31)).toInt8 := byt_of (s := 0) (by omega) rfl (by rw [Int32.toBitVec_shiftRight]; rfl)
/-- both tapes: so many bytes, alike -/
def TR (m : Nat) (Ic Ir : tI) : Prop := (m ≤ 900 ∧ Ic 0 4 = Int32.ofNat m ∧ Ir 185 10 = Int32.ofNat m) ∧ ∀ i, i < m → Ic 9 i = Ir 191 i
section FD
variable {N N' m : Nat} {Ic Ir I1 I2 : tI} {Jc Jr J1 J2 : tJ} {v w : Int32}
theorem four_step {x c c' : Int32} {k k' : Nat} {Y Y' : Int32 × Int32 × tI × tJ} (hT : TR m Ic Ir) (hm : m < 900) (hc0 : xcmp .lt c 0 = false) (hc' : c + (-8) = c') (hb : ((x.toUInt32 >>> (c.toUInt32 &&& Int32.toUInt32 31)).toInt32).toInt8 = (x >>> (c &&& 31)).toInt8) (hc : f142_0_l3 N k Ic Jc x c = some Y) (hr : f218_185_l3 N' k' Ir Jr x c = some Y') : ∃ k1 k2 I3 I4, TR (m + 1) I3 I4 ∧ f142_0_l3 N k1 I3 Jc x c' = some Y ∧ f218_185_l3 N' k2 I4 Jr x c' = some Y' := by
  cases k with
  | zero => cases hc
  | succ k =>
  cases k' with
  | zero => cases hr
  | succ k' =>
  obtain ⟨⟨h9, h4, h10⟩, ht⟩ := hT
  simp only [f142_0_l3] at hc
  simp only [f218_185_l3] at hr
  rw [hc0, cond_false, h4, show xcmp .ge (Int32.ofNat m) 900 = decide (900 ≤ m) from oi_ge (q := 900) (by omega) (by omega), decide_eq_false (by omega), cond_false, oi_nat (by omega), oi_suc (by omega), hc'] at hc
  rw [hc0, cond_false, h10, oi_nat (by omega), oi_suc (by omega), hc'] at hr
  refine ⟨k, k', _, _, ⟨⟨by omega, tup_eq, tup_eq⟩, fun i hi => ?_⟩, hc, hr⟩
  refine (tup_ne (by omega)).trans (Eq.trans ?_ (tup_ne (by omega)).symm)
  by_cases e : i = m
  · rw [e, tup_eq, tup_eq, hb]
  · rw [tup_ne (by omega), tup_ne (by omega)]
    exact ht i (by omega)
theorem four_end {x : Int32} {k k' : Nat} {Y Y' : Int32 × Int32 × tI × tJ} (hT : TR m Ic Ir) (hc : f142_0_l3 N k Ic Jc x (-8) = some Y) (hr : f218_185_l3 N' k' Ir Jr x (-8) = some Y') : TR m Y.2.2.1 Y'.2.2.1 ∧ Y.2.2.2 = Jc ∧ Y'.2.2.2 = Jr := by
  cases k with
  | zero => cases hc
  | succ k =>
  cases k' with
  | zero => cases hr
  | succ k' =>
  simp only [f142_0_l3] at hc
  simp only [f218_185_l3] at hr
  rw [show xcmp .lt (-8 : Int32) 0 = true from rfl, cond_true] at hc hr
  cases hc
  cases hr
  exact ⟨hT, rfl, rfl⟩
theorem four_rel {x : Int32} {u u' : Unit} (hT : TR m Ic Ir) (hm : m + 4 ≤ 900) (hc : f142_0 N Ic Jc x = some (u, I1, J1)) (hr : f218_185 N' Ir Jr x = some (u', I2, J2)) : TR (m + 4) I1 I2 ∧ J1 = Jc ∧ J2 = Jr := by
  unfold f142_0 at hc
  unfold f218_185 at hr
  cases e1 : f142_0_l3 N N Ic Jc x 24 with
  | none => rw [e1] at hc; cases hc
  | some Y =>
  cases e2 : f218_185_l3 N' N' Ir Jr x 24 with
  | none => rw [e2] at hr; cases hr
  | some Y' =>
  obtain ⟨a1, a2, Ia, Ib, t1, b1, b2⟩ := four_step (c := 24) (c' := 16) hT (by omega) (by decide) (by decide) (byt24 x) e1 e2
  obtain ⟨a3, a4, Ic', Id, t2, b3, b4⟩ := four_step (c := 16) (c' := 8) t1 (by omega) (by decide) (by decide) (byt16 x) b1 b2
  obtain ⟨a5, a6, Ie, If, t3, b5, b6⟩ := four_step (c := 8) (c' := 0) t2 (by omega) (by decide) (by decide) (byt8 x) b3 b4
  obtain ⟨a7, a8, Ig, Ih, t4, b7, b8⟩ := four_step (c := 0) (c' := -8) t3 (by omega) (by decide) (by decide) (byt0 x) b5 b6
  obtain ⟨t5, j1, j2⟩ := four_end t4 b7 b8
  obtain ⟨y1, y2, I3, J3⟩ := Y
  obtain ⟨y3, y4, I4, J4⟩ := Y'
  rw [e1] at hc
  rw [e2] at hr
  dsimp only at hc hr t5 j1 j2
  cases hc
  cases hr
  exact ⟨t5, j1, j2⟩
theorem feed_rel {a b c d e : Int32} (hT : TR m Ic Ir) (hc : f141_0 N Ic Jc a b c d e = some (v, I1, J1)) (hr : f217_185 N' Ir Jr a b c d e = some (w, I2, J2)) : v = w ∧ (∃ m', TR m' I1 I2) ∧ J1 = Jc ∧ J2 = Jr := by
  obtain ⟨⟨h9, h4, h10⟩, ht⟩ := id hT
  unfold f141_0 at hc
  unfold f217_185 at hr
  have e1 : xcmp .le (Int32.ofNat m + 20) 900 = decide (m + 20 ≤ 900) := by
    rw [show Int32.ofNat m + 20 = Int32.ofNat (m + 20) from oi_add (b := 20), tc_le, oi_int (by omega), show (900 : Int32).toInt = 900 from rfl]
    exact decide_eq_decide.mpr (by omega)
  rw [h4, e1] at hc
  rw [h10, e1] at hr
  by_cases hm : m + 20 ≤ 900
  · rw [decide_eq_true hm, cond_true] at hc hr
    replace hc := obU hc
    obtain ⟨_, Ia, Ja, c1, hc⟩ := hc
    replace hc := obU hc
    obtain ⟨_, Ib, Jb, c2, hc⟩ := hc
    replace hc := obU hc
    obtain ⟨_, Ic', Jc', c3, hc⟩ := hc
    replace hc := obU hc
    obtain ⟨_, Id, Jd, c4, hc⟩ := hc
    replace hc := obU hc
    obtain ⟨_, Ie, Je, c5, hc⟩ := hc
    replace hr := obU hr
    obtain ⟨_, Ka, La, r1, hr⟩ := hr
    replace hr := obU hr
    obtain ⟨_, Kb, Lb, r2, hr⟩ := hr
    replace hr := obU hr
    obtain ⟨_, Kc, Lc, r3, hr⟩ := hr
    replace hr := obU hr
    obtain ⟨_, Kd, Ld, r4, hr⟩ := hr
    replace hr := obU hr
    obtain ⟨_, Ke, Le, r5, hr⟩ := hr
    obtain ⟨t1, p1, q1⟩ := four_rel hT (by omega) c1 r1
    obtain ⟨t2, p2, q2⟩ := four_rel t1 (by omega) c2 r2
    obtain ⟨t3, p3, q3⟩ := four_rel t2 (by omega) c3 r3
    obtain ⟨t4, p4, q4⟩ := four_rel t3 (by omega) c4 r4
    obtain ⟨t5, p5, q5⟩ := four_rel t4 (by omega) c5 r5
    cases hc
    cases hr
    refine ⟨?_, ⟨_, t5⟩, by rw [p5, p4, p3, p2, p1], by rw [q5, q4, q3, q2, q1]⟩
    rw [t5.1.2.1, t5.1.2.2]
  · rw [decide_eq_false hm, cond_false] at hc hr
    cases hc
    cases hr
    exact ⟨rfl, ⟨m, hT⟩, rfl, rfl⟩
/-- runs(n): what becomes of the tapes -/
theorem runs_c {a : Int32} (h4 : Ic 0 4 = Int32.ofNat m) (hm : m ≤ 900) (hc : f144_0 N Ic Jc a = some (v, I1, J1)) : I1 0 4 = (if 0 ≤ a.toInt ∧ a.toInt ≤ m ∧ a.toInt ≤ 300 then 0 else Int32.ofNat m) := by
  unfold f144_0 at hc
  have e1 : (if (300 : Int32) < Ic 0 4 then (300 : Int32) else Ic 0 4).toInt = (if 300 < m then 300 else (m : Int)) := by
    rw [h4]
    by_cases q : 300 < m
    · rw [if_pos q, if_pos]
      · rfl
      · rw [Int32.lt_iff_toInt_lt, oi_int (by omega), show (300 : Int32).toInt = 300 from rfl]
        omega
    · rw [if_neg q, if_neg]
      · rw [oi_int (by omega)]
      · rw [Int32.lt_iff_toInt_lt, oi_int (by omega), show (300 : Int32).toInt = 300 from rfl]
        omega
  rw [f127_is, e1, show (0 : Int32).toInt = 0 from rfl] at hc
  dsimp only at hc
  by_cases hin : 0 ≤ a.toInt ∧ a.toInt ≤ (if 300 < m then 300 else (m : Int))
  · rw [if_pos hin, n10, cond_true] at hc
    replace hc := obI hc
    obtain ⟨v3, I3, J3, e3, hc⟩ := hc
    have k3 := (f51_60_10_frG e3).1 0 4 rfl
    rw [tup_eq] at k3
    unfold f145_0 at hc
    dsimp only at hc
    rw [if_pos (by split at hin <;> omega)]
    rcases bsp hc with ⟨-, hc⟩ | ⟨-, hc⟩
    · generalize e6 : f72_26_61 (tup (tup I3 0 8 (I3 8 9)) 0 9 (I3 8 10)) J3 = q6 at hc
      obtain ⟨u6, I6, J6⟩ := q6
      dsimp only at hc
      have k6 := (f72_26_61_frG e6).1 0 4 rfl
      unfold f121_0 at hc
      dsimp only at hc
      cases hc
      rw [tup_ne (by omega), k6, tup_ne (by omega), tup_ne (by omega)]
      exact k3
    · unfold f122_0 at hc
      dsimp only at hc
      cases hc
      rw [tup_ne (by omega), tup_ne (by omega), tup_ne (by omega)]
      exact k3
  · rw [if_neg hin, n00, cond_false] at hc
    unfold f122_0 at hc
    dsimp only at hc
    cases hc
    rw [if_neg (by split at hin <;> omega), tup_ne (by omega)]
    exact h4
theorem runs_r {a : Int32} (h10 : Ir 185 10 = Int32.ofNat m) (hm : m ≤ 900) (hr : f250_185 N' Ir Jr a = some (w, I2, J2)) : I2 185 10 = (if 0 ≤ a.toInt ∧ a.toInt ≤ m ∧ a.toInt ≤ 300 then 0 else Int32.ofNat m) := by
  unfold f250_185 at hr
  replace hr := obI hr
  obtain ⟨w1, Ia, Ja, b1, hr⟩ := hr
  unfold f226_185 at b1
  have z0 : (0 : Int32).toInt = 0 := rfl
  rw [h10, tc_lt, z0, tc_gt, oi_int (by omega), tc_le, show (300 : Int32).toInt = 300 from rfl] at b1
  by_cases hin : 0 ≤ a.toInt ∧ a.toInt ≤ m ∧ a.toInt ≤ 300
  · rw [decide_eq_false (by omega), cond_false, decide_eq_false (by omega), cond_false, decide_eq_true (by omega), cond_true] at b1
    cases e2 : f226_185_l26 N' N' (tup Ir 185 11 a) Jr a 0 with
    | none => rw [e2] at b1; cases b1
    | some Y =>
    obtain ⟨y1, y2, I4, J4⟩ := Y
    rw [e2] at b1
    dsimp only at b1
    replace b1 := obU b1
    obtain ⟨u2, I5, J5, e3, b1⟩ := b1
    cases b1
    have k1 := (f222_185_frE e3).1 185 10 rfl
    rw [tup_ne (by omega), tup_ne (by omega), tup_ne (by omega), tup_ne (by omega), tup_eq] at k1
    rw [n10, cond_true] at hr
    cases e4 : f250_185_l38 N' N' (tup (tup (tup Ia 186 2488 0) 185 22 0) 185 23 0) Ja 1 with
    | none => rw [e4] at hr; cases hr
    | some Y =>
    obtain ⟨y3, I6, J6⟩ := Y
    rw [e4] at hr
    dsimp only at hr
    have k2 := (f250_185_l38_frE N' e4).1 185 10 rfl
    rw [tup_ne (by omega), tup_ne (by omega), tup_ne (by omega), k1] at k2
    have k3 := (f250_185_j57_frE hr).1 185 10 rfl
    rw [if_pos hin, k3, k2]
  · have hw : w1 = 0 ∧ Ia = Ir ∧ Ja = Jr := by
      rcases bsp b1 with ⟨-, b1⟩ | ⟨q1, b1⟩
      · cases b1
        exact ⟨rfl, rfl, rfl⟩
      · rcases bsp b1 with ⟨-, b1⟩ | ⟨q2, b1⟩
        · cases b1
          exact ⟨rfl, rfl, rfl⟩
        · rw [decide_eq_false (fun q => hin ⟨by have := of_decide_eq_false q1; omega, by have := of_decide_eq_false q2; omega, q⟩), cond_false] at b1
          cases b1
          exact ⟨rfl, rfl, rfl⟩
    obtain ⟨rfl, rfl, rfl⟩ := hw
    rw [n00, cond_false] at hr
    unfold f205_185 at hr
    dsimp only at hr
    cases hr
    rw [if_neg hin, tup_ne (by omega)]
    exact h10
end FD
