/-! THE LAW'S FIRST STEPS -/
noncomputable def rLawX : xR := match xmeth 356 with
  | some r => r
  | none => ([], 0, 0)
theorem rLawX_ok : xmeth 356 = some rLawX := rfl
def lOne : xL := [(3, .int 0), (2, .ref 185), (1, .ref 0), (0, .retAddr 0)]
def cFree (v : Value) : Bool := match v with
  | .float _ => false
  | .double _ => false
  | .retAddr _ => false
  | _ => true
theorem yrv_free {bx : List (Int × Int)} {v w : Value} (h : cFree v = true) : yrv bx v w ↔ w = v := by
  cases v <;> first | (cases h; done) | exact Iff.rfl
theorem mOne_free : mOne.all (fun o => o.2.all cFree) = true := by decide +kernel
theorem xdf_self (bx : List (Int × Int)) : ∀ (k : Nat) (v : Value), v ∈ xdf k → yrv bx v v := by
  intro k v hv
  rcases xdf_in v hv with rfl | rfl | rfl <;> rfl
theorem yrs_free {bx : List (Int × Int)} : ∀ {l w : List Value}, l.all cFree = true → yrs bx l w → w = l
  | [], _, _, h => h
  | v :: l, _, hf, ⟨v', l', h1, h2, h3⟩ => by
    simp only [List.all_cons, Bool.and_eq_true] at hf
    rw [h1, (yrv_free hf.1).mp h2, yrs_free hf.2 h3]
theorem yrm_free {bx : List (Int × Int)} : ∀ {M N : xM}, (M.all fun o => o.2.all cFree) = true → yrm bx M N → N = M
  | [], _, _, h => h
  | o :: M, _, hf, ⟨sl, M', h1, h2, h3⟩ => by
    simp only [List.all_cons, Bool.and_eq_true] at hf
    rw [h1, yrs_free hf.1 h2, yrm_free hf.2 h3]
theorem ini_x {f y a : Nat} {M N : xM} (h : iniB f (zmeth y) a M N = true) (hM : ∀ bx, yrm bx M M) (hN : (N.all fun o => o.2.all cFree) = true) (sc : List Int32) : ∃ r, xmeth y = some r ∧ xrun xmeth xty xdf sc f r 0 [(0, .ref a)] [] M = some (none, N) := by
  unfold iniB at h
  split at h
  · rename_i zr hzr
    split at h
    · rename_i M1 hq
      have e := meq_ok h
      subst e
      rw [zq_eq] at hq
      obtain ⟨r, h1, h2⟩ := zmeth_ok y zr hzr
      have hy := zrun_ok zmeth_ok f h2 hq
      obtain ⟨Mf', g1, -, g3⟩ := yrun_ok (sc := sc) rfl rfl (xdf_self _) (Or.inl rfl) f hy (L' := [(0, .ref a)]) (st' := []) (M' := M) ⟨_, _, rfl, rfl, rfl⟩ rfl (hM _)
      rw [yrm_free hN g3] at g1
      exact ⟨r, h1, g1⟩
    · cases h
  · cases h
theorem one_185 : (mOne.take 185).length = 185 := by decide +kernel
theorem one_len : mOne.length = 203 := by decide +kernel
theorem one_z : xz mOne ≤ 7302250 := by decide +kernel
theorem one_free2 : ((mOne.take 185).all fun o => o.2.all cFree) = true := List.all_eq_true.mpr (fun o ho => List.all_eq_true.mp mOne_free o (List.mem_of_mem_take ho))
theorem law_preS {sc : List Int32} {Q : Option Value → xM → Prop} (h : sw sc rLawX 18 lOne [] mOne Q) : sw sc rLawX 0 [(0, .retAddr 0)] [] [] Q := by
  have hA : ∀ bx, yrm bx [(11, xdf 11)] [(11, xdf 11)] := fun bx => yrm_refl (fun o ho v hv => by
    rw [List.mem_singleton] at ho
    subst ho
    exact xdf_self bx 11 v hv)
  have hB : ∀ bx, yrm bx (mOne.take 185 ++ [(12, xdf 12)]) (mOne.take 185 ++ [(12, xdf 12)]) := fun bx => yrm_refl (fun o ho v hv => by
    rcases List.mem_append.mp ho with ho | ho
    · exact (yrv_free (List.all_eq_true.mp (List.all_eq_true.mp one_free2 o ho) v hv)).mpr rfl
    · rw [List.mem_singleton] at ho
      subst ho
      exact xdf_self bx 12 v hv)
  obtain ⟨r1, hr1, h1⟩ := ini_x ini_b1 hA one_free2 sc
  obtain ⟨r2, hr2, h2⟩ := ini_x ini_b2 hB mOne_free sc
  have n1 : Nat.ble 1 r1.2.1 = true := by
    have : (xmeth 117).map (fun r => Nat.ble 1 r.2.1) = some true := rfl
    rw [hr1] at this
    exact Option.some.inj this
  have n2 : Nat.ble 1 r2.2.1 = true := by
    have : (xmeth 199).map (fun r => Nat.ble 1 r.2.1) = some true := rfl
    rw [hr2] at this
    exact Option.some.inj this
  refine sw_0 (e := (.new 7, 11, 20, 0)) (pc' := 3) (L' := [(0, .retAddr 0)]) (st' := [.ref 0]) (M' := [(11, xdf 11)]) rfl rfl rfl ?_
  refine sw_0 (e := (.dup, 0, 0, 0)) (pc' := 4) (L' := [(0, .retAddr 0)]) (st' := [.ref 0, .ref 0]) (M' := [(11, xdf 11)]) rfl rfl rfl ?_
  refine sw_1 (e := (.invokespecial 9, 117, 1, 0)) (as := [.ref 0]) (rest := [.ref 0]) (r' := r1) (P := fun v M' => v = none ∧ M' = mOne.take 185) rfl rfl rfl rfl hr1 n1 ⟨_, _, _, srun_of _ h1, rfl, rfl⟩ (fun v M1 hv => ?_)
  obtain ⟨rfl, rfl⟩ := hv
  refine sw_0 (e := (.astore_n 1, 0, 0, 0)) (pc' := 8) (L' := [(1, .ref 0), (0, .retAddr 0)]) (st' := []) (M' := mOne.take 185) rfl rfl rfl ?_
  refine sw_0 (e := (.new 10, 12, 37, 0)) (pc' := 11) (L' := [(1, .ref 0), (0, .retAddr 0)]) (st' := [.ref (mOne.take 185).length]) (M' := mOne.take 185 ++ [(12, xdf 12)]) rfl rfl rfl ?_
  rw [one_185]
  refine sw_0 (e := (.dup, 0, 0, 0)) (pc' := 12) (L' := [(1, .ref 0), (0, .retAddr 0)]) (st' := [.ref 185, .ref 185]) (M' := mOne.take 185 ++ [(12, xdf 12)]) rfl rfl rfl ?_
  refine sw_1 (e := (.invokespecial 12, 199, 1, 0)) (as := [.ref 185]) (rest := [.ref 185]) (r' := r2) (P := fun v M' => v = none ∧ M' = mOne) rfl rfl rfl rfl hr2 n2 ⟨_, _, _, srun_of _ h2, rfl, rfl⟩ (fun v M1 hv => ?_)
  obtain ⟨rfl, rfl⟩ := hv
  refine sw_0 (e := (.astore_n 2, 0, 0, 0)) (pc' := 16) (L' := [(2, .ref 185), (1, .ref 0), (0, .retAddr 0)]) (st' := []) (M' := mOne) rfl rfl rfl ?_
  refine sw_0 (e := (.iconst 0, 0, 0, 0)) (pc' := 17) (L' := [(2, .ref 185), (1, .ref 0), (0, .retAddr 0)]) (st' := [.int 0]) (M' := mOne) rfl rfl rfl ?_
  exact sw_0 (e := (.istore_n 3, 0, 0, 0)) (pc' := 18) (L' := lOne) (st' := []) (M' := mOne) rfl rfl rfl h
