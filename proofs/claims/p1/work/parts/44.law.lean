/-! THE LAW'S FIRST STEPS, AND SHORT SCRIPTS -/
section XR
variable {ms : Nat → Option xR} {ty : Nat → Nat → FieldType} {df : Nat → List Value} {sc : List Int32} {f : Nat} {r : xR} {pc : Nat} {L : xL} {st : List Value} {M : xM}
theorem xr_0 {e : xE} {pc' : Nat} {L' : xL} {st' : List Value} {M' : xM} (he : xat r.1 pc = some e) (hk : xkind e = 0) (hx : x1 ty df sc e pc L st M = some (pc', L', st', M')) : xrun ms ty df sc (f + 1) r pc L st M = xrun ms ty df sc f r pc' L' st' M' := by
  simp only [xrun, he, hk, hx]
theorem xr_1 {e : xE} {as rest : List Value} {r' : xR} {a : Option Value × xM} (he : xat r.1 pc = some e) (hk : xkind e = 1) (hp : xpop e.2.2.1 [] st = some (as, rest)) (hc : (xcat8 rest && xrecv e as M) = true) (hm : ms e.2.1 = some r') (hn : Nat.ble (xcats as) r'.2.1 = true) (ha : xrun ms ty df sc f r' 0 (lv_args 0 as) [] M = some a) : xrun ms ty df sc (f + 1) r pc L st M = xrun ms ty df sc f r (pc + 3) L (xpush a.1 rest) a.2 := by
  simp only [xrun, he, hk, hp, hc, cond_true, hm, hn, ha]
theorem xr_2 {e : xE} {v : Option Value} (he : xat r.1 pc = some e) (hk : xkind e = 2) (hv : xend r.2.2 e st = some v) : xrun ms ty df sc (f + 1) r pc L st M = some (v, M) := by
  simp only [xrun, he, hk, hv]
end XR
/-- the answer, whatever the fuel -/
def xev (sc : List Int32) (r : xR) (pc : Nat) (L : xL) (st : List Value) (M : xM) (res : Option Value × xM) : Prop := ∃ g, xrun xmeth xty xdf sc g r pc L st M = some res
section XE
variable {sc : List Int32} {r : xR} {pc : Nat} {L : xL} {st : List Value} {M : xM} {res : Option Value × xM}
theorem xev_0 {e : xE} {pc' : Nat} {L' : xL} {st' : List Value} {M' : xM} (he : xat r.1 pc = some e) (hk : xkind e = 0) (hx : x1 xty xdf sc e pc L st M = some (pc', L', st', M')) (h : xev sc r pc' L' st' M' res) : xev sc r pc L st M res := by
  obtain ⟨g, hg⟩ := h
  exact ⟨g + 1, (xr_0 he hk hx).trans hg⟩
theorem xev_1 {e : xE} {as rest : List Value} {r' : xR} {v : Option Value} {M1 : xM} (he : xat r.1 pc = some e) (hk : xkind e = 1) (hp : xpop e.2.2.1 [] st = some (as, rest)) (hc : (xcat8 rest && xrecv e as M) = true) (hm : xmeth e.2.1 = some r') (hn : Nat.ble (xcats as) r'.2.1 = true) (ha : xev sc r' 0 (lv_args 0 as) [] M (v, M1)) (h : xev sc r (pc + 3) L (xpush v rest) M1 res) : xev sc r pc L st M res := by
  obtain ⟨g1, h1⟩ := ha
  obtain ⟨g2, h2⟩ := h
  have a1 := xrun_le g1 (g1 + g2) (by omega) h1
  have a2 := xrun_le g2 (g1 + g2) (by omega) h2
  exact ⟨g1 + g2 + 1, (xr_1 he hk hp hc hm hn a1).trans a2⟩
theorem xev_2 {e : xE} {v : Option Value} (he : xat r.1 pc = some e) (hk : xkind e = 2) (hv : xend r.2.2 e st = some v) : xev sc r pc L st M (v, M) := ⟨1, xr_2 he hk hv⟩
end XE
theorem yrs_free {bx : List (Int × Int)} : ∀ {l w : List Value}, l.all cFree = true → yrs bx l w → w = l
  | [], _, _, h => h
  | v :: l, _, hf, ⟨v', l', h1, h2, h3⟩ => by
    simp only [List.all_cons, Bool.and_eq_true] at hf
    rw [h1, (yrv_free hf.1).mp h2, yrs_free hf.2 h3]
theorem yrm_free {bx : List (Int × Int)} : ∀ {M N : xM}, (M.all fun o => o.2.all cFree) = true → yrm bx M N → N = M
  | [], _, _, h => h
  | o :: M, _, hf, ⟨sl, M', h1, h2, h3⟩ => by
    simp only [List.all_cons, Bool.and_eq_true] at hf
    rw [h1, yrs_free hf.1 h2, yrm_free hf.2 h3]
theorem ini_x {f y a : Nat} {M N : xM} (h : iniB f (zmeth y) a M N = true) (hM : ∀ bx, yrm bx M M) (hN : (N.all fun o => o.2.all cFree) = true) (sc : List Int32) : ∃ r, xmeth y = some r ∧ xrun xmeth xty xdf sc f r 0 [(0, .ref a)] [] M = some (none, N) := by
  unfold iniB at h
  split at h
  · rename_i zr hzr
    split at h
    · rename_i M1 hq
      have e := meq_ok h
      subst e
      rw [zq_eq] at hq
      obtain ⟨r, h1, h2⟩ := zmeth_ok y zr hzr
      have hy := zrun_ok zmeth_ok f h2 hq
      obtain ⟨Mf', g1, -, g3⟩ := yrun_ok (sc := sc) rfl rfl (xdf_self _) (Or.inl rfl) f hy (L' := [(0, .ref a)]) (st' := []) (M' := M) ⟨_, _, rfl, rfl, rfl⟩ rfl (hM _)
      rw [yrm_free hN g3] at g1
      exact ⟨r, h1, g1⟩
    · cases h
  · cases h
theorem one_185 : (mOne.take 185).length = 185 := by decide +kernel
theorem one_len : mOne.length = 203 := by decide +kernel
theorem one_z : xz mOne ≤ 7302250 := by decide +kernel
theorem one_free2 : ((mOne.take 185).all fun o => o.2.all cFree) = true := List.all_eq_true.mpr (fun o ho => List.all_eq_true.mp mOne_free o (List.mem_of_mem_take ho))
theorem law_pre {sc : List Int32} {res : Option Value × xM} (h : xev sc rLawX 18 lOne [] mOne res) : xev sc rLawX 0 [(0, .retAddr 0)] [] [] res := by
  have hA : ∀ bx, yrm bx [(11, xdf 11)] [(11, xdf 11)] := fun bx => yrm_refl (fun o ho v hv => by
    rw [List.mem_singleton] at ho
    subst ho
    exact xdf_self bx 11 v hv)
  have hB : ∀ bx, yrm bx (mOne.take 185 ++ [(12, xdf 12)]) (mOne.take 185 ++ [(12, xdf 12)]) := fun bx => yrm_refl (fun o ho v hv => by
    rcases List.mem_append.mp ho with ho | ho
    · exact (yrv_free (List.all_eq_true.mp (List.all_eq_true.mp one_free2 o ho) v hv)).mpr rfl
    · rw [List.mem_singleton] at ho
      subst ho
      exact xdf_self bx 12 v hv)
  obtain ⟨r1, hr1, h1⟩ := ini_x ini_b1 hA one_free2 sc
  obtain ⟨r2, hr2, h2⟩ := ini_x ini_b2 hB mOne_free sc
  have n1 : Nat.ble 1 r1.2.1 = true := by
    have : (xmeth 117).map (fun r => Nat.ble 1 r.2.1) = some true := rfl
    rw [hr1] at this
    exact Option.some.inj this
  have n2 : Nat.ble 1 r2.2.1 = true := by
    have : (xmeth 199).map (fun r => Nat.ble 1 r.2.1) = some true := rfl
    rw [hr2] at this
    exact Option.some.inj this
  refine xev_0 (e := (.new 7, 11, 20, 0)) (pc' := 3) (L' := [(0, .retAddr 0)]) (st' := [.ref 0]) (M' := [(11, xdf 11)]) rfl rfl rfl ?_
  refine xev_0 (e := (.dup, 0, 0, 0)) (pc' := 4) (L' := [(0, .retAddr 0)]) (st' := [.ref 0, .ref 0]) (M' := [(11, xdf 11)]) rfl rfl rfl ?_
  refine xev_1 (e := (.invokespecial 9, 117, 1, 0)) (as := [.ref 0]) (rest := [.ref 0]) (r' := r1) (v := none) (M1 := mOne.take 185) rfl rfl rfl rfl hr1 n1 ⟨_, h1⟩ ?_
  refine xev_0 (e := (.astore_n 1, 0, 0, 0)) (pc' := 8) (L' := [(1, .ref 0), (0, .retAddr 0)]) (st' := []) (M' := mOne.take 185) rfl rfl rfl ?_
  refine xev_0 (e := (.new 10, 12, 37, 0)) (pc' := 11) (L' := [(1, .ref 0), (0, .retAddr 0)]) (st' := [.ref (mOne.take 185).length]) (M' := mOne.take 185 ++ [(12, xdf 12)]) rfl rfl rfl ?_
  rw [one_185]
  refine xev_0 (e := (.dup, 0, 0, 0)) (pc' := 12) (L' := [(1, .ref 0), (0, .retAddr 0)]) (st' := [.ref 185, .ref 185]) (M' := mOne.take 185 ++ [(12, xdf 12)]) rfl rfl rfl ?_
  refine xev_1 (e := (.invokespecial 12, 199, 1, 0)) (as := [.ref 185]) (rest := [.ref 185]) (r' := r2) (v := none) (M1 := mOne) rfl rfl rfl rfl hr2 n2 ⟨_, h2⟩ ?_
  refine xev_0 (e := (.astore_n 2, 0, 0, 0)) (pc' := 16) (L' := [(2, .ref 185), (1, .ref 0), (0, .retAddr 0)]) (st' := []) (M' := mOne) rfl rfl rfl ?_
  refine xev_0 (e := (.iconst 0, 0, 0, 0)) (pc' := 17) (L' := [(2, .ref 185), (1, .ref 0), (0, .retAddr 0)]) (st' := [.int 0]) (M' := mOne) rfl rfl rfl ?_
  exact xev_0 (e := (.istore_n 3, 0, 0, 0)) (pc' := 18) (L' := lOne) (st' := []) (M' := mOne) rfl rfl rfl h
theorem law_short {sc : List Int32} (n : Int32) (hn : Int32.ofNat sc.length = n) (hc : xcmp .gt 0 (n - 6) = true) : xev sc rLawX 18 lOne [] mOne (some (.int 1), mOne) := by
  refine xev_0 (e := (.iload_n 3, 0, 0, 0)) (pc' := 19) (L' := lOne) (st' := [.int 0]) (M' := mOne) rfl rfl rfl ?_
  refine xev_0 (e := (.aload_n 0, 0, 0, 0)) (pc' := 20) (L' := lOne) (st' := [.retAddr 0, .int 0]) (M' := mOne) rfl rfl rfl ?_
  refine xev_0 (e := (.arraylength, 0, 0, 0)) (pc' := 21) (L' := lOne) (st' := [.int (Int32.ofNat sc.length), .int 0]) (M' := mOne) rfl rfl rfl ?_
  rw [hn]
  refine xev_0 (e := (.bipush 6, 0, 0, 0)) (pc' := 23) (L' := lOne) (st' := [.int 6, .int n, .int 0]) (M' := mOne) rfl rfl rfl ?_
  refine xev_0 (e := (.isub, 0, 0, 0)) (pc' := 24) (L' := lOne) (st' := [.int (n - 6), .int 0]) (M' := mOne) rfl rfl rfl ?_
  refine xev_0 (e := (.if_icmp .gt 2200, 2224, 0, 0)) (pc' := bif xcmp .gt 0 (n - 6) then 2224 else 27) (L' := lOne) (st' := []) (M' := mOne) rfl rfl rfl ?_
  rw [hc]
  refine xev_0 (e := (.iconst 1, 0, 0, 0)) (pc' := 2225) (L' := lOne) (st' := [.int 1]) (M' := mOne) rfl rfl rfl ?_
  exact xev_2 (e := (.ireturn, 0, 0, 0)) rfl rfl rfl
theorem and63 (x : Int32) : ∃ k, k < 64 ∧ x &&& 63 = Int32.ofNat k := by
  refine ⟨(x &&& 63).toBitVec.toNat, ?_, ?_⟩
  · rw [Int32.toBitVec_and, BitVec.toNat_and]
    exact Nat.lt_of_le_of_lt Nat.and_le_right (by decide)
  · apply Int32.toBitVec_inj.mp
    show _ = BitVec.ofNat 32 _
    rw [BitVec.ofNat_toNat, BitVec.setWidth_eq]
theorem cX_in (x : Int32) : cX.1 ≤ x.toInt ∧ x.toInt ≤ cX.2 := ⟨Int32.le_toInt x, Int32.toInt_le x⟩
theorem law_of (H : ∀ k, k < 64 → cGood k [cX, cX, cX, cX, cX]) : ∀ sc : List Int32, sc.length ≤ 6 → lawDone sc := by
  intro sc hl
  have hs : ∀ n : Int32, Int32.ofNat sc.length = n → xcmp .gt 0 (n - 6) = true → lawDone sc := fun n h1 h2 => by
    obtain ⟨g, hg⟩ := law_pre (law_short n h1 h2)
    exact ⟨g, mOne, hg, by rw [one_len]; omega, one_z⟩
  match sc, hl with
  | [], _ => exact hs 0 rfl (by decide)
  | [_], _ => exact hs 1 rfl (by decide)
  | [_, _], _ => exact hs 2 rfl (by decide)
  | [_, _, _], _ => exact hs 3 rfl (by decide)
  | [_, _, _, _], _ => exact hs 4 rfl (by decide)
  | [_, _, _, _, _], _ => exact hs 5 rfl (by decide)
  | [x0, a, b, c, d, e], _ =>
    obtain ⟨k, hk, hx⟩ := and63 x0
    obtain ⟨f, Mf, h1, h2, h3⟩ := H k hk x0 [a, b, c, d, e] hx ⟨cX_in a, cX_in b, cX_in c, cX_in d, cX_in e, trivial⟩
    obtain ⟨g, hg⟩ := law_pre ⟨f, h1⟩
    exact ⟨g, Mf, hg, by rw [h2, one_len]; omega, by rw [h3]; exact one_z⟩
  | _ :: _ :: _ :: _ :: _ :: _ :: _ :: _, h => exact absurd h (by simp only [List.length_cons]; omega)
