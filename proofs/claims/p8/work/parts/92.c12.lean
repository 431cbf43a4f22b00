/-! ROWS TAKEN OVER, BY HAND -/
/-- all of a row of ints comes to another row -/
theorem tw_cp {sc : List Int32} {t : nTb} {ml : nMl} {r : xR} {pc i b m s d : Nat} {z : Int} {L : xL} {vn : Int32} {B : xM} {I : tI} {J : tJ} {Q : Option Value → xM → Prop} (hB : kB (nTm t ml) B) (he : xat r.1 pc = some (.invokestatic i, 5001, b, z)) (hs : t.1.1 s = some (20, m)) (hd : t.1.1 d = some (20, m)) (ts : ∀ k, k < m → (t.1.2 s k).1 = 0) (td : ∀ k, k < m → (t.1.2 d k).1 = 0) (hn : vn.toInt = m) (kk : sw sc r (pc + 3) L [] (tMem B (tcp I d 0 s 0 m) J) Q) : sw sc r pc L [.int vn, .int 0, .ref d, .int 0, .ref s] (tMem B I J) Q := by
  obtain ⟨sl, s1, s2, s3⟩ := hB s _ hs
  obtain ⟨dl, d1, d2, d3⟩ := hB d _ hd
  dsimp only at s1 s2 s3 d1 d2 d3
  have un := i_nat hn
  have hM := tcpI (I := I) (J := J) (n := m) (dp := 0) (sp := 0) s1 d1 (by omega) (by omega) (fun k hk => by
    obtain ⟨v, v1, v2, -⟩ := s3 (0 + k) (by omega)
    exact ⟨v, v1, v2 (ts _ (by omega))⟩) (fun k hk => by
    obtain ⟨v, v1, v2, -⟩ := d3 (0 + k) (by omega)
    exact ⟨v, v1, v2 (td _ (by omega))⟩)
  have h20 : xacopy 20 pc L vn 0 0 d s [] (tMem B I J) = some (pc + 3, L, [], tMem B (tcp I d 0 s 0 m) J) := by
    unfold xacopy
    rw [tarr s1]
    dsimp only
    rw [tarr d1]
    dsimp only
    have z0 : (0 : Int32).toNatClampNeg = 0 := rfl
    have q1 : Nat.blt (tS I J s 0 sl).length ((0 : Int32).toNatClampNeg + vn.toNatClampNeg) = false := by
      rw [tS_len, z0, un]
      cases hh : Nat.blt sl.length (0 + m) with
      | false => rfl
      | true => have := Nat.blt_eq.mp hh; omega
    have q2 : Nat.blt (tS I J d 0 dl).length ((0 : Int32).toNatClampNeg + vn.toNatClampNeg) = false := by
      rw [tS_len, z0, un]
      cases hh : Nat.blt dl.length (0 + m) with
      | false => rfl
      | true => have := Nat.blt_eq.mp hh; omega
    rw [ti_neg (show 0 ≤ (0 : Int32).toInt from Int.le_refl _), ti_neg (show 0 ≤ vn.toInt by omega), q1, q2]
    simp only [Bool.or_self, cond_false]
    rw [z0, un, hM]
  refine sw_0 he rfl (?_ : (bif xcat8 ([] : List Value) then (match xacopy 20 pc L vn 0 0 d s [] (tMem B I J) with
    | some q => some q
    | none => xacopy 22 pc L vn 0 0 d s [] (tMem B I J)) else none) = _) kk
  rw [h20]
  rfl
theorem tw_cpL {sc : List Int32} {t : nTb} {ml : nMl} {r : xR} {pc i b m s d : Nat} {z : Int} {L : xL} {vn : Int32} {B : xM} {I : tI} {J : tJ} {Q : Option Value → xM → Prop} (hB : kB (nTm t ml) B) (he : xat r.1 pc = some (.invokestatic i, 5001, b, z)) (hs : t.1.1 s = some (22, m)) (hd : t.1.1 d = some (22, m)) (ts : ∀ k, k < m → (t.1.2 s k).1 = 1) (td : ∀ k, k < m → (t.1.2 d k).1 = 1) (hn : vn.toInt = m) (kk : sw sc r (pc + 3) L [] (tMem B I (tcp J d 0 s 0 m)) Q) : sw sc r pc L [.int vn, .int 0, .ref d, .int 0, .ref s] (tMem B I J) Q := by
  obtain ⟨sl, s1, s2, s3⟩ := hB s _ hs
  obtain ⟨dl, d1, d2, d3⟩ := hB d _ hd
  dsimp only at s1 s2 s3 d1 d2 d3
  have un := i_nat hn
  have hM := tcpJ (I := I) (J := J) (n := m) (dp := 0) (sp := 0) s1 d1 (by omega) (by omega) (fun k hk => by
    obtain ⟨v, v1, v2, v3, -⟩ := s3 (0 + k) (by omega)
    exact ⟨v, v1, v3 (ts _ (by omega))⟩) (fun k hk => by
    obtain ⟨v, v1, v2, v3, -⟩ := d3 (0 + k) (by omega)
    exact ⟨v, v1, v3 (td _ (by omega))⟩)
  have h20 : xacopy 20 pc L vn 0 0 d s [] (tMem B I J) = none := by
    unfold xacopy
    rw [xarr_no (tarr s1) rfl]
  have h22 : xacopy 22 pc L vn 0 0 d s [] (tMem B I J) = some (pc + 3, L, [], tMem B I (tcp J d 0 s 0 m)) := by
    unfold xacopy
    rw [tarr s1]
    dsimp only
    rw [tarr d1]
    dsimp only
    have z0 : (0 : Int32).toNatClampNeg = 0 := rfl
    have q1 : Nat.blt (tS I J s 0 sl).length ((0 : Int32).toNatClampNeg + vn.toNatClampNeg) = false := by
      rw [tS_len, z0, un]
      cases hh : Nat.blt sl.length (0 + m) with
      | false => rfl
      | true => have := Nat.blt_eq.mp hh; omega
    have q2 : Nat.blt (tS I J d 0 dl).length ((0 : Int32).toNatClampNeg + vn.toNatClampNeg) = false := by
      rw [tS_len, z0, un]
      cases hh : Nat.blt dl.length (0 + m) with
      | false => rfl
      | true => have := Nat.blt_eq.mp hh; omega
    rw [ti_neg (show 0 ≤ (0 : Int32).toInt from Int.le_refl _), ti_neg (show 0 ≤ vn.toInt by omega), q1, q2]
    simp only [Bool.or_self, cond_false]
    rw [z0, un, hM]
  refine sw_0 he rfl (?_ : (bif xcat8 ([] : List Value) then (match xacopy 20 pc L vn 0 0 d s [] (tMem B I J) with
    | some q => some q
    | none => xacopy 22 pc L vn 0 0 d s [] (tMem B I J)) else none) = _) kk
  rw [h20, h22]
  rfl
