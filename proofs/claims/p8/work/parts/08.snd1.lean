/-! EACH INSTRUCTION OF THE INTERPRETER IS THE MACHINE's -/
def xXX (sc : List Int32) (b : Nat → Nat) (s : State) (H0 : Heap) : Prop := va_X (b 0) sc.length (fun j => sc.getD j 0) s H0 ∧ ∃ adV : Nat → Nat, vk_S 2 xsN xsB (fun k => b (k + 1)) adV (fun q => H0.size ≤ q) s H0 ∧ va_Z "java/lang/String" "COMPACT_STRINGS" "Z" (.int 1) (fun q => H0.size ≤ q) s H0 ∧ va_Zq "jdk/internal/util/Preconditions" "SIOOBE_FORMATTER" "Ljava/util/function/BiFunction;" (fun q => H0.size ≤ q) s H0
def xSt (D : va_G) (H0 : Heap) (b : Nat → Nat) (s : State) (as : List Nat) (tys : List (ClassId × FieldType)) (M : xM) (H : Heap) (locs : List Loc) : Prop :=
  ∃ ws : va_W, va_K D xcl tys s ∧ va_P D xcl ws H ∧ va_D (fun q : Nat => H0.size ≤ q) ws ∧ va_S (fun q : Nat => H0.size ≤ q) H0 H locs ∧ xrm b as tys M ws
section XS
variable {p : Program} {l : Launch} {e : Env} {R : Room} {s : State} {m : MethodId} {args : Array Value} {below : List Frame} {meth : Method} {c : Code} {H : Heap} {locs : List Loc} {cells slots : Nat} {Q : State → Prop}
variable {cc : ByteArray} {nL : Nat} {own : String} {D : va_G} {H0 : Heap} {b : Nat → Nat} {sc : List Int32} {as : List Nat} {tys : List (ClassId × FieldType)} {M : xM} {L lv : xL} {ls : Array Slot} {pc : Nat} {st st0 : List Value} {q : xC}
/-- what is to be shown of the state behind an instruction -/
def xKK (p : Program) (l : Launch) (e : Env) (R : Room) (s : State) (m : MethodId) (args : Array Value) (below : List Frame) (meth : Method) (c : Code) (cells slots : Nat) (Q : State → Prop) (D : va_G) (H0 : Heap) (b : Nat → Nat) (nL : Nat) (as : List Nat) (M : xM) (q : xC) : Prop :=
  ∀ (as' : List Nat) (tys' : List (ClassId × FieldType)) (H' : Heap) (locs' : List Loc) (ls' : Array Slot) (st' : List Value) (lv' : xL), (∃ ex, as' = as ++ ex) → lv_has ls' nL lv' → xrl b as' q.2.1 lv' → xrs b as' q.2.2.1 st' → xSt D H0 b s as' tys' q.2.2.2 H' locs' →
    W p l e R s m args below meth c H' locs' (cells + (q.2.2.2.length - M.length)) (slots + (xz q.2.2.2 - xz M)) Q (F0 m q.1 ls' st')
theorem xKK.same {M' : xM} {pc' : Nat} {L' : xL} {st' st1 : List Value} {H' : Heap} {locs' : List Loc} {lv' : xL} {ls' : Array Slot} (kk : xKK p l e R s m args below meth c cells slots Q D H0 b nL as M (pc', L', st', M')) (hz : M'.length = M.length) (hz2 : xz M' = xz M) (hl : lv_has ls' nL lv') (hL : xrl b as L' lv') (hs : xrs b as st' st1) (hM : xSt D H0 b s as tys M' H' locs') :
    W p l e R s m args below meth c H' locs' cells slots Q (F0 m pc' ls' st1) := by
  have h := kk as tys H' locs' ls' st1 lv' ⟨[], by simp⟩ hl hL hs hM
  simpa [hz, hz2] using h
theorem xi_push {n : Nat} {v : Value} (hrow : W p l e R s m args below meth c H locs cells slots Q (F0 m (pc + n) ls (v :: st0)) → W p l e R s m args below meth c H locs cells slots Q (F0 m pc ls st0)) (hv : xrv b as v v)
    (hl : lv_has ls nL lv) (hL : xrl b as L lv) (hs : xrs b as st st0) (hM : xSt D H0 b s as tys M H locs) (kk : xKK p l e R s m args below meth c cells slots Q D H0 b nL as M (pc + n, L, v :: st, M)) :
    W p l e R s m args below meth c H locs cells slots Q (F0 m pc ls st0) :=
  hrow (kk.same rfl rfl hl hL ⟨v, st0, rfl, hv, hs⟩ hM)
theorem xi_ii {g : Int32 → Int32 → Int32} (hrow : ∀ (x y : Int32) (r : List Value), W p l e R s m args below meth c H locs cells slots Q (F0 m (pc + 1) ls (.int (g x y) :: r)) → W p l e R s m args below meth c H locs cells slots Q (F0 m pc ls (.int y :: .int x :: r)))
    (h : xii g pc L st M = some q) (hl : lv_has ls nL lv) (hL : xrl b as L lv) (hs : xrs b as st st0) (hM : xSt D H0 b s as tys M H locs) (kk : xKK p l e R s m args below meth c cells slots Q D H0 b nL as M q) :
    W p l e R s m args below meth c H locs cells slots Q (F0 m pc ls st0) := by
  unfold xii at h
  split at h
  · obtain ⟨v1, s1, rfl, h1, v2, s2, rfl, h2, h3⟩ := hs
    cases h1; cases h2; cases h
    exact hrow _ _ _ (kk.same rfl rfl hl hL ⟨_, _, rfl, rfl, h3⟩ hM)
  · cases h
theorem xi_ll {g : Int64 → Int64 → Int64} (hrow : ∀ (x y : Int64) (r : List Value), W p l e R s m args below meth c H locs cells slots Q (F0 m (pc + 1) ls (.long (g x y) :: r)) → W p l e R s m args below meth c H locs cells slots Q (F0 m pc ls (.long y :: .long x :: r)))
    (h : xll g pc L st M = some q) (hl : lv_has ls nL lv) (hL : xrl b as L lv) (hs : xrs b as st st0) (hM : xSt D H0 b s as tys M H locs) (kk : xKK p l e R s m args below meth c cells slots Q D H0 b nL as M q) :
    W p l e R s m args below meth c H locs cells slots Q (F0 m pc ls st0) := by
  unfold xll at h
  split at h
  · obtain ⟨v1, s1, rfl, h1, v2, s2, rfl, h2, h3⟩ := hs
    cases h1; cases h2; cases h
    exact hrow _ _ _ (kk.same rfl rfl hl hL ⟨_, _, rfl, rfl, h3⟩ hM)
  · cases h
theorem xi_li {g : Int64 → Int32 → Int64} (hrow : ∀ (x : Int64) (y : Int32) (r : List Value), W p l e R s m args below meth c H locs cells slots Q (F0 m (pc + 1) ls (.long (g x y) :: r)) → W p l e R s m args below meth c H locs cells slots Q (F0 m pc ls (.int y :: .long x :: r)))
    (h : xli g pc L st M = some q) (hl : lv_has ls nL lv) (hL : xrl b as L lv) (hs : xrs b as st st0) (hM : xSt D H0 b s as tys M H locs) (kk : xKK p l e R s m args below meth c cells slots Q D H0 b nL as M q) :
    W p l e R s m args below meth c H locs cells slots Q (F0 m pc ls st0) := by
  unfold xli at h
  split at h
  · obtain ⟨v1, s1, rfl, h1, v2, s2, rfl, h2, h3⟩ := hs
    cases h1; cases h2; cases h
    exact hrow _ _ _ (kk.same rfl rfl hl hL ⟨_, _, rfl, rfl, h3⟩ hM)
  · cases h
theorem xi_i {g : Int32 → Int32} (hrow : ∀ (x : Int32) (r : List Value), W p l e R s m args below meth c H locs cells slots Q (F0 m (pc + 1) ls (.int (g x) :: r)) → W p l e R s m args below meth c H locs cells slots Q (F0 m pc ls (.int x :: r)))
    (h : xi g pc L st M = some q) (hl : lv_has ls nL lv) (hL : xrl b as L lv) (hs : xrs b as st st0) (hM : xSt D H0 b s as tys M H locs) (kk : xKK p l e R s m args below meth c cells slots Q D H0 b nL as M q) :
    W p l e R s m args below meth c H locs cells slots Q (F0 m pc ls st0) := by
  unfold xi at h
  split at h
  · obtain ⟨v1, s1, rfl, h1, h3⟩ := hs
    cases h1; cases h
    exact hrow _ _ (kk.same rfl rfl hl hL ⟨_, _, rfl, rfl, h3⟩ hM)
  · cases h
theorem xi_pI {n i : Nat} (hrow : ∀ (x : Int32), ls[i]? = some (.val (.int x)) → W p l e R s m args below meth c H locs cells slots Q (F0 m (pc + n) ls (.int x :: st0)) → W p l e R s m args below meth c H locs cells slots Q (F0 m pc ls st0))
    (h : xpI n pc i L st M = some q) (hl : lv_has ls nL lv) (hL : xrl b as L lv) (hs : xrs b as st st0) (hM : xSt D H0 b s as tys M H locs) (kk : xKK p l e R s m args below meth c cells slots Q D H0 b nL as M q) :
    W p l e R s m args below meth c H locs cells slots Q (F0 m pc ls st0) := by
  unfold xpI at h
  split at h
  · rename_i v hf
    cases h
    obtain ⟨k, v', h1, h2⟩ := xrl_find hL hf
    cases h2
    exact hrow _ (lv_at hl k h1) (kk.same rfl rfl hl hL ⟨_, _, rfl, rfl, hs⟩ hM)
  · cases h
theorem xi_pL {n i : Nat} (hrow : ∀ (x : Int64), ls[i]? = some (.val (.long x)) → W p l e R s m args below meth c H locs cells slots Q (F0 m (pc + n) ls (.long x :: st0)) → W p l e R s m args below meth c H locs cells slots Q (F0 m pc ls st0))
    (h : xpL n pc i L st M = some q) (hl : lv_has ls nL lv) (hL : xrl b as L lv) (hs : xrs b as st st0) (hM : xSt D H0 b s as tys M H locs) (kk : xKK p l e R s m args below meth c cells slots Q D H0 b nL as M q) :
    W p l e R s m args below meth c H locs cells slots Q (F0 m pc ls st0) := by
  unfold xpL at h
  split at h
  · rename_i v hf
    cases h
    obtain ⟨k, v', h1, h2⟩ := xrl_find hL hf
    cases h2
    exact hrow _ (lv_at hl k h1) (kk.same rfl rfl hl hL ⟨_, _, rfl, rfl, hs⟩ hM)
  · cases h
theorem xi_pA {n i : Nat} (hrow : ∀ (x : Nat), ls[i]? = some (.val (.ref x)) → W p l e R s m args below meth c H locs cells slots Q (F0 m (pc + n) ls (.ref x :: st0)) → W p l e R s m args below meth c H locs cells slots Q (F0 m pc ls st0))
    (h : xpA n pc i L st M = some q) (hl : lv_has ls nL lv) (hL : xrl b as L lv) (hs : xrs b as st st0) (hM : xSt D H0 b s as tys M H locs) (kk : xKK p l e R s m args below meth c cells slots Q D H0 b nL as M q) :
    W p l e R s m args below meth c H locs cells slots Q (F0 m pc ls st0) := by
  unfold xpA at h
  split at h
  · rename_i v hf
    cases h
    obtain ⟨k, v', h1, h2⟩ := xrl_find hL hf
    obtain ⟨a, h3, rfl⟩ := id h2
    exact hrow _ (lv_at hl k h1) (kk.same rfl rfl hl hL ⟨_, _, rfl, h2, hs⟩ hM)
  · rename_i hf
    cases h
    obtain ⟨k, v', h1, h2⟩ := xrl_find hL hf
    obtain rfl : v' = .ref (b 0) := h2
    exact hrow _ (lv_at hl k h1) (kk.same rfl rfl hl hL ⟨_, _, rfl, rfl, hs⟩ hM)
  · cases h
theorem xi_sI {n i : Nat} (hrow : ∀ (x : Int32) (r : List Value) (lv' : xL), (i, Value.int x) :: lv.filter (fun q => !(q.1 == i) && !(q.1 + 1 == i && q.2.category == 2)) = lv' → (∀ ls' : Array Slot, lv_has ls' nL lv' → W p l e R s m args below meth c H locs cells slots Q (F0 m (pc + n) ls' r)) → W p l e R s m args below meth c H locs cells slots Q (F0 m pc ls (.int x :: r)))
    (h : xsI n pc i L st M = some q) (hL : xrl b as L lv) (hs : xrs b as st st0) (hM : xSt D H0 b s as tys M H locs) (kk : xKK p l e R s m args below meth c cells slots Q D H0 b nL as M q) :
    W p l e R s m args below meth c H locs cells slots Q (F0 m pc ls st0) := by
  unfold xsI at h
  split at h
  · obtain ⟨v1, s1, rfl, h1, h3⟩ := hs
    cases h1; cases h
    exact hrow _ _ _ rfl (fun ls' hl' => kk.same rfl rfl hl' ⟨_, _, rfl, rfl, xrl_drop1 i hL⟩ h3 hM)
  · cases h
theorem xi_sL {n i : Nat} (hrow : ∀ (x : Int64) (r : List Value) (lv' : xL), (i, Value.long x) :: lv.filter (fun q => !(q.1 == i) && (!(q.1 == i + 1) && !(q.1 + 1 == i && q.2.category == 2))) = lv' → (∀ ls' : Array Slot, lv_has ls' nL lv' → W p l e R s m args below meth c H locs cells slots Q (F0 m (pc + n) ls' r)) → W p l e R s m args below meth c H locs cells slots Q (F0 m pc ls (.long x :: r)))
    (h : xsL n pc i L st M = some q) (hL : xrl b as L lv) (hs : xrs b as st st0) (hM : xSt D H0 b s as tys M H locs) (kk : xKK p l e R s m args below meth c cells slots Q D H0 b nL as M q) :
    W p l e R s m args below meth c H locs cells slots Q (F0 m pc ls st0) := by
  unfold xsL at h
  split at h
  · obtain ⟨v1, s1, rfl, h1, h3⟩ := hs
    cases h1; cases h
    exact hrow _ _ _ rfl (fun ls' hl' => kk.same rfl rfl hl' ⟨_, _, rfl, rfl, xrl_drop2 i hL⟩ h3 hM)
  · cases h
theorem xi_sA {n i : Nat} (hrow : ∀ (x : Nat) (r : List Value) (lv' : xL), (i, Value.ref x) :: lv.filter (fun q => !(q.1 == i) && !(q.1 + 1 == i && q.2.category == 2)) = lv' → (∀ ls' : Array Slot, lv_has ls' nL lv' → W p l e R s m args below meth c H locs cells slots Q (F0 m (pc + n) ls' r)) → W p l e R s m args below meth c H locs cells slots Q (F0 m pc ls (.ref x :: r)))
    (h : xsA n pc i L st M = some q) (hL : xrl b as L lv) (hs : xrs b as st st0) (hM : xSt D H0 b s as tys M H locs) (kk : xKK p l e R s m args below meth c cells slots Q D H0 b nL as M q) :
    W p l e R s m args below meth c H locs cells slots Q (F0 m pc ls st0) := by
  unfold xsA at h
  split at h
  · obtain ⟨v1, s1, rfl, h1, h3⟩ := hs
    cases h
    obtain ⟨a, h4, rfl⟩ := id h1
    exact hrow _ _ _ rfl (fun ls' hl' => kk.same rfl rfl hl' ⟨_, _, rfl, h1, xrl_drop1 i hL⟩ h3 hM)
  · cases h
/-- a row of ints, bytes, longs, references is read -/
theorem xi_ald {k : Nat}
    (h : xald k pc L st M = some q) (hs : xrs b as st st0) (hM : xSt D H0 b s as tys M H locs) :
    ∃ (ws : va_W) (a0 i0 : Nat) (j : Int32) (sl r r' : List Value) (v : Value) (E : va_E), va_K D xcl tys s ∧ va_P D xcl ws H ∧ ws[i0]? = some (a0, E) ∧ xre b as tys (k, sl) E ∧ vp_in j sl.length ∧ sl[j.toNatClampNeg]? = some v ∧ q = (pc + 1, L, v :: r, M) ∧ st0 = .int j :: .ref a0 :: r' ∧ xrs b as r r' := by
  unfold xald at h
  split at h
  · rename_i j a r
    split at h
    · rename_i sl hsl
      split at h
      · rename_i i hi
        split at h
        · rename_i v hv
          cases h
          obtain ⟨v1, s1, rfl, h1, v2, s2, rfl, ⟨a0, ha, rfl⟩, h3⟩ := hs
          cases h1
          obtain ⟨ws, hK, hP, hD, hS, hm⟩ := hM
          obtain ⟨a1, E, hw, ha', hE⟩ := xrm_at hm (xarr_eq hsl)
          cases ha.symm.trans ha'
          obtain ⟨g1, g2, g3⟩ := xix_eq hi
          subst g2
          rw [xnth_eq] at hv
          exact ⟨ws, a0, a, j, sl, r, s2, v, E, hK, hP, hw, hE, g1, hv, rfl, rfl, h3⟩
        · cases h
      · cases h
    · cases h
  · cases h
end XS
