/-! THE LAW AS A RUN OF CALLS: what a contract and what a function say of a call, together -/
def slI (o k : Nat) : Prop := ∃ c m, ktK o = some (c, m) ∧ k < m ∧ (ktB o k).1 = 0
def slJ (o k : Nat) : Prop := ∃ c m, ktK o = some (c, m) ∧ k < m ∧ (ktB o k).1 = 1
/-- alike in all slots -/
def slq (I I' : tI) (J J' : tJ) : Prop := (∀ o k, slI o k → I' o k = I o k) ∧ ∀ o k, slJ o k → J' o k = J o k
theorem pB_nok {t : nTb} {B : xM} {I : tI} (ht : t.1 = (ktK, ktB)) (h : nOk t B I) : kB pT B := by
  have h1 := h.1
  intro o kn ho
  refine h1 o kn ?_ |>.imp fun sl hs => ?_
  · show t.1.1 o = some kn
    rw [ht]
    exact ho
  · have e : t.1.2 = ktB := by rw [ht]
    have hs' := hs
    change xarr B o kn.1 = some sl ∧ sl.length = kn.2 ∧ ∀ k, k < kn.2 → ∃ v, xnth sl k = some v ∧ ((t.1.2 o k).1 = 0 → tyV v 0 = true) ∧ ((t.1.2 o k).1 = 1 → tyV v 1 = true) ∧ ((t.1.2 o k).1 = 2 → v = .ref (t.1.2 o k).2.1.toNat) ∧ ((t.1.2 o k).1 = 4 → v = .ref (t.1.2 o k).2.1.toNat ∨ v = .ref (t.1.2 o k).2.2.toNat) at hs'
    rw [e] at hs'
    exact hs'
theorem slq_of {B B' : xM} {I I' : tI} {J J' : tJ} (hB : kB pT B) (hB' : kB pT B') (h : tMem B I J = tMem B' I' J') : slq I I' J J' := by
  refine ⟨fun o k ⟨c, m, hk, hl, ht⟩ => ?_, fun o k ⟨c, m, hk, hl, ht⟩ => ?_⟩
  · obtain ⟨sl, e1, e2⟩ := p_arrL (I := I) (J := J) hB hk
    obtain ⟨v, hv⟩ := mnth_lt (l := sl) (i := k) (by omega)
    have a1 := p_valI hB hk hl ht e1 hv
    rw [h] at e1
    have a2 := p_valI hB' hk hl ht e1 hv
    rw [a1] at a2
    injection a2 with a2
    exact a2.symm
  · obtain ⟨sl, e1, e2⟩ := p_arrL (I := I) (J := J) hB hk
    obtain ⟨v, hv⟩ := mnth_lt (l := sl) (i := k) (by omega)
    have a1 := p_valL hB hk hl ht e1 hv
    rw [h] at e1
    have a2 := p_valL hB' hk hl ht e1 hv
    rw [a1] at a2
    injection a2 with a2
    exact a2.symm
theorem lw_recv {o c m y k : Nat} {B : xM} {I : tI} {J : tJ} {as rest : List Value} {idx : Nat} (hB : kB pT B) (ho : ktK o = some (c, m)) (hr : xcat8 rest = true) {i : ClassFile.Instr} (hi : i = .invokevirtual idx) : (xcat8 rest && xrecv (i, y, k, (c : Int)) (.ref o :: as) (tMem B I J)) = true := by
  subst hi
  obtain ⟨sl, e1, -⟩ := p_arrL (I := I) (J := J) hB ho
  rw [hr, Bool.true_and]
  show (match xarr (tMem B I J) o (c : Int).toNat with
    | some _ => true
    | none => false) = true
  rw [Int.toNat_natCast, e1]
section LC
variable {sc : List Int32} {B : xM} {I : tI} {J : tJ} {r : xR} {pc : Nat} {L : xL} {st : List Value} {Q : Option Value → xM → Prop} {e : xE} {as rest : List Value} {r' : xR} {c : nC}
theorem lw_call0 (he : xat r.1 pc = some e) (hk : xkind e = 1) (hp : xpop e.2.2.1 [] st = some (as, rest)) (hc : (xcat8 rest && xrecv e as (tMem B I J)) = true) (hm : xmeth e.2.1 = some r') (hn : Nat.ble (xcats as) r'.2.1 = true) (hmc : xmeth c.1.1 = some r') (hC : nCon (ktN sc) sc c) (hO : nOk (ktN sc) B I) (ha : kvcs c.1.2.1 as) (hpre : npI c.2.2.1 I) (k : ∀ v B' I' J', nOk (ktN sc) B' I' → kAg c.2.1 B I J B' I' J' → npI c.2.2.2 I' → kvo c.1.2.2 v → sw sc r (pc + 3) L (xpush v rest) (tMem B' I' J') Q) : sw sc r pc L st (tMem B I J) Q :=
  sw_1 he hk hp hc hm hn (hC r' as B I J hmc ha hO hpre) (fun v M1 ⟨B', I', J', h1, h2, h3, h4, h5⟩ => by
    subst h1
    exact k v B' I' J' h2 h3 h4 h5)
theorem lw_call {F : Nat → Option Value → tI → tJ → Prop} (he : xat r.1 pc = some e) (hk : xkind e = 1) (hp : xpop e.2.2.1 [] st = some (as, rest)) (hc : (xcat8 rest && xrecv e as (tMem B I J)) = true) (hm : xmeth e.2.1 = some r') (hn : Nat.ble (xcats as) r'.2.1 = true) (hmc : xmeth c.1.1 = some r') (hC : nCon (ktN sc) sc c) (hO : nOk (ktN sc) B I) (ha : kvcs c.1.2.1 as) (hpre : npI c.2.2.1 I) (hq : ∀ n, pq sc B n r' 0 (lv_args 0 as) [] I J (F n)) (k : ∀ n v B' I' J' I1 J1, nOk (ktN sc) B' I' → kAg c.2.1 B I J B' I' J' → npI c.2.2.2 I' → kvo c.1.2.2 v → F n v I1 J1 → slq I1 I' J1 J' → sw sc r (pc + 3) L (xpush v rest) (tMem B' I' J') Q) : sw sc r pc L st (tMem B I J) Q := by
  have hL : lnd (lv_args 0 as) := (lnd_args 0 as).1
  refine sw_1 he hk hp hc hm hn (sw_pq hL (hC r' as B I J hmc ha hO hpre) hq) (fun v M1 ⟨⟨n, I1, J1, h1, hF⟩, B', I', J', h2, h3, h4, h5, h6⟩ => ?_)
  have hs : slq I1 I' J1 J' := slq_of (pB_nok rfl hO) (pB_nok rfl h3) (h1.symm.trans h2)
  rw [h2]
  exact k n v B' I' J' I1 J1 h3 h4 h5 h6 hF hs
end LC
/-! straight pieces of the law -/
def xseg (sc : List Int32) (r : xR) : Nat → xC → Option xC
  | 0, q => some q
  | k + 1, q => match xat r.1 q.1 with
    | some e => (match xkind e with
      | 0 => (match s1 xty xdf sc e q.1 q.2.1 q.2.2.1 q.2.2.2 with
        | some q' => xseg sc r k q'
        | none => none)
      | _ => none)
    | none => none
section LS
variable {sc : List Int32} {r : xR} {pc : Nat} {L : xL} {st : List Value} {M : xM} {Q : Option Value → xM → Prop}
theorem sw_seg0 : ∀ (k : Nat) {q q' : xC}, xseg sc r k q = some q' → sw sc r q'.1 q'.2.1 q'.2.2.1 q'.2.2.2 Q → sw sc r q.1 q.2.1 q.2.2.1 q.2.2.2 Q
  | 0, q, q', h, k => by
    cases h
    exact k
  | m + 1, q, q', h, k => by
    simp only [xseg] at h
    split at h
    · rename_i e he
      split at h
      · rename_i hk
        split at h
        · rename_i q1 hq1
          exact sw_x he hk hq1 (sw_seg0 m h k)
        · cases h
      · cases h
    · cases h
theorem sw_seg (k : Nat) {pc' : Nat} {L' : xL} {st' : List Value} {M' : xM} (h : xseg sc r k (pc, L, st, M) = some (pc', L', st', M')) (hq : sw sc r pc' L' st' M' Q) : sw sc r pc L st M Q := sw_seg0 k h hq
theorem sw_ial {a b : Nat} {z : Int} {x : Int32} {n : Nat} (he : xat r.1 pc = some (.iaload, a, b, z)) (hx : x = Int32.ofNat n) (hn : n < sc.length) (hl : sc.length ≤ 3072) (h : sw sc r (pc + 1) L (.int (sc.getD n 0) :: st) M Q) : sw sc r pc L (.int x :: .retAddr 0 :: st) M Q := by
  subst hx
  refine sw_0 he rfl (?_ : x1 xty xdf sc (.iaload, a, b, z) pc L (.int (Int32.ofNat n) :: .retAddr 0 :: st) M = some (pc + 1, L, .int (sc.getD n 0) :: st, M)) h
  show (match xix (Int32.ofNat n) sc.length with
    | some i => some (pc + 1, L, Value.int (sc.getD i 0) :: st, M)
    | none => none) = _
  rw [xix_yes (ti_pos (by rw [oi_int (by omega)]; omega)) (by rw [oi_nat (by omega)]; exact hn), oi_nat (by omega)]
theorem sw_bool {off o2 : Int} {t j : Nat} {x : Int32} (he : xat r.1 pc = some (.ifCond .eq off, t, 0, 0)) (e1 : xat r.1 (pc + 3) = some (.iconst 1, 0, 0, 0)) (e2 : xat r.1 (pc + 4) = some (.goto o2, j, 0, 0)) (e3 : xat r.1 t = some (.iconst 0, 0, 0, 0)) (hj : t + 1 = j) (h : sw sc r j L (.int (if x = 0 then 0 else 1) :: st) M Q) : sw sc r pc L (.int x :: st) M Q := by
  by_cases hx : x = 0
  · rw [if_pos hx] at h
    refine sw_0 he rfl (?_ : x1 xty xdf sc _ pc L (.int x :: st) M = some (t, L, st, M)) (sw_0 e3 rfl (?_ : x1 xty xdf sc _ t L st M = some (j, L, .int 0 :: st, M)) h)
    · show some ((bif xcmp .eq x 0 then t else pc + 3), L, st, M) = _
      rw [xc_eq hx]
      rfl
    · subst hj
      rfl
  · rw [if_neg hx] at h
    refine sw_0 he rfl (?_ : x1 xty xdf sc _ pc L (.int x :: st) M = some (pc + 3, L, st, M)) (sw_0 e1 rfl (rfl : x1 xty xdf sc _ (pc + 3) L st M = some (pc + 4, L, .int 1 :: st, M)) (sw_0 e2 rfl (rfl : x1 xty xdf sc _ (pc + 4) L (.int 1 :: st) M = some (j, L, .int 1 :: st, M)) h))
    show some ((bif xcmp .eq x 0 then t else pc + 3), L, st, M) = _
    rw [xc_eqn hx]
    rfl
theorem sw_cmp {c : ClassFile.Cond} {off : Int} {t : Nat} {x y : Int32} {p : Nat} (he : xat r.1 pc = some (.if_icmp c off, t, 0, 0)) (hp : (bif xcmp c x y then t else pc + 3) = p) (h : sw sc r p L st M Q) : sw sc r pc L (.int y :: .int x :: st) M Q := by
  refine sw_0 he rfl (?_ : x1 xty xdf sc _ pc L (.int y :: .int x :: st) M = some (p, L, st, M)) h
  show some ((bif xcmp c x y then t else pc + 3), L, st, M) = _
  rw [hp]
theorem sw_if {c : ClassFile.Cond} {off : Int} {t : Nat} {x : Int32} {p : Nat} (he : xat r.1 pc = some (.ifCond c off, t, 0, 0)) (hp : (bif xcmp c x 0 then t else pc + 3) = p) (h : sw sc r p L st M Q) : sw sc r pc L (.int x :: st) M Q := by
  refine sw_0 he rfl (?_ : x1 xty xdf sc _ pc L (.int x :: st) M = some (p, L, st, M)) h
  show some ((bif xcmp c x 0 then t else pc + 3), L, st, M) = _
  rw [hp]
end LS
theorem kvo_i {lo hi : Int} {v : Option Value} (h : kvo (some (0, lo, hi)) v) : ∃ x : Int32, v = some (.int x) ∧ lo ≤ x.toInt ∧ x.toInt ≤ hi := by
  obtain ⟨w, rfl, h2, -⟩ := h
  obtain ⟨x, rfl, h3, h4⟩ := h2
  exact ⟨x, rfl, h3, h4⟩
theorem kvo_l {lo hi : Int} {v : Option Value} (h : kvo (some (1, lo, hi)) v) : ∃ x : Int64, v = some (.long x) := by
  obtain ⟨w, rfl, h2, -⟩ := h
  obtain ⟨x, rfl, h3, h4⟩ := h2
  exact ⟨x, rfl⟩
theorem kv_arg (x : Int32) : kvc (0, -2147483648, 2147483647) (.int x) := ⟨x, rfl, Int32.le_toInt x, Int32.toInt_le x⟩
theorem kv_argl (x : Int64) : kvc (1, -9223372036854775808, 9223372036854775807) (.long x) := ⟨x, rfl, Int64.le_toInt x, Int64.toInt_le x⟩
theorem kv_argb (x : Int32) : kvc (0, 0, 1) (.int (if x = 0 then 0 else 1)) := by
  refine ⟨_, rfl, ?_, ?_⟩ <;> split <;> decide
theorem kv_argr (o : Nat) : kvc (2, (o : Int), 0) (.ref o) := ⟨o, rfl, rfl⟩
/-- how the law's loop goes: i by six, what holds at its head -/
def lwL (n : Nat) : xL := [(3, .int (Int32.ofNat n)), (2, .ref 185), (1, .ref 0), (0, .retAddr 0)]
def LInv (R : tI → tJ → Prop) (sc : List Int32) (B : xM) (I : tI) (J : tJ) : Prop := nOk (ktN sc) B I ∧ npI [(186, 5, 0, 999)] I ∧ R I J
theorem npI5 {I : tI} (h : npI [(186, 5, 0, 999)] I) : 0 ≤ (I 186 5).toInt ∧ (I 186 5).toInt ≤ 999 := h _ List.mem_cons_self
theorem lg_self {a : Int64} : lg_cmp a a = 0 := by
  unfold lg_cmp
  rw [if_pos rfl, if_neg (fun h => Int.lt_irrefl _ (Int64.lt_iff_toInt_lt.mp h))]
