/-! WHAT IS CHECKED OF EACH INSTRUCTION OF A METHOD, by program -/
def xln (e : xE) : Nat := match e.1 with
  | .bipush _ | .ldc _ | .iload _ | .lload _ | .aload _ | .istore _ | .lstore _ | .astore _ | .newarray _ => 2
  | .sipush _ | .ldc_w _ | .ldc2_w _ | .iinc _ _ | .goto _ | .if_icmp _ _ | .ifCond _ _ | .getfield _ | .putfield _ | .invokestatic _ | .invokevirtual _ | .invokespecial _ | .new _ | .anewarray _ => 3
  | .multianewarray _ _ => 4
  | .tableswitch _ _ _ _ => e.2.2.1
  | _ => 1
def xhas4 (t : List (Nat × Nat × Nat × Nat × Nat)) (o i c k : Nat) : Bool := t.any fun q => Nat.beq q.2.1 o && Nat.beq q.2.2.1 i && Nat.beq q.2.2.2.1 c && Nat.beq q.2.2.2.2 k
def xhas3 (t : List (Nat × Nat × Nat × Nat)) (o i c : Nat) : Bool := t.any fun q => Nat.beq q.2.1 o && Nat.beq q.2.2.1 i && Nat.beq q.2.2.2 c
def xhas2 (t : List (Nat × Nat × Nat)) (o i : Nat) : Bool := t.any fun q => Nat.beq q.2.1 o && Nat.beq q.2.2 i
def xhasZ (t : List (Nat × Nat × Nat × Int)) (o i : Nat) (z : Int) : Bool := t.any fun q => Nat.beq q.2.1 o && Nat.beq q.2.2.1 i && decide (q.2.2.2 = z)
/-- a call of method e.2.1 of a kind (0 static, 1 virtual, 2 a constructor) -/
def xcall (kind own fr lo idx : Nat) (e : xE) : Bool := Nat.blt e.2.1 356 && (match xinf e.2.1 with
  | some i => match xmeth e.2.1 with
    | some r => Nat.beq i.2.2.2.2.2.1 kind && Nat.blt i.2.2.1 fr && Nat.ble (8 + (r.2.1 + 11) + i.2.2.2.1) lo &&
      (match kind with
        | 0 => Nat.beq i.2.2.2.2.2.2.1 e.2.2.1 && (bif decide (e.2.2.2 = 1) then xhas3 xMN own idx e.2.1 else xhas3 xML own idx e.2.1)
        | 1 => Nat.beq (i.2.2.2.2.2.2.1 + 1) e.2.2.1 && xhas3 xML own idx e.2.1 && Nat.blt e.2.2.2.toNat 20 && (match xcl[e.2.2.2.toNat]? with
          | some z => decide (z.1 = i.1.cls)
          | none => false)
        | _ => Nat.beq (i.2.2.2.2.2.2.1 + 1) e.2.2.1 && (bif decide (e.2.2.2 = 1) then xhas3 xMN own idx e.2.1 else xhas3 xML own idx e.2.1))
    | none => false
  | none => false)
def xchk (own : Nat) (ini : Bool) (nL fr lo pc : Nat) (e : xE) : Bool := match e.1 with
  | .istore i => Nat.blt i nL
  | .istore_n i => Nat.blt i nL
  | .astore i => Nat.blt i nL
  | .astore_n i => Nat.blt i nL
  | .lstore i => Nat.blt (i + 1) nL
  | .lstore_n i => Nat.blt (i + 1) nL
  | .iinc i _ => Nat.blt i nL
  | .goto off => decide ((pc : Int) + off = (e.2.1 : Int))
  | .if_icmp _ off => decide ((pc : Int) + off = (e.2.1 : Int))
  | .ifCond _ off => decide ((pc : Int) + off = (e.2.1 : Int))
  | .tableswitch d _ _ offs => decide (0 ≤ (pc : Int) + d) && offs.toList.all (fun o => decide (0 ≤ (pc : Int) + o))
  | .getfield idx => xhas4 xFT own idx e.2.1 e.2.2.1
  | .putfield idx => xhas4 xFT own idx e.2.1 e.2.2.1 && (match xcl[e.2.1]? with
    | some z => !(z.2.1 e.2.2.1).2.2.2 || (ini && decide ((z.2.1 e.2.2.1).1 = xown own))
    | none => false)
  | .ldc idx => bif Nat.beq e.2.1 0 then xhasZ xCT own idx e.2.2.2 else (Nat.beq own 2 && (Nat.beq idx 78 && Nat.beq e.2.2.1 0)) || (Nat.beq own 12 && (Nat.beq idx 177 && Nat.beq e.2.2.1 1))
  | .ldc_w idx => !Nat.beq e.2.1 0 || xhasZ xCT own idx e.2.2.2
  | .ldc2_w idx => xhasZ xJT own idx e.2.2.2
  | .new idx => xhas3 xKT own idx e.2.1
  | .anewarray idx => Nat.beq own 11 && Nat.beq idx 48
  | .multianewarray idx d => Nat.beq own 11 && Nat.beq idx 9 && Nat.beq d 2
  | .invokespecial idx => bif Nat.ble 5000 e.2.1 then !Nat.beq e.2.1 5000 || (xhas2 xOB own idx && Nat.ble 1 fr && Nat.ble 26 lo) else xcall 2 own fr lo idx e
  | .invokestatic idx => bif Nat.ble 5001 e.2.1 then Nat.ble 5005 e.2.1 || ((bif Nat.beq e.2.1 5001 then xhas2 xAC own idx else xhas3 xMM own idx e.2.1) && Nat.ble 1 fr && Nat.ble 26 lo) else xcall 0 own fr lo idx e
  | .invokevirtual idx => bif Nat.ble 5000 e.2.1 then ((!Nat.beq e.2.1 5005 || (((Nat.beq own 2 && Nat.beq idx 80) || (Nat.beq own 12 && Nat.beq idx 144)) && (Nat.ble 2 fr && Nat.ble 40 lo))) && (!Nat.beq e.2.1 5006 || (((Nat.beq own 2 && Nat.beq idx 85) || (Nat.beq own 12 && Nat.beq idx 150)) && (Nat.ble 4 fr && Nat.ble 85 lo)))) else xcall 1 own fr lo idx e
  | _ => true
def xrow (f : Nat → xE → Bool) : Nat → List (Option xE) → Bool
  | _, [] => true
  | k, none :: l => xrow f (k + 1) l
  | k, some e :: l => f k e && xrow f (k + 1) l
def xblk (f : Nat → xE → Bool) : Nat → xT → Bool
  | _, [] => true
  | n, l :: T => xrow f (8 * n) l && xblk f (n + 1) T
def xeok (y : Nat) : Bool := match xinf y with
  | some i => match xmeth y with
    | some r => xblk (fun pc e => decide (decode i.2.1 pc = .ok (e.1, xln e)) && xchk i.2.2.2.2.1 (decide (i.1.name = "<init>")) r.2.1 i.2.2.1 i.2.2.2.1 pc e) 0 r.1
    | none => false
  | none => false
theorem xrow_at {f : Nat → xE → Bool} : ∀ {l : List (Option xE)} {k j : Nat} {e : xE}, xrow f k l = true → xnth l j = some (some e) → f (k + j) e = true
  | [], _, _, _, _, h => by simp [xnth] at h
  | none :: l, k, 0, e, _, h => by simp [xnth] at h
  | some e' :: l, k, 0, e, h1, h => by
    simp only [xnth, Option.some.injEq] at h
    subst h
    simp only [xrow, Bool.and_eq_true] at h1
    exact h1.1
  | none :: l, k, j + 1, e, h1, h => by
    simp only [xnth] at h
    simp only [xrow] at h1
    have := xrow_at h1 h
    rw [show k + (j + 1) = k + 1 + j by omega]
    exact this
  | some e' :: l, k, j + 1, e, h1, h => by
    simp only [xnth] at h
    simp only [xrow, Bool.and_eq_true] at h1
    have := xrow_at h1.2 h
    rw [show k + (j + 1) = k + 1 + j by omega]
    exact this
theorem xblk_at {f : Nat → xE → Bool} : ∀ {T : xT} {n i j : Nat} {l : List (Option xE)} {e : xE}, xblk f n T = true → xnth T i = some l → xnth l j = some (some e) → f (8 * (n + i) + j) e = true
  | [], _, _, _, _, _, _, h, _ => by simp [xnth] at h
  | l' :: T, n, 0, j, l, e, h1, h2, h3 => by
    simp only [xnth, Option.some.injEq] at h2
    subst h2
    simp only [xblk, Bool.and_eq_true] at h1
    exact xrow_at h1.1 h3
  | l' :: T, n, i + 1, j, l, e, h1, h2, h3 => by
    simp only [xnth] at h2
    simp only [xblk, Bool.and_eq_true] at h1
    have := xblk_at h1.2 h2 h3
    rw [show n + (i + 1) = n + 1 + i by omega]
    exact this
theorem xat_ok {f : Nat → xE → Bool} {T : xT} {pc : Nat} {e : xE} (h1 : xblk f 0 T = true) (h : xat T pc = some e) : f pc e = true := by
  unfold xat at h
  split at h
  · rename_i l hl
    split at h
    · rename_i e' he
      subst h
      have := xblk_at h1 hl he
      rw [show 8 * (0 + pc / 8) + pc % 8 = pc by omega] at this
      exact this
    · cases h
  · cases h
