/-! THE RUN OVER CHUNKS -/
noncomputable def ya1W (bx : List (Int × Int)) (sa : List Value) (e : xE) (pc : Nat) (L : xL) (st : List Value) (Z : wM) : Option wC := match e.1 with
  | .iaload => wiald sa pc L st Z
  | .baload => wald 21 pc L st Z
  | .laload => wald 22 pc L st Z
  | .aaload => waald pc L st Z
  | .iastore => wast 20 ygI pc L st Z
  | .bastore => wast 21 ygB pc L st Z
  | .lastore => wast 22 ygL pc L st Z
  | .aastore => none
  | .arraylength => wlen sa pc L st Z
  | .newarray _ => none
  | .anewarray _ => none
  | .multianewarray _ _ => none
  | .new _ => none
  | .getfield _ => wget e.2.1 e.2.2.1 pc L st Z
  | .putfield _ => wput e.2.1 e.2.2.1 pc L st Z
  | .invokestatic _ => (match e.2.1 with
    | 5001 => wcopy pc L st Z
    | _ => wl Z (ya1F bx sa e pc L st []))
  | _ => wl Z (ya1F bx sa e pc L st [])
section WY
variable {bx : List (Int × Int)} {sa : List Value} {pc : Nat} {L : xL} {st : List Value} {Z : wM} {q : wC}
theorem yw_ok {e : xE} (hw : wwf Z) (he : ya1W bx sa e pc L st Z = wl Z (ya1F bx sa e pc L st [])) (hF : ∀ M, ya1F bx sa e pc L st M = xsm M (ya1F bx sa e pc L st [])) (h : ya1W bx sa e pc L st Z = some q) : ya1F bx sa e pc L st (wfl Z) = some (wq q) ∧ wwf q.2.2.2 := wl_ok hw (F := fun M => ya1F bx sa e pc L st M) hF (by rw [← he]; exact h)
theorem ya1W_F {e : xE} (hw : wwf Z) (h : ya1W bx sa e pc L st Z = some q) : ya1F bx sa e pc L st (wfl Z) = some (wq q) ∧ wwf q.2.2.2 := by
  obtain ⟨ins, ea, eb, ez⟩ := e
  cases ins
  case iaload => exact wiald_ok hw h
  case baload => rw [show ya1F bx sa (.baload, ea, eb, ez) pc L st (wfl Z) = fald 21 pc L st (wfl Z) from rfl, fald_eq]; exact wald_ok hw h
  case laload => rw [show ya1F bx sa (.laload, ea, eb, ez) pc L st (wfl Z) = fald 22 pc L st (wfl Z) from rfl, fald_eq]; exact wald_ok hw h
  case aaload => exact waald_ok hw h
  case iastore => rw [show ya1F bx sa (.iastore, ea, eb, ez) pc L st (wfl Z) = fast 20 ygI pc L st (wfl Z) from rfl, fast_eq]; exact wast_ok hw h
  case bastore => rw [show ya1F bx sa (.bastore, ea, eb, ez) pc L st (wfl Z) = fast 21 ygB pc L st (wfl Z) from rfl, fast_eq]; exact wast_ok hw h
  case lastore => rw [show ya1F bx sa (.lastore, ea, eb, ez) pc L st (wfl Z) = fast 22 ygL pc L st (wfl Z) from rfl, fast_eq]; exact wast_ok hw h
  case aastore => cases h
  case arraylength => exact wlen_ok (bx := bx) hw h
  case newarray => cases h
  case anewarray => cases h
  case multianewarray => cases h
  case new => cases h
  case getfield => rw [show ya1F bx sa (.getfield _, ea, eb, ez) pc L st (wfl Z) = fget ea eb pc L st (wfl Z) from rfl, fget_eq]; exact wget_ok hw h
  case putfield => exact wput_ok hw h
  case invokestatic z =>
    by_cases h1 : ea = 5001
    · subst h1; exact wcopy_ok hw h
    · have he : ya1W bx sa (.invokestatic z, ea, eb, ez) pc L st Z = wl Z (ya1F bx sa (.invokestatic z, ea, eb, ez) pc L st []) := by
        simp only [ya1W]
      refine yw_ok hw he (fun M => ?_) h
      simp only [ya1F, ya1, x1]
      split
      · exact absurd rfl h1
      · exact hm_xmath
      · exact hm_xmath
      · exact hm_zabs (bx := bx) (sa := sa)
      · rfl
  case iload => exact yw_ok hw rfl (fun _ => hm_fl1) h
  case iload_n => exact yw_ok hw rfl (fun _ => hm_fl1) h
  case lload => exact yw_ok hw rfl (fun _ => hm_fl2) h
  case lload_n => exact yw_ok hw rfl (fun _ => hm_fl2) h
  case aload => exact yw_ok hw rfl (fun _ => hm_fpA) h
  case aload_n => exact yw_ok hw rfl (fun _ => hm_fpA) h
  case istore => exact yw_ok hw rfl (fun _ => hm_fs1) h
  case istore_n => exact yw_ok hw rfl (fun _ => hm_fs1) h
  case lstore => exact yw_ok hw rfl (fun _ => hm_fs2) h
  case lstore_n => exact yw_ok hw rfl (fun _ => hm_fs2) h
  case astore => exact yw_ok hw rfl (fun _ => hm_fsA) h
  case astore_n => exact yw_ok hw rfl (fun _ => hm_fsA) h
  case iinc => exact yw_ok hw rfl (fun _ => hm_finc) h
  case iadd => exact yw_ok hw rfl (fun _ => hm_yadd) h
  case isub => exact yw_ok hw rfl (fun _ => hm_ysub) h
  case imul => exact yw_ok hw rfl (fun _ => hm_yii) h
  case iand => exact yw_ok hw rfl (fun _ => hm_yand) h
  case ior => exact yw_ok hw rfl (fun _ => hm_yii) h
  case ixor => exact yw_ok hw rfl (fun _ => hm_xii) h
  case ishl => exact yw_ok hw rfl (fun _ => hm_xii) h
  case ishr => exact yw_ok hw rfl (fun _ => hm_yii) h
  case iushr => exact yw_ok hw rfl (fun _ => hm_yii) h
  case idiv => exact yw_ok hw rfl (fun _ => hm_zdiv (bx := bx) (sa := sa)) h
  case irem => exact yw_ok hw rfl (fun _ => hm_zrem (bx := bx) (sa := sa)) h
  case ineg => exact yw_ok hw rfl (fun _ => hm_xi) h
  case i2b => exact yw_ok hw rfl (fun _ => hm_yi) h
  case i2s => exact yw_ok hw rfl (fun _ => hm_xi) h
  case i2l => exact yw_ok hw rfl (fun _ => hm_zi2l (bx := bx) (sa := sa)) h
  case l2i => exact yw_ok hw rfl (fun _ => hm_zl2i (bx := bx) (sa := sa)) h
  case ladd => exact yw_ok hw rfl (fun _ => hm_yll) h
  case lsub => exact yw_ok hw rfl (fun _ => hm_yll) h
  case lmul => exact yw_ok hw rfl (fun _ => hm_xll) h
  case land => exact yw_ok hw rfl (fun _ => hm_yll) h
  case lor => exact yw_ok hw rfl (fun _ => hm_yll) h
  case lxor => exact yw_ok hw rfl (fun _ => hm_xll) h
  case ldiv => exact yw_ok hw rfl (fun _ => hm_zldiv (bx := bx) (sa := sa)) h
  case lrem => exact yw_ok hw rfl (fun _ => hm_zlrem (bx := bx) (sa := sa)) h
  case lshl => exact yw_ok hw rfl (fun _ => hm_yli) h
  case lshr => exact yw_ok hw rfl (fun _ => hm_xli) h
  case lushr => exact yw_ok hw rfl (fun _ => hm_xli) h
  case lcmp => exact yw_ok hw rfl (fun _ => hm_zlcm (bx := bx) (sa := sa)) h
  case dup => exact yw_ok hw rfl (fun _ => hm_zdup (bx := bx) (sa := sa)) h
  case dup2 => exact yw_ok hw rfl (fun _ => hm_zdup2 (bx := bx) (sa := sa)) h
  case pop => exact yw_ok hw rfl (fun _ => hm_zpop (bx := bx) (sa := sa)) h
  case if_icmp => exact yw_ok hw rfl (fun _ => hm_fic) h
  case ifCond => exact yw_ok hw rfl (fun _ => hm_fif) h
  case tableswitch => exact yw_ok hw rfl (fun _ => hm_zsw (bx := bx) (sa := sa)) h
  case ldc => exact yw_ok hw rfl (fun M => by simp only [ya1F, ya1, x1, cond_eq_ite]; split <;> rfl) h
  case ldc_w => exact yw_ok hw rfl (fun M => by simp only [ya1F, ya1, x1, cond_eq_ite]; split <;> rfl) h
  case invokespecial => exact yw_ok hw rfl (fun M => by
    simp only [ya1F, ya1, x1]
    rcases st with _ | ⟨v, st⟩
    · rfl
    · cases v <;> first | rfl | (simp only [cond_eq_ite]; split <;> rfl)) h
  all_goals exact yw_ok hw rfl (fun _ => rfl) h
theorem ya1W_ok {e : xE} (hw : wwf Z) (h : ya1W bx sa e pc L st Z = some q) : ya1 xty xdf bx sa e pc L st (wfl Z) = some (wq q) ∧ wwf q.2.2.2 := by
  rw [← ya1F_eq]
  exact ya1W_F hw h
end WY
