noncomputable def zms_0 : List zR := [(zt_0, 1, 0), ([], 4, 0), ([], 4, 0), ([], 5, 0), ([], 4, 1), ([], 7, 2), ([], 7, 0), ([], 2, 1), ([], 2, 1), (zt_9, 1, 0), ([], 2, 0), ([], 2, 0), ([], 2, 1), ([], 3, 1), ([], 4, 3), ([], 3, 3)]
noncomputable def zms_1 : List zR := [([], 4, 1), ([], 3, 3), ([], 3, 0), ([], 3, 0), ([], 4, 0), ([], 2, 3), ([], 3, 1), (zt_23, 1, 0), ([], 2, 0), ([], 1, 0), ([], 2, 3), ([], 2, 3), ([], 1, 0), ([], 1, 0), ([], 1, 0), ([], 6, 1)]
noncomputable def zms_2 : List zR := [([], 1, 3), ([], 2, 3), ([], 2, 3), ([], 1, 3), ([], 1, 3), ([], 3, 3), ([], 1, 3), ([], 3, 3), ([], 5, 1), (zt_41, 1, 0), ([], 2, 0), ([], 2, 1), ([], 1, 1), ([], 1, 1), ([], 3, 3), ([], 2, 3)]
noncomputable def zms_3 : List zR := [([], 5, 1), ([], 4, 1), (zt_50, 2, 0), ([], 5, 3), ([], 2, 3), ([], 2, 3), ([], 3, 3), ([], 1, 0), ([], 3, 3), ([], 3, 3), ([], 3, 3), ([], 5, 3), ([], 4, 3), (zt_61, 1, 0), ([], 6, 0), ([], 4, 1)]
noncomputable def zms_4 : List zR := [([], 6, 1), ([], 4, 3), ([], 5, 0), ([], 4, 0), ([], 5, 0), ([], 2, 1), (zt_70, 1, 0), (zt_71, 1, 0), ([], 2, 0), ([], 4, 0), (zt_74, 2, 0), ([], 4, 3), ([], 1, 3), ([], 2, 3), ([], 1, 3), ([], 2, 3)]
noncomputable def zms_5 : List zR := [([], 1, 3), ([], 1, 3), ([], 2, 3), ([], 3, 3), ([], 3, 3), ([], 1, 3), ([], 3, 3), ([], 3, 3), ([], 3, 3), ([], 2, 3), (zt_90, 1, 0), ([], 2, 0), ([], 4, 1), ([], 5, 3), ([], 4, 3), (zt_95, 1, 0)]
noncomputable def zms_6 : List zR := [([], 8, 3), ([], 6, 1), ([], 5, 0), ([], 6, 3), ([], 7, 2), ([], 4, 0), ([], 8, 1), (zt_103, 1, 0), (zt_104, 1, 0), ([], 2, 0), ([], 2, 1), ([], 2, 1), ([], 2, 3), ([], 3, 3), ([], 3, 0), ([], 3, 0)]
noncomputable def zms_7 : List zR := [([], 2, 1), ([], 4, 1), ([], 1, 1), ([], 3, 1), ([], 3, 1), (zt_117, 2, 0), ([], 1, 1), ([], 1, 2), ([], 1, 2), ([], 2, 1), ([], 2, 1), ([], 1, 3), ([], 2, 3), ([], 2, 1), ([], 12, 0), ([], 3, 3)]
noncomputable def zms_8 : List zR := [([], 2, 3), ([], 2, 3), ([], 2, 3), ([], 2, 3), ([], 2, 3), ([], 1, 3), ([], 4, 3), ([], 6, 3), ([], 4, 2), ([], 6, 3), ([], 3, 1), ([], 3, 1), ([], 3, 2), ([], 6, 1), ([], 3, 0), ([], 3, 1)]
noncomputable def zms_9 : List zR := [([], 3, 1), ([], 1, 0), ([], 2, 1), ([], 3, 1), ([], 3, 1), ([], 3, 1), ([], 5, 1), ([], 3, 1), ([], 4, 1), ([], 2, 1), ([], 2, 1), ([], 2, 1), ([], 4, 1), ([], 3, 1), ([], 4, 1), ([], 4, 1)]
noncomputable def zms_10 : List zR := [([], 3, 1), ([], 3, 3), ([], 5, 3), ([], 4, 3), ([], 5, 3), ([], 2, 1), ([], 2, 1), ([], 3, 1), ([], 4, 1), ([], 2, 1), ([], 2, 1), ([], 3, 1), ([], 5, 1), ([], 6, 1), ([], 3, 1), ([], 2, 1)]
noncomputable def zms_11 : List zR := [([], 5, 1), ([], 5, 1), ([], 5, 1), ([], 5, 1), ([], 4, 1), ([], 4, 1), ([], 2, 1), ([], 8, 3), ([], 2, 1), ([], 5, 1), ([], 3, 1), ([], 5, 1), ([], 6, 1), ([], 5, 1), ([], 4, 1), ([], 6, 1)]
noncomputable def zms_12 : List zR := [([], 9, 2), ([], 6, 1), ([], 2, 1), ([], 2, 1), ([], 6, 3), ([], 1, 1), ([], 1, 1), (zt_199, 1, 0), (zt_200, 3, 0), ([], 1, 1), ([], 1, 2), ([], 1, 2), ([], 2, 3), ([], 2, 1), ([], 2, 1), ([], 2, 1)]
noncomputable def zms_13 : List zR := [([], 11, 3), ([], 1, 3), ([], 3, 2), ([], 5, 3), ([], 3, 1), ([], 6, 3), ([], 3, 2), ([], 8, 3), ([], 6, 3), ([], 6, 1), ([], 3, 0), ([], 2, 1), ([], 1, 3), ([], 1, 3), ([], 2, 0), ([], 2, 3)]
noncomputable def zms_14 : List zR := [([], 7, 1), ([], 2, 3), ([], 4, 3), ([], 2, 3), ([], 3, 3), ([], 4, 3), ([], 2, 3), ([], 4, 2), ([], 4, 1), ([], 2, 1), ([], 2, 1), ([], 2, 3), ([], 4, 3), ([], 2, 3), ([], 4, 3), ([], 4, 3)]
noncomputable def zms_15 : List zR := [([], 2, 3), ([], 2, 3), ([], 2, 3), ([], 3, 3), ([], 4, 1), ([], 4, 3), ([], 2, 3), ([], 3, 3), ([], 3, 3), ([], 6, 3), ([], 4, 1), ([], 1, 1), ([], 1, 1), ([], 3, 3), ([], 2, 3), ([], 2, 3)]
noncomputable def zms_16 : List zR := [([], 2, 3), ([], 2, 3), ([], 3, 3), ([], 3, 1), ([], 3, 1), ([], 2, 3), ([], 2, 3), ([], 1, 1), ([], 3, 1), ([], 5, 3), ([], 3, 1), ([], 4, 1), ([], 5, 1), ([], 4, 1), ([], 2, 1), ([], 1, 1)]
noncomputable def zms_17 : List zR := [([], 2, 1), ([], 3, 1), ([], 3, 1), ([], 4, 1), ([], 3, 1), ([], 4, 1), ([], 2, 1), ([], 2, 1), ([], 2, 1), ([], 2, 1), ([], 5, 1), ([], 5, 0), ([], 2, 0), ([], 3, 0), ([], 3, 3), ([], 4, 1)]
noncomputable def zms_18 : List zR := [([], 2, 1), ([], 4, 1), ([], 3, 1), ([], 3, 1), ([], 3, 3), ([], 5, 3), ([], 4, 3), ([], 5, 3), ([], 3, 0), ([], 3, 0), ([], 2, 3), ([], 2, 1), ([], 4, 1), ([], 2, 1), ([], 4, 1), ([], 5, 1)]
noncomputable def zms_19 : List zR := [([], 3, 1), ([], 3, 0), ([], 3, 1), ([], 2, 1), ([], 3, 1), ([], 5, 1), ([], 6, 1), ([], 4, 1), ([], 4, 3), ([], 3, 1), ([], 6, 1), ([], 3, 3), ([], 4, 1), ([], 7, 1), ([], 4, 1), ([], 3, 1)]
noncomputable def zms_20 : List zR := [([], 5, 1), ([], 3, 3), ([], 4, 1), ([], 4, 1), ([], 8, 3), ([], 3, 1), ([], 2, 1), ([], 5, 1), ([], 6, 1), ([], 5, 3), ([], 8, 1), ([], 1, 3), ([], 5, 1), ([], 6, 1), ([], 5, 1), ([], 5, 1)]
noncomputable def zms_21 : List zR := [([], 11, 2), ([], 7, 1), ([], 2, 1), ([], 5, 3), ([], 2, 3), ([], 4, 3), ([], 3, 3), ([], 5, 3), ([], 5, 1), ([], 4, 0), ([], 3, 1), ([], 2, 1), ([], 6, 3), ([], 4, 0), ([], 1, 1), ([], 1, 1)]
noncomputable def zms_22 : List zR := [([], 1, 1), ([], 2, 1), ([], 5, 0), (zt_355, 4, 0), ([], 4, 3)]
noncomputable def zms : List (List zR) := [zms_0, zms_1, zms_2, zms_3, zms_4, zms_5, zms_6, zms_7, zms_8, zms_9, zms_10, zms_11, zms_12, zms_13, zms_14, zms_15, zms_16, zms_17, zms_18, zms_19, zms_20, zms_21, zms_22]
noncomputable def zmeth (y : Nat) : Option zR := match xnth zms (y / 16) with
  | some l => xnth l (y % 16)
  | none => none
def zrels : List zR → List xR → Prop
  | [], [] => True
  | a :: l, b :: m => zrel a b ∧ zrels l m
  | _, _ => False
theorem zrels_nth : ∀ {l : List zR} {m : List xR} {j : Nat} {zr : zR}, zrels l m → xnth l j = some zr → ∃ r, xnth m j = some r ∧ zrel zr r
  | [], _, _, _, _, h => by simp [xnth] at h
  | a :: l, [], _, _, h, _ => h.elim
  | a :: l, b :: m, 0, zr, h, h2 => by
    simp only [xnth, Option.some.injEq] at h2
    subst h2
    exact ⟨b, rfl, h.1⟩
  | a :: l, b :: m, j + 1, zr, h, h2 => by
    simp only [xnth] at h2 ⊢
    exact zrels_nth h.2 h2
def zrelss : List (List zR) → List (List xR) → Prop
  | [], [] => True
  | a :: l, b :: m => zrels a b ∧ zrelss l m
  | _, _ => False
theorem zrelss_nth : ∀ {l : List (List zR)} {m : List (List xR)} {j : Nat} {zr : List zR}, zrelss l m → xnth l j = some zr → ∃ r, xnth m j = some r ∧ zrels zr r
  | [], _, _, _, _, h => by simp [xnth] at h
  | a :: l, [], _, _, h, _ => h.elim
  | a :: l, b :: m, 0, zr, h, h2 => by
    simp only [xnth, Option.some.injEq] at h2
    subst h2
    exact ⟨b, rfl, h.1⟩
  | a :: l, b :: m, j + 1, zr, h, h2 => by
    simp only [xnth] at h2 ⊢
    exact zrelss_nth h.2 h2
theorem zrl_0 : zrels zms_0 xms_0 := ⟨⟨Or.inr zk_0, rfl⟩, ⟨⟨Or.inl rfl, rfl⟩, ⟨⟨Or.inl rfl, rfl⟩, ⟨⟨Or.inl rfl, rfl⟩, ⟨⟨Or.inl rfl, rfl⟩, ⟨⟨Or.inl rfl, rfl⟩, ⟨⟨Or.inl rfl, rfl⟩, ⟨⟨Or.inl rfl, rfl⟩, ⟨⟨Or.inl rfl, rfl⟩, ⟨⟨Or.inr zk_9, rfl⟩, ⟨⟨Or.inl rfl, rfl⟩, ⟨⟨Or.inl rfl, rfl⟩, ⟨⟨Or.inl rfl, rfl⟩, ⟨⟨Or.inl rfl, rfl⟩, ⟨⟨Or.inl rfl, rfl⟩, ⟨⟨Or.inl rfl, rfl⟩, trivial⟩⟩⟩⟩⟩⟩⟩⟩⟩⟩⟩⟩⟩⟩⟩⟩
theorem zrl_1 : zrels zms_1 xms_1 := ⟨⟨Or.inl rfl, rfl⟩, ⟨⟨Or.inl rfl, rfl⟩, ⟨⟨Or.inl rfl, rfl⟩, ⟨⟨Or.inl rfl, rfl⟩, ⟨⟨Or.inl rfl, rfl⟩, ⟨⟨Or.inl rfl, rfl⟩, ⟨⟨Or.inl rfl, rfl⟩, ⟨⟨Or.inr zk_23, rfl⟩, ⟨⟨Or.inl rfl, rfl⟩, ⟨⟨Or.inl rfl, rfl⟩, ⟨⟨Or.inl rfl, rfl⟩, ⟨⟨Or.inl rfl, rfl⟩, ⟨⟨Or.inl rfl, rfl⟩, ⟨⟨Or.inl rfl, rfl⟩, ⟨⟨Or.inl rfl, rfl⟩, ⟨⟨Or.inl rfl, rfl⟩, trivial⟩⟩⟩⟩⟩⟩⟩⟩⟩⟩⟩⟩⟩⟩⟩⟩
theorem zrl_2 : zrels zms_2 xms_2 := ⟨⟨Or.inl rfl, rfl⟩, ⟨⟨Or.inl rfl, rfl⟩, ⟨⟨Or.inl rfl, rfl⟩, ⟨⟨Or.inl rfl, rfl⟩, ⟨⟨Or.inl rfl, rfl⟩, ⟨⟨Or.inl rfl, rfl⟩, ⟨⟨Or.inl rfl, rfl⟩, ⟨⟨Or.inl rfl, rfl⟩, ⟨⟨Or.inl rfl, rfl⟩, ⟨⟨Or.inr zk_41, rfl⟩, ⟨⟨Or.inl rfl, rfl⟩, ⟨⟨Or.inl rfl, rfl⟩, ⟨⟨Or.inl rfl, rfl⟩, ⟨⟨Or.inl rfl, rfl⟩, ⟨⟨Or.inl rfl, rfl⟩, ⟨⟨Or.inl rfl, rfl⟩, trivial⟩⟩⟩⟩⟩⟩⟩⟩⟩⟩⟩⟩⟩⟩⟩⟩
theorem zrl_3 : zrels zms_3 xms_3 := ⟨⟨Or.inl rfl, rfl⟩, ⟨⟨Or.inl rfl, rfl⟩, ⟨⟨Or.inr zk_50, rfl⟩, ⟨⟨Or.inl rfl, rfl⟩, ⟨⟨Or.inl rfl, rfl⟩, ⟨⟨Or.inl rfl, rfl⟩, ⟨⟨Or.inl rfl, rfl⟩, ⟨⟨Or.inl rfl, rfl⟩, ⟨⟨Or.inl rfl, rfl⟩, ⟨⟨Or.inl rfl, rfl⟩, ⟨⟨Or.inl rfl, rfl⟩, ⟨⟨Or.inl rfl, rfl⟩, ⟨⟨Or.inl rfl, rfl⟩, ⟨⟨Or.inr zk_61, rfl⟩, ⟨⟨Or.inl rfl, rfl⟩, ⟨⟨Or.inl rfl, rfl⟩, trivial⟩⟩⟩⟩⟩⟩⟩⟩⟩⟩⟩⟩⟩⟩⟩⟩
theorem zrl_4 : zrels zms_4 xms_4 := ⟨⟨Or.inl rfl, rfl⟩, ⟨⟨Or.inl rfl, rfl⟩, ⟨⟨Or.inl rfl, rfl⟩, ⟨⟨Or.inl rfl, rfl⟩, ⟨⟨Or.inl rfl, rfl⟩, ⟨⟨Or.inl rfl, rfl⟩, ⟨⟨Or.inr zk_70, rfl⟩, ⟨⟨Or.inr zk_71, rfl⟩, ⟨⟨Or.inl rfl, rfl⟩, ⟨⟨Or.inl rfl, rfl⟩, ⟨⟨Or.inr zk_74, rfl⟩, ⟨⟨Or.inl rfl, rfl⟩, ⟨⟨Or.inl rfl, rfl⟩, ⟨⟨Or.inl rfl, rfl⟩, ⟨⟨Or.inl rfl, rfl⟩, ⟨⟨Or.inl rfl, rfl⟩, trivial⟩⟩⟩⟩⟩⟩⟩⟩⟩⟩⟩⟩⟩⟩⟩⟩
theorem zrl_5 : zrels zms_5 xms_5 := ⟨⟨Or.inl rfl, rfl⟩, ⟨⟨Or.inl rfl, rfl⟩, ⟨⟨Or.inl rfl, rfl⟩, ⟨⟨Or.inl rfl, rfl⟩, ⟨⟨Or.inl rfl, rfl⟩, ⟨⟨Or.inl rfl, rfl⟩, ⟨⟨Or.inl rfl, rfl⟩, ⟨⟨Or.inl rfl, rfl⟩, ⟨⟨Or.inl rfl, rfl⟩, ⟨⟨Or.inl rfl, rfl⟩, ⟨⟨Or.inr zk_90, rfl⟩, ⟨⟨Or.inl rfl, rfl⟩, ⟨⟨Or.inl rfl, rfl⟩, ⟨⟨Or.inl rfl, rfl⟩, ⟨⟨Or.inl rfl, rfl⟩, ⟨⟨Or.inr zk_95, rfl⟩, trivial⟩⟩⟩⟩⟩⟩⟩⟩⟩⟩⟩⟩⟩⟩⟩⟩
theorem zrl_6 : zrels zms_6 xms_6 := ⟨⟨Or.inl rfl, rfl⟩, ⟨⟨Or.inl rfl, rfl⟩, ⟨⟨Or.inl rfl, rfl⟩, ⟨⟨Or.inl rfl, rfl⟩, ⟨⟨Or.inl rfl, rfl⟩, ⟨⟨Or.inl rfl, rfl⟩, ⟨⟨Or.inl rfl, rfl⟩, ⟨⟨Or.inr zk_103, rfl⟩, ⟨⟨Or.inr zk_104, rfl⟩, ⟨⟨Or.inl rfl, rfl⟩, ⟨⟨Or.inl rfl, rfl⟩, ⟨⟨Or.inl rfl, rfl⟩, ⟨⟨Or.inl rfl, rfl⟩, ⟨⟨Or.inl rfl, rfl⟩, ⟨⟨Or.inl rfl, rfl⟩, ⟨⟨Or.inl rfl, rfl⟩, trivial⟩⟩⟩⟩⟩⟩⟩⟩⟩⟩⟩⟩⟩⟩⟩⟩
theorem zrl_7 : zrels zms_7 xms_7 := ⟨⟨Or.inl rfl, rfl⟩, ⟨⟨Or.inl rfl, rfl⟩, ⟨⟨Or.inl rfl, rfl⟩, ⟨⟨Or.inl rfl, rfl⟩, ⟨⟨Or.inl rfl, rfl⟩, ⟨⟨Or.inr zk_117, rfl⟩, ⟨⟨Or.inl rfl, rfl⟩, ⟨⟨Or.inl rfl, rfl⟩, ⟨⟨Or.inl rfl, rfl⟩, ⟨⟨Or.inl rfl, rfl⟩, ⟨⟨Or.inl rfl, rfl⟩, ⟨⟨Or.inl rfl, rfl⟩, ⟨⟨Or.inl rfl, rfl⟩, ⟨⟨Or.inl rfl, rfl⟩, ⟨⟨Or.inl rfl, rfl⟩, ⟨⟨Or.inl rfl, rfl⟩, trivial⟩⟩⟩⟩⟩⟩⟩⟩⟩⟩⟩⟩⟩⟩⟩⟩
theorem zrl_8 : zrels zms_8 xms_8 := ⟨⟨Or.inl rfl, rfl⟩, ⟨⟨Or.inl rfl, rfl⟩, ⟨⟨Or.inl rfl, rfl⟩, ⟨⟨Or.inl rfl, rfl⟩, ⟨⟨Or.inl rfl, rfl⟩, ⟨⟨Or.inl rfl, rfl⟩, ⟨⟨Or.inl rfl, rfl⟩, ⟨⟨Or.inl rfl, rfl⟩, ⟨⟨Or.inl rfl, rfl⟩, ⟨⟨Or.inl rfl, rfl⟩, ⟨⟨Or.inl rfl, rfl⟩, ⟨⟨Or.inl rfl, rfl⟩, ⟨⟨Or.inl rfl, rfl⟩, ⟨⟨Or.inl rfl, rfl⟩, ⟨⟨Or.inl rfl, rfl⟩, ⟨⟨Or.inl rfl, rfl⟩, trivial⟩⟩⟩⟩⟩⟩⟩⟩⟩⟩⟩⟩⟩⟩⟩⟩
theorem zrl_9 : zrels zms_9 xms_9 := ⟨⟨Or.inl rfl, rfl⟩, ⟨⟨Or.inl rfl, rfl⟩, ⟨⟨Or.inl rfl, rfl⟩, ⟨⟨Or.inl rfl, rfl⟩, ⟨⟨Or.inl rfl, rfl⟩, ⟨⟨Or.inl rfl, rfl⟩, ⟨⟨Or.inl rfl, rfl⟩, ⟨⟨Or.inl rfl, rfl⟩, ⟨⟨Or.inl rfl, rfl⟩, ⟨⟨Or.inl rfl, rfl⟩, ⟨⟨Or.inl rfl, rfl⟩, ⟨⟨Or.inl rfl, rfl⟩, ⟨⟨Or.inl rfl, rfl⟩, ⟨⟨Or.inl rfl, rfl⟩, ⟨⟨Or.inl rfl, rfl⟩, ⟨⟨Or.inl rfl, rfl⟩, trivial⟩⟩⟩⟩⟩⟩⟩⟩⟩⟩⟩⟩⟩⟩⟩⟩
theorem zrl_10 : zrels zms_10 xms_10 := ⟨⟨Or.inl rfl, rfl⟩, ⟨⟨Or.inl rfl, rfl⟩, ⟨⟨Or.inl rfl, rfl⟩, ⟨⟨Or.inl rfl, rfl⟩, ⟨⟨Or.inl rfl, rfl⟩, ⟨⟨Or.inl rfl, rfl⟩, ⟨⟨Or.inl rfl, rfl⟩, ⟨⟨Or.inl rfl, rfl⟩, ⟨⟨Or.inl rfl, rfl⟩, ⟨⟨Or.inl rfl, rfl⟩, ⟨⟨Or.inl rfl, rfl⟩, ⟨⟨Or.inl rfl, rfl⟩, ⟨⟨Or.inl rfl, rfl⟩, ⟨⟨Or.inl rfl, rfl⟩, ⟨⟨Or.inl rfl, rfl⟩, ⟨⟨Or.inl rfl, rfl⟩, trivial⟩⟩⟩⟩⟩⟩⟩⟩⟩⟩⟩⟩⟩⟩⟩⟩
theorem zrl_11 : zrels zms_11 xms_11 := ⟨⟨Or.inl rfl, rfl⟩, ⟨⟨Or.inl rfl, rfl⟩, ⟨⟨Or.inl rfl, rfl⟩, ⟨⟨Or.inl rfl, rfl⟩, ⟨⟨Or.inl rfl, rfl⟩, ⟨⟨Or.inl rfl, rfl⟩, ⟨⟨Or.inl rfl, rfl⟩, ⟨⟨Or.inl rfl, rfl⟩, ⟨⟨Or.inl rfl, rfl⟩, ⟨⟨Or.inl rfl, rfl⟩, ⟨⟨Or.inl rfl, rfl⟩, ⟨⟨Or.inl rfl, rfl⟩, ⟨⟨Or.inl rfl, rfl⟩, ⟨⟨Or.inl rfl, rfl⟩, ⟨⟨Or.inl rfl, rfl⟩, ⟨⟨Or.inl rfl, rfl⟩, trivial⟩⟩⟩⟩⟩⟩⟩⟩⟩⟩⟩⟩⟩⟩⟩⟩
theorem zrl_12 : zrels zms_12 xms_12 := ⟨⟨Or.inl rfl, rfl⟩, ⟨⟨Or.inl rfl, rfl⟩, ⟨⟨Or.inl rfl, rfl⟩, ⟨⟨Or.inl rfl, rfl⟩, ⟨⟨Or.inl rfl, rfl⟩, ⟨⟨Or.inl rfl, rfl⟩, ⟨⟨Or.inl rfl, rfl⟩, ⟨⟨Or.inr zk_199, rfl⟩, ⟨⟨Or.inr zk_200, rfl⟩, ⟨⟨Or.inl rfl, rfl⟩, ⟨⟨Or.inl rfl, rfl⟩, ⟨⟨Or.inl rfl, rfl⟩, ⟨⟨Or.inl rfl, rfl⟩, ⟨⟨Or.inl rfl, rfl⟩, ⟨⟨Or.inl rfl, rfl⟩, ⟨⟨Or.inl rfl, rfl⟩, trivial⟩⟩⟩⟩⟩⟩⟩⟩⟩⟩⟩⟩⟩⟩⟩⟩
theorem zrl_13 : zrels zms_13 xms_13 := ⟨⟨Or.inl rfl, rfl⟩, ⟨⟨Or.inl rfl, rfl⟩, ⟨⟨Or.inl rfl, rfl⟩, ⟨⟨Or.inl rfl, rfl⟩, ⟨⟨Or.inl rfl, rfl⟩, ⟨⟨Or.inl rfl, rfl⟩, ⟨⟨Or.inl rfl, rfl⟩, ⟨⟨Or.inl rfl, rfl⟩, ⟨⟨Or.inl rfl, rfl⟩, ⟨⟨Or.inl rfl, rfl⟩, ⟨⟨Or.inl rfl, rfl⟩, ⟨⟨Or.inl rfl, rfl⟩, ⟨⟨Or.inl rfl, rfl⟩, ⟨⟨Or.inl rfl, rfl⟩, ⟨⟨Or.inl rfl, rfl⟩, ⟨⟨Or.inl rfl, rfl⟩, trivial⟩⟩⟩⟩⟩⟩⟩⟩⟩⟩⟩⟩⟩⟩⟩⟩
theorem zrl_14 : zrels zms_14 xms_14 := ⟨⟨Or.inl rfl, rfl⟩, ⟨⟨Or.inl rfl, rfl⟩, ⟨⟨Or.inl rfl, rfl⟩, ⟨⟨Or.inl rfl, rfl⟩, ⟨⟨Or.inl rfl, rfl⟩, ⟨⟨Or.inl rfl, rfl⟩, ⟨⟨Or.inl rfl, rfl⟩, ⟨⟨Or.inl rfl, rfl⟩, ⟨⟨Or.inl rfl, rfl⟩, ⟨⟨Or.inl rfl, rfl⟩, ⟨⟨Or.inl rfl, rfl⟩, ⟨⟨Or.inl rfl, rfl⟩, ⟨⟨Or.inl rfl, rfl⟩, ⟨⟨Or.inl rfl, rfl⟩, ⟨⟨Or.inl rfl, rfl⟩, ⟨⟨Or.inl rfl, rfl⟩, trivial⟩⟩⟩⟩⟩⟩⟩⟩⟩⟩⟩⟩⟩⟩⟩⟩
theorem zrl_15 : zrels zms_15 xms_15 := ⟨⟨Or.inl rfl, rfl⟩, ⟨⟨Or.inl rfl, rfl⟩, ⟨⟨Or.inl rfl, rfl⟩, ⟨⟨Or.inl rfl, rfl⟩, ⟨⟨Or.inl rfl, rfl⟩, ⟨⟨Or.inl rfl, rfl⟩, ⟨⟨Or.inl rfl, rfl⟩, ⟨⟨Or.inl rfl, rfl⟩, ⟨⟨Or.inl rfl, rfl⟩, ⟨⟨Or.inl rfl, rfl⟩, ⟨⟨Or.inl rfl, rfl⟩, ⟨⟨Or.inl rfl, rfl⟩, ⟨⟨Or.inl rfl, rfl⟩, ⟨⟨Or.inl rfl, rfl⟩, ⟨⟨Or.inl rfl, rfl⟩, ⟨⟨Or.inl rfl, rfl⟩, trivial⟩⟩⟩⟩⟩⟩⟩⟩⟩⟩⟩⟩⟩⟩⟩⟩
theorem zrl_16 : zrels zms_16 xms_16 := ⟨⟨Or.inl rfl, rfl⟩, ⟨⟨Or.inl rfl, rfl⟩, ⟨⟨Or.inl rfl, rfl⟩, ⟨⟨Or.inl rfl, rfl⟩, ⟨⟨Or.inl rfl, rfl⟩, ⟨⟨Or.inl rfl, rfl⟩, ⟨⟨Or.inl rfl, rfl⟩, ⟨⟨Or.inl rfl, rfl⟩, ⟨⟨Or.inl rfl, rfl⟩, ⟨⟨Or.inl rfl, rfl⟩, ⟨⟨Or.inl rfl, rfl⟩, ⟨⟨Or.inl rfl, rfl⟩, ⟨⟨Or.inl rfl, rfl⟩, ⟨⟨Or.inl rfl, rfl⟩, ⟨⟨Or.inl rfl, rfl⟩, ⟨⟨Or.inl rfl, rfl⟩, trivial⟩⟩⟩⟩⟩⟩⟩⟩⟩⟩⟩⟩⟩⟩⟩⟩
theorem zrl_17 : zrels zms_17 xms_17 := ⟨⟨Or.inl rfl, rfl⟩, ⟨⟨Or.inl rfl, rfl⟩, ⟨⟨Or.inl rfl, rfl⟩, ⟨⟨Or.inl rfl, rfl⟩, ⟨⟨Or.inl rfl, rfl⟩, ⟨⟨Or.inl rfl, rfl⟩, ⟨⟨Or.inl rfl, rfl⟩, ⟨⟨Or.inl rfl, rfl⟩, ⟨⟨Or.inl rfl, rfl⟩, ⟨⟨Or.inl rfl, rfl⟩, ⟨⟨Or.inl rfl, rfl⟩, ⟨⟨Or.inl rfl, rfl⟩, ⟨⟨Or.inl rfl, rfl⟩, ⟨⟨Or.inl rfl, rfl⟩, ⟨⟨Or.inl rfl, rfl⟩, ⟨⟨Or.inl rfl, rfl⟩, trivial⟩⟩⟩⟩⟩⟩⟩⟩⟩⟩⟩⟩⟩⟩⟩⟩
theorem zrl_18 : zrels zms_18 xms_18 := ⟨⟨Or.inl rfl, rfl⟩, ⟨⟨Or.inl rfl, rfl⟩, ⟨⟨Or.inl rfl, rfl⟩, ⟨⟨Or.inl rfl, rfl⟩, ⟨⟨Or.inl rfl, rfl⟩, ⟨⟨Or.inl rfl, rfl⟩, ⟨⟨Or.inl rfl, rfl⟩, ⟨⟨Or.inl rfl, rfl⟩, ⟨⟨Or.inl rfl, rfl⟩, ⟨⟨Or.inl rfl, rfl⟩, ⟨⟨Or.inl rfl, rfl⟩, ⟨⟨Or.inl rfl, rfl⟩, ⟨⟨Or.inl rfl, rfl⟩, ⟨⟨Or.inl rfl, rfl⟩, ⟨⟨Or.inl rfl, rfl⟩, ⟨⟨Or.inl rfl, rfl⟩, trivial⟩⟩⟩⟩⟩⟩⟩⟩⟩⟩⟩⟩⟩⟩⟩⟩
theorem zrl_19 : zrels zms_19 xms_19 := ⟨⟨Or.inl rfl, rfl⟩, ⟨⟨Or.inl rfl, rfl⟩, ⟨⟨Or.inl rfl, rfl⟩, ⟨⟨Or.inl rfl, rfl⟩, ⟨⟨Or.inl rfl, rfl⟩, ⟨⟨Or.inl rfl, rfl⟩, ⟨⟨Or.inl rfl, rfl⟩, ⟨⟨Or.inl rfl, rfl⟩, ⟨⟨Or.inl rfl, rfl⟩, ⟨⟨Or.inl rfl, rfl⟩, ⟨⟨Or.inl rfl, rfl⟩, ⟨⟨Or.inl rfl, rfl⟩, ⟨⟨Or.inl rfl, rfl⟩, ⟨⟨Or.inl rfl, rfl⟩, ⟨⟨Or.inl rfl, rfl⟩, ⟨⟨Or.inl rfl, rfl⟩, trivial⟩⟩⟩⟩⟩⟩⟩⟩⟩⟩⟩⟩⟩⟩⟩⟩
theorem zrl_20 : zrels zms_20 xms_20 := ⟨⟨Or.inl rfl, rfl⟩, ⟨⟨Or.inl rfl, rfl⟩, ⟨⟨Or.inl rfl, rfl⟩, ⟨⟨Or.inl rfl, rfl⟩, ⟨⟨Or.inl rfl, rfl⟩, ⟨⟨Or.inl rfl, rfl⟩, ⟨⟨Or.inl rfl, rfl⟩, ⟨⟨Or.inl rfl, rfl⟩, ⟨⟨Or.inl rfl, rfl⟩, ⟨⟨Or.inl rfl, rfl⟩, ⟨⟨Or.inl rfl, rfl⟩, ⟨⟨Or.inl rfl, rfl⟩, ⟨⟨Or.inl rfl, rfl⟩, ⟨⟨Or.inl rfl, rfl⟩, ⟨⟨Or.inl rfl, rfl⟩, ⟨⟨Or.inl rfl, rfl⟩, trivial⟩⟩⟩⟩⟩⟩⟩⟩⟩⟩⟩⟩⟩⟩⟩⟩
theorem zrl_21 : zrels zms_21 xms_21 := ⟨⟨Or.inl rfl, rfl⟩, ⟨⟨Or.inl rfl, rfl⟩, ⟨⟨Or.inl rfl, rfl⟩, ⟨⟨Or.inl rfl, rfl⟩, ⟨⟨Or.inl rfl, rfl⟩, ⟨⟨Or.inl rfl, rfl⟩, ⟨⟨Or.inl rfl, rfl⟩, ⟨⟨Or.inl rfl, rfl⟩, ⟨⟨Or.inl rfl, rfl⟩, ⟨⟨Or.inl rfl, rfl⟩, ⟨⟨Or.inl rfl, rfl⟩, ⟨⟨Or.inl rfl, rfl⟩, ⟨⟨Or.inl rfl, rfl⟩, ⟨⟨Or.inl rfl, rfl⟩, ⟨⟨Or.inl rfl, rfl⟩, ⟨⟨Or.inl rfl, rfl⟩, trivial⟩⟩⟩⟩⟩⟩⟩⟩⟩⟩⟩⟩⟩⟩⟩⟩
theorem zrl_22 : zrels zms_22 xms_22 := ⟨⟨Or.inl rfl, rfl⟩, ⟨⟨Or.inl rfl, rfl⟩, ⟨⟨Or.inl rfl, rfl⟩, ⟨⟨Or.inr zk_355, rfl⟩, ⟨⟨Or.inl rfl, rfl⟩, trivial⟩⟩⟩⟩⟩
theorem zrl_all : zrelss zms xms := ⟨zrl_0, ⟨zrl_1, ⟨zrl_2, ⟨zrl_3, ⟨zrl_4, ⟨zrl_5, ⟨zrl_6, ⟨zrl_7, ⟨zrl_8, ⟨zrl_9, ⟨zrl_10, ⟨zrl_11, ⟨zrl_12, ⟨zrl_13, ⟨zrl_14, ⟨zrl_15, ⟨zrl_16, ⟨zrl_17, ⟨zrl_18, ⟨zrl_19, ⟨zrl_20, ⟨zrl_21, ⟨zrl_22, trivial⟩⟩⟩⟩⟩⟩⟩⟩⟩⟩⟩⟩⟩⟩⟩⟩⟩⟩⟩⟩⟩⟩⟩
theorem zmeth_ok : ∀ y zr, zmeth y = some zr → ∃ r, xmeth y = some r ∧ zrel zr r := by
  intro y zr h
  unfold zmeth at h
  unfold xmeth
  split at h
  · rename_i l hl
    obtain ⟨l2, h1, h2⟩ := zrelss_nth zrl_all hl
    rw [h1]
    exact zrels_nth h2 h
  · cases h
