noncomputable def zt_0 : zT := [[some (.inl (zLA 1 0)), some (.inl (zobj)), none, none, some (.inl (zLA 1 0)), some (.inl (znew 1)), none, none],
  [some (.inl (zdup)), some (.inr (.invokespecial 13, 9, 1, 1)), none, none, some (.inl (zput' 0 0)), none, none, some (.inl (zLA 1 0))],
  [some (.inl (zPI 3 (Int16.ofInt 201).toInt32)), none, none, some (.inl (znewa .int)), none, some (.inl (zput' 0 1)), none, none],
  [some (.inl (zLA 1 0)), some (.inl (zPI 3 (Int16.ofInt 201).toInt32)), none, none, some (.inl (znewa .int)), none, some (.inl (zput' 0 2)), none],
  [none, some (.inl (zLA 1 0)), some (.inl (zPI 2 (Int8.ofInt 64).toInt32)), none, some (.inl (znewa .long)), none, some (.inl (zput' 0 3)), none],
  [none, some (.inr (.return_, 0, 0, 0))]]
theorem zk_0 : zt_0 = xt_0.map (fun l => l.map (Option.map zcv)) := rfl
noncomputable def zt_1 : zT := [[some (.inl (zLA 1 0)), some (.inl (zget' 0 0)), none, none, some (.inl (zLA 1 1)), some (.inl (zget' 10 1)), none, none],
  [some (.inr (.invokevirtual 34, 10, 2, 1)), none, none, some (.inl (zPI 1 (Int32.ofInt 0))), some (.inl (zS1 1 3)), some (.inl (zL1 1 3)), some (.inl (zL1 1 2)), some (.inl (zic .ge 35))],
  [none, none, some (.inl (zLA 1 0)), some (.inl (zget' 0 0)), none, none, some (.inl (zLA 1 1)), some (.inl (zget' 10 0))],
  [none, none, some (.inr (.invokevirtual 42, 18, 2, 1)), none, none, some (.inl (zinc 3 1)), none, none],
  [some (.inl (zgo 13)), none, none, some (.inr (.return_, 0, 0, 0))]]
theorem zk_1 : zt_1 = xt_1.map (fun l => l.map (Option.map zcv)) := rfl
noncomputable def zt_2 : zT := [[some (.inl (zLA 1 0)), some (.inl (zget' 0 0)), none, none, some (.inl (zLA 1 1)), some (.inl (zget' 10 1)), none, none],
  [some (.inr (.invokevirtual 34, 10, 2, 1)), none, none, some (.inl (zLA 1 0)), some (.inl (zget' 0 1)), none, none, some (.inl (zPI 1 (Int32.ofInt 0)))],
  [some (.inl (zLA 1 1)), some (.inl (zget' 10 2)), none, none, some (.inl (zLA 1 0)), some (.inl (zget' 0 0)), none, none],
  [some (.inr (.invokevirtual 50, 92, 2, 8)), none, none, some (.inl (ziast)), some (.inl (zPI 1 (Int32.ofInt 1))), some (.inl (zS1 1 3)), some (.inl (zL1 1 3)), some (.inl (zL1 1 2))],
  [some (.inl (zic .gt 76)), none, none, some (.inl (zL1 1 3)), some (.inl (zPI 3 (Int16.ofInt 200).toInt32)), none, none, some (.inl (zic .gt 76))],
  [none, none, some (.inl (zLA 1 0)), some (.inl (zget' 0 0)), none, none, some (.inl (zLA 1 1)), some (.inl (zget' 10 0))],
  [none, none, some (.inr (.invokevirtual 42, 18, 2, 1)), none, none, some (.inl (zLA 1 0)), some (.inl (zget' 0 1)), none],
  [none, some (.inl (zL1 1 3)), some (.inl (zLA 1 1)), some (.inl (zget' 10 2)), none, none, some (.inl (zLA 1 0)), some (.inl (zget' 0 0))],
  [none, none, some (.inr (.invokevirtual 50, 92, 2, 8)), none, none, some (.inl (ziast)), some (.inl (zinc 3 1)), none],
  [none, some (.inl (zgo 30)), none, none, some (.inr (.return_, 0, 0, 0))]]
theorem zk_2 : zt_2 = xt_2.map (fun l => l.map (Option.map zcv)) := rfl
noncomputable def zt_3 : zT := [[some (.inl (zLA 1 0)), some (.inl (zget' 0 0)), none, none, some (.inl (zLA 1 1)), some (.inl (zget' 10 1)), none, none],
  [some (.inr (.invokevirtual 34, 10, 2, 1)), none, none, some (.inl (zLA 1 0)), some (.inl (zget' 0 2)), none, none, some (.inl (zPI 1 (Int32.ofInt 0)))],
  [some (.inl (zLA 1 0)), some (.inl (zget' 0 0)), none, none, some (.inl (zL1 1 2)), some (.inr (.invokevirtual 56, 12, 2, 1)), none, none],
  [some (.inl (ziast)), some (.inl (zPI 1 (Int32.ofInt 1))), some (.inl (zS1 2 4)), none, some (.inl (zL1 2 4)), none, some (.inl (zL1 1 3)), some (.inl (zic .gt 74))],
  [none, none, some (.inl (zL1 2 4)), none, some (.inl (zPI 3 (Int16.ofInt 200).toInt32)), none, none, some (.inl (zic .gt 74))],
  [none, none, some (.inl (zLA 1 0)), some (.inl (zget' 0 0)), none, none, some (.inl (zLA 1 1)), some (.inl (zget' 10 0))],
  [none, none, some (.inr (.invokevirtual 42, 18, 2, 1)), none, none, some (.inl (zLA 1 0)), some (.inl (zget' 0 2)), none],
  [none, some (.inl (zL1 2 4)), none, some (.inl (zLA 1 0)), some (.inl (zget' 0 0)), none, none, some (.inl (zL1 1 2))],
  [some (.inr (.invokevirtual 56, 12, 2, 1)), none, none, some (.inl (ziast)), some (.inl (zinc 4 1)), none, none, some (.inl (zgo 28))],
  [none, none, some (.inr (.return_, 0, 0, 0))]]
theorem zk_3 : zt_3 = xt_3.map (fun l => l.map (Option.map zcv)) := rfl
noncomputable def zt_4 : zT := [[some (.inl (zLA 1 0)), some (.inl (zget' 0 0)), none, none, some (.inl (zLA 1 1)), some (.inl (zget' 10 1)), none, none],
  [some (.inr (.invokevirtual 34, 10, 2, 1)), none, none, some (.inl (zPI 1 (Int32.ofInt 1))), some (.inl (zS1 1 3)), some (.inl (zL1 1 3)), some (.inl (zPI 3 (Int16.ofInt 200).toInt32)), none],
  [none, some (.inl (zic .gt 54)), none, none, some (.inl (zLA 1 0)), some (.inl (zget' 0 0)), none, none],
  [some (.inl (zLA 1 1)), some (.inl (zget' 10 0)), none, none, some (.inr (.invokevirtual 42, 18, 2, 1)), none, none, some (.inl (zLA 1 1))],
  [some (.inl (zget' 10 2)), none, none, some (.inl (zL1 1 2)), some (.inl (zLA 1 0)), some (.inl (zget' 0 0)), none, none],
  [some (.inr (.invokevirtual 60, 93, 3, 8)), none, none, some (.inl (zif .eq 48)), none, none, some (.inl (zL1 1 3)), some (.inr (.ireturn, 0, 0, 0))],
  [some (.inl (zinc 3 1)), none, none, some (.inl (zgo 13)), none, none, some (.inl (zPI 1 (Int32.ofInt (-1)))), some (.inr (.ireturn, 0, 0, 0))]]
theorem zk_4 : zt_4 = xt_4.map (fun l => l.map (Option.map zcv)) := rfl
noncomputable def zt_5 : zT := [[some (.inl (zLA 1 0)), some (.inl (zLA 1 1)), some (.inl (zL1 1 3)), some (.inr (.invokevirtual 64, 2, 3, 0)), none, none, some (.inl (zLA 1 0)), some (.inl (zget' 0 3))],
  [none, none, some (.inl (zPL 3 (Int64.ofInt (-1)))), none, none, some (.inr (.invokestatic 70, 354, 2, 0)), none, none],
  [some (.inl (zLA 1 0)), some (.inl (zget' 0 3)), none, none, some (.inl (zPI 1 (Int32.ofInt 0))), some (.inl (zPL 1 (Int64.ofNat 0))), some (.inl (zlast)), some (.inl (zPI 1 (Int32.ofInt 1)))],
  [some (.inl (zS1 2 4)), none, some (.inl (zL1 2 4)), none, some (.inl (zL1 1 3)), some (.inl (zic .gt 91)), none, none],
  [some (.inl (zL1 2 4)), none, some (.inl (zPI 2 (Int8.ofInt 12).toInt32)), none, some (.inl (zic .gt 91)), none, none, some (.inl (zLA 1 1))],
  [some (.inl (zLA 1 1)), some (.inl (zget' 10 1)), none, none, some (.inl (zget' 1 1)), none, none, some (.inl (zL1 2 4))],
  [none, some (.inl (zadd)), some (.inr (.invokevirtual 80, 106, 2, 10)), none, none, some (.inl (zi2l)), some (.inl (zPI 2 (Int8.ofInt 16).toInt32)), none],
  [some (.inl (zlshl)), some (.inl (zPL 3 (Int64.ofInt 4096))), none, none, some (.inl (zlor)), some (.inl (zPL 1 (Int64.ofNat 1))), some (.inl (zL1 2 4)), none],
  [some (.inl (zPI 1 (Int32.ofInt 1))), some (.inl (zsub)), some (.inl (zlshl)), some (.inl (zlor)), some (.inl (zS2 2 5)), none, some (.inl (zLA 1 0)), some (.inl (zLA 1 0))],
  [some (.inl (zget' 0 1)), none, none, some (.inl (zL1 2 4)), none, some (.inl (ziald)), some (.inl (zL1 1 2)), some (.inl (zandI))],
  [some (.inl (zL2 2 5)), none, some (.inr (.invokevirtual 85, 6, 3, 0)), none, none, some (.inl (zinc 4 1)), none, none],
  [some (.inl (zgo 26)), none, none, some (.inl (zLA 1 0)), some (.inl (zget' 0 3)), none, none, some (.inl (zL1 1 2))],
  [some (.inl (zald' 22)), some (.inr (.lreturn, 0, 0, 0))]]
theorem zk_5 : zt_5 = xt_5.map (fun l => l.map (Option.map zcv)) := rfl
noncomputable def zt_6 : zT := [[some (.inl (zPI 2 (Int8.ofInt 63).toInt32)), none, some (.inl (zS1 2 4)), none, some (.inl (zL1 2 4)), none, some (.inl (zif .lt 97)), none],
  [none, some (.inl (zL1 2 4)), none, some (.inl (zL1 1 1)), some (.inl (zor)), some (.inl (zS1 2 5)), none, some (.inl (zLA 1 0))],
  [some (.inl (zget' 0 3)), none, none, some (.inl (zL1 2 4)), none, some (.inl (zald' 22)), some (.inl (zPL 3 (Int64.ofInt (-1)))), none],
  [none, some (.inl (zlcm)), some (.inl (zif .eq 67)), none, none, some (.inl (zLA 1 0)), some (.inl (zget' 0 3)), none],
  [none, some (.inl (zL1 2 5)), none, some (.inl (zald' 22)), some (.inl (zPL 3 (Int64.ofInt (-1)))), none, none, some (.inl (zlcm))],
  [some (.inl (zif .eq 63)), none, none, some (.inl (zLA 1 0)), some (.inl (zget' 0 3)), none, none, some (.inl (zL1 2 4))],
  [none, some (.inl (zald' 22)), some (.inl (zL2 1 2)), some (.inl (zladd)), some (.inl (zLA 1 0)), some (.inl (zget' 0 3)), none, none],
  [some (.inl (zL1 2 5)), none, some (.inl (zald' 22)), some (.inl (zlcm)), some (.inl (zif .ge 67)), none, none, some (.inl (zPI 1 (Int32.ofInt 1)))],
  [some (.inl (zgo 68)), none, none, some (.inl (zPI 1 (Int32.ofInt 0))), some (.inl (zS1 2 6)), none, some (.inl (zL1 2 6)), none],
  [some (.inl (zif .eq 91)), none, none, some (.inl (zLA 1 0)), some (.inl (zget' 0 3)), none, none, some (.inl (zL1 2 5))],
  [none, some (.inl (zLA 1 0)), some (.inl (zget' 0 3)), none, none, some (.inl (zL1 2 4)), none, some (.inl (zald' 22))],
  [some (.inl (zL2 1 2)), some (.inl (zladd)), some (.inl (zlast)), some (.inl (zinc 4 (-1))), none, none, some (.inl (zgo 4)), none],
  [none, some (.inr (.return_, 0, 0, 0))]]
theorem zk_6 : zt_6 = xt_6.map (fun l => l.map (Option.map zcv)) := rfl
noncomputable def zt_7 : zT := [[some (.inl (zL2 1 0)), some (.inl (zPI 2 (Int8.ofInt 16).toInt32)), none, some (.inl (zlshr)), some (.inl (zl2i)), some (.inr (.ireturn, 0, 0, 0))]]
theorem zk_7 : zt_7 = xt_7.map (fun l => l.map (Option.map zcv)) := rfl
noncomputable def zt_8 : zT := [[some (.inl (zL2 1 0)), some (.inl (zPL 3 (Int64.ofInt 4095))), none, none, some (.inl (zland)), some (.inl (zl2i)), some (.inr (.ireturn, 0, 0, 0))]]
theorem zk_8 : zt_8 = xt_8.map (fun l => l.map (Option.map zcv)) := rfl
noncomputable def zt_9 : zT := [[some (.inl (zLA 1 0)), some (.inl (zobj)), none, none, some (.inl (zLA 1 0)), some (.inl (zPI 1 (Int32.ofInt 0))), some (.inl (zput' 1 0)), none],
  [none, some (.inl (zLA 1 0)), some (.inl (zPI 1 (Int32.ofInt 0))), some (.inl (zput' 1 1)), none, none, some (.inl (zLA 1 0)), some (.inl (zPI 1 (Int32.ofInt 5)))],
  [some (.inl (znewa .long)), none, some (.inl (zput' 1 2)), none, none, some (.inl (zLA 1 0)), some (.inl (zPI 1 (Int32.ofInt 5))), some (.inl (znewa .int))],
  [none, some (.inl (zput' 1 3)), none, none, some (.inl (zLA 1 0)), some (.inl (zPI 1 (Int32.ofInt 5))), some (.inl (znewa .int)), none],
  [some (.inl (zput' 1 4)), none, none, some (.inl (zLA 1 0)), some (.inl (zPI 1 (Int32.ofInt 5))), some (.inl (znewa .int)), none, some (.inl (zput' 1 5))],
  [none, none, some (.inl (zLA 1 0)), some (.inl (zPI 1 (Int32.ofInt 5))), some (.inl (znewa .int)), none, some (.inl (zput' 1 6)), none],
  [none, some (.inl (zLA 1 0)), some (.inl (zPI 2 (Int8.ofInt 40).toInt32)), none, some (.inl (znewa .int)), none, some (.inl (zput' 1 7)), none],
  [none, some (.inl (zLA 1 0)), some (.inl (zPI 1 (Int32.ofInt 5))), some (.inl (znewa .int)), none, some (.inl (zput' 1 8)), none, none],
  [some (.inl (zLA 1 0)), some (.inl (zPI 1 (Int32.ofInt 5))), some (.inl (znewa .int)), none, some (.inl (zput' 1 9)), none, none, some (.inr (.return_, 0, 0, 0))]]
theorem zk_9 : zt_9 = xt_9.map (fun l => l.map (Option.map zcv)) := rfl
noncomputable def zt_10 : zT := [[some (.inl (zLA 1 0)), some (.inl (zLA 1 1)), some (.inl (zget' 1 0)), none, none, some (.inl (zput' 1 0)), none, none],
  [some (.inl (zLA 1 0)), some (.inl (zLA 1 1)), some (.inl (zget' 1 1)), none, none, some (.inl (zput' 1 1)), none, none],
  [some (.inl (zLA 1 1)), some (.inl (zget' 1 2)), none, none, some (.inl (zPI 1 (Int32.ofInt 0))), some (.inl (zLA 1 0)), some (.inl (zget' 1 2)), none],
  [none, some (.inl (zPI 1 (Int32.ofInt 0))), some (.inl (zPI 1 (Int32.ofInt 5))), some (.inl (zcopy')), none, none, some (.inl (zLA 1 1)), some (.inl (zget' 1 3))],
  [none, none, some (.inl (zPI 1 (Int32.ofInt 0))), some (.inl (zLA 1 0)), some (.inl (zget' 1 3)), none, none, some (.inl (zPI 1 (Int32.ofInt 0)))],
  [some (.inl (zPI 1 (Int32.ofInt 5))), some (.inl (zcopy')), none, none, some (.inl (zLA 1 1)), some (.inl (zget' 1 4)), none, none],
  [some (.inl (zPI 1 (Int32.ofInt 0))), some (.inl (zLA 1 0)), some (.inl (zget' 1 4)), none, none, some (.inl (zPI 1 (Int32.ofInt 0))), some (.inl (zPI 1 (Int32.ofInt 5))), some (.inl (zcopy'))],
  [none, none, some (.inl (zLA 1 1)), some (.inl (zget' 1 5)), none, none, some (.inl (zPI 1 (Int32.ofInt 0))), some (.inl (zLA 1 0))],
  [some (.inl (zget' 1 5)), none, none, some (.inl (zPI 1 (Int32.ofInt 0))), some (.inl (zPI 1 (Int32.ofInt 5))), some (.inl (zcopy')), none, none],
  [some (.inl (zLA 1 1)), some (.inl (zget' 1 6)), none, none, some (.inl (zPI 1 (Int32.ofInt 0))), some (.inl (zLA 1 0)), some (.inl (zget' 1 6)), none],
  [none, some (.inl (zPI 1 (Int32.ofInt 0))), some (.inl (zPI 1 (Int32.ofInt 5))), some (.inl (zcopy')), none, none, some (.inl (zLA 1 1)), some (.inl (zget' 1 7))],
  [none, none, some (.inl (zPI 1 (Int32.ofInt 0))), some (.inl (zLA 1 0)), some (.inl (zget' 1 7)), none, none, some (.inl (zPI 1 (Int32.ofInt 0)))],
  [some (.inl (zPI 2 (Int8.ofInt 40).toInt32)), none, some (.inl (zcopy')), none, none, some (.inl (zLA 1 1)), some (.inl (zget' 1 8)), none],
  [none, some (.inl (zPI 1 (Int32.ofInt 0))), some (.inl (zLA 1 0)), some (.inl (zget' 1 8)), none, none, some (.inl (zPI 1 (Int32.ofInt 0))), some (.inl (zPI 1 (Int32.ofInt 5)))],
  [some (.inl (zcopy')), none, none, some (.inl (zLA 1 1)), some (.inl (zget' 1 9)), none, none, some (.inl (zPI 1 (Int32.ofInt 0)))],
  [some (.inl (zLA 1 0)), some (.inl (zget' 1 9)), none, none, some (.inl (zPI 1 (Int32.ofInt 0))), some (.inl (zPI 1 (Int32.ofInt 5))), some (.inl (zcopy')), none],
  [none, some (.inr (.return_, 0, 0, 0))]]
theorem zk_10 : zt_10 = xt_10.map (fun l => l.map (Option.map zcv)) := rfl
noncomputable def zt_11 : zT := [[some (.inl (zLA 1 0)), some (.inl (zPI 1 (Int32.ofInt 0))), some (.inl (zput' 1 1)), none, none, some (.inl (zPI 1 (Int32.ofInt 0))), some (.inl (zS1 1 1)), some (.inl (zL1 1 1))],
  [some (.inl (zLA 1 0)), some (.inl (zget' 1 0)), none, none, some (.inl (zic .ge 53)), none, none, some (.inl (zLA 1 0))],
  [some (.inl (zget' 1 8)), none, none, some (.inl (zL1 1 1)), some (.inl (zLA 1 0)), some (.inl (zget' 1 4)), none, none],
  [some (.inl (zL1 1 1)), some (.inl (ziald)), some (.inl (zif .ne 33)), none, none, some (.inl (zPI 1 (Int32.ofInt 1))), some (.inl (zgo 34)), none],
  [none, some (.inl (zPI 1 (Int32.ofInt 0))), some (.inl (ziast)), some (.inl (zLA 1 0)), some (.inl (zget' 1 9)), none, none, some (.inl (zL1 1 1))],
  [some (.inl (zLA 1 0)), some (.inl (zget' 1 3)), none, none, some (.inl (zL1 1 1)), some (.inl (ziald)), some (.inl (ziast)), some (.inl (zinc 1 1))],
  [none, none, some (.inl (zgo 7)), none, none, some (.inr (.return_, 0, 0, 0))]]
theorem zk_11 : zt_11 = xt_11.map (fun l => l.map (Option.map zcv)) := rfl
noncomputable def zt_12 : zT := [[some (.inl (zLA 1 0)), some (.inl (zget' 1 8)), none, none, some (.inl (zL1 1 1)), some (.inl (ziald)), some (.inl (zPI 1 (Int32.ofInt 1))), some (.inl (zic .ne 19))],
  [none, none, some (.inl (zLA 1 0)), some (.inl (zget' 1 9)), none, none, some (.inl (zL1 1 1)), some (.inl (ziald))],
  [some (.inl (zgo 20)), none, none, some (.inl (zPI 1 (Int32.ofInt (-1)))), some (.inr (.ireturn, 0, 0, 0))]]
theorem zk_12 : zt_12 = xt_12.map (fun l => l.map (Option.map zcv)) := rfl
noncomputable def zt_13 : zT := [[some (.inl (zPI 1 (Int32.ofInt 0))), some (.inl (zS1 1 2)), some (.inl (zL1 1 2)), some (.inl (zLA 1 0)), some (.inl (zget' 1 0)), none, none, some (.inl (zic .ge 27))],
  [none, none, some (.inl (zLA 1 0)), some (.inl (zL1 1 2)), some (.inr (.invokevirtual 50, 12, 2, 1)), none, none, some (.inl (zL1 1 1))],
  [some (.inl (zic .ne 21)), none, none, some (.inl (zL1 1 2)), some (.inr (.ireturn, 0, 0, 0)), some (.inl (zinc 2 1)), none, none],
  [some (.inl (zgo 2)), none, none, some (.inl (zPI 1 (Int32.ofInt (-1)))), some (.inr (.ireturn, 0, 0, 0))]]
theorem zk_13 : zt_13 = xt_13.map (fun l => l.map (Option.map zcv)) := rfl
noncomputable def zt_14 : zT := [[some (.inl (zLA 1 2)), some (.inl (zget' 3 2)), none, none, some (.inl (zL1 1 1)), some (.inl (zlushr)), some (.inl (zPL 1 (Int64.ofNat 1))), some (.inl (zland))],
  [some (.inl (zPL 1 (Int64.ofNat 0))), some (.inl (zlcm)), some (.inl (zif .eq 15)), none, none, some (.inl (zPI 1 (Int32.ofInt 0))), some (.inr (.ireturn, 0, 0, 0)), some (.inl (zPI 1 (Int32.ofInt 0)))],
  [some (.inl (zS1 1 3)), some (.inl (zL1 1 3)), some (.inl (zLA 1 0)), some (.inl (zget' 1 0)), none, none, some (.inl (zic .ge 53)), none],
  [none, some (.inl (zLA 1 0)), some (.inl (zget' 1 8)), none, none, some (.inl (zL1 1 3)), some (.inl (ziald)), some (.inl (zPI 1 (Int32.ofInt 1)))],
  [some (.inl (zic .ne 47)), none, none, some (.inl (zLA 1 0)), some (.inl (zget' 1 9)), none, none, some (.inl (zL1 1 3))],
  [some (.inl (ziald)), some (.inl (zL1 1 1)), some (.inl (zic .ne 47)), none, none, some (.inl (zPI 1 (Int32.ofInt 0))), some (.inr (.ireturn, 0, 0, 0)), some (.inl (zinc 3 1))],
  [none, none, some (.inl (zgo 17)), none, none, some (.inl (zPI 1 (Int32.ofInt 1))), some (.inr (.ireturn, 0, 0, 0))]]
theorem zk_14 : zt_14 = xt_14.map (fun l => l.map (Option.map zcv)) := rfl
noncomputable def zt_15 : zT := [[some (.inl (zPI 1 (Int32.ofInt 0))), some (.inl (zS1 1 2)), some (.inl (zL1 1 2)), some (.inl (zLA 1 0)), some (.inl (zget' 1 0)), none, none, some (.inl (zic .ge 28))],
  [none, none, some (.inl (zLA 1 0)), some (.inl (zget' 1 3)), none, none, some (.inl (zL1 1 2)), some (.inl (ziald))],
  [some (.inl (zL1 1 1)), some (.inl (zic .ne 22)), none, none, some (.inl (zPI 1 (Int32.ofInt 1))), some (.inr (.ireturn, 0, 0, 0)), some (.inl (zinc 2 1)), none],
  [none, some (.inl (zgo 2)), none, none, some (.inl (zPI 1 (Int32.ofInt 0))), some (.inr (.ireturn, 0, 0, 0))]]
theorem zk_15 : zt_15 = xt_15.map (fun l => l.map (Option.map zcv)) := rfl
noncomputable def zt_16 : zT := [[some (.inl (zPI 1 (Int32.ofInt 0))), some (.inl (zS1 1 2)), some (.inl (zPI 1 (Int32.ofInt 0))), some (.inl (zS1 1 3)), some (.inl (zL1 1 3)), some (.inl (zLA 1 0)), some (.inl (zget' 1 0)), none],
  [none, some (.inl (zic .ge 34)), none, none, some (.inl (zLA 1 0)), some (.inl (zget' 1 8)), none, none],
  [some (.inl (zL1 1 3)), some (.inl (ziald)), some (.inl (zL1 1 1)), some (.inl (zic .ne 28)), none, none, some (.inl (zL1 1 2)), some (.inl (zPI 1 (Int32.ofInt 1)))],
  [some (.inl (zL1 1 3)), some (.inl (zshl)), some (.inl (zor)), some (.inl (zS1 1 2)), some (.inl (zinc 3 1)), none, none, some (.inl (zgo 4))],
  [none, none, some (.inl (zL1 1 2)), some (.inr (.ireturn, 0, 0, 0))]]
theorem zk_16 : zt_16 = xt_16.map (fun l => l.map (Option.map zcv)) := rfl
noncomputable def zt_17 : zT := [[some (.inl (zPI 1 (Int32.ofInt 0))), some (.inl (zS1 1 2)), some (.inl (zL1 1 2)), some (.inl (zLA 1 0)), some (.inl (zget' 1 0)), none, none, some (.inl (zic .ge 46))],
  [none, none, some (.inl (zLA 1 0)), some (.inl (zget' 1 8)), none, none, some (.inl (zL1 1 2)), some (.inl (ziald))],
  [some (.inl (zLA 1 1)), some (.inl (zget' 1 8)), none, none, some (.inl (zL1 1 2)), some (.inl (ziald)), some (.inl (zic .ne 38)), none],
  [none, some (.inl (zLA 1 0)), some (.inl (zL1 1 2)), some (.inr (.invokevirtual 50, 12, 2, 1)), none, none, some (.inl (zLA 1 1)), some (.inl (zL1 1 2))],
  [some (.inr (.invokevirtual 50, 12, 2, 1)), none, none, some (.inl (zic .eq 40)), none, none, some (.inl (zPI 1 (Int32.ofInt 0))), some (.inr (.ireturn, 0, 0, 0))],
  [some (.inl (zinc 2 1)), none, none, some (.inl (zgo 2)), none, none, some (.inl (zPI 1 (Int32.ofInt 1))), some (.inr (.ireturn, 0, 0, 0))]]
theorem zk_17 : zt_17 = xt_17.map (fun l => l.map (Option.map zcv)) := rfl
noncomputable def zt_18 : zT := [[some (.inl (zPI 1 (Int32.ofInt 0))), some (.inl (zS1 1 2)), some (.inl (zL1 1 2)), some (.inl (zLA 1 0)), some (.inl (zget' 1 0)), none, none, some (.inl (zic .ge 50))],
  [none, none, some (.inl (zLA 1 0)), some (.inl (zget' 1 8)), none, none, some (.inl (zL1 1 2)), some (.inl (ziald))],
  [some (.inl (zif .ne 28)), none, none, some (.inl (zLA 1 0)), some (.inl (zL1 1 2)), some (.inl (zLA 1 1)), some (.inr (.invokevirtual 60, 19, 3, 1)), none],
  [none, some (.inl (zgo 44)), none, none, some (.inl (zLA 1 0)), some (.inl (zget' 1 8)), none, none],
  [some (.inl (zL1 1 2)), some (.inl (ziald)), some (.inl (zPI 1 (Int32.ofInt 1))), some (.inl (zic .ne 44)), none, none, some (.inl (zLA 1 0)), some (.inl (zL1 1 2))],
  [some (.inl (zLA 1 1)), some (.inr (.invokevirtual 64, 20, 3, 1)), none, none, some (.inl (zinc 2 1)), none, none, some (.inl (zgo 2))],
  [none, none, some (.inl (zLA 1 0)), some (.inl (zdup)), some (.inl (zget' 1 1)), none, none, some (.inl (zPI 1 (Int32.ofInt 1)))],
  [some (.inl (zadd)), some (.inl (zput' 1 1)), none, none, some (.inr (.return_, 0, 0, 0))]]
theorem zk_18 : zt_18 = xt_18.map (fun l => l.map (Option.map zcv)) := rfl
noncomputable def zt_19 : zT := [[some (.inl (zLA 1 0)), some (.inl (zget' 1 4)), none, none, some (.inl (zL1 1 1)), some (.inl (ziald)), some (.inl (zLA 1 0)), some (.inl (zget' 1 1))],
  [none, none, some (.inl (zPI 1 (Int32.ofInt 1))), some (.inl (zadd)), some (.inl (zic .le 16)), none, none, some (.inr (.return_, 0, 0, 0))],
  [some (.inl (zLA 1 0)), some (.inl (zL1 1 1)), some (.inr (.invokevirtual 67, 21, 2, 1)), none, none, some (.inl (zif .eq 34)), none, none],
  [some (.inl (zLA 1 0)), some (.inl (zget' 1 8)), none, none, some (.inl (zL1 1 1)), some (.inl (zPI 1 (Int32.ofInt 2))), some (.inl (ziast)), some (.inl (zgo 67))],
  [none, none, some (.inl (zLA 1 0)), some (.inl (zLA 1 0)), some (.inl (zget' 1 3)), none, none, some (.inl (zL1 1 1))],
  [some (.inl (ziald)), some (.inl (zLA 1 2)), some (.inr (.invokevirtual 71, 14, 3, 1)), none, none, some (.inl (zif .eq 67)), none, none],
  [some (.inl (zLA 1 0)), some (.inl (zget' 1 8)), none, none, some (.inl (zL1 1 1)), some (.inl (zPI 1 (Int32.ofInt 1))), some (.inl (ziast)), some (.inl (zLA 1 0))],
  [some (.inl (zget' 1 9)), none, none, some (.inl (zL1 1 1)), some (.inl (zLA 1 0)), some (.inl (zget' 1 3)), none, none],
  [some (.inl (zL1 1 1)), some (.inl (ziald)), some (.inl (ziast)), some (.inr (.return_, 0, 0, 0))]]
theorem zk_19 : zt_19 = xt_19.map (fun l => l.map (Option.map zcv)) := rfl
noncomputable def zt_20 : zT := [[some (.inl (zLA 1 0)), some (.inl (zL1 1 1)), some (.inr (.invokevirtual 67, 21, 2, 1)), none, none, some (.inl (zif .eq 16)), none, none],
  [some (.inl (zLA 1 0)), some (.inl (zget' 1 8)), none, none, some (.inl (zL1 1 1)), some (.inl (zPI 1 (Int32.ofInt 2))), some (.inl (ziast)), some (.inr (.return_, 0, 0, 0))],
  [some (.inl (zLA 1 2)), some (.inl (zLA 1 0)), some (.inl (zget' 1 9)), none, none, some (.inl (zL1 1 1)), some (.inl (ziald)), some (.inl (zLA 1 0))],
  [some (.inl (zL1 1 1)), some (.inr (.invokevirtual 75, 22, 2, 1)), none, none, some (.inr (.invokevirtual 78, 48, 3, 3)), none, none, some (.inl (zS1 1 3))],
  [some (.inl (zL1 1 3)), some (.inl (zPI 1 (Int32.ofInt (-1)))), some (.inl (zic .eq 53)), none, none, some (.inl (zLA 1 0)), some (.inl (zL1 1 3)), some (.inl (zLA 1 2))],
  [some (.inr (.invokevirtual 71, 14, 3, 1)), none, none, some (.inl (zif .eq 53)), none, none, some (.inl (zLA 1 0)), some (.inl (zget' 1 9))],
  [none, none, some (.inl (zL1 1 1)), some (.inl (zL1 1 3)), some (.inl (ziast)), some (.inr (.return_, 0, 0, 0))]]
theorem zk_20 : zt_20 = xt_20.map (fun l => l.map (Option.map zcv)) := rfl
noncomputable def zt_21 : zT := [[some (.inl (zLA 1 0)), some (.inl (zget' 1 5)), none, none, some (.inl (zL1 1 1)), some (.inl (ziald)), some (.inl (zPI 1 (Int32.ofInt (-1)))), some (.inl (zic .eq 29))],
  [none, none, some (.inl (zLA 1 0)), some (.inl (zget' 1 5)), none, none, some (.inl (zL1 1 1)), some (.inl (ziald))],
  [some (.inl (zLA 1 0)), some (.inl (zget' 1 1)), none, none, some (.inl (zPI 1 (Int32.ofInt 1))), some (.inl (zadd)), some (.inl (zic .gt 29)), none],
  [none, some (.inl (zPI 1 (Int32.ofInt 1))), some (.inl (zgo 30)), none, none, some (.inl (zPI 1 (Int32.ofInt 0))), some (.inr (.ireturn, 0, 0, 0))]]
theorem zk_21 : zt_21 = xt_21.map (fun l => l.map (Option.map zcv)) := rfl
noncomputable def zt_22 : zT := [[some (.inl (zLA 1 0)), some (.inl (zget' 1 6)), none, none, some (.inl (zL1 1 1)), some (.inl (ziald)), some (.inl (zS1 1 2)), some (.inl (zL1 1 2))],
  [some (.inl (zPI 1 (Int32.ofInt 1))), some (.inl (zic .ge 16)), none, none, some (.inl (zPI 1 (Int32.ofInt 4))), some (.inl (zgo 32)), none, none],
  [some (.inl (zLA 1 0)), some (.inl (zget' 1 7)), none, none, some (.inl (zL1 1 1)), some (.inl (zPI 2 (Int8.ofInt 8).toInt32)), none, some (.inl (zmul))],
  [some (.inl (zLA 1 0)), some (.inl (zget' 1 1)), none, none, some (.inl (zL1 1 2)), some (.inl (zrem)), some (.inl (zadd)), some (.inl (ziald))],
  [some (.inr (.ireturn, 0, 0, 0))]]
theorem zk_22 : zt_22 = xt_22.map (fun l => l.map (Option.map zcv)) := rfl
noncomputable def zt_23 : zT := [[some (.inl (zLA 1 0)), some (.inl (zobj)), none, none, some (.inl (zLA 1 0)), some (.inl (zPI 3 (Int16.ofInt 900).toInt32)), none, none],
  [some (.inl (znewa .byte)), none, some (.inl (zput' 2 0)), none, none, some (.inl (zLA 1 0)), some (.inl (zPI 1 (Int32.ofInt 0))), some (.inl (zput' 2 1))],
  [none, none, some (.inl (zLA 1 0)), some (.inl (zPI 1 (Int32.ofInt 0))), some (.inl (zput' 2 2)), none, none, some (.inl (zLA 1 0))],
  [some (.inl (zPI 1 (Int32.ofInt 0))), some (.inl (zput' 2 3)), none, none, some (.inl (zLA 1 0)), some (.inl (zPI 1 (Int32.ofInt 0))), some (.inl (zput' 2 4)), none],
  [none, some (.inl (zLA 1 0)), some (.inl (zPI 1 (Int32.ofInt (-1)))), some (.inl (zput' 2 5)), none, none, some (.inl (zLA 1 0)), some (.inl (zPL 1 (Int64.ofNat 0)))],
  [some (.inl (zput' 2 6)), none, none, some (.inl (zLA 1 0)), some (.inl (zPI 1 (Int32.ofInt 0))), some (.inl (zput' 2 7)), none, none],
  [some (.inl (zLA 1 0)), some (.inl (zPI 1 (Int32.ofInt (-1)))), some (.inl (zput' 2 8)), none, none, some (.inl (zLA 1 0)), some (.inl (zPI 1 (Int32.ofInt 0))), some (.inl (zput' 2 9))],
  [none, none, some (.inl (zLA 1 0)), some (.inl (zPI 1 (Int32.ofInt (-1)))), some (.inl (zput' 2 10)), none, none, some (.inr (.return_, 0, 0, 0))]]
theorem zk_23 : zt_23 = xt_23.map (fun l => l.map (Option.map zcv)) := rfl
noncomputable def zt_24 : zT := [[some (.inl (zLA 1 0)), some (.inl (zL1 1 1)), some (.inl (zPI 3 (Int16.ofInt 900).toInt32)), none, none, some (.inl (zmin)), none, none],
  [some (.inl (zput' 2 1)), none, none, some (.inl (zLA 1 0)), some (.inl (zPI 1 (Int32.ofInt 0))), some (.inl (zput' 2 4)), none, none],
  [some (.inl (zLA 1 0)), some (.inl (zPI 1 (Int32.ofInt 0))), some (.inl (zput' 2 9)), none, none, some (.inl (zLA 1 0)), some (.inl (zPI 1 (Int32.ofInt (-1)))), some (.inl (zput' 2 10))],
  [none, none, some (.inl (zLA 1 0)), some (.inr (.invokevirtual 53, 25, 1, 2)), none, none, some (.inr (.return_, 0, 0, 0))]]
theorem zk_24 : zt_24 = xt_24.map (fun l => l.map (Option.map zcv)) := rfl
noncomputable def zt_25 : zT := [[some (.inl (zLA 1 0)), some (.inl (zLA 1 0)), some (.inl (zget' 2 4)), none, none, some (.inl (zput' 2 3)), none, none],
  [some (.inl (zLA 1 0)), some (.inl (zget' 2 3)), none, none, some (.inl (zLA 1 0)), some (.inl (zget' 2 1)), none, none],
  [some (.inl (zic .ge 60)), none, none, some (.inl (zLA 1 0)), some (.inl (zget' 2 0)), none, none, some (.inl (zLA 1 0))],
  [some (.inl (zget' 2 3)), none, none, some (.inl (zald' 21)), some (.inl (zPI 2 (Int8.ofInt 32).toInt32)), none, some (.inl (zic .eq 47)), none],
  [none, some (.inl (zLA 1 0)), some (.inl (zget' 2 0)), none, none, some (.inl (zLA 1 0)), some (.inl (zget' 2 3)), none],
  [none, some (.inl (zald' 21)), some (.inl (zPI 2 (Int8.ofInt 10).toInt32)), none, some (.inl (zic .ne 60)), none, none, some (.inl (zLA 1 0))],
  [some (.inl (zdup)), some (.inl (zget' 2 3)), none, none, some (.inl (zPI 1 (Int32.ofInt 1))), some (.inl (zadd)), some (.inl (zput' 2 3)), none],
  [none, some (.inl (zgo 8)), none, none, some (.inl (zLA 1 0)), some (.inl (zLA 1 0)), some (.inl (zget' 2 3)), none],
  [none, some (.inl (zput' 2 4)), none, none, some (.inl (zLA 1 0)), some (.inl (zPI 1 (Int32.ofInt (-1)))), some (.inl (zput' 2 5)), none],
  [none, some (.inl (zLA 1 0)), some (.inl (zPL 1 (Int64.ofNat 0))), some (.inl (zput' 2 6)), none, none, some (.inl (zLA 1 0)), some (.inl (zPI 1 (Int32.ofInt 0)))],
  [some (.inl (zput' 2 7)), none, none, some (.inl (zLA 1 0)), some (.inl (zget' 2 3)), none, none, some (.inl (zLA 1 0))],
  [some (.inl (zget' 2 1)), none, none, some (.inl (zic .lt 102)), none, none, some (.inl (zLA 1 0)), some (.inl (zPI 1 (Int32.ofInt 0)))],
  [some (.inl (zput' 2 2)), none, none, some (.inl (zgo 150)), none, none, some (.inl (zLA 1 0)), some (.inl (zLA 1 0))],
  [some (.inl (zget' 2 3)), none, none, some (.inr (.invokevirtual 56, 26, 2, 2)), none, none, some (.inl (zif .eq 128)), none],
  [none, some (.inl (zLA 1 0)), some (.inr (.invokevirtual 60, 28, 1, 2)), none, none, some (.inl (zLA 1 0)), some (.inl (zLA 1 0)), some (.inr (.invokevirtual 63, 31, 1, 2))],
  [none, none, some (.inl (zput' 2 5)), none, none, some (.inl (zgo 150)), none, none],
  [some (.inl (zLA 1 0)), some (.inl (zLA 1 0)), some (.inl (zget' 2 3)), none, none, some (.inr (.invokevirtual 67, 27, 2, 2)), none, none],
  [some (.inl (zif .eq 146)), none, none, some (.inl (zLA 1 0)), some (.inr (.invokevirtual 70, 29, 1, 2)), none, none, some (.inl (zgo 150))],
  [none, none, some (.inl (zLA 1 0)), some (.inr (.invokevirtual 73, 30, 1, 2)), none, none, some (.inr (.return_, 0, 0, 0))]]
theorem zk_25 : zt_25 = xt_25.map (fun l => l.map (Option.map zcv)) := rfl
noncomputable def zt_26 : zT := [[some (.inl (zL1 1 1)), some (.inl (zLA 1 0)), some (.inl (zget' 2 1)), none, none, some (.inl (zic .ge 34)), none, none],
  [some (.inl (zLA 1 0)), some (.inl (zget' 2 0)), none, none, some (.inl (zL1 1 1)), some (.inl (zald' 21)), some (.inl (zPI 2 (Int8.ofInt 97).toInt32)), none],
  [some (.inl (zic .lt 34)), none, none, some (.inl (zLA 1 0)), some (.inl (zget' 2 0)), none, none, some (.inl (zL1 1 1))],
  [some (.inl (zald' 21)), some (.inl (zPI 2 (Int8.ofInt 122).toInt32)), none, some (.inl (zic .gt 34)), none, none, some (.inl (zPI 1 (Int32.ofInt 1))), some (.inl (zgo 35))],
  [none, none, some (.inl (zPI 1 (Int32.ofInt 0))), some (.inr (.ireturn, 0, 0, 0))]]
theorem zk_26 : zt_26 = xt_26.map (fun l => l.map (Option.map zcv)) := rfl
noncomputable def zt_27 : zT := [[some (.inl (zL1 1 1)), some (.inl (zLA 1 0)), some (.inl (zget' 2 1)), none, none, some (.inl (zic .ge 34)), none, none],
  [some (.inl (zLA 1 0)), some (.inl (zget' 2 0)), none, none, some (.inl (zL1 1 1)), some (.inl (zald' 21)), some (.inl (zPI 2 (Int8.ofInt 48).toInt32)), none],
  [some (.inl (zic .lt 34)), none, none, some (.inl (zLA 1 0)), some (.inl (zget' 2 0)), none, none, some (.inl (zL1 1 1))],
  [some (.inl (zald' 21)), some (.inl (zPI 2 (Int8.ofInt 57).toInt32)), none, some (.inl (zic .gt 34)), none, none, some (.inl (zPI 1 (Int32.ofInt 1))), some (.inl (zgo 35))],
  [none, none, some (.inl (zPI 1 (Int32.ofInt 0))), some (.inr (.ireturn, 0, 0, 0))]]
theorem zk_27 : zt_27 = xt_27.map (fun l => l.map (Option.map zcv)) := rfl
noncomputable def zt_28 : zT := [[some (.inl (zLA 1 0)), some (.inl (zPI 1 (Int32.ofInt 1))), some (.inl (zput' 2 2)), none, none, some (.inl (zLA 1 0)), some (.inl (zget' 2 4)), none],
  [none, some (.inl (zLA 1 0)), some (.inl (zget' 2 1)), none, none, some (.inl (zic .ge 82)), none, none],
  [some (.inl (zLA 1 0)), some (.inl (zLA 1 0)), some (.inl (zget' 2 4)), none, none, some (.inr (.invokevirtual 56, 26, 2, 2)), none, none],
  [some (.inl (zif .eq 82)), none, none, some (.inl (zLA 1 0)), some (.inl (zget' 2 4)), none, none, some (.inl (zLA 1 0))],
  [some (.inl (zget' 2 3)), none, none, some (.inl (zsub)), some (.inl (zPI 2 (Int8.ofInt 8).toInt32)), none, some (.inl (zic .ge 69)), none],
  [none, some (.inl (zLA 1 0)), some (.inl (zLA 1 0)), some (.inl (zget' 2 6)), none, none, some (.inl (zPL 3 (Int64.ofInt 32))), none],
  [none, some (.inl (zlmul)), some (.inl (zLA 1 0)), some (.inl (zget' 2 0)), none, none, some (.inl (zLA 1 0)), some (.inl (zget' 2 4))],
  [none, none, some (.inl (zald' 21)), some (.inl (zPI 2 (Int8.ofInt 97).toInt32)), none, some (.inl (zsub)), some (.inl (zPI 1 (Int32.ofInt 1))), some (.inl (zadd))],
  [some (.inl (zi2l)), some (.inl (zladd)), some (.inl (zput' 2 6)), none, none, some (.inl (zLA 1 0)), some (.inl (zdup)), some (.inl (zget' 2 4))],
  [none, none, some (.inl (zPI 1 (Int32.ofInt 1))), some (.inl (zadd)), some (.inl (zput' 2 4)), none, none, some (.inl (zgo 5))],
  [none, none, some (.inr (.return_, 0, 0, 0))]]
theorem zk_28 : zt_28 = xt_28.map (fun l => l.map (Option.map zcv)) := rfl
noncomputable def zt_29 : zT := [[some (.inl (zLA 1 0)), some (.inl (zget' 2 4)), none, none, some (.inl (zLA 1 0)), some (.inl (zget' 2 1)), none, none],
  [some (.inl (zic .ge 72)), none, none, some (.inl (zLA 1 0)), some (.inl (zLA 1 0)), some (.inl (zget' 2 4)), none, none],
  [some (.inr (.invokevirtual 67, 27, 2, 2)), none, none, some (.inl (zif .eq 72)), none, none, some (.inl (zLA 1 0)), some (.inl (zget' 2 4))],
  [none, none, some (.inl (zLA 1 0)), some (.inl (zget' 2 3)), none, none, some (.inl (zsub)), some (.inl (zPI 1 (Int32.ofInt 4)))],
  [some (.inl (zic .ge 59)), none, none, some (.inl (zLA 1 0)), some (.inl (zLA 1 0)), some (.inl (zget' 2 7)), none, none],
  [some (.inl (zPI 2 (Int8.ofInt 10).toInt32)), none, some (.inl (zmul)), some (.inl (zLA 1 0)), some (.inl (zget' 2 0)), none, none, some (.inl (zLA 1 0))],
  [some (.inl (zget' 2 4)), none, none, some (.inl (zald' 21)), some (.inl (zPI 2 (Int8.ofInt 48).toInt32)), none, some (.inl (zsub)), some (.inl (zadd))],
  [some (.inl (zput' 2 7)), none, none, some (.inl (zLA 1 0)), some (.inl (zdup)), some (.inl (zget' 2 4)), none, none],
  [some (.inl (zPI 1 (Int32.ofInt 1))), some (.inl (zadd)), some (.inl (zput' 2 4)), none, none, some (.inl (zgo 0)), none, none],
  [some (.inl (zLA 1 0)), some (.inl (zLA 1 0)), some (.inl (zget' 2 4)), none, none, some (.inl (zLA 1 0)), some (.inl (zget' 2 3)), none],
  [none, some (.inl (zsub)), some (.inl (zPI 1 (Int32.ofInt 4))), some (.inl (zic .le 90)), none, none, some (.inl (zPI 1 (Int32.ofInt 4))), some (.inl (zgo 91))],
  [none, none, some (.inl (zPI 1 (Int32.ofInt 2))), some (.inl (zput' 2 2)), none, none, some (.inr (.return_, 0, 0, 0))]]
theorem zk_29 : zt_29 = xt_29.map (fun l => l.map (Option.map zcv)) := rfl
noncomputable def zt_30 : zT := [[some (.inl (zLA 1 0)), some (.inl (zLA 1 0)), some (.inl (zget' 2 0)), none, none, some (.inl (zLA 1 0)), some (.inl (zget' 2 3)), none],
  [none, some (.inl (zald' 21)), some (.inl (zput' 2 7)), none, none, some (.inl (zLA 1 0)), some (.inl (zLA 1 0)), some (.inl (zget' 2 7))],
  [none, none, some (.inl (zPI 2 (Int8.ofInt 59).toInt32)), none, some (.inl (zic .eq 50)), none, none, some (.inl (zLA 1 0))],
  [some (.inl (zget' 2 7)), none, none, some (.inl (zPI 2 (Int8.ofInt 60).toInt32)), none, some (.inl (zic .eq 50)), none, none],
  [some (.inl (zLA 1 0)), some (.inl (zget' 2 7)), none, none, some (.inl (zPI 2 (Int8.ofInt 62).toInt32)), none, some (.inl (zic .eq 50)), none],
  [none, some (.inl (zLA 1 0)), some (.inl (zget' 2 7)), none, none, some (.inl (zPI 2 (Int8.ofInt 61).toInt32)), none, some (.inl (zic .ne 54))],
  [none, none, some (.inl (zPI 1 (Int32.ofInt 3))), some (.inl (zgo 55)), none, none, some (.inl (zPI 1 (Int32.ofInt 4))), some (.inl (zput' 2 2))],
  [none, none, some (.inl (zLA 1 0)), some (.inl (zLA 1 0)), some (.inl (zget' 2 3)), none, none, some (.inl (zPI 1 (Int32.ofInt 1)))],
  [some (.inl (zadd)), some (.inl (zput' 2 4)), none, none, some (.inr (.return_, 0, 0, 0))]]
theorem zk_30 : zt_30 = xt_30.map (fun l => l.map (Option.map zcv)) := rfl
noncomputable def zt_31 : zT := [[some (.inl (zPI 1 (Int32.ofInt 0))), some (.inl (zS1 1 1)), some (.inl (zLA 1 0)), some (.inl (zget' 2 3)), none, none, some (.inl (zS1 1 2)), some (.inl (zPI 1 (Int32.ofInt 1)))],
  [some (.inl (zS1 1 3)), some (.inl (zPI 1 (Int32.ofInt 0))), some (.inl (zS1 2 4)), none, some (.inl (zL1 2 4)), none, some (.inl (zno')), none],
  [some (.inl (zno')), none, none, some (.inl (zic .ge 103)), none, none, some (.inl (zno')), none],
  [some (.inl (zL1 2 4)), none, some (.inl (zno')), none, none, some (.inl (zS1 2 5)), none, some (.inl (zL1 2 5))],
  [none, some (.inl (zPI 2 (Int8.ofInt 32).toInt32)), none, some (.inl (zic .eq 73)), none, none, some (.inl (zL1 1 3)), some (.inl (zif .eq 65))],
  [none, none, some (.inl (zL1 1 2)), some (.inl (zLA 1 0)), some (.inl (zget' 2 4)), none, none, some (.inl (zic .ge 65))],
  [none, none, some (.inl (zLA 1 0)), some (.inl (zget' 2 0)), none, none, some (.inl (zL1 1 2)), some (.inl (zald' 21))],
  [some (.inl (zL1 2 5)), none, some (.inl (zic .ne 65)), none, none, some (.inl (zPI 1 (Int32.ofInt 1))), some (.inl (zgo 66)), none],
  [none, some (.inl (zPI 1 (Int32.ofInt 0))), some (.inl (zS1 1 3)), some (.inl (zinc 2 1)), none, none, some (.inl (zgo 97)), none],
  [none, some (.inl (zL1 1 3)), some (.inl (zif .eq 87)), none, none, some (.inl (zL1 1 2)), some (.inl (zLA 1 0)), some (.inl (zget' 2 4))],
  [none, none, some (.inl (zic .ne 87)), none, none, some (.inl (zL1 1 1)), some (.inr (.ireturn, 0, 0, 0)), some (.inl (zinc 1 1))],
  [none, none, some (.inl (zLA 1 0)), some (.inl (zget' 2 3)), none, none, some (.inl (zS1 1 2)), some (.inl (zPI 1 (Int32.ofInt 1)))],
  [some (.inl (zS1 1 3)), some (.inl (zinc 4 1)), none, none, some (.inl (zgo 12)), none, none, some (.inl (zPI 1 (Int32.ofInt (-1))))],
  [some (.inr (.ireturn, 0, 0, 0))]]
theorem zk_31 : zt_31 = xt_31.map (fun l => l.map (Option.map zcv)) := rfl
noncomputable def zt_32 : zT := [[some (.inl (zLA 1 0)), some (.inl (zget' 2 2)), none, none, some (.inl (zif .ne 11)), none, none, some (.inl (zPI 1 (Int32.ofInt 1)))],
  [some (.inl (zgo 12)), none, none, some (.inl (zPI 1 (Int32.ofInt 0))), some (.inr (.ireturn, 0, 0, 0))]]
theorem zk_32 : zt_32 = xt_32.map (fun l => l.map (Option.map zcv)) := rfl
noncomputable def zt_33 : zT := [[some (.inl (zLA 1 0)), some (.inl (zLA 1 0)), some (.inl (zget' 2 2)), none, none, some (.inl (zPI 1 (Int32.ofInt 4))), some (.inl (zic .ne 13)), none],
  [none, some (.inl (zPI 1 (Int32.ofInt 1))), some (.inl (zgo 14)), none, none, some (.inl (zL1 1 1)), some (.inl (zput' 2 9)), none],
  [none, some (.inl (zLA 1 0)), some (.inl (zLA 1 0)), some (.inl (zget' 2 3)), none, none, some (.inl (zput' 2 10)), none],
  [none, some (.inl (zPI 1 (Int32.ofInt 0))), some (.inr (.ireturn, 0, 0, 0))]]
theorem zk_33 : zt_33 = xt_33.map (fun l => l.map (Option.map zcv)) := rfl
noncomputable def zt_34 : zT := [[some (.inl (zLA 1 0)), some (.inl (zget' 2 5)), none, none, some (.inl (zL1 1 1)), some (.inl (zic .eq 14)), none, none],
  [some (.inl (zLA 1 0)), some (.inl (zPI 1 (Int32.ofInt 2))), some (.inr (.invokevirtual 89, 33, 2, 2)), none, none, some (.inr (.ireturn, 0, 0, 0)), some (.inl (zLA 1 0)), some (.inr (.invokevirtual 53, 25, 1, 2))],
  [none, none, some (.inl (zPI 1 (Int32.ofInt 1))), some (.inr (.ireturn, 0, 0, 0))]]
theorem zk_34 : zt_34 = xt_34.map (fun l => l.map (Option.map zcv)) := rfl
noncomputable def zt_35 : zT := [[some (.inl (zLA 1 0)), some (.inl (zget' 2 2)), none, none, some (.inl (zPI 1 (Int32.ofInt 3))), some (.inl (zic .ne 17)), none, none],
  [some (.inl (zLA 1 0)), some (.inl (zget' 2 7)), none, none, some (.inl (zPI 2 (Int8.ofInt 59).toInt32)), none, some (.inl (zic .eq 23)), none],
  [none, some (.inl (zLA 1 0)), some (.inl (zPI 1 (Int32.ofInt 2))), some (.inr (.invokevirtual 89, 33, 2, 2)), none, none, some (.inr (.ireturn, 0, 0, 0)), some (.inl (zLA 1 0))],
  [some (.inr (.invokevirtual 53, 25, 1, 2)), none, none, some (.inl (zPI 1 (Int32.ofInt 1))), some (.inr (.ireturn, 0, 0, 0))]]
theorem zk_35 : zt_35 = xt_35.map (fun l => l.map (Option.map zcv)) := rfl
noncomputable def zt_36 : zT := [[some (.inl (zLA 1 0)), some (.inl (zget' 2 2)), none, none, some (.inl (zPI 1 (Int32.ofInt 3))), some (.inl (zic .ne 17)), none, none],
  [some (.inl (zLA 1 0)), some (.inl (zget' 2 7)), none, none, some (.inl (zPI 2 (Int8.ofInt 59).toInt32)), none, some (.inl (zic .ne 25)), none],
  [none, some (.inl (zLA 1 0)), some (.inl (zPI 1 (Int32.ofInt 2))), some (.inr (.invokevirtual 89, 33, 2, 2)), none, none, some (.inl (zif .eq 29)), none],
  [none, some (.inl (zPI 1 (Int32.ofInt 1))), some (.inl (zgo 30)), none, none, some (.inl (zPI 1 (Int32.ofInt 0))), some (.inr (.ireturn, 0, 0, 0))]]
theorem zk_36 : zt_36 = xt_36.map (fun l => l.map (Option.map zcv)) := rfl
noncomputable def zt_37 : zT := [[some (.inl (zLA 1 0)), some (.inl (zget' 2 2)), none, none, some (.inl (zPI 1 (Int32.ofInt 2))), some (.inl (zic .eq 14)), none, none],
  [some (.inl (zLA 1 0)), some (.inl (zPI 1 (Int32.ofInt 2))), some (.inr (.invokevirtual 89, 33, 2, 2)), none, none, some (.inr (.ireturn, 0, 0, 0)), some (.inl (zLA 1 0)), some (.inl (zget' 2 7))],
  [none, none, some (.inl (zL1 1 1)), some (.inl (zL1 1 2)), some (.inr (.invokestatic 92, 127, 3, 1)), none, none, some (.inl (zif .ne 34))],
  [none, none, some (.inl (zLA 1 0)), some (.inl (zPI 1 (Int32.ofInt 4))), some (.inr (.invokevirtual 89, 33, 2, 2)), none, none, some (.inl (zif .eq 38))],
  [none, none, some (.inl (zPI 1 (Int32.ofInt 1))), some (.inl (zgo 39)), none, none, some (.inl (zPI 1 (Int32.ofInt 0))), some (.inr (.ireturn, 0, 0, 0))]]
theorem zk_37 : zt_37 = xt_37.map (fun l => l.map (Option.map zcv)) := rfl
noncomputable def zt_38 : zT := [[some (.inl (zLA 1 0)), some (.inl (zget' 2 2)), none, none, some (.inl (zPI 1 (Int32.ofInt 1))), some (.inl (zic .ne 30)), none, none],
  [some (.inl (zLA 1 0)), some (.inl (zget' 2 5)), none, none, some (.inl (zPI 1 (Int32.ofInt (-1)))), some (.inl (zic .ne 30)), none, none],
  [some (.inl (zLA 1 0)), some (.inl (zget' 2 4)), none, none, some (.inl (zLA 1 0)), some (.inl (zget' 2 3)), none, none],
  [some (.inl (zsub)), some (.inl (zPI 2 (Int8.ofInt 8).toInt32)), none, some (.inl (zic .le 38)), none, none, some (.inl (zLA 1 0)), some (.inl (zPI 1 (Int32.ofInt 2)))],
  [some (.inr (.invokevirtual 89, 33, 2, 2)), none, none, some (.inl (zif .eq 42)), none, none, some (.inl (zPI 1 (Int32.ofInt 1))), some (.inl (zgo 43))],
  [none, none, some (.inl (zPI 1 (Int32.ofInt 0))), some (.inr (.ireturn, 0, 0, 0))]]
theorem zk_38 : zt_38 = xt_38.map (fun l => l.map (Option.map zcv)) := rfl
noncomputable def zt_39 : zT := [[some (.inl (zLA 1 0)), some (.inr (.invokevirtual 96, 38, 1, 2)), none, none, some (.inl (zif .ne 9)), none, none, some (.inl (zPI 1 (Int32.ofInt 0)))],
  [some (.inr (.ireturn, 0, 0, 0)), some (.inl (zLA 1 0)), some (.inl (zLA 1 1)), some (.inl (zL1 1 2)), some (.inl (zLA 1 0)), some (.inl (zget' 2 6)), none, none],
  [some (.inr (.invokestatic 100, 40, 3, 0)), none, none, some (.inl (zput' 2 8)), none, none, some (.inl (zLA 1 0)), some (.inl (zget' 2 8))],
  [none, none, some (.inl (zPI 1 (Int32.ofInt (-1)))), some (.inl (zic .ne 38)), none, none, some (.inl (zLA 1 0)), some (.inl (zPI 1 (Int32.ofInt 3)))],
  [some (.inr (.invokevirtual 89, 33, 2, 2)), none, none, some (.inl (zif .eq 42)), none, none, some (.inl (zPI 1 (Int32.ofInt 1))), some (.inl (zgo 43))],
  [none, none, some (.inl (zPI 1 (Int32.ofInt 0))), some (.inr (.ireturn, 0, 0, 0))]]
theorem zk_39 : zt_39 = xt_39.map (fun l => l.map (Option.map zcv)) := rfl
