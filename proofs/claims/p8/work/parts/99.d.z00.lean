noncomputable def zt_0 : zT := [[some (.inl (zLA 1 0)), some (.inl (zobj)), none, none, some (.inl (zLA 1 0)), some (.inl (znew 1)), none, none],
  [some (.inl (zdup)), some (.inr (.invokespecial 13, 9, 1, 1)), none, none, some (.inl (zput' 0 0)), none, none, some (.inl (zLA 1 0))],
  [some (.inl (zPI 3 (Int16.ofInt 201).toInt32)), none, none, some (.inl (znewa .int)), none, some (.inl (zput' 0 1)), none, none],
  [some (.inl (zLA 1 0)), some (.inl (zPI 3 (Int16.ofInt 201).toInt32)), none, none, some (.inl (znewa .int)), none, some (.inl (zput' 0 2)), none],
  [none, some (.inl (zLA 1 0)), some (.inl (zPI 2 (Int8.ofInt 64).toInt32)), none, some (.inl (znewa .long)), none, some (.inl (zput' 0 3)), none],
  [none, some (.inr (.return_, 0, 0, 0))]]
theorem zk_0 : zt_0 = xt_0.map (fun l => l.map (Option.map zcv)) := rfl
noncomputable def zt_9 : zT := [[some (.inl (zLA 1 0)), some (.inl (zobj)), none, none, some (.inl (zLA 1 0)), some (.inl (zPI 1 (Int32.ofInt 0))), some (.inl (zput' 1 0)), none],
  [none, some (.inl (zLA 1 0)), some (.inl (zPI 1 (Int32.ofInt 0))), some (.inl (zput' 1 1)), none, none, some (.inl (zLA 1 0)), some (.inl (zPI 1 (Int32.ofInt 5)))],
  [some (.inl (znewa .long)), none, some (.inl (zput' 1 2)), none, none, some (.inl (zLA 1 0)), some (.inl (zPI 1 (Int32.ofInt 5))), some (.inl (znewa .int))],
  [none, some (.inl (zput' 1 3)), none, none, some (.inl (zLA 1 0)), some (.inl (zPI 1 (Int32.ofInt 5))), some (.inl (znewa .int)), none],
  [some (.inl (zput' 1 4)), none, none, some (.inl (zLA 1 0)), some (.inl (zPI 1 (Int32.ofInt 5))), some (.inl (znewa .int)), none, some (.inl (zput' 1 5))],
  [none, none, some (.inl (zLA 1 0)), some (.inl (zPI 1 (Int32.ofInt 5))), some (.inl (znewa .int)), none, some (.inl (zput' 1 6)), none],
  [none, some (.inl (zLA 1 0)), some (.inl (zPI 2 (Int8.ofInt 40).toInt32)), none, some (.inl (znewa .int)), none, some (.inl (zput' 1 7)), none],
  [none, some (.inl (zLA 1 0)), some (.inl (zPI 1 (Int32.ofInt 5))), some (.inl (znewa .int)), none, some (.inl (zput' 1 8)), none, none],
  [some (.inl (zLA 1 0)), some (.inl (zPI 1 (Int32.ofInt 5))), some (.inl (znewa .int)), none, some (.inl (zput' 1 9)), none, none, some (.inr (.return_, 0, 0, 0))]]
theorem zk_9 : zt_9 = xt_9.map (fun l => l.map (Option.map zcv)) := rfl
noncomputable def zt_23 : zT := [[some (.inl (zLA 1 0)), some (.inl (zobj)), none, none, some (.inl (zLA 1 0)), some (.inl (zPI 3 (Int16.ofInt 900).toInt32)), none, none],
  [some (.inl (znewa .byte)), none, some (.inl (zput' 2 0)), none, none, some (.inl (zLA 1 0)), some (.inl (zPI 1 (Int32.ofInt 0))), some (.inl (zput' 2 1))],
  [none, none, some (.inl (zLA 1 0)), some (.inl (zPI 1 (Int32.ofInt 0))), some (.inl (zput' 2 2)), none, none, some (.inl (zLA 1 0))],
  [some (.inl (zPI 1 (Int32.ofInt 0))), some (.inl (zput' 2 3)), none, none, some (.inl (zLA 1 0)), some (.inl (zPI 1 (Int32.ofInt 0))), some (.inl (zput' 2 4)), none],
  [none, some (.inl (zLA 1 0)), some (.inl (zPI 1 (Int32.ofInt (-1)))), some (.inl (zput' 2 5)), none, none, some (.inl (zLA 1 0)), some (.inl (zPL 1 (Int64.ofNat 0)))],
  [some (.inl (zput' 2 6)), none, none, some (.inl (zLA 1 0)), some (.inl (zPI 1 (Int32.ofInt 0))), some (.inl (zput' 2 7)), none, none],
  [some (.inl (zLA 1 0)), some (.inl (zPI 1 (Int32.ofInt (-1)))), some (.inl (zput' 2 8)), none, none, some (.inl (zLA 1 0)), some (.inl (zPI 1 (Int32.ofInt 0))), some (.inl (zput' 2 9))],
  [none, none, some (.inl (zLA 1 0)), some (.inl (zPI 1 (Int32.ofInt (-1)))), some (.inl (zput' 2 10)), none, none, some (.inr (.return_, 0, 0, 0))]]
theorem zk_23 : zt_23 = xt_23.map (fun l => l.map (Option.map zcv)) := rfl
noncomputable def zt_41 : zT := [[some (.inl (zLA 1 0)), some (.inl (zobj)), none, none, some (.inl (zLA 1 0)), some (.inl (zPI 1 (Int32.ofInt 0))), some (.inl (zput' 3 0)), none],
  [none, some (.inl (zLA 1 0)), some (.inl (zPI 1 (Int32.ofInt 0))), some (.inl (zput' 3 1)), none, none, some (.inl (zLA 1 0)), some (.inl (zPL 1 (Int64.ofNat 0)))],
  [some (.inl (zput' 3 2)), none, none, some (.inr (.return_, 0, 0, 0))]]
theorem zk_41 : zt_41 = xt_41.map (fun l => l.map (Option.map zcv)) := rfl
noncomputable def zt_50 : zT := [[some (.inl (zLA 1 0)), some (.inl (zobj)), none, none, some (.inl (zLA 1 0)), some (.inl (znew 6)), none, none],
  [some (.inl (zdup)), some (.inr (.invokespecial 11, 70, 1, 1)), none, none, some (.inl (zput' 4 0)), none, none, some (.inl (zLA 1 0))],
  [some (.inl (zPI 1 (Int32.ofInt 3))), some (.inl (znewa .int)), none, some (.inl (zput' 4 2)), none, none, some (.inl (zLA 1 0)), some (.inl (zPI 1 (Int32.ofInt 0)))],
  [some (.inl (zput' 4 3)), none, none, some (.inl (zLA 1 0)), some (.inl (zLA 1 1)), some (.inl (zput' 4 1)), none, none],
  [some (.inr (.return_, 0, 0, 0))]]
theorem zk_50 : zt_50 = xt_50.map (fun l => l.map (Option.map zcv)) := rfl
noncomputable def zt_61 : zT := [[some (.inl (zLA 1 0)), some (.inl (zobj)), none, none, some (.inl (zLA 1 0)), some (.inl (zPI 1 (Int32.ofInt 0))), some (.inl (zput' 5 0)), none],
  [none, some (.inl (zLA 1 0)), some (.inl (zPI 1 (Int32.ofInt 0))), some (.inl (zput' 5 1)), none, none, some (.inl (zLA 1 0)), some (.inl (zPI 1 (Int32.ofInt 0)))],
  [some (.inl (zput' 5 2)), none, none, some (.inl (zLA 1 0)), some (.inl (zPI 1 (Int32.ofInt 0))), some (.inl (zput' 5 3)), none, none],
  [some (.inl (zLA 1 0)), some (.inl (zPI 1 (Int32.ofInt 0))), some (.inl (zput' 5 4)), none, none, some (.inl (zLA 1 0)), some (.inl (zPI 1 (Int32.ofInt 0))), some (.inl (zput' 5 5))],
  [none, none, some (.inl (zLA 1 0)), some (.inl (znew 10)), none, none, some (.inl (zdup)), some (.inr (.invokespecial 33, 103, 1, 0))],
  [none, none, some (.inl (zput' 5 6)), none, none, some (.inl (zLA 1 0)), some (.inl (zPI 1 (Int32.ofInt 0))), some (.inl (zput' 5 7))],
  [none, none, some (.inl (zLA 1 0)), some (.inl (zPI 2 (Int8.ofInt 60).toInt32)), none, some (.inl (znewa .int)), none, some (.inl (zput' 5 8))],
  [none, none, some (.inr (.return_, 0, 0, 0))]]
theorem zk_61 : zt_61 = xt_61.map (fun l => l.map (Option.map zcv)) := rfl
noncomputable def zt_70 : zT := [[some (.inl (zLA 1 0)), some (.inl (zobj)), none, none, some (.inl (zLA 1 0)), some (.inl (zPI 1 (Int32.ofInt 0))), some (.inl (zput' 6 0)), none],
  [none, some (.inl (zLA 1 0)), some (.inl (zPI 1 (Int32.ofInt 0))), some (.inl (zput' 6 1)), none, none, some (.inl (zLA 1 0)), some (.inl (zPI 1 (Int32.ofInt 0)))],
  [some (.inl (zput' 6 2)), none, none, some (.inl (zLA 1 0)), some (.inl (zPI 2 (Int8.ofInt 60).toInt32)), none, some (.inl (znewa .int)), none],
  [some (.inl (zput' 6 3)), none, none, some (.inl (zLA 1 0)), some (.inl (zPI 2 (Int8.ofInt 60).toInt32)), none, some (.inl (znewa .int)), none],
  [some (.inl (zput' 6 4)), none, none, some (.inl (zLA 1 0)), some (.inl (zPI 2 (Int8.ofInt 60).toInt32)), none, some (.inl (znewa .int)), none],
  [some (.inl (zput' 6 5)), none, none, some (.inl (zLA 1 0)), some (.inl (zPI 2 (Int8.ofInt 60).toInt32)), none, some (.inl (znewa .int)), none],
  [some (.inl (zput' 6 6)), none, none, some (.inr (.return_, 0, 0, 0))]]
theorem zk_70 : zt_70 = xt_70.map (fun l => l.map (Option.map zcv)) := rfl
noncomputable def zt_71 : zT := [[some (.inl (zLA 1 0)), some (.inl (zPI 1 (Int32.ofInt 0))), some (.inl (zput' 6 0)), none, none, some (.inl (zLA 1 0)), some (.inl (zPI 1 (Int32.ofInt 0))), some (.inl (zput' 6 1))],
  [none, none, some (.inl (zLA 1 0)), some (.inl (zPI 1 (Int32.ofInt 0))), some (.inl (zput' 6 2)), none, none, some (.inr (.return_, 0, 0, 0))]]
theorem zk_71 : zt_71 = xt_71.map (fun l => l.map (Option.map zcv)) := rfl
noncomputable def zt_74 : zT := [[some (.inl (zLA 1 0)), some (.inl (zobj)), none, none, some (.inl (zLA 1 0)), some (.inl (znew 10)), none, none],
  [some (.inl (zdup)), some (.inr (.invokespecial 11, 103, 1, 0)), none, none, some (.inl (zput' 7 0)), none, none, some (.inl (zLA 1 0))],
  [some (.inl (zPI 1 (Int32.ofInt 0))), some (.inl (zput' 7 2)), none, none, some (.inl (zLA 1 0)), some (.inl (zPI 1 (Int32.ofInt 0))), some (.inl (zput' 7 3)), none],
  [none, some (.inl (zLA 1 0)), some (.inl (zLA 1 1)), some (.inl (zput' 7 1)), none, none, some (.inr (.return_, 0, 0, 0))]]
theorem zk_74 : zt_74 = xt_74.map (fun l => l.map (Option.map zcv)) := rfl
noncomputable def zt_90 : zT := [[some (.inl (zLA 1 0)), some (.inl (zobj)), none, none, some (.inl (zLA 1 0)), some (.inl (zPI 1 (Int32.ofInt 0))), some (.inl (zput' 8 0)), none],
  [none, some (.inl (zLA 1 0)), some (.inl (zPI 2 (Int8.ofInt 6).toInt32)), none, some (.inl (znewa .long)), none, some (.inl (zput' 8 1)), none],
  [none, some (.inl (zLA 1 0)), some (.inl (zPI 2 (Int8.ofInt 6).toInt32)), none, some (.inl (znewa .int)), none, some (.inl (zput' 8 2)), none],
  [none, some (.inl (zLA 1 0)), some (.inl (zPI 2 (Int8.ofInt 6).toInt32)), none, some (.inl (znewa .int)), none, some (.inl (zput' 8 3)), none],
  [none, some (.inl (zLA 1 0)), some (.inl (zPI 2 (Int8.ofInt 6).toInt32)), none, some (.inl (znewa .int)), none, some (.inl (zput' 8 4)), none],
  [none, some (.inr (.return_, 0, 0, 0))]]
theorem zk_90 : zt_90 = xt_90.map (fun l => l.map (Option.map zcv)) := rfl
noncomputable def zt_95 : zT := [[some (.inl (zLA 1 0)), some (.inl (zobj)), none, none, some (.inl (zLA 1 0)), some (.inl (zPI 1 (Int32.ofInt 4))), some (.inl (znewa .int)), none],
  [some (.inl (zput' 9 0)), none, none, some (.inl (zLA 1 0)), some (.inl (zPI 1 (Int32.ofInt 4))), some (.inl (znewa .int)), none, some (.inl (zput' 9 1))],
  [none, none, some (.inl (zLA 1 0)), some (.inl (zPI 2 (Int8.ofInt 20).toInt32)), none, some (.inl (znewa .int)), none, some (.inl (zput' 9 2))],
  [none, none, some (.inl (zLA 1 0)), some (.inl (zPI 1 (Int32.ofInt 0))), some (.inl (zput' 9 3)), none, none, some (.inl (zLA 1 0))],
  [some (.inl (zPI 2 (Int8.ofInt 50).toInt32)), none, some (.inl (znewa .long)), none, some (.inl (zput' 9 4)), none, none, some (.inl (zLA 1 0))],
  [some (.inl (zPI 2 (Int8.ofInt 50).toInt32)), none, some (.inl (znewa .long)), none, some (.inl (zput' 9 5)), none, none, some (.inr (.return_, 0, 0, 0))]]
theorem zk_95 : zt_95 = xt_95.map (fun l => l.map (Option.map zcv)) := rfl
noncomputable def zt_103 : zT := [[some (.inl (zLA 1 0)), some (.inl (zobj)), none, none, some (.inl (zLA 1 0)), some (.inl (znew 3)), none, none],
  [some (.inl (zdup)), some (.inr (.invokespecial 11, 41, 1, 1)), none, none, some (.inl (zput' 10 0)), none, none, some (.inl (zLA 1 0))],
  [some (.inl (znew 1)), none, none, some (.inl (zdup)), some (.inr (.invokespecial 20, 9, 1, 1)), none, none, some (.inl (zput' 10 1))],
  [none, none, some (.inl (zLA 1 0)), some (.inl (znew 8)), none, none, some (.inl (zdup)), some (.inr (.invokespecial 27, 90, 1, 1))],
  [none, none, some (.inl (zput' 10 2)), none, none, some (.inl (zLA 1 0)), some (.inl (znew 6)), none],
  [none, some (.inl (zdup)), some (.inr (.invokespecial 34, 70, 1, 1)), none, none, some (.inl (zput' 10 3)), none, none],
  [some (.inl (zLA 1 0)), some (.inl (zPI 1 (Int32.ofInt 0))), some (.inl (zput' 10 4)), none, none, some (.inl (zLA 1 0)), some (.inl (zPI 1 (Int32.ofInt 0))), some (.inl (zput' 10 5))],
  [none, none, some (.inl (zLA 1 0)), some (.inl (zPI 1 (Int32.ofInt 0))), some (.inl (zput' 10 6)), none, none, some (.inl (zLA 1 0))],
  [some (.inl (zPI 1 (Int32.ofInt 4))), some (.inl (znewa .long)), none, some (.inl (zput' 10 7)), none, none, some (.inl (zLA 1 0)), some (.inl (zPI 1 (Int32.ofInt 4)))],
  [some (.inl (znewa .int)), none, some (.inl (zput' 10 8)), none, none, some (.inl (zLA 1 0)), some (.inl (zPI 2 (Int8.ofInt 121).toInt32)), none],
  [some (.inl (znewa .int)), none, some (.inl (zput' 10 9)), none, none, some (.inl (zLA 1 0)), some (.inr (.invokevirtual 60, 104, 1, 10)), none],
  [none, some (.inr (.return_, 0, 0, 0))]]
theorem zk_103 : zt_103 = xt_103.map (fun l => l.map (Option.map zcv)) := rfl
noncomputable def zt_104 : zT := [[some (.inl (zLA 1 0)), some (.inl (zget' 10 0)), none, none, some (.inl (zPI 1 (Int32.ofInt 0))), some (.inl (zput' 3 0)), none, none],
  [some (.inl (zLA 1 0)), some (.inl (zget' 10 0)), none, none, some (.inl (zPI 1 (Int32.ofInt 0))), some (.inl (zput' 3 1)), none, none],
  [some (.inl (zLA 1 0)), some (.inl (zget' 10 0)), none, none, some (.inl (zPL 1 (Int64.ofNat 0))), some (.inl (zput' 3 2)), none, none],
  [some (.inl (zLA 1 0)), some (.inl (zget' 10 1)), none, none, some (.inl (zPI 1 (Int32.ofInt 0))), some (.inl (zput' 1 0)), none, none],
  [some (.inl (zLA 1 0)), some (.inl (zget' 10 1)), none, none, some (.inl (zPI 1 (Int32.ofInt 0))), some (.inl (zput' 1 1)), none, none],
  [some (.inl (zLA 1 0)), some (.inl (zget' 10 2)), none, none, some (.inl (zPI 1 (Int32.ofInt 0))), some (.inl (zput' 8 0)), none, none],
  [some (.inl (zLA 1 0)), some (.inl (zget' 10 3)), none, none, some (.inr (.invokevirtual 80, 71, 1, 6)), none, none, some (.inl (zLA 1 0))],
  [some (.inl (zPI 1 (Int32.ofInt 5))), some (.inl (zput' 10 4)), none, none, some (.inl (zLA 1 0)), some (.inl (zPI 1 (Int32.ofInt 1))), some (.inl (zput' 10 5)), none],
  [none, some (.inl (zLA 1 0)), some (.inl (zPI 1 (Int32.ofInt 0))), some (.inl (zput' 10 6)), none, none, some (.inl (zLA 1 0)), some (.inl (zget' 10 9))],
  [none, none, some (.inl (zPI 1 (Int32.ofInt (-1)))), some (.inr (.invokestatic 83, 355, 2, 0)), none, none, some (.inr (.return_, 0, 0, 0))]]
theorem zk_104 : zt_104 = xt_104.map (fun l => l.map (Option.map zcv)) := rfl
noncomputable def zt_117 : zT := [[some (.inl (zLA 1 0)), some (.inl (zobj)), none, none, some (.inl (zLA 1 0)), some (.inl (zPI 1 (Int32.ofInt 4))), some (.inl (zPI 2 (Int8.ofInt 60).toInt32)), none],
  [some (.inl (zmna)), none, none, none, some (.inl (zput' 11 0)), none, none, some (.inl (zLA 1 0))],
  [some (.inl (zPI 1 (Int32.ofInt 4))), some (.inl (znewa .int)), none, some (.inl (zput' 11 1)), none, none, some (.inl (zLA 1 0)), some (.inl (zPI 1 (Int32.ofInt 4)))],
  [some (.inl (znewa .int)), none, some (.inl (zput' 11 2)), none, none, some (.inl (zLA 1 0)), some (.inl (znew 2)), none],
  [none, some (.inl (zdup)), some (.inr (.invokespecial 23, 23, 1, 1)), none, none, some (.inl (zput' 11 3)), none, none],
  [some (.inl (zLA 1 0)), some (.inl (zPI 1 (Int32.ofInt 0))), some (.inl (zput' 11 4)), none, none, some (.inl (zLA 1 0)), some (.inl (zPI 1 (Int32.ofInt 0))), some (.inl (zput' 11 5))],
  [none, none, some (.inl (zLA 1 0)), some (.inl (zPL 1 (Int64.ofNat 0))), some (.inl (zput' 11 6)), none, none, some (.inl (zLA 1 0))],
  [some (.inl (zPL 1 (Int64.ofNat 1))), some (.inl (zput' 11 7)), none, none, some (.inl (zLA 1 0)), some (.inl (zPI 1 (Int32.ofInt (-1)))), some (.inl (zput' 11 8)), none],
  [none, some (.inl (zLA 1 0)), some (.inl (zPI 1 (Int32.ofInt (-1)))), some (.inl (zput' 11 9)), none, none, some (.inl (zLA 1 0)), some (.inl (znew 10))],
  [none, none, some (.inl (zdup)), some (.inr (.invokespecial 50, 103, 1, 0)), none, none, some (.inl (zput' 11 10)), none],
  [none, some (.inl (zLA 1 0)), some (.inl (zPI 1 (Int32.ofInt 3))), some (.inl (znewq)), none, none, some (.inl (zput' 11 11)), none],
  [none, some (.inl (zLA 1 0)), some (.inl (zPI 1 (Int32.ofInt 0))), some (.inl (zput' 11 12)), none, none, some (.inl (zLA 1 0)), some (.inl (znew 7))],
  [none, none, some (.inl (zdup)), some (.inl (zLA 1 0)), some (.inl (zget' 11 3)), none, none, some (.inr (.invokespecial 64, 74, 2, 0))],
  [none, none, some (.inl (zput' 11 13)), none, none, some (.inl (zLA 1 0)), some (.inl (znew 4)), none],
  [none, some (.inl (zdup)), some (.inl (zLA 1 0)), some (.inl (zget' 11 3)), none, none, some (.inr (.invokespecial 73, 50, 2, 0)), none],
  [none, some (.inl (zput' 11 14)), none, none, some (.inl (zLA 1 0)), some (.inl (znew 5)), none, none],
  [some (.inl (zdup)), some (.inr (.invokespecial 80, 61, 1, 1)), none, none, some (.inl (zput' 11 15)), none, none, some (.inl (zLA 1 0))],
  [some (.inl (zPI 1 (Int32.ofInt 5))), some (.inl (znewa .int)), none, some (.inl (zput' 11 16)), none, none, some (.inl (zLA 1 0)), some (.inl (zPI 1 (Int32.ofInt 0)))],
  [some (.inl (zput' 11 17)), none, none, some (.inl (zLA 1 0)), some (.inl (znew 0)), none, none, some (.inl (zdup))],
  [some (.inr (.invokespecial 94, 0, 1, 1)), none, none, some (.inl (zput' 11 18)), none, none, some (.inl (zLA 1 0)), some (.inl (znew 9))],
  [none, none, some (.inl (zdup)), some (.inr (.invokespecial 101, 95, 1, 1)), none, none, some (.inl (zput' 11 19)), none],
  [none, some (.inl (zLA 1 0)), some (.inl (zget' 11 1)), none, none, some (.inl (zPI 1 (Int32.ofInt (-1)))), some (.inr (.invokestatic 106, 355, 2, 0)), none],
  [none, some (.inl (zPI 1 (Int32.ofInt 0))), some (.inl (zS1 1 1)), some (.inl (zL1 1 1)), some (.inl (zPI 1 (Int32.ofInt 3))), some (.inl (zic .ge 203)), none, none],
  [some (.inl (zLA 1 0)), some (.inl (zget' 11 11)), none, none, some (.inl (zL1 1 1)), some (.inl (znew 10)), none, none],
  [some (.inl (zdup)), some (.inr (.invokespecial 50, 103, 1, 0)), none, none, some (.inl (zaast)), some (.inl (zinc 1 1)), none, none],
  [some (.inl (zgo 179)), none, none, some (.inr (.return_, 0, 0, 0))]]
theorem zk_117 : zt_117 = xt_117.map (fun l => l.map (Option.map zcv)) := rfl
noncomputable def zt_199 : zT := [[some (.inl (zLA 1 0)), some (.inl (zobj)), none, none, some (.inl (zLA 1 0)), some (.inl (zPI 3 (Int16.ofInt 3972).toInt32)), none, none],
  [some (.inl (znewa .int)), none, some (.inl (zput' 12 0)), none, none, some (.inl (zLA 1 0)), some (.inl (zPI 2 (Int8.ofInt 90).toInt32)), none],
  [some (.inl (znewa .long)), none, some (.inl (zput' 12 1)), none, none, some (.inl (zLA 1 0)), some (.inl (zPL 1 (Int64.ofNat 1))), some (.inl (zput' 12 4))],
  [none, none, some (.inl (zLA 1 0)), some (.inl (zPI 1 (Int32.ofInt 4))), some (.inl (znewa .int)), none, some (.inl (zput' 12 5)), none],
  [none, some (.inl (zLA 1 0)), some (.inl (zPI 1 (Int32.ofInt 4))), some (.inl (znewa .int)), none, some (.inl (zdup)), some (.inl (zPI 1 (Int32.ofInt 0))), some (.inl (zPI 1 (Int32.ofInt (-1))))],
  [some (.inl (ziast)), some (.inl (zdup)), some (.inl (zPI 1 (Int32.ofInt 1))), some (.inl (zPI 1 (Int32.ofInt (-1)))), some (.inl (ziast)), some (.inl (zdup)), some (.inl (zPI 1 (Int32.ofInt 2))), some (.inl (zPI 1 (Int32.ofInt (-1))))],
  [some (.inl (ziast)), some (.inl (zdup)), some (.inl (zPI 1 (Int32.ofInt 3))), some (.inl (zPI 1 (Int32.ofInt (-1)))), some (.inl (ziast)), some (.inl (zput' 12 6)), none, none],
  [some (.inl (zLA 1 0)), some (.inl (zPI 3 (Int16.ofInt 240).toInt32)), none, none, some (.inl (znewa .long)), none, some (.inl (zput' 12 7)), none],
  [none, some (.inl (zLA 1 0)), some (.inl (zPI 3 (Int16.ofInt 900).toInt32)), none, none, some (.inl (znewa .byte)), none, some (.inl (zput' 12 8))],
  [none, none, some (.inl (zLA 1 0)), some (.inl (zPI 3 (Int16.ofInt 900).toInt32)), none, none, some (.inl (znewa .byte)), none],
  [some (.inl (zput' 12 9)), none, none, some (.inl (zLA 1 0)), some (.inl (zPI 1 (Int32.ofInt (-1)))), some (.inl (zput' 12 16)), none, none],
  [some (.inl (zLA 1 0)), some (.inl (zPI 1 (Int32.ofInt (-1)))), some (.inl (zput' 12 17)), none, none, some (.inl (zLA 1 0)), some (.inl (zPI 1 (Int32.ofInt 3))), some (.inl (znewa .int))],
  [none, some (.inl (zput' 12 21)), none, none, some (.inl (zLA 1 0)), some (.inl (zPI 3 (Int16.ofInt 201).toInt32)), none, none],
  [some (.inl (znewa .int)), none, some (.inl (zput' 12 24)), none, none, some (.inl (zLA 1 0)), some (.inl (zPI 2 (Int8.ofInt 20).toInt32)), none],
  [some (.inl (znewa .int)), none, some (.inl (zput' 12 25)), none, none, some (.inl (zLA 1 0)), some (.inl (zPI 1 (Int32.ofInt 4))), some (.inl (znewa .int))],
  [none, some (.inl (zput' 12 26)), none, none, some (.inl (zLA 1 0)), some (.inl (zPI 1 (Int32.ofInt 4))), some (.inl (znewa .int)), none],
  [some (.inl (zput' 12 27)), none, none, some (.inl (zLA 1 0)), some (.inl (zPI 2 (Int8.ofInt 30).toInt32)), none, some (.inl (znewa .long)), none],
  [some (.inl (zput' 12 28)), none, none, some (.inl (zLA 1 0)), some (.inl (zPI 2 (Int8.ofInt 30).toInt32)), none, some (.inl (znewa .long)), none],
  [some (.inl (zput' 12 29)), none, none, some (.inl (zLA 1 0)), some (.inl (zPI 2 (Int8.ofInt 80).toInt32)), none, some (.inl (znewa .int)), none],
  [some (.inl (zput' 12 32)), none, none, some (.inl (zLA 1 0)), some (.inl (zPI 1 (Int32.ofInt 5))), some (.inl (znewa .int)), none, some (.inl (zput' 12 33))],
  [none, none, some (.inl (zLA 1 0)), some (.inl (zPI 1 (Int32.ofInt 5))), some (.inl (znewa .int)), none, some (.inl (zput' 12 34)), none],
  [none, some (.inl (zLA 1 0)), some (.inl (zPI 1 (Int32.ofInt 0))), some (.inr (.invokevirtual 74, 200, 2, 12)), none, none, some (.inr (.return_, 0, 0, 0))]]
theorem zk_199 : zt_199 = xt_199.map (fun l => l.map (Option.map zcv)) := rfl
noncomputable def zt_200 : zT := [[some (.inl (zPI 1 (Int32.ofInt 0))), some (.inl (zS1 1 2)), some (.inl (zL1 1 2)), some (.inl (zPI 3 (Int16.ofInt 620).toInt32)), none, none, some (.inl (zic .ge 24)), none],
  [none, some (.inl (zLA 1 0)), some (.inl (zget' 12 0)), none, none, some (.inl (zL1 1 1)), some (.inl (zL1 1 2)), some (.inl (zadd))],
  [some (.inl (zPI 1 (Int32.ofInt 0))), some (.inl (ziast)), some (.inl (zinc 2 1)), none, none, some (.inl (zgo 2)), none, none],
  [some (.inl (zPI 1 (Int32.ofInt 0))), some (.inl (zS1 1 2)), some (.inl (zL1 1 2)), some (.inl (zPI 2 (Int8.ofInt 120).toInt32)), none, some (.inl (zic .ge 51)), none, none],
  [some (.inl (zLA 1 0)), some (.inl (zget' 12 0)), none, none, some (.inl (zL1 1 1)), some (.inl (zPI 3 (Int16.ofInt 132).toInt32)), none, none],
  [some (.inl (zadd)), some (.inl (zL1 1 2)), some (.inl (zadd)), some (.inl (zPI 1 (Int32.ofInt (-1)))), some (.inl (ziast)), some (.inl (zinc 2 1)), none, none],
  [some (.inl (zgo 26)), none, none, some (.inl (zLA 1 0)), some (.inl (zget' 12 0)), none, none, some (.inl (zL1 1 1))],
  [some (.inl (zPI 2 (Int8.ofInt 6).toInt32)), none, some (.inl (zadd)), some (.inl (zPI 1 (Int32.ofInt 5))), some (.inl (ziast)), some (.inl (zLA 1 0)), some (.inl (zget' 12 0)), none],
  [none, some (.inl (zL1 1 1)), some (.inl (zPI 2 (Int8.ofInt 7).toInt32)), none, some (.inl (zadd)), some (.inl (zPI 1 (Int32.ofInt 1))), some (.inl (ziast)), some (.inl (zLA 1 0))],
  [some (.inl (zget' 12 0)), none, none, some (.inl (zL1 1 1)), some (.inl (zPI 2 (Int8.ofInt 8).toInt32)), none, some (.inl (zadd)), some (.inl (zPI 1 (Int32.ofInt (-1))))],
  [some (.inl (ziast)), some (.inr (.return_, 0, 0, 0))]]
theorem zk_200 : zt_200 = xt_200.map (fun l => l.map (Option.map zcv)) := rfl
noncomputable def zt_355 : zT := [[some (.inl (zPI 1 (Int32.ofInt 0))), some (.inl (zS1 1 2)), some (.inl (zLA 1 0)), some (.inl (zalen)), some (.inl (zS1 1 3)), some (.inl (zL1 1 2)), some (.inl (zL1 1 3)), some (.inl (zic .ge 20))],
  [none, none, some (.inl (zLA 1 0)), some (.inl (zL1 1 2)), some (.inl (zL1 1 1)), some (.inl (ziast)), some (.inl (zinc 2 1)), none],
  [none, some (.inl (zgo 5)), none, none, some (.inr (.return_, 0, 0, 0))]]
theorem zk_355 : zt_355 = xt_355.map (fun l => l.map (Option.map zcv)) := rfl
