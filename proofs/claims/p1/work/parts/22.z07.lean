noncomputable def zt_280 : zT := [[some (.inl (zLA 1 0)), some (.inl (zL1 1 1)), some (.inr (.invokevirtual 314, 257, 2, 12)), none, none, some (.inl (zif .eq 20)), none, none],
  [some (.inl (zLA 1 0)), some (.inl (zLA 1 0)), some (.inl (zL1 1 1)), some (.inr (.invokevirtual 317, 279, 2, 12)), none, none, some (.inr (.invokevirtual 299, 207, 2, 12)), none],
  [none, some (.inl (zgo 25)), none, none, some (.inl (zLA 1 0)), some (.inl (zPI 1 (Int32.ofInt 1))), some (.inr (.invokevirtual 84, 205, 2, 12)), none],
  [none, some (.inr (.ireturn, 0, 0, 0))]]
theorem zk_280 : zt_280 = xt_280.map (fun l => l.map (Option.map zcv)) := rfl
noncomputable def zt_281 : zT := [[some (.inl (zLA 1 0)), some (.inl (zL1 1 1)), some (.inr (.invokevirtual 311, 256, 2, 12)), none, none, some (.inl (zif .eq 20)), none, none],
  [some (.inl (zLA 1 0)), some (.inl (zLA 1 0)), some (.inl (zL1 1 1)), some (.inr (.invokevirtual 290, 269, 2, 12)), none, none, some (.inr (.invokevirtual 88, 206, 2, 12)), none],
  [none, some (.inl (zgo 25)), none, none, some (.inl (zLA 1 0)), some (.inl (zPI 1 (Int32.ofInt 1))), some (.inr (.invokevirtual 84, 205, 2, 12)), none],
  [none, some (.inr (.ireturn, 0, 0, 0))]]
theorem zk_281 : zt_281 = xt_281.map (fun l => l.map (Option.map zcv)) := rfl
noncomputable def zt_282 : zT := [[some (.inl (zL1 1 1)), some (.inl (zPI 2 (Int8.ofInt 6).toInt32)), none, some (.inl (zrem)), some (.inl (zL1 1 2)), some (.inl (zif .ne 12)), none, none],
  [some (.inl (zPI 1 (Int32.ofInt 1))), some (.inl (zgo 22)), none, none, some (.inl (zL1 1 2)), some (.inl (zPI 1 (Int32.ofInt 2))), some (.inl (zic .ne 21)), none],
  [none, some (.inl (zPI 1 (Int32.ofInt (-1)))), some (.inl (zgo 22)), none, none, some (.inl (zPI 1 (Int32.ofInt 0))), some (.inl (zadd)), some (.inl (zS1 1 3))],
  [some (.inl (zL1 1 1)), some (.inl (zPI 2 (Int8.ofInt 6).toInt32)), none, some (.inl (zdiv)), some (.inl (zL1 1 2)), some (.inl (zPI 1 (Int32.ofInt 1))), some (.inl (zic .ne 37)), none],
  [none, some (.inl (zPI 1 (Int32.ofInt 1))), some (.inl (zgo 47)), none, none, some (.inl (zL1 1 2)), some (.inl (zPI 1 (Int32.ofInt 3))), some (.inl (zic .ne 46))],
  [none, none, some (.inl (zPI 1 (Int32.ofInt (-1)))), some (.inl (zgo 47)), none, none, some (.inl (zPI 1 (Int32.ofInt 0))), some (.inl (zadd))],
  [some (.inl (zS1 2 4)), none, some (.inl (zLA 1 0)), some (.inl (zL1 1 3)), some (.inl (zL1 2 4)), none, some (.inr (.invokevirtual 293, 253, 3, 12)), none],
  [none, some (.inl (zif .eq 84)), none, none, some (.inl (zLA 1 0)), some (.inl (zPI 2 (Int8.ofInt 6).toInt32)), none, some (.inl (zL1 2 4))],
  [none, some (.inl (zmul)), some (.inl (zL1 1 3)), some (.inl (zadd)), some (.inr (.invokevirtual 320, 262, 2, 12)), none, none, some (.inl (zif .ne 84))],
  [none, none, some (.inl (zPI 2 (Int8.ofInt 6).toInt32)), none, some (.inl (zL1 2 4)), none, some (.inl (zmul)), some (.inl (zL1 1 3))],
  [some (.inl (zadd)), some (.inl (zgo 85)), none, none, some (.inl (zL1 1 1)), some (.inr (.ireturn, 0, 0, 0))]]
theorem zk_282 : zt_282 = xt_282.map (fun l => l.map (Option.map zcv)) := rfl
noncomputable def zt_283 : zT := [[some (.inl (zL1 1 1)), some (.inr (.invokestatic 257, 251, 1, 0)), none, none, some (.inl (zS1 1 2)), some (.inl (zLA 1 0)), some (.inl (zget' 12 0)), none],
  [none, some (.inl (zPI 1 (Int32.ofInt 5))), some (.inl (ziald)), some (.inl (zS1 1 3)), some (.inl (zLA 1 0)), some (.inl (zget' 12 0)), none, none],
  [some (.inl (zL1 1 2)), some (.inl (zPI 1 (Int32.ofInt 4))), some (.inl (zadd)), some (.inl (ziald)), some (.inl (zPI 1 (Int32.ofInt 2))), some (.inl (zic .ne 25)), none, none],
  [some (.inr (.return_, 0, 0, 0)), some (.inl (zLA 1 0)), some (.inl (zget' 12 0)), none, none, some (.inl (zL1 1 2)), some (.inl (zPI 1 (Int32.ofInt 2))), some (.inl (zadd))],
  [some (.inl (ziald)), some (.inl (zPI 1 (Int32.ofInt (-1)))), some (.inl (zic .eq 61)), none, none, some (.inl (zLA 1 0)), some (.inl (zget' 12 0)), none],
  [none, some (.inl (zL1 1 2)), some (.inl (zPI 1 (Int32.ofInt 2))), some (.inl (zadd)), some (.inl (ziald)), some (.inl (zL1 1 3)), some (.inl (zPI 1 (Int32.ofInt 1))), some (.inl (zadd))],
  [some (.inl (zic .gt 61)), none, none, some (.inl (zLA 1 0)), some (.inl (zget' 12 0)), none, none, some (.inl (zL1 1 2))],
  [some (.inl (zPI 1 (Int32.ofInt 4))), some (.inl (zadd)), some (.inl (zPI 1 (Int32.ofInt 2))), some (.inl (ziast)), some (.inr (.return_, 0, 0, 0)), some (.inl (zLA 1 0)), some (.inl (zget' 12 0)), none],
  [none, some (.inl (zL1 1 2)), some (.inl (zPI 1 (Int32.ofInt 4))), some (.inl (zadd)), some (.inl (ziald)), some (.inl (zif .ne 138)), none, none],
  [some (.inl (zLA 1 0)), some (.inl (zget' 12 0)), none, none, some (.inl (zL1 1 2)), some (.inl (zPI 1 (Int32.ofInt 1))), some (.inl (zadd)), some (.inl (ziald))],
  [some (.inl (zL1 1 3)), some (.inl (zPI 1 (Int32.ofInt 1))), some (.inl (zadd)), some (.inl (zic .gt 113)), none, none, some (.inl (zLA 1 0)), some (.inl (zLA 1 0))],
  [some (.inl (zget' 12 0)), none, none, some (.inl (zL1 1 2)), some (.inl (ziald)), some (.inr (.invokevirtual 320, 262, 2, 12)), none, none],
  [some (.inl (zif .ne 113)), none, none, some (.inl (zLA 1 0)), some (.inl (zLA 1 0)), some (.inl (zget' 12 0)), none, none],
  [some (.inl (zL1 1 2)), some (.inl (ziald)), some (.inr (.invokevirtual 296, 264, 2, 12)), none, none, some (.inl (zPI 1 (Int32.ofInt (-1)))), some (.inl (zic .eq 114)), none],
  [none, some (.inr (.return_, 0, 0, 0)), some (.inl (zLA 1 0)), some (.inl (zget' 12 0)), none, none, some (.inl (zL1 1 2)), some (.inl (zPI 1 (Int32.ofInt 4)))],
  [some (.inl (zadd)), some (.inl (zPI 1 (Int32.ofInt 1))), some (.inl (ziast)), some (.inl (zLA 1 0)), some (.inl (zget' 12 0)), none, none, some (.inl (zL1 1 2))],
  [some (.inl (zPI 1 (Int32.ofInt 5))), some (.inl (zadd)), some (.inl (zLA 1 0)), some (.inl (zget' 12 0)), none, none, some (.inl (zL1 1 2)), some (.inl (ziald))],
  [some (.inl (ziast)), some (.inr (.return_, 0, 0, 0)), some (.inl (zLA 1 0)), some (.inl (zLA 1 0)), some (.inl (zget' 12 0)), none, none, some (.inl (zL1 1 2))],
  [some (.inl (zPI 1 (Int32.ofInt 5))), some (.inl (zadd)), some (.inl (ziald)), some (.inl (zLA 1 0)), some (.inl (zget' 12 0)), none, none, some (.inl (zL1 1 2))],
  [some (.inl (zPI 2 (Int8.ofInt 6).toInt32)), none, some (.inl (zadd)), some (.inl (zL1 1 3)), some (.inl (zLA 1 0)), some (.inl (zget' 12 0)), none, none],
  [some (.inl (zL1 1 2)), some (.inl (zPI 1 (Int32.ofInt 3))), some (.inl (zadd)), some (.inl (ziald)), some (.inl (zrem)), some (.inl (zadd)), some (.inl (ziald)), some (.inr (.invokevirtual 323, 282, 3, 12))],
  [none, none, some (.inl (zS1 2 4)), none, some (.inl (zLA 1 0)), some (.inl (zL1 2 4)), none, some (.inr (.invokevirtual 296, 264, 2, 12))],
  [none, none, some (.inl (zPI 1 (Int32.ofInt (-1)))), some (.inl (zic .ne 192)), none, none, some (.inl (zLA 1 0)), some (.inl (zget' 12 0))],
  [none, none, some (.inl (zL1 1 2)), some (.inl (zPI 1 (Int32.ofInt 5))), some (.inl (zadd)), some (.inl (zL1 2 4)), none, some (.inl (ziast))],
  [some (.inr (.return_, 0, 0, 0))]]
theorem zk_283 : zt_283 = xt_283.map (fun l => l.map (Option.map zcv)) := rfl
noncomputable def zt_284 : zT := [[some (.inl (zPI 1 (Int32.ofInt 0))), some (.inl (zS1 1 1)), some (.inl (zL1 1 1)), some (.inl (zLA 1 0)), some (.inl (zget' 12 0)), none, none, some (.inl (zPI 1 (Int32.ofInt 2)))],
  [some (.inl (ziald)), some (.inl (zic .ge 23)), none, none, some (.inl (zLA 1 0)), some (.inl (zL1 1 1)), some (.inr (.invokevirtual 326, 283, 2, 12)), none],
  [none, some (.inl (zinc 1 1)), none, none, some (.inl (zgo 2)), none, none, some (.inl (zLA 1 0))],
  [some (.inl (zget' 12 0)), none, none, some (.inl (zPI 1 (Int32.ofInt 5))), some (.inl (zdup2)), some (.inl (ziald)), some (.inl (zPI 1 (Int32.ofInt 1))), some (.inl (zadd))],
  [some (.inl (ziast)), some (.inr (.return_, 0, 0, 0))]]
theorem zk_284 : zt_284 = xt_284.map (fun l => l.map (Option.map zcv)) := rfl
noncomputable def zt_285 : zT := [[some (.inl (zPI 1 (Int32.ofInt 0))), some (.inl (zS1 1 2)), some (.inl (zL1 1 2)), some (.inl (zL1 1 1)), some (.inl (zic .ge 17)), none, none, some (.inl (zLA 1 0))],
  [some (.inr (.invokevirtual 329, 284, 1, 12)), none, none, some (.inl (zinc 2 1)), none, none, some (.inl (zgo 2)), none],
  [none, some (.inr (.return_, 0, 0, 0))]]
theorem zk_285 : zt_285 = xt_285.map (fun l => l.map (Option.map zcv)) := rfl
noncomputable def zt_286 : zT := [[some (.inl (zLA 1 0)), some (.inr (.invokevirtual 278, 271, 1, 12)), none, none, some (.inl (zS1 1 2)), some (.inl (zLA 1 0)), some (.inl (zget' 12 0)), none],
  [none, some (.inl (zPI 1 (Int32.ofInt 5))), some (.inl (ziald)), some (.inl (zPI 3 (Int16.ofInt 999).toInt32)), none, none, some (.inl (zic .eq 31)), none],
  [none, some (.inl (zLA 1 0)), some (.inl (zget' 12 0)), none, none, some (.inl (zPI 3 (Int16.ofInt 128).toInt32)), none, none],
  [some (.inl (zL1 1 1)), some (.inl (zadd)), some (.inl (ziald)), some (.inl (zL1 1 2)), some (.inl (zic .ge 33)), none, none, some (.inl (zPI 1 (Int32.ofInt 0)))],
  [some (.inr (.ireturn, 0, 0, 0)), some (.inl (zLA 1 0)), some (.inl (zget' 12 0)), none, none, some (.inl (zPI 3 (Int16.ofInt 128).toInt32)), none, none],
  [some (.inl (zL1 1 1)), some (.inl (zadd)), some (.inl (zdup2)), some (.inl (ziald)), some (.inl (zL1 1 2)), some (.inl (zsub)), some (.inl (ziast)), some (.inl (zLA 1 0))],
  [some (.inr (.invokevirtual 329, 284, 1, 12)), none, none, some (.inl (zLA 1 0)), some (.inl (zget' 12 0)), none, none, some (.inl (zPI 1 (Int32.ofInt 5)))],
  [some (.inl (ziald)), some (.inl (zPI 2 (Int8.ofInt 120).toInt32)), none, some (.inl (zic .gt 80)), none, none, some (.inl (zLA 1 0)), some (.inl (zget' 12 0))],
  [none, none, some (.inl (zPI 3 (Int16.ofInt 132).toInt32)), none, none, some (.inl (zLA 1 0)), some (.inl (zget' 12 0)), none],
  [none, some (.inl (zPI 1 (Int32.ofInt 5))), some (.inl (ziald)), some (.inl (zadd)), some (.inl (zPI 1 (Int32.ofInt 1))), some (.inl (zsub)), some (.inl (zL1 1 1)), some (.inl (ziast))],
  [some (.inl (zPI 1 (Int32.ofInt 1))), some (.inr (.ireturn, 0, 0, 0))]]
theorem zk_286 : zt_286 = xt_286.map (fun l => l.map (Option.map zcv)) := rfl
noncomputable def zt_287 : zT := [[some (.inl (zLA 1 0)), some (.inl (zL1 1 1)), some (.inr (.invokevirtual 311, 256, 2, 12)), none, none, some (.inl (zif .eq 20)), none, none],
  [some (.inl (zL1 1 2)), some (.inl (zi2l)), some (.inl (zPL 1 (Int64.ofNat 1))), some (.inl (zPL 3 (Int64.ofInt 99))), none, none, some (.inr (.invokestatic 334, 216, 3, 0)), none],
  [none, some (.inl (zif .ne 26)), none, none, some (.inl (zLA 1 0)), some (.inl (zPI 1 (Int32.ofInt 1))), some (.inr (.invokevirtual 84, 205, 2, 12)), none],
  [none, some (.inr (.ireturn, 0, 0, 0)), some (.inl (zPI 1 (Int32.ofInt 0))), some (.inl (zS1 1 3)), some (.inl (zL1 1 3)), some (.inl (zL1 1 2)), some (.inl (zic .ge 47)), none],
  [none, some (.inl (zLA 1 0)), some (.inl (zL1 1 1)), some (.inr (.invokevirtual 338, 286, 2, 12)), none, none, some (.inl (zif .eq 47)), none],
  [none, some (.inl (zinc 3 1)), none, none, some (.inl (zgo 28)), none, none, some (.inl (zL1 1 3))],
  [some (.inl (zif .ne 60)), none, none, some (.inl (zLA 1 0)), some (.inl (zPI 2 (Int8.ofInt 7).toInt32)), none, some (.inr (.invokevirtual 84, 205, 2, 12)), none],
  [none, some (.inl (zgo 65)), none, none, some (.inl (zLA 1 0)), some (.inl (zL1 1 3)), some (.inr (.invokevirtual 88, 206, 2, 12)), none],
  [none, some (.inr (.ireturn, 0, 0, 0))]]
theorem zk_287 : zt_287 = xt_287.map (fun l => l.map (Option.map zcv)) := rfl
noncomputable def zt_288 : zT := [[some (.inl (zL1 1 1)), some (.inl (zi2l)), some (.inl (zPL 1 (Int64.ofNat 1))), some (.inl (zPL 3 (Int64.ofInt 99))), none, none, some (.inr (.invokestatic 334, 216, 3, 0)), none],
  [none, some (.inl (zif .ne 18)), none, none, some (.inl (zLA 1 0)), some (.inl (zPI 1 (Int32.ofInt 1))), some (.inr (.invokevirtual 84, 205, 2, 12)), none],
  [none, some (.inr (.ireturn, 0, 0, 0)), some (.inl (zLA 1 0)), some (.inl (zget' 12 0)), none, none, some (.inl (zPI 1 (Int32.ofInt 5))), some (.inl (ziald))],
  [some (.inl (zL1 1 1)), some (.inl (zadd)), some (.inl (zPI 3 (Int16.ofInt 999).toInt32)), none, none, some (.inl (zic .le 38)), none, none],
  [some (.inl (zLA 1 0)), some (.inl (zPI 1 (Int32.ofInt 4))), some (.inr (.invokevirtual 84, 205, 2, 12)), none, none, some (.inr (.ireturn, 0, 0, 0)), some (.inl (zLA 1 0)), some (.inl (zL1 1 1))],
  [some (.inr (.invokevirtual 341, 285, 2, 12)), none, none, some (.inl (zLA 1 0)), some (.inl (zLA 1 0)), some (.inl (zget' 12 0)), none, none],
  [some (.inl (zPI 1 (Int32.ofInt 5))), some (.inl (ziald)), some (.inr (.invokevirtual 88, 206, 2, 12)), none, none, some (.inr (.ireturn, 0, 0, 0))]]
theorem zk_288 : zt_288 = xt_288.map (fun l => l.map (Option.map zcv)) := rfl
noncomputable def zt_289 : zT := [[some (.inl (zLA 1 0)), some (.inl (zL1 1 1)), some (.inr (.invokevirtual 314, 257, 2, 12)), none, none, some (.inl (zif .eq 16)), none, none],
  [some (.inl (zLA 1 0)), some (.inl (zL1 1 2)), some (.inr (.invokevirtual 311, 256, 2, 12)), none, none, some (.inl (zif .ne 22)), none, none],
  [some (.inl (zLA 1 0)), some (.inl (zPI 1 (Int32.ofInt 1))), some (.inr (.invokevirtual 84, 205, 2, 12)), none, none, some (.inr (.ireturn, 0, 0, 0)), some (.inl (zLA 1 0)), some (.inl (zL1 1 1))],
  [some (.inr (.invokevirtual 317, 279, 2, 12)), none, none, some (.inl (zS1 1 3)), some (.inl (zL1 1 3)), some (.inl (zPI 1 (Int32.ofInt (-1)))), some (.inl (zic .eq 38)), none],
  [none, some (.inl (zL1 1 3)), some (.inl (zL1 1 2)), some (.inl (zic .ne 45)), none, none, some (.inl (zLA 1 0)), some (.inl (zPI 2 (Int8.ofInt 7).toInt32))],
  [none, some (.inr (.invokevirtual 84, 205, 2, 12)), none, none, some (.inr (.ireturn, 0, 0, 0)), some (.inl (zLA 1 0)), some (.inl (zget' 12 0)), none],
  [none, some (.inl (zPI 3 (Int16.ofInt 132).toInt32)), none, none, some (.inl (zL1 1 1)), some (.inl (zadd)), some (.inl (zPI 1 (Int32.ofInt 1))), some (.inl (zsub))],
  [some (.inl (zL1 1 2)), some (.inl (ziast)), some (.inl (zLA 1 0)), some (.inl (zL1 1 3)), some (.inr (.invokevirtual 88, 206, 2, 12)), none, none, some (.inr (.ireturn, 0, 0, 0))]]
theorem zk_289 : zt_289 = xt_289.map (fun l => l.map (Option.map zcv)) := rfl
noncomputable def zt_290 : zT := [[some (.inl (zLA 1 0)), some (.inl (zL1 1 1)), some (.inr (.invokevirtual 311, 256, 2, 12)), none, none, some (.inl (zif .eq 16)), none, none],
  [some (.inl (zLA 1 0)), some (.inl (zL1 1 2)), some (.inr (.invokevirtual 314, 257, 2, 12)), none, none, some (.inl (zif .ne 22)), none, none],
  [some (.inl (zLA 1 0)), some (.inl (zPI 1 (Int32.ofInt 1))), some (.inr (.invokevirtual 84, 205, 2, 12)), none, none, some (.inr (.ireturn, 0, 0, 0)), some (.inl (zLA 1 0)), some (.inl (zL1 1 2))],
  [some (.inr (.invokevirtual 317, 279, 2, 12)), none, none, some (.inl (zL1 1 1)), some (.inl (zic .eq 38)), none, none, some (.inl (zLA 1 0))],
  [some (.inl (zPI 2 (Int8.ofInt 7).toInt32)), none, some (.inr (.invokevirtual 84, 205, 2, 12)), none, none, some (.inr (.ireturn, 0, 0, 0)), some (.inl (zLA 1 0)), some (.inl (zget' 12 0))],
  [none, none, some (.inl (zPI 3 (Int16.ofInt 132).toInt32)), none, none, some (.inl (zL1 1 2)), some (.inl (zadd)), some (.inl (zPI 1 (Int32.ofInt 1)))],
  [some (.inl (zsub)), some (.inl (zPI 1 (Int32.ofInt (-1)))), some (.inl (ziast)), some (.inl (zLA 1 0)), some (.inl (zget' 12 0)), none, none, some (.inl (zPI 3 (Int16.ofInt 128).toInt32))],
  [none, none, some (.inl (zL1 1 1)), some (.inl (zadd)), some (.inl (zPI 3 (Int16.ofInt 9999).toInt32)), none, none, some (.inl (zLA 1 0))],
  [some (.inl (zget' 12 0)), none, none, some (.inl (zPI 3 (Int16.ofInt 128).toInt32)), none, none, some (.inl (zL1 1 1)), some (.inl (zadd))],
  [some (.inl (ziald)), some (.inl (zLA 1 0)), some (.inl (zL1 1 2)), some (.inr (.invokevirtual 275, 270, 2, 12)), none, none, some (.inl (zPI 1 (Int32.ofInt 2))), some (.inl (zdiv))],
  [some (.inl (zadd)), some (.inl (zmin)), none, none, some (.inl (ziast)), some (.inl (zLA 1 0)), some (.inl (zLA 1 0)), some (.inl (zget' 12 0))],
  [none, none, some (.inl (zPI 3 (Int16.ofInt 128).toInt32)), none, none, some (.inl (zL1 1 1)), some (.inl (zadd)), some (.inl (ziald))],
  [some (.inr (.invokevirtual 88, 206, 2, 12)), none, none, some (.inr (.ireturn, 0, 0, 0))]]
theorem zk_290 : zt_290 = xt_290.map (fun l => l.map (Option.map zcv)) := rfl
noncomputable def zt_291 : zT := [[some (.inl (zLA 1 0)), some (.inl (zL1 1 1)), some (.inr (.invokevirtual 311, 256, 2, 12)), none, none, some (.inl (zif .eq 20)), none, none],
  [some (.inl (zL1 1 2)), some (.inl (zi2l)), some (.inl (zPL 1 (Int64.ofNat 1))), some (.inl (zPL 3 (Int64.ofInt 999))), none, none, some (.inr (.invokestatic 334, 216, 3, 0)), none],
  [none, some (.inl (zif .ne 26)), none, none, some (.inl (zLA 1 0)), some (.inl (zPI 1 (Int32.ofInt 1))), some (.inr (.invokevirtual 84, 205, 2, 12)), none],
  [none, some (.inr (.ireturn, 0, 0, 0)), some (.inl (zLA 1 0)), some (.inl (zget' 12 0)), none, none, some (.inl (zPI 3 (Int16.ofInt 128).toInt32)), none],
  [none, some (.inl (zL1 1 1)), some (.inl (zadd)), some (.inl (ziald)), some (.inl (zL1 1 2)), some (.inl (zadd)), some (.inl (zPI 3 (Int16.ofInt 9999).toInt32)), none],
  [none, some (.inl (zic .le 51)), none, none, some (.inl (zLA 1 0)), some (.inl (zPI 2 (Int8.ofInt 7).toInt32)), none, some (.inr (.invokevirtual 84, 205, 2, 12))],
  [none, none, some (.inr (.ireturn, 0, 0, 0)), some (.inl (zLA 1 0)), some (.inl (zget' 12 0)), none, none, some (.inl (zPI 3 (Int16.ofInt 128).toInt32))],
  [none, none, some (.inl (zL1 1 1)), some (.inl (zadd)), some (.inl (zdup2)), some (.inl (ziald)), some (.inl (zL1 1 2)), some (.inl (zadd))],
  [some (.inl (ziast)), some (.inl (zLA 1 0)), some (.inl (zLA 1 0)), some (.inl (zget' 12 0)), none, none, some (.inl (zPI 3 (Int16.ofInt 128).toInt32)), none],
  [none, some (.inl (zL1 1 1)), some (.inl (zadd)), some (.inl (ziald)), some (.inr (.invokevirtual 88, 206, 2, 12)), none, none, some (.inr (.ireturn, 0, 0, 0))]]
theorem zk_291 : zt_291 = xt_291.map (fun l => l.map (Option.map zcv)) := rfl
noncomputable def zt_292 : zT := [[some (.inl (zL1 1 1)), some (.inl (zi2l)), some (.inl (zPL 1 (Int64.ofNat 0))), some (.inl (zPL 3 (Int64.ofInt 99))), none, none, some (.inr (.invokestatic 334, 216, 3, 0)), none],
  [none, some (.inl (zif .eq 24)), none, none, some (.inl (zL1 1 2)), some (.inl (zi2l)), some (.inl (zPL 1 (Int64.ofNat 0))), some (.inl (zPL 3 (Int64.ofInt 20)))],
  [none, none, some (.inr (.invokestatic 334, 216, 3, 0)), none, none, some (.inl (zif .ne 30)), none, none],
  [some (.inl (zLA 1 0)), some (.inl (zPI 1 (Int32.ofInt 1))), some (.inr (.invokevirtual 91, 204, 2, 12)), none, none, some (.inr (.ireturn, 0, 0, 0)), some (.inl (zLA 1 0)), some (.inl (zget' 12 0))],
  [none, none, some (.inl (zPI 2 (Int8.ofInt 6).toInt32)), none, some (.inl (zL1 1 1)), some (.inl (ziast)), some (.inl (zLA 1 0)), some (.inl (zget' 12 0))],
  [none, none, some (.inl (zPI 2 (Int8.ofInt 7).toInt32)), none, some (.inl (zL1 1 2)), some (.inl (ziast)), some (.inl (zLA 1 0)), some (.inl (zPI 1 (Int32.ofInt 0)))],
  [some (.inr (.invokevirtual 91, 204, 2, 12)), none, none, some (.inr (.ireturn, 0, 0, 0))]]
theorem zk_292 : zt_292 = xt_292.map (fun l => l.map (Option.map zcv)) := rfl
noncomputable def zt_293 : zT := [[some (.inl (zLA 1 0)), some (.inl (zL1 1 1)), some (.inl (zL1 1 2)), some (.inr (.invokevirtual 293, 253, 3, 12)), none, none, some (.inl (zif .ne 15)), none],
  [none, some (.inl (zLA 1 0)), some (.inl (zPI 1 (Int32.ofInt 1))), some (.inr (.invokevirtual 91, 204, 2, 12)), none, none, some (.inr (.ireturn, 0, 0, 0)), some (.inl (zPI 2 (Int8.ofInt 6).toInt32))],
  [none, some (.inl (zL1 1 2)), some (.inl (zmul)), some (.inl (zL1 1 1)), some (.inl (zadd)), some (.inl (zS1 2 4)), none, some (.inl (zLA 1 0))],
  [some (.inl (zL1 2 4)), none, some (.inr (.invokevirtual 296, 264, 2, 12)), none, none, some (.inl (zPI 1 (Int32.ofInt (-1)))), some (.inl (zic .ne 43)), none],
  [none, some (.inl (zLA 1 0)), some (.inl (zL1 2 4)), none, some (.inr (.invokevirtual 320, 262, 2, 12)), none, none, some (.inl (zL1 1 3))],
  [some (.inl (zic .ne 50)), none, none, some (.inl (zLA 1 0)), some (.inl (zPI 2 (Int8.ofInt 7).toInt32)), none, some (.inr (.invokevirtual 91, 204, 2, 12)), none],
  [none, some (.inr (.ireturn, 0, 0, 0)), some (.inl (zLA 1 0)), some (.inl (zget' 12 0)), none, none, some (.inl (zPI 2 (Int8.ofInt 10).toInt32)), none],
  [some (.inl (zL1 2 4)), none, some (.inl (zadd)), some (.inl (zL1 1 3)), some (.inl (zif .eq 67)), none, none, some (.inl (zPI 1 (Int32.ofInt 1)))],
  [some (.inl (zgo 68)), none, none, some (.inl (zPI 1 (Int32.ofInt 0))), some (.inl (ziast)), some (.inl (zLA 1 0)), some (.inl (zPI 1 (Int32.ofInt 0))), some (.inr (.invokevirtual 91, 204, 2, 12))],
  [none, none, some (.inr (.ireturn, 0, 0, 0))]]
theorem zk_293 : zt_293 = xt_293.map (fun l => l.map (Option.map zcv)) := rfl
noncomputable def zt_294 : zT := [[some (.inl (zLA 1 0)), some (.inl (zL1 1 1)), some (.inr (.invokevirtual 302, 254, 2, 12)), none, none, some (.inl (zif .eq 38)), none, none],
  [some (.inl (zL1 1 2)), some (.inl (zi2l)), some (.inl (zPL 1 (Int64.ofNat 0))), some (.inl (zLA 1 0)), some (.inl (zL1 1 1)), some (.inl (zPI 1 (Int32.ofInt 3))), some (.inr (.invokevirtual 260, 260, 3, 12)), none],
  [none, some (.inl (zi2l)), some (.inl (zPL 1 (Int64.ofNat 1))), some (.inl (zlsub)), some (.inr (.invokestatic 334, 216, 3, 0)), none, none, some (.inl (zif .eq 38))],
  [none, none, some (.inl (zL1 1 3)), some (.inl (zi2l)), some (.inl (zPL 1 (Int64.ofNat 0))), some (.inl (zPL 3 (Int64.ofInt 4))), none, none],
  [some (.inr (.invokestatic 334, 216, 3, 0)), none, none, some (.inl (zif .ne 44)), none, none, some (.inl (zLA 1 0)), some (.inl (zPI 1 (Int32.ofInt 1)))],
  [some (.inr (.invokevirtual 91, 204, 2, 12)), none, none, some (.inr (.ireturn, 0, 0, 0)), some (.inl (zLA 1 0)), some (.inl (zget' 12 0)), none, none],
  [some (.inl (zL1 1 1)), some (.inr (.invokestatic 257, 251, 1, 0)), none, none, some (.inl (zPI 2 (Int8.ofInt 6).toInt32)), none, some (.inl (zadd)), some (.inl (zL1 1 2))],
  [some (.inl (zadd)), some (.inl (zL1 1 3)), some (.inl (ziast)), some (.inl (zLA 1 0)), some (.inl (zPI 1 (Int32.ofInt 0))), some (.inr (.invokevirtual 91, 204, 2, 12)), none, none],
  [some (.inr (.ireturn, 0, 0, 0))]]
theorem zk_294 : zt_294 = xt_294.map (fun l => l.map (Option.map zcv)) := rfl
noncomputable def zt_295 : zT := [[some (.inl (zLA 1 0)), some (.inl (zL1 1 1)), some (.inr (.invokevirtual 302, 254, 2, 12)), none, none, some (.inl (zif .eq 17)), none, none],
  [some (.inl (zLA 1 0)), some (.inl (zL1 1 2)), some (.inl (zL1 1 3)), some (.inr (.invokevirtual 293, 253, 3, 12)), none, none, some (.inl (zif .ne 23)), none],
  [none, some (.inl (zLA 1 0)), some (.inl (zPI 1 (Int32.ofInt 1))), some (.inr (.invokevirtual 91, 204, 2, 12)), none, none, some (.inr (.ireturn, 0, 0, 0)), some (.inl (zPI 2 (Int8.ofInt 6).toInt32))],
  [none, some (.inl (zL1 1 3)), some (.inl (zmul)), some (.inl (zL1 1 2)), some (.inl (zadd)), some (.inl (zS1 2 4)), none, some (.inl (zLA 1 0))],
  [some (.inl (zL1 1 1)), some (.inr (.invokevirtual 263, 261, 2, 12)), none, none, some (.inl (zif .eq 58)), none, none, some (.inl (zLA 1 0))],
  [some (.inl (zL1 2 4)), none, some (.inr (.invokevirtual 320, 262, 2, 12)), none, none, some (.inl (zif .ne 58)), none, none],
  [some (.inl (zLA 1 0)), some (.inl (zL1 2 4)), none, some (.inr (.invokevirtual 296, 264, 2, 12)), none, none, some (.inl (zPI 1 (Int32.ofInt (-1)))), some (.inl (zic .eq 65))],
  [none, none, some (.inl (zLA 1 0)), some (.inl (zPI 2 (Int8.ofInt 7).toInt32)), none, some (.inr (.invokevirtual 91, 204, 2, 12)), none, none],
  [some (.inr (.ireturn, 0, 0, 0)), some (.inl (zLA 1 0)), some (.inl (zget' 12 0)), none, none, some (.inl (zL1 1 1)), some (.inr (.invokestatic 257, 251, 1, 0)), none],
  [none, some (.inl (zPI 1 (Int32.ofInt 5))), some (.inl (zadd)), some (.inl (zL1 2 4)), none, some (.inl (ziast)), some (.inl (zLA 1 0)), some (.inl (zPI 1 (Int32.ofInt 0)))],
  [some (.inr (.invokevirtual 91, 204, 2, 12)), none, none, some (.inr (.ireturn, 0, 0, 0))]]
theorem zk_295 : zt_295 = xt_295.map (fun l => l.map (Option.map zcv)) := rfl
noncomputable def zt_296 : zT := [[some (.inl (zPI 1 (Int32.ofInt 0))), some (.inl (zS1 1 2)), some (.inl (zL1 1 2)), some (.inl (zPI 3 (Int16.ofInt 252).toInt32)), none, none, some (.inl (zic .ge 29)), none],
  [none, some (.inl (zLA 1 0)), some (.inl (zget' 12 0)), none, none, some (.inl (zL1 1 1)), some (.inl (zL1 1 2)), some (.inl (zadd))],
  [some (.inl (zLA 1 0)), some (.inl (zget' 12 0)), none, none, some (.inl (zL1 1 2)), some (.inl (ziald)), some (.inl (ziast)), some (.inl (zinc 2 1))],
  [none, none, some (.inl (zgo 2)), none, none, some (.inr (.return_, 0, 0, 0))]]
theorem zk_296 : zt_296 = xt_296.map (fun l => l.map (Option.map zcv)) := rfl
noncomputable def zt_297 : zT := [[some (.inl (zPI 1 (Int32.ofInt 0))), some (.inl (zS1 1 2)), some (.inl (zL1 1 2)), some (.inl (zPI 3 (Int16.ofInt 252).toInt32)), none, none, some (.inl (zic .ge 29)), none],
  [none, some (.inl (zLA 1 0)), some (.inl (zget' 12 0)), none, none, some (.inl (zL1 1 2)), some (.inl (zLA 1 0)), some (.inl (zget' 12 0))],
  [none, none, some (.inl (zL1 1 1)), some (.inl (zL1 1 2)), some (.inl (zadd)), some (.inl (ziald)), some (.inl (ziast)), some (.inl (zinc 2 1))],
  [none, none, some (.inl (zgo 2)), none, none, some (.inr (.return_, 0, 0, 0))]]
theorem zk_297 : zt_297 = xt_297.map (fun l => l.map (Option.map zcv)) := rfl
noncomputable def zt_298 : zT := [[some (.inl (zL1 1 0)), some (.inl (zi2l)), some (.inl (zL1 1 1)), some (.inl (zi2l)), some (.inl (zPL 3 (Int64.ofInt 200))), none, none, some (.inr (.invokestatic 334, 216, 3, 0))],
  [none, none, some (.inr (.ireturn, 0, 0, 0))]]
theorem zk_298 : zt_298 = xt_298.map (fun l => l.map (Option.map zcv)) := rfl
noncomputable def zt_299 : zT := [[some (.inl (zL1 1 1)), some (.inl (zi2l)), some (.inl (zPL 1 (Int64.ofNat 1))), some (.inl (zPL 3 (Int64.ofInt 999))), none, none, some (.inr (.invokestatic 334, 216, 3, 0)), none],
  [none, some (.inl (zif .eq 24)), none, none, some (.inl (zLA 1 0)), some (.inl (zLA 1 0)), some (.inl (zL1 1 1)), some (.inr (.invokevirtual 275, 270, 2, 12))],
  [none, none, some (.inr (.invokevirtual 88, 206, 2, 12)), none, none, some (.inl (zgo 29)), none, none],
  [some (.inl (zLA 1 0)), some (.inl (zPI 1 (Int32.ofInt 1))), some (.inr (.invokevirtual 84, 205, 2, 12)), none, none, some (.inr (.ireturn, 0, 0, 0))]]
theorem zk_299 : zt_299 = xt_299.map (fun l => l.map (Option.map zcv)) := rfl
noncomputable def zt_300 : zT := [[some (.inl (zPI 1 (Int32.ofInt 0))), some (.inl (zS1 1 2)), some (.inl (zPI 1 (Int32.ofInt 1))), some (.inl (zS1 1 3)), some (.inl (zL1 1 3)), some (.inl (zL1 1 1)), some (.inl (zic .gt 30)), none],
  [none, some (.inl (zL1 1 2)), some (.inl (zLA 1 0)), some (.inl (zLA 1 0)), some (.inl (zget' 12 0)), none, none, some (.inl (zPI 1 (Int32.ofInt 5)))],
  [some (.inl (ziald)), some (.inl (zL1 1 3)), some (.inl (zadd)), some (.inr (.invokevirtual 275, 270, 2, 12)), none, none, some (.inl (zadd)), some (.inl (zS1 1 2))],
  [some (.inl (zinc 3 1)), none, none, some (.inl (zgo 4)), none, none, some (.inl (zL1 1 2)), some (.inr (.ireturn, 0, 0, 0))]]
theorem zk_300 : zt_300 = xt_300.map (fun l => l.map (Option.map zcv)) := rfl
noncomputable def zt_301 : zT := [[some (.inl (zL1 1 1)), some (.inl (zPI 1 (Int32.ofInt 0))), some (.inr (.invokestatic 352, 298, 2, 0)), none, none, some (.inl (zif .eq 20)), none, none],
  [some (.inl (zLA 1 0)), some (.inl (zLA 1 0)), some (.inl (zL1 1 1)), some (.inr (.invokevirtual 355, 300, 2, 12)), none, none, some (.inr (.invokevirtual 88, 206, 2, 12)), none],
  [none, some (.inl (zgo 25)), none, none, some (.inl (zLA 1 0)), some (.inl (zPI 1 (Int32.ofInt 1))), some (.inr (.invokevirtual 84, 205, 2, 12)), none],
  [none, some (.inr (.ireturn, 0, 0, 0))]]
theorem zk_301 : zt_301 = xt_301.map (fun l => l.map (Option.map zcv)) := rfl
noncomputable def zt_302 : zT := [[some (.inl (zLA 1 0)), some (.inl (zL1 1 1)), some (.inr (.invokevirtual 302, 254, 2, 12)), none, none, some (.inl (zif .eq 16)), none, none],
  [some (.inl (zL1 1 2)), some (.inl (zPI 1 (Int32.ofInt 0))), some (.inr (.invokestatic 352, 298, 2, 0)), none, none, some (.inl (zif .ne 22)), none, none],
  [some (.inl (zLA 1 0)), some (.inl (zPI 1 (Int32.ofInt 1))), some (.inr (.invokevirtual 84, 205, 2, 12)), none, none, some (.inr (.ireturn, 0, 0, 0)), some (.inl (zLA 1 0)), some (.inl (zPI 3 (Int16.ofInt 3720).toInt32))],
  [none, none, some (.inr (.invokevirtual 358, 296, 2, 12)), none, none, some (.inl (zLA 1 0)), some (.inl (zL1 1 2)), some (.inr (.invokevirtual 341, 285, 2, 12))],
  [none, none, some (.inl (zLA 1 0)), some (.inl (zL1 1 1)), some (.inr (.invokevirtual 263, 261, 2, 12)), none, none, some (.inl (zif .eq 54))],
  [none, none, some (.inl (zLA 1 0)), some (.inl (zL1 1 1)), some (.inl (zPI 1 (Int32.ofInt 5))), some (.inr (.invokevirtual 260, 260, 3, 12)), none, none],
  [some (.inr (.invokestatic 308, 263, 1, 0)), none, none, some (.inl (zgo 55)), none, none, some (.inl (zPI 1 (Int32.ofInt (-1)))), some (.inl (zS1 1 3))],
  [some (.inl (zLA 1 0)), some (.inl (zPI 3 (Int16.ofInt 3720).toInt32)), none, none, some (.inr (.invokevirtual 361, 297, 2, 12)), none, none, some (.inl (zLA 1 0))],
  [some (.inl (zL1 1 3)), some (.inr (.invokevirtual 299, 207, 2, 12)), none, none, some (.inr (.ireturn, 0, 0, 0))]]
theorem zk_302 : zt_302 = xt_302.map (fun l => l.map (Option.map zcv)) := rfl
noncomputable def zt_303 : zT := [[some (.inl (zLA 1 0)), some (.inl (zL1 1 1)), some (.inl (zL1 1 2)), some (.inr (.invokevirtual 293, 253, 3, 12)), none, none, some (.inl (zif .eq 17)), none],
  [none, some (.inl (zL1 1 3)), some (.inl (zPI 1 (Int32.ofInt 0))), some (.inr (.invokestatic 352, 298, 2, 0)), none, none, some (.inl (zif .ne 23)), none],
  [none, some (.inl (zLA 1 0)), some (.inl (zPI 1 (Int32.ofInt 1))), some (.inr (.invokevirtual 84, 205, 2, 12)), none, none, some (.inr (.ireturn, 0, 0, 0)), some (.inl (zLA 1 0))],
  [some (.inl (zPI 3 (Int16.ofInt 3720).toInt32)), none, none, some (.inr (.invokevirtual 358, 296, 2, 12)), none, none, some (.inl (zLA 1 0)), some (.inl (zL1 1 3))],
  [some (.inr (.invokevirtual 341, 285, 2, 12)), none, none, some (.inl (zLA 1 0)), some (.inl (zPI 2 (Int8.ofInt 6).toInt32)), none, some (.inl (zL1 1 2)), some (.inl (zmul))],
  [some (.inl (zL1 1 1)), some (.inl (zadd)), some (.inr (.invokevirtual 296, 264, 2, 12)), none, none, some (.inl (zS1 2 4)), none, some (.inl (zLA 1 0))],
  [some (.inl (zPI 3 (Int16.ofInt 3720).toInt32)), none, none, some (.inr (.invokevirtual 361, 297, 2, 12)), none, none, some (.inl (zLA 1 0)), some (.inl (zL1 2 4))],
  [none, some (.inr (.invokevirtual 299, 207, 2, 12)), none, none, some (.inr (.ireturn, 0, 0, 0))]]
theorem zk_303 : zt_303 = xt_303.map (fun l => l.map (Option.map zcv)) := rfl
noncomputable def zt_304 : zT := [[some (.inl (zL1 1 1)), some (.inl (zPI 1 (Int32.ofInt 0))), some (.inr (.invokestatic 352, 298, 2, 0)), none, none, some (.inl (zif .ne 14)), none, none],
  [some (.inl (zLA 1 0)), some (.inl (zPI 1 (Int32.ofInt 1))), some (.inr (.invokevirtual 84, 205, 2, 12)), none, none, some (.inr (.ireturn, 0, 0, 0)), some (.inl (zLA 1 0)), some (.inl (zPI 3 (Int16.ofInt 3720).toInt32))],
  [none, none, some (.inr (.invokevirtual 358, 296, 2, 12)), none, none, some (.inl (zLA 1 0)), some (.inl (zL1 1 1)), some (.inr (.invokevirtual 341, 285, 2, 12))],
  [none, none, some (.inl (zLA 1 0)), some (.inr (.invokevirtual 284, 266, 1, 12)), none, none, some (.inl (zS1 1 2)), some (.inl (zLA 1 0))],
  [some (.inl (zPI 3 (Int16.ofInt 3720).toInt32)), none, none, some (.inr (.invokevirtual 361, 297, 2, 12)), none, none, some (.inl (zLA 1 0)), some (.inl (zL1 1 2))],
  [some (.inr (.invokevirtual 88, 206, 2, 12)), none, none, some (.inr (.ireturn, 0, 0, 0))]]
theorem zk_304 : zt_304 = xt_304.map (fun l => l.map (Option.map zcv)) := rfl
noncomputable def zt_305 : zT := [[some (.inl (zLA 1 0)), some (.inl (zPI 3 (Int16.ofInt 3720).toInt32)), none, none, some (.inr (.invokevirtual 358, 296, 2, 12)), none, none, some (.inl (zPI 1 (Int32.ofInt 1)))],
  [some (.inl (zS1 1 2)), some (.inl (zL1 1 2)), some (.inl (zL1 1 1)), some (.inl (zic .gt 34)), none, none, some (.inl (zLA 1 0)), some (.inr (.invokevirtual 329, 284, 1, 12))],
  [none, none, some (.inl (zLA 1 0)), some (.inl (zget' 12 24)), none, none, some (.inl (zL1 1 2)), some (.inl (zLA 1 0))],
  [some (.inr (.invokevirtual 284, 266, 1, 12)), none, none, some (.inl (ziast)), some (.inl (zinc 2 1)), none, none, some (.inl (zgo 9))],
  [none, none, some (.inl (zLA 1 0)), some (.inl (zPI 3 (Int16.ofInt 3720).toInt32)), none, none, some (.inr (.invokevirtual 361, 297, 2, 12)), none],
  [none, some (.inr (.return_, 0, 0, 0))]]
theorem zk_305 : zt_305 = xt_305.map (fun l => l.map (Option.map zcv)) := rfl
noncomputable def zt_306 : zT := [[some (.inl (zLA 1 0)), some (.inl (zPI 3 (Int16.ofInt 200).toInt32)), none, none, some (.inr (.invokevirtual 364, 305, 2, 12)), none, none, some (.inl (zPI 1 (Int32.ofInt 1)))],
  [some (.inl (zS1 1 2)), some (.inl (zL1 1 2)), some (.inl (zPI 3 (Int16.ofInt 200).toInt32)), none, none, some (.inl (zic .gt 38)), none, none],
  [some (.inl (zLA 1 0)), some (.inl (zLA 1 0)), some (.inl (zget' 12 24)), none, none, some (.inl (zL1 1 2)), some (.inl (ziald)), some (.inl (zL1 1 1))],
  [some (.inr (.invokevirtual 367, 258, 3, 12)), none, none, some (.inl (zif .eq 32)), none, none, some (.inl (zL1 1 2)), some (.inr (.ireturn, 0, 0, 0))],
  [some (.inl (zinc 2 1)), none, none, some (.inl (zgo 9)), none, none, some (.inl (zPI 1 (Int32.ofInt (-1)))), some (.inr (.ireturn, 0, 0, 0))]]
theorem zk_306 : zt_306 = xt_306.map (fun l => l.map (Option.map zcv)) := rfl
noncomputable def zt_307 : zT := [[some (.inl (zLA 1 0)), some (.inl (zL1 1 1)), some (.inr (.invokevirtual 305, 255, 2, 12)), none, none, some (.inl (zif .eq 20)), none, none],
  [some (.inl (zLA 1 0)), some (.inl (zLA 1 0)), some (.inl (zL1 1 1)), some (.inr (.invokevirtual 370, 306, 2, 12)), none, none, some (.inr (.invokevirtual 299, 207, 2, 12)), none],
  [none, some (.inl (zgo 25)), none, none, some (.inl (zLA 1 0)), some (.inl (zPI 1 (Int32.ofInt 1))), some (.inr (.invokevirtual 84, 205, 2, 12)), none],
  [none, some (.inr (.ireturn, 0, 0, 0))]]
theorem zk_307 : zt_307 = xt_307.map (fun l => l.map (Option.map zcv)) := rfl
noncomputable def zt_308 : zT := [[some (.inl (zLA 1 0)), some (.inl (zL1 1 1)), some (.inr (.invokevirtual 305, 255, 2, 12)), none, none, some (.inl (zif .ne 14)), none, none],
  [some (.inl (zLA 1 0)), some (.inl (zPI 1 (Int32.ofInt 1))), some (.inr (.invokevirtual 84, 205, 2, 12)), none, none, some (.inr (.ireturn, 0, 0, 0)), some (.inl (zLA 1 0)), some (.inl (zL1 1 1))],
  [some (.inr (.invokevirtual 370, 306, 2, 12)), none, none, some (.inl (zS1 1 2)), some (.inl (zL1 1 2)), some (.inl (zPI 1 (Int32.ofInt (-1)))), some (.inl (zic .ne 34)), none],
  [none, some (.inl (zLA 1 0)), some (.inl (zPI 2 (Int8.ofInt 6).toInt32)), none, some (.inr (.invokevirtual 84, 205, 2, 12)), none, none, some (.inl (zgo 43))],
  [none, none, some (.inl (zLA 1 0)), some (.inl (zLA 1 0)), some (.inl (zL1 1 2)), some (.inr (.invokevirtual 355, 300, 2, 12)), none, none],
  [some (.inr (.invokevirtual 88, 206, 2, 12)), none, none, some (.inr (.ireturn, 0, 0, 0))]]
theorem zk_308 : zt_308 = xt_308.map (fun l => l.map (Option.map zcv)) := rfl
noncomputable def zt_309 : zT := [[some (.inl (zLA 1 0)), some (.inl (zL1 1 1)), some (.inr (.invokevirtual 305, 255, 2, 12)), none, none, some (.inl (zif .eq 16)), none, none],
  [some (.inl (zL1 1 2)), some (.inl (zPI 1 (Int32.ofInt 1))), some (.inr (.invokestatic 352, 298, 2, 0)), none, none, some (.inl (zif .ne 22)), none, none],
  [some (.inl (zLA 1 0)), some (.inl (zPI 1 (Int32.ofInt 1))), some (.inr (.invokevirtual 84, 205, 2, 12)), none, none, some (.inr (.ireturn, 0, 0, 0)), some (.inl (zLA 1 0)), some (.inl (zL1 1 2))],
  [some (.inr (.invokevirtual 364, 305, 2, 12)), none, none, some (.inl (zPI 1 (Int32.ofInt 0))), some (.inl (zS1 1 3)), some (.inl (zPI 1 (Int32.ofInt 1))), some (.inl (zS1 2 4)), none],
  [some (.inl (zL1 2 4)), none, some (.inl (zL1 1 2)), some (.inl (zic .gt 67)), none, none, some (.inl (zL1 1 3)), some (.inl (zLA 1 0))],
  [some (.inl (zLA 1 0)), some (.inl (zget' 12 24)), none, none, some (.inl (zL1 2 4)), none, some (.inl (ziald)), some (.inl (zL1 1 1))],
  [some (.inr (.invokevirtual 367, 258, 3, 12)), none, none, some (.inl (zif .eq 58)), none, none, some (.inl (zPI 1 (Int32.ofInt 1))), some (.inl (zgo 59))],
  [none, none, some (.inl (zPI 1 (Int32.ofInt 0))), some (.inl (zadd)), some (.inl (zS1 1 3)), some (.inl (zinc 4 1)), none, none],
  [some (.inl (zgo 32)), none, none, some (.inl (zLA 1 0)), some (.inl (zL1 1 3)), some (.inr (.invokevirtual 88, 206, 2, 12)), none, none],
  [some (.inr (.ireturn, 0, 0, 0))]]
theorem zk_309 : zt_309 = xt_309.map (fun l => l.map (Option.map zcv)) := rfl
noncomputable def zt_310 : zT := [[some (.inl (zLA 1 0)), some (.inl (zL1 1 1)), some (.inr (.invokevirtual 305, 255, 2, 12)), none, none, some (.inl (zif .eq 16)), none, none],
  [some (.inl (zL1 1 2)), some (.inl (zPI 1 (Int32.ofInt 1))), some (.inr (.invokestatic 352, 298, 2, 0)), none, none, some (.inl (zif .ne 22)), none, none],
  [some (.inl (zLA 1 0)), some (.inl (zPI 1 (Int32.ofInt 1))), some (.inr (.invokevirtual 84, 205, 2, 12)), none, none, some (.inr (.ireturn, 0, 0, 0)), some (.inl (zLA 1 0)), some (.inl (zL1 1 2))],
  [some (.inr (.invokevirtual 364, 305, 2, 12)), none, none, some (.inl (zPI 1 (Int32.ofInt 0))), some (.inl (zS1 1 3)), some (.inl (zPI 1 (Int32.ofInt 0))), some (.inl (zS1 2 4)), none],
  [some (.inl (zPI 1 (Int32.ofInt 1))), some (.inl (zS1 2 5)), none, some (.inl (zL1 2 5)), none, some (.inl (zL1 1 2)), some (.inl (zic .gt 79)), none],
  [none, some (.inl (zLA 1 0)), some (.inl (zLA 1 0)), some (.inl (zget' 12 24)), none, none, some (.inl (zL1 2 5)), none],
  [some (.inl (ziald)), some (.inl (zL1 1 1)), some (.inr (.invokevirtual 367, 258, 3, 12)), none, none, some (.inl (zif .eq 63)), none, none],
  [some (.inl (zL1 2 4)), none, some (.inl (zPI 1 (Int32.ofInt 1))), some (.inl (zadd)), some (.inl (zgo 64)), none, none, some (.inl (zPI 1 (Int32.ofInt 0)))],
  [some (.inl (zS1 2 4)), none, some (.inl (zL1 1 3)), some (.inl (zL1 2 4)), none, some (.inl (zmax)), none, none],
  [some (.inl (zS1 1 3)), some (.inl (zinc 5 1)), none, none, some (.inl (zgo 35)), none, none, some (.inl (zLA 1 0))],
  [some (.inl (zL1 1 3)), some (.inr (.invokevirtual 88, 206, 2, 12)), none, none, some (.inr (.ireturn, 0, 0, 0))]]
theorem zk_310 : zt_310 = xt_310.map (fun l => l.map (Option.map zcv)) := rfl
noncomputable def zt_311 : zT := [[some (.inl (zLA 1 0)), some (.inl (zL1 1 1)), some (.inr (.invokevirtual 302, 254, 2, 12)), none, none, some (.inl (zif .ne 14)), none, none],
  [some (.inl (zLA 1 0)), some (.inl (zPI 1 (Int32.ofInt 1))), some (.inr (.invokevirtual 84, 205, 2, 12)), none, none, some (.inr (.ireturn, 0, 0, 0)), some (.inl (zLA 1 0)), some (.inl (zPI 3 (Int16.ofInt 3720).toInt32))],
  [none, none, some (.inr (.invokevirtual 358, 296, 2, 12)), none, none, some (.inl (zPI 1 (Int32.ofInt 1))), some (.inl (zS1 1 2)), some (.inl (zPI 1 (Int32.ofInt 1)))],
  [some (.inl (zS1 1 3)), some (.inl (zL1 1 3)), some (.inl (zPI 3 (Int16.ofInt 200).toInt32)), none, none, some (.inl (zic .gt 54)), none, none],
  [some (.inl (zLA 1 0)), some (.inr (.invokevirtual 329, 284, 1, 12)), none, none, some (.inl (zLA 1 0)), some (.inl (zL1 1 1)), some (.inr (.invokevirtual 263, 261, 2, 12)), none],
  [none, some (.inl (zif .eq 48)), none, none, some (.inl (zL1 1 3)), some (.inl (zPI 1 (Int32.ofInt 1))), some (.inl (zadd)), some (.inl (zS1 1 2))],
  [some (.inl (zinc 3 1)), none, none, some (.inl (zgo 25)), none, none, some (.inl (zLA 1 0)), some (.inl (zPI 3 (Int16.ofInt 3720).toInt32))],
  [none, none, some (.inr (.invokevirtual 361, 297, 2, 12)), none, none, some (.inl (zL1 1 2)), some (.inl (zPI 3 (Int16.ofInt 200).toInt32)), none],
  [none, some (.inl (zic .le 77)), none, none, some (.inl (zLA 1 0)), some (.inl (zPI 2 (Int8.ofInt 6).toInt32)), none, some (.inr (.invokevirtual 84, 205, 2, 12))],
  [none, none, some (.inl (zgo 82)), none, none, some (.inl (zLA 1 0)), some (.inl (zL1 1 2)), some (.inr (.invokevirtual 88, 206, 2, 12))],
  [none, none, some (.inr (.ireturn, 0, 0, 0))]]
theorem zk_311 : zt_311 = xt_311.map (fun l => l.map (Option.map zcv)) := rfl
noncomputable def zt_312 : zT := [[some (.inl (zPI 1 (Int32.ofInt 0))), some (.inl (zS1 1 2)), some (.inl (zL1 1 2)), some (.inl (zLA 1 0)), some (.inl (zget' 12 0)), none, none, some (.inl (zPI 1 (Int32.ofInt 2)))],
  [some (.inl (ziald)), some (.inl (zic .ge 75)), none, none, some (.inl (zL1 1 2)), some (.inr (.invokestatic 257, 251, 1, 0)), none, none],
  [some (.inl (zS1 1 3)), some (.inl (zLA 1 0)), some (.inl (zget' 12 0)), none, none, some (.inl (zL1 1 3)), some (.inl (zPI 1 (Int32.ofInt 4))), some (.inl (zadd))],
  [some (.inl (ziald)), some (.inl (zLA 1 0)), some (.inl (zget' 12 0)), none, none, some (.inl (zL1 1 1)), some (.inl (zL1 1 3)), some (.inl (zadd))],
  [some (.inl (zPI 1 (Int32.ofInt 4))), some (.inl (zadd)), some (.inl (ziald)), some (.inl (zic .ne 67)), none, none, some (.inl (zLA 1 0)), some (.inl (zL1 1 2))],
  [some (.inr (.invokevirtual 263, 261, 2, 12)), none, none, some (.inl (zif .eq 69)), none, none, some (.inl (zLA 1 0)), some (.inl (zget' 12 0))],
  [none, none, some (.inl (zL1 1 3)), some (.inl (zPI 1 (Int32.ofInt 5))), some (.inl (zadd)), some (.inl (ziald)), some (.inl (zLA 1 0)), some (.inl (zget' 12 0))],
  [none, none, some (.inl (zL1 1 1)), some (.inl (zL1 1 3)), some (.inl (zadd)), some (.inl (zPI 1 (Int32.ofInt 5))), some (.inl (zadd)), some (.inl (ziald))],
  [some (.inl (zic .eq 69)), none, none, some (.inl (zPI 1 (Int32.ofInt 0))), some (.inr (.ireturn, 0, 0, 0)), some (.inl (zinc 2 1)), none, none],
  [some (.inl (zgo 2)), none, none, some (.inl (zPI 1 (Int32.ofInt 1))), some (.inr (.ireturn, 0, 0, 0))]]
theorem zk_312 : zt_312 = xt_312.map (fun l => l.map (Option.map zcv)) := rfl
noncomputable def zt_313 : zT := [[some (.inl (zLA 1 0)), some (.inl (zPI 3 (Int16.ofInt 3720).toInt32)), none, none, some (.inr (.invokevirtual 358, 296, 2, 12)), none, none, some (.inl (zPI 1 (Int32.ofInt (-1))))],
  [some (.inl (zS1 1 1)), some (.inl (zPI 1 (Int32.ofInt 1))), some (.inl (zS1 1 2)), some (.inl (zL1 1 2)), some (.inl (zPI 3 (Int16.ofInt 200).toInt32)), none, none, some (.inl (zic .gt 45))],
  [none, none, some (.inl (zL1 1 1)), some (.inl (zPI 1 (Int32.ofInt (-1)))), some (.inl (zic .ne 45)), none, none, some (.inl (zLA 1 0))],
  [some (.inr (.invokevirtual 329, 284, 1, 12)), none, none, some (.inl (zLA 1 0)), some (.inl (zPI 3 (Int16.ofInt 3720).toInt32)), none, none, some (.inr (.invokevirtual 376, 312, 2, 12))],
  [none, none, some (.inl (zif .eq 39)), none, none, some (.inl (zL1 1 2)), some (.inl (zS1 1 1)), some (.inl (zinc 2 1))],
  [none, none, some (.inl (zgo 11)), none, none, some (.inl (zLA 1 0)), some (.inl (zPI 3 (Int16.ofInt 3720).toInt32)), none],
  [none, some (.inr (.invokevirtual 361, 297, 2, 12)), none, none, some (.inl (zLA 1 0)), some (.inl (zL1 1 1)), some (.inr (.invokevirtual 299, 207, 2, 12)), none],
  [none, some (.inr (.ireturn, 0, 0, 0))]]
theorem zk_313 : zt_313 = xt_313.map (fun l => l.map (Option.map zcv)) := rfl
noncomputable def zt_314 : zT := [[some (.inl (zLA 1 0)), some (.inl (zL1 1 1)), some (.inr (.invokevirtual 302, 254, 2, 12)), none, none, some (.inl (zif .eq 16)), none, none],
  [some (.inl (zL1 1 2)), some (.inl (zPI 1 (Int32.ofInt 1))), some (.inr (.invokestatic 352, 298, 2, 0)), none, none, some (.inl (zif .ne 22)), none, none],
  [some (.inl (zLA 1 0)), some (.inl (zPI 1 (Int32.ofInt 1))), some (.inr (.invokevirtual 84, 205, 2, 12)), none, none, some (.inr (.ireturn, 0, 0, 0)), some (.inl (zLA 1 0)), some (.inl (zPI 3 (Int16.ofInt 3720).toInt32))],
  [none, none, some (.inr (.invokevirtual 358, 296, 2, 12)), none, none, some (.inl (zPI 1 (Int32.ofInt 0))), some (.inl (zS1 1 3)), some (.inl (zPI 1 (Int32.ofInt 0)))],
  [some (.inl (zS1 2 4)), none, some (.inl (zL1 2 4)), none, some (.inl (zL1 1 2)), some (.inl (zic .ge 103)), none, none],
  [some (.inl (zLA 1 0)), some (.inl (zL1 1 1)), some (.inr (.invokevirtual 263, 261, 2, 12)), none, none, some (.inl (zif .eq 57)), none, none],
  [some (.inl (zLA 1 0)), some (.inl (zL1 1 1)), some (.inl (zPI 1 (Int32.ofInt 5))), some (.inr (.invokevirtual 260, 260, 3, 12)), none, none, some (.inl (zgo 58)), none],
  [none, some (.inl (zPI 1 (Int32.ofInt (-1)))), some (.inl (zS1 2 5)), none, some (.inl (zLA 1 0)), some (.inr (.invokevirtual 329, 284, 1, 12)), none, none],
  [some (.inl (zL1 1 3)), some (.inl (zL1 2 5)), none, some (.inl (zPI 1 (Int32.ofInt (-1)))), some (.inl (zic .eq 94)), none, none, some (.inl (zLA 1 0))],
  [some (.inl (zL1 1 1)), some (.inr (.invokevirtual 263, 261, 2, 12)), none, none, some (.inl (zif .eq 94)), none, none, some (.inl (zLA 1 0))],
  [some (.inl (zL1 1 1)), some (.inl (zPI 1 (Int32.ofInt 5))), some (.inr (.invokevirtual 260, 260, 3, 12)), none, none, some (.inl (zL1 2 5)), none, some (.inl (zic .ne 94))],
  [none, none, some (.inl (zPI 1 (Int32.ofInt 1))), some (.inl (zgo 95)), none, none, some (.inl (zPI 1 (Int32.ofInt 0))), some (.inl (zadd))],
  [some (.inl (zS1 1 3)), some (.inl (zinc 4 1)), none, none, some (.inl (zgo 34)), none, none, some (.inl (zLA 1 0))],
  [some (.inl (zPI 3 (Int16.ofInt 3720).toInt32)), none, none, some (.inr (.invokevirtual 361, 297, 2, 12)), none, none, some (.inl (zLA 1 0)), some (.inl (zL1 1 3))],
  [some (.inr (.invokevirtual 88, 206, 2, 12)), none, none, some (.inr (.ireturn, 0, 0, 0))]]
theorem zk_314 : zt_314 = xt_314.map (fun l => l.map (Option.map zcv)) := rfl
noncomputable def zt_315 : zT := [[some (.inl (zL1 1 1)), some (.inl (zi2l)), some (.inl (zPL 1 (Int64.ofNat 0))), some (.inl (zPL 1 (Int64.ofNat 1))), some (.inl (zLA 1 0)), some (.inl (zget' 12 0)), none, none],
  [some (.inl (zPI 1 (Int32.ofInt 3))), some (.inl (ziald)), some (.inl (zlshl)), some (.inl (zPL 1 (Int64.ofNat 1))), some (.inl (zlsub)), some (.inr (.invokestatic 334, 216, 3, 0)), none, none],
  [some (.inl (zif .eq 35)), none, none, some (.inl (zL1 1 2)), some (.inl (zi2l)), some (.inl (zPL 1 (Int64.ofNat 1))), some (.inl (zPL 3 (Int64.ofInt 12))), none],
  [none, some (.inr (.invokestatic 334, 216, 3, 0)), none, none, some (.inl (zif .eq 35)), none, none, some (.inl (zPI 1 (Int32.ofInt 1)))],
  [some (.inl (zgo 36)), none, none, some (.inl (zPI 1 (Int32.ofInt 0))), some (.inr (.ireturn, 0, 0, 0))]]
theorem zk_315 : zt_315 = xt_315.map (fun l => l.map (Option.map zcv)) := rfl
noncomputable def zt_316 : zT := [[some (.inl (zPI 1 (Int32.ofInt 0))), some (.inl (zS1 1 2)), some (.inl (zPI 1 (Int32.ofInt 0))), some (.inl (zS1 1 3)), some (.inl (zL1 1 1)), some (.inl (zL1 1 3)), some (.inl (zshr)), some (.inl (zif .eq 46))],
  [none, none, some (.inl (zL1 1 2)), some (.inl (zLA 1 0)), some (.inl (zL1 1 1)), some (.inl (zL1 1 3)), some (.inr (.invokevirtual 367, 258, 3, 12)), none],
  [none, some (.inl (zif .eq 37)), none, none, some (.inl (zLA 1 0)), some (.inl (zLA 1 0)), some (.inl (zget' 12 0)), none],
  [none, some (.inl (zPI 1 (Int32.ofInt 5))), some (.inl (ziald)), some (.inl (zL1 1 3)), some (.inl (zadd)), some (.inl (zPI 1 (Int32.ofInt 1))), some (.inl (zadd)), some (.inr (.invokevirtual 275, 270, 2, 12))],
  [none, none, some (.inl (zgo 38)), none, none, some (.inl (zPI 1 (Int32.ofInt 0))), some (.inl (zadd)), some (.inl (zS1 1 2))],
  [some (.inl (zinc 3 1)), none, none, some (.inl (zgo 4)), none, none, some (.inl (zL1 1 2)), some (.inr (.ireturn, 0, 0, 0))]]
theorem zk_316 : zt_316 = xt_316.map (fun l => l.map (Option.map zcv)) := rfl
noncomputable def zt_317 : zT := [[some (.inl (zLA 1 0)), some (.inl (zL1 1 2)), some (.inr (.invokevirtual 364, 305, 2, 12)), none, none, some (.inl (zPI 1 (Int32.ofInt (-1)))), some (.inl (zS1 1 3)), some (.inl (zPI 1 (Int32.ofInt 0)))],
  [some (.inl (zS1 2 4)), none, some (.inl (zL1 2 4)), none, some (.inl (zPI 1 (Int32.ofInt 1))), some (.inl (zL1 1 2)), some (.inl (zshl)), some (.inl (zic .ge 141))],
  [none, none, some (.inl (zPI 1 (Int32.ofInt 0))), some (.inl (zS1 2 5)), none, some (.inl (zPI 1 (Int32.ofInt 0))), some (.inl (zS1 2 6)), none],
  [some (.inl (zL1 2 6)), none, some (.inl (zL1 1 2)), some (.inl (zic .ge 65)), none, none, some (.inl (zL1 2 5)), none],
  [some (.inl (zLA 1 0)), some (.inl (zL1 2 4)), none, some (.inl (zL1 2 6)), none, some (.inr (.invokevirtual 367, 258, 3, 12)), none, none],
  [some (.inl (zif .eq 55)), none, none, some (.inl (zLA 1 0)), some (.inl (zget' 12 24)), none, none, some (.inl (zL1 2 6))],
  [none, some (.inl (zPI 1 (Int32.ofInt 1))), some (.inl (zadd)), some (.inl (ziald)), some (.inl (zgo 56)), none, none, some (.inl (zPI 1 (Int32.ofInt 0)))],
  [some (.inl (zor)), some (.inl (zS1 2 5)), none, some (.inl (zinc 6 1)), none, none, some (.inl (zgo 24)), none],
  [none, some (.inl (zL1 1 1)), some (.inl (zL1 2 5)), none, some (.inl (zPI 1 (Int32.ofInt (-1)))), some (.inl (zxor)), some (.inl (zandI)), some (.inl (zif .eq 77))],
  [none, none, some (.inl (zgo 135)), none, none, some (.inl (zL1 1 3)), some (.inl (zPI 1 (Int32.ofInt (-1)))), some (.inl (zic .ne 86))],
  [none, none, some (.inl (zPI 1 (Int32.ofInt (-1)))), some (.inl (zgo 125)), none, none, some (.inl (zLA 1 0)), some (.inl (zL1 2 4))],
  [none, some (.inr (.invokevirtual 381, 316, 2, 12)), none, none, some (.inl (zLA 1 0)), some (.inl (zL1 1 3)), some (.inr (.invokevirtual 381, 316, 2, 12)), none],
  [none, some (.inl (zic .eq 115)), none, none, some (.inl (zLA 1 0)), some (.inl (zL1 2 4)), none, some (.inr (.invokevirtual 381, 316, 2, 12))],
  [none, none, some (.inl (zLA 1 0)), some (.inl (zL1 1 3)), some (.inr (.invokevirtual 381, 316, 2, 12)), none, none, some (.inl (zsub))],
  [some (.inl (zgo 125)), none, none, some (.inl (zL1 2 4)), none, some (.inr (.invokestatic 384, 259, 1, 0)), none, none],
  [some (.inl (zL1 1 3)), some (.inr (.invokestatic 384, 259, 1, 0)), none, none, some (.inl (zsub)), some (.inl (zS1 2 6)), none, some (.inl (zL1 2 6))],
  [none, some (.inl (zif .ge 135)), none, none, some (.inl (zL1 2 4)), none, some (.inl (zS1 1 3)), some (.inl (zinc 4 1))],
  [none, none, some (.inl (zgo 10)), none, none, some (.inl (zL1 1 3)), some (.inr (.ireturn, 0, 0, 0))]]
theorem zk_317 : zt_317 = xt_317.map (fun l => l.map (Option.map zcv)) := rfl
noncomputable def zt_318 : zT := [[some (.inl (zLA 1 0)), some (.inl (zL1 1 1)), some (.inl (zL1 1 2)), some (.inr (.invokevirtual 387, 315, 3, 12)), none, none, some (.inl (zif .ne 15)), none],
  [none, some (.inl (zLA 1 0)), some (.inl (zPI 1 (Int32.ofInt 1))), some (.inr (.invokevirtual 84, 205, 2, 12)), none, none, some (.inr (.ireturn, 0, 0, 0)), some (.inl (zLA 1 0))],
  [some (.inl (zL1 1 1)), some (.inl (zL1 1 2)), some (.inr (.invokevirtual 390, 317, 3, 12)), none, none, some (.inl (zS1 1 3)), some (.inl (zL1 1 3)), some (.inl (zPI 1 (Int32.ofInt (-1))))],
  [some (.inl (zic .ne 36)), none, none, some (.inl (zLA 1 0)), some (.inl (zPI 2 (Int8.ofInt 6).toInt32)), none, some (.inr (.invokevirtual 84, 205, 2, 12)), none],
  [none, some (.inl (zgo 45)), none, none, some (.inl (zLA 1 0)), some (.inl (zLA 1 0)), some (.inl (zL1 1 3)), some (.inr (.invokevirtual 381, 316, 2, 12))],
  [none, none, some (.inr (.invokevirtual 88, 206, 2, 12)), none, none, some (.inr (.ireturn, 0, 0, 0))]]
theorem zk_318 : zt_318 = xt_318.map (fun l => l.map (Option.map zcv)) := rfl
noncomputable def zt_319 : zT := [[some (.inl (zLA 1 0)), some (.inl (zL1 1 1)), some (.inl (zL1 1 2)), some (.inr (.invokevirtual 387, 315, 3, 12)), none, none, some (.inl (zif .eq 22)), none],
  [none, some (.inl (zLA 1 0)), some (.inl (zLA 1 0)), some (.inl (zL1 1 1)), some (.inl (zL1 1 2)), some (.inr (.invokevirtual 390, 317, 3, 12)), none, none],
  [some (.inr (.invokevirtual 299, 207, 2, 12)), none, none, some (.inl (zgo 27)), none, none, some (.inl (zLA 1 0)), some (.inl (zPI 1 (Int32.ofInt 1)))],
  [some (.inr (.invokevirtual 84, 205, 2, 12)), none, none, some (.inr (.ireturn, 0, 0, 0))]]
theorem zk_319 : zt_319 = xt_319.map (fun l => l.map (Option.map zcv)) := rfl
