noncomputable def wt_280 : wT := [[some (.inl (wn (zLA 1 0))), some (.inl (wn (zL1 1 1))), some (.inr (.invokevirtual 314, 257, 2, 12)), none, none, some (.inl (wn (zif .eq 20))), none, none],
  [some (.inl (wn (zLA 1 0))), some (.inl (wn (zLA 1 0))), some (.inl (wn (zL1 1 1))), some (.inr (.invokevirtual 317, 279, 2, 12)), none, none, some (.inr (.invokevirtual 299, 207, 2, 12)), none],
  [none, some (.inl (wGo 25)), none, none, some (.inl (wn (zLA 1 0))), some (.inl (wPI 1 (Int32.ofInt 1))), some (.inr (.invokevirtual 84, 205, 2, 12)), none],
  [none, some (.inr (.ireturn, 0, 0, 0))]]
theorem wk_280 : wt_280 = xt_280.map (fun l => l.map (Option.map wcv)) := rfl
noncomputable def wt_281 : wT := [[some (.inl (wn (zLA 1 0))), some (.inl (wn (zL1 1 1))), some (.inr (.invokevirtual 311, 256, 2, 12)), none, none, some (.inl (wn (zif .eq 20))), none, none],
  [some (.inl (wn (zLA 1 0))), some (.inl (wn (zLA 1 0))), some (.inl (wn (zL1 1 1))), some (.inr (.invokevirtual 290, 269, 2, 12)), none, none, some (.inr (.invokevirtual 88, 206, 2, 12)), none],
  [none, some (.inl (wGo 25)), none, none, some (.inl (wn (zLA 1 0))), some (.inl (wPI 1 (Int32.ofInt 1))), some (.inr (.invokevirtual 84, 205, 2, 12)), none],
  [none, some (.inr (.ireturn, 0, 0, 0))]]
theorem wk_281 : wt_281 = xt_281.map (fun l => l.map (Option.map wcv)) := rfl
noncomputable def wt_282 : wT := [[some (.inl (wn (zL1 1 1))), some (.inl (wPI 2 (Int8.ofInt 6).toInt32)), none, some (.inl (wn zrem)), some (.inl (wn (zL1 1 2))), some (.inl (wn (zif .ne 12))), none, none],
  [some (.inl (wPI 1 (Int32.ofInt 1))), some (.inl (wGo 22)), none, none, some (.inl (wn (zL1 1 2))), some (.inl (wPI 1 (Int32.ofInt 2))), some (.inl (wn (zic .ne 21))), none],
  [none, some (.inl (wPI 1 (Int32.ofInt (-1)))), some (.inl (wGo 22)), none, none, some (.inl (wPI 1 (Int32.ofInt 0))), some (.inl (wn zadd)), some (.inl (wn (zS1 1 3)))],
  [some (.inl (wn (zL1 1 1))), some (.inl (wPI 2 (Int8.ofInt 6).toInt32)), none, some (.inl (wn zdiv)), some (.inl (wn (zL1 1 2))), some (.inl (wPI 1 (Int32.ofInt 1))), some (.inl (wn (zic .ne 37))), none],
  [none, some (.inl (wPI 1 (Int32.ofInt 1))), some (.inl (wGo 47)), none, none, some (.inl (wn (zL1 1 2))), some (.inl (wPI 1 (Int32.ofInt 3))), some (.inl (wn (zic .ne 46)))],
  [none, none, some (.inl (wPI 1 (Int32.ofInt (-1)))), some (.inl (wGo 47)), none, none, some (.inl (wPI 1 (Int32.ofInt 0))), some (.inl (wn zadd))],
  [some (.inl (wn (zS1 2 4))), none, some (.inl (wn (zLA 1 0))), some (.inl (wn (zL1 1 3))), some (.inl (wn (zL1 2 4))), none, some (.inr (.invokevirtual 293, 253, 3, 12)), none],
  [none, some (.inl (wn (zif .eq 84))), none, none, some (.inl (wn (zLA 1 0))), some (.inl (wPI 2 (Int8.ofInt 6).toInt32)), none, some (.inl (wn (zL1 2 4)))],
  [none, some (.inl (wn zmul)), some (.inl (wn (zL1 1 3))), some (.inl (wn zadd)), some (.inr (.invokevirtual 320, 262, 2, 12)), none, none, some (.inl (wn (zif .ne 84)))],
  [none, none, some (.inl (wPI 2 (Int8.ofInt 6).toInt32)), none, some (.inl (wn (zL1 2 4))), none, some (.inl (wn zmul)), some (.inl (wn (zL1 1 3)))],
  [some (.inl (wn zadd)), some (.inl (wGo 85)), none, none, some (.inl (wn (zL1 1 1))), some (.inr (.ireturn, 0, 0, 0))]]
theorem wk_282 : wt_282 = xt_282.map (fun l => l.map (Option.map wcv)) := rfl
noncomputable def wt_283 : wT := [[some (.inl (wn (zL1 1 1))), some (.inr (.invokestatic 257, 251, 1, 0)), none, none, some (.inl (wn (zS1 1 2))), some (.inl (wn (zLA 1 0))), some (.inl (wGet 12 0)), none],
  [none, some (.inl (wPI 1 (Int32.ofInt 5))), some (.inl (wIald)), some (.inl (wn (zS1 1 3))), some (.inl (wn (zLA 1 0))), some (.inl (wGet 12 0)), none, none],
  [some (.inl (wn (zL1 1 2))), some (.inl (wPI 1 (Int32.ofInt 4))), some (.inl (wn zadd)), some (.inl (wIald)), some (.inl (wPI 1 (Int32.ofInt 2))), some (.inl (wn (zic .ne 25))), none, none],
  [some (.inr (.return_, 0, 0, 0)), some (.inl (wn (zLA 1 0))), some (.inl (wGet 12 0)), none, none, some (.inl (wn (zL1 1 2))), some (.inl (wPI 1 (Int32.ofInt 2))), some (.inl (wn zadd))],
  [some (.inl (wIald)), some (.inl (wPI 1 (Int32.ofInt (-1)))), some (.inl (wn (zic .eq 61))), none, none, some (.inl (wn (zLA 1 0))), some (.inl (wGet 12 0)), none],
  [none, some (.inl (wn (zL1 1 2))), some (.inl (wPI 1 (Int32.ofInt 2))), some (.inl (wn zadd)), some (.inl (wIald)), some (.inl (wn (zL1 1 3))), some (.inl (wPI 1 (Int32.ofInt 1))), some (.inl (wn zadd))],
  [some (.inl (wn (zic .gt 61))), none, none, some (.inl (wn (zLA 1 0))), some (.inl (wGet 12 0)), none, none, some (.inl (wn (zL1 1 2)))],
  [some (.inl (wPI 1 (Int32.ofInt 4))), some (.inl (wn zadd)), some (.inl (wPI 1 (Int32.ofInt 2))), some (.inl (wIast)), some (.inr (.return_, 0, 0, 0)), some (.inl (wn (zLA 1 0))), some (.inl (wGet 12 0)), none],
  [none, some (.inl (wn (zL1 1 2))), some (.inl (wPI 1 (Int32.ofInt 4))), some (.inl (wn zadd)), some (.inl (wIald)), some (.inl (wn (zif .ne 138))), none, none],
  [some (.inl (wn (zLA 1 0))), some (.inl (wGet 12 0)), none, none, some (.inl (wn (zL1 1 2))), some (.inl (wPI 1 (Int32.ofInt 1))), some (.inl (wn zadd)), some (.inl (wIald))],
  [some (.inl (wn (zL1 1 3))), some (.inl (wPI 1 (Int32.ofInt 1))), some (.inl (wn zadd)), some (.inl (wn (zic .gt 113))), none, none, some (.inl (wn (zLA 1 0))), some (.inl (wn (zLA 1 0)))],
  [some (.inl (wGet 12 0)), none, none, some (.inl (wn (zL1 1 2))), some (.inl (wIald)), some (.inr (.invokevirtual 320, 262, 2, 12)), none, none],
  [some (.inl (wn (zif .ne 113))), none, none, some (.inl (wn (zLA 1 0))), some (.inl (wn (zLA 1 0))), some (.inl (wGet 12 0)), none, none],
  [some (.inl (wn (zL1 1 2))), some (.inl (wIald)), some (.inr (.invokevirtual 296, 264, 2, 12)), none, none, some (.inl (wPI 1 (Int32.ofInt (-1)))), some (.inl (wn (zic .eq 114))), none],
  [none, some (.inr (.return_, 0, 0, 0)), some (.inl (wn (zLA 1 0))), some (.inl (wGet 12 0)), none, none, some (.inl (wn (zL1 1 2))), some (.inl (wPI 1 (Int32.ofInt 4)))],
  [some (.inl (wn zadd)), some (.inl (wPI 1 (Int32.ofInt 1))), some (.inl (wIast)), some (.inl (wn (zLA 1 0))), some (.inl (wGet 12 0)), none, none, some (.inl (wn (zL1 1 2)))],
  [some (.inl (wPI 1 (Int32.ofInt 5))), some (.inl (wn zadd)), some (.inl (wn (zLA 1 0))), some (.inl (wGet 12 0)), none, none, some (.inl (wn (zL1 1 2))), some (.inl (wIald))],
  [some (.inl (wIast)), some (.inr (.return_, 0, 0, 0)), some (.inl (wn (zLA 1 0))), some (.inl (wn (zLA 1 0))), some (.inl (wGet 12 0)), none, none, some (.inl (wn (zL1 1 2)))],
  [some (.inl (wPI 1 (Int32.ofInt 5))), some (.inl (wn zadd)), some (.inl (wIald)), some (.inl (wn (zLA 1 0))), some (.inl (wGet 12 0)), none, none, some (.inl (wn (zL1 1 2)))],
  [some (.inl (wPI 2 (Int8.ofInt 6).toInt32)), none, some (.inl (wn zadd)), some (.inl (wn (zL1 1 3))), some (.inl (wn (zLA 1 0))), some (.inl (wGet 12 0)), none, none],
  [some (.inl (wn (zL1 1 2))), some (.inl (wPI 1 (Int32.ofInt 3))), some (.inl (wn zadd)), some (.inl (wIald)), some (.inl (wn zrem)), some (.inl (wn zadd)), some (.inl (wIald)), some (.inr (.invokevirtual 323, 282, 3, 12))],
  [none, none, some (.inl (wn (zS1 2 4))), none, some (.inl (wn (zLA 1 0))), some (.inl (wn (zL1 2 4))), none, some (.inr (.invokevirtual 296, 264, 2, 12))],
  [none, none, some (.inl (wPI 1 (Int32.ofInt (-1)))), some (.inl (wn (zic .ne 192))), none, none, some (.inl (wn (zLA 1 0))), some (.inl (wGet 12 0))],
  [none, none, some (.inl (wn (zL1 1 2))), some (.inl (wPI 1 (Int32.ofInt 5))), some (.inl (wn zadd)), some (.inl (wn (zL1 2 4))), none, some (.inl (wIast))],
  [some (.inr (.return_, 0, 0, 0))]]
theorem wk_283 : wt_283 = xt_283.map (fun l => l.map (Option.map wcv)) := rfl
noncomputable def wt_284 : wT := [[some (.inl (wPI 1 (Int32.ofInt 0))), some (.inl (wn (zS1 1 1))), some (.inl (wn (zL1 1 1))), some (.inl (wn (zLA 1 0))), some (.inl (wGet 12 0)), none, none, some (.inl (wPI 1 (Int32.ofInt 2)))],
  [some (.inl (wIald)), some (.inl (wn (zic .ge 23))), none, none, some (.inl (wn (zLA 1 0))), some (.inl (wn (zL1 1 1))), some (.inr (.invokevirtual 326, 283, 2, 12)), none],
  [none, some (.inl (wn (zinc 1 1))), none, none, some (.inl (wGo 2)), none, none, some (.inl (wn (zLA 1 0)))],
  [some (.inl (wGet 12 0)), none, none, some (.inl (wPI 1 (Int32.ofInt 5))), some (.inl (wn zdup2)), some (.inl (wIald)), some (.inl (wPI 1 (Int32.ofInt 1))), some (.inl (wn zadd))],
  [some (.inl (wIast)), some (.inr (.return_, 0, 0, 0))]]
theorem wk_284 : wt_284 = xt_284.map (fun l => l.map (Option.map wcv)) := rfl
noncomputable def wt_285 : wT := [[some (.inl (wPI 1 (Int32.ofInt 0))), some (.inl (wn (zS1 1 2))), some (.inl (wn (zL1 1 2))), some (.inl (wn (zL1 1 1))), some (.inl (wn (zic .ge 17))), none, none, some (.inl (wn (zLA 1 0)))],
  [some (.inr (.invokevirtual 329, 284, 1, 12)), none, none, some (.inl (wn (zinc 2 1))), none, none, some (.inl (wGo 2)), none],
  [none, some (.inr (.return_, 0, 0, 0))]]
theorem wk_285 : wt_285 = xt_285.map (fun l => l.map (Option.map wcv)) := rfl
noncomputable def wt_286 : wT := [[some (.inl (wn (zLA 1 0))), some (.inr (.invokevirtual 278, 271, 1, 12)), none, none, some (.inl (wn (zS1 1 2))), some (.inl (wn (zLA 1 0))), some (.inl (wGet 12 0)), none],
  [none, some (.inl (wPI 1 (Int32.ofInt 5))), some (.inl (wIald)), some (.inl (wPI 3 (Int16.ofInt 999).toInt32)), none, none, some (.inl (wn (zic .eq 31))), none],
  [none, some (.inl (wn (zLA 1 0))), some (.inl (wGet 12 0)), none, none, some (.inl (wPI 3 (Int16.ofInt 128).toInt32)), none, none],
  [some (.inl (wn (zL1 1 1))), some (.inl (wn zadd)), some (.inl (wIald)), some (.inl (wn (zL1 1 2))), some (.inl (wn (zic .ge 33))), none, none, some (.inl (wPI 1 (Int32.ofInt 0)))],
  [some (.inr (.ireturn, 0, 0, 0)), some (.inl (wn (zLA 1 0))), some (.inl (wGet 12 0)), none, none, some (.inl (wPI 3 (Int16.ofInt 128).toInt32)), none, none],
  [some (.inl (wn (zL1 1 1))), some (.inl (wn zadd)), some (.inl (wn zdup2)), some (.inl (wIald)), some (.inl (wn (zL1 1 2))), some (.inl (wn zsub)), some (.inl (wIast)), some (.inl (wn (zLA 1 0)))],
  [some (.inr (.invokevirtual 329, 284, 1, 12)), none, none, some (.inl (wn (zLA 1 0))), some (.inl (wGet 12 0)), none, none, some (.inl (wPI 1 (Int32.ofInt 5)))],
  [some (.inl (wIald)), some (.inl (wPI 2 (Int8.ofInt 120).toInt32)), none, some (.inl (wn (zic .gt 80))), none, none, some (.inl (wn (zLA 1 0))), some (.inl (wGet 12 0))],
  [none, none, some (.inl (wPI 3 (Int16.ofInt 132).toInt32)), none, none, some (.inl (wn (zLA 1 0))), some (.inl (wGet 12 0)), none],
  [none, some (.inl (wPI 1 (Int32.ofInt 5))), some (.inl (wIald)), some (.inl (wn zadd)), some (.inl (wPI 1 (Int32.ofInt 1))), some (.inl (wn zsub)), some (.inl (wn (zL1 1 1))), some (.inl (wIast))],
  [some (.inl (wPI 1 (Int32.ofInt 1))), some (.inr (.ireturn, 0, 0, 0))]]
theorem wk_286 : wt_286 = xt_286.map (fun l => l.map (Option.map wcv)) := rfl
noncomputable def wt_287 : wT := [[some (.inl (wn (zLA 1 0))), some (.inl (wn (zL1 1 1))), some (.inr (.invokevirtual 311, 256, 2, 12)), none, none, some (.inl (wn (zif .eq 20))), none, none],
  [some (.inl (wn (zL1 1 2))), some (.inl (wn zi2l)), some (.inl (wPL 1 (Int64.ofNat 1))), some (.inl (wPL 3 (Int64.ofInt 99))), none, none, some (.inr (.invokestatic 334, 216, 3, 0)), none],
  [none, some (.inl (wn (zif .ne 26))), none, none, some (.inl (wn (zLA 1 0))), some (.inl (wPI 1 (Int32.ofInt 1))), some (.inr (.invokevirtual 84, 205, 2, 12)), none],
  [none, some (.inr (.ireturn, 0, 0, 0)), some (.inl (wPI 1 (Int32.ofInt 0))), some (.inl (wn (zS1 1 3))), some (.inl (wn (zL1 1 3))), some (.inl (wn (zL1 1 2))), some (.inl (wn (zic .ge 47))), none],
  [none, some (.inl (wn (zLA 1 0))), some (.inl (wn (zL1 1 1))), some (.inr (.invokevirtual 338, 286, 2, 12)), none, none, some (.inl (wn (zif .eq 47))), none],
  [none, some (.inl (wn (zinc 3 1))), none, none, some (.inl (wGo 28)), none, none, some (.inl (wn (zL1 1 3)))],
  [some (.inl (wn (zif .ne 60))), none, none, some (.inl (wn (zLA 1 0))), some (.inl (wPI 2 (Int8.ofInt 7).toInt32)), none, some (.inr (.invokevirtual 84, 205, 2, 12)), none],
  [none, some (.inl (wGo 65)), none, none, some (.inl (wn (zLA 1 0))), some (.inl (wn (zL1 1 3))), some (.inr (.invokevirtual 88, 206, 2, 12)), none],
  [none, some (.inr (.ireturn, 0, 0, 0))]]
theorem wk_287 : wt_287 = xt_287.map (fun l => l.map (Option.map wcv)) := rfl
noncomputable def wt_288 : wT := [[some (.inl (wn (zL1 1 1))), some (.inl (wn zi2l)), some (.inl (wPL 1 (Int64.ofNat 1))), some (.inl (wPL 3 (Int64.ofInt 99))), none, none, some (.inr (.invokestatic 334, 216, 3, 0)), none],
  [none, some (.inl (wn (zif .ne 18))), none, none, some (.inl (wn (zLA 1 0))), some (.inl (wPI 1 (Int32.ofInt 1))), some (.inr (.invokevirtual 84, 205, 2, 12)), none],
  [none, some (.inr (.ireturn, 0, 0, 0)), some (.inl (wn (zLA 1 0))), some (.inl (wGet 12 0)), none, none, some (.inl (wPI 1 (Int32.ofInt 5))), some (.inl (wIald))],
  [some (.inl (wn (zL1 1 1))), some (.inl (wn zadd)), some (.inl (wPI 3 (Int16.ofInt 999).toInt32)), none, none, some (.inl (wn (zic .le 38))), none, none],
  [some (.inl (wn (zLA 1 0))), some (.inl (wPI 1 (Int32.ofInt 4))), some (.inr (.invokevirtual 84, 205, 2, 12)), none, none, some (.inr (.ireturn, 0, 0, 0)), some (.inl (wn (zLA 1 0))), some (.inl (wn (zL1 1 1)))],
  [some (.inr (.invokevirtual 341, 285, 2, 12)), none, none, some (.inl (wn (zLA 1 0))), some (.inl (wn (zLA 1 0))), some (.inl (wGet 12 0)), none, none],
  [some (.inl (wPI 1 (Int32.ofInt 5))), some (.inl (wIald)), some (.inr (.invokevirtual 88, 206, 2, 12)), none, none, some (.inr (.ireturn, 0, 0, 0))]]
theorem wk_288 : wt_288 = xt_288.map (fun l => l.map (Option.map wcv)) := rfl
noncomputable def wt_289 : wT := [[some (.inl (wn (zLA 1 0))), some (.inl (wn (zL1 1 1))), some (.inr (.invokevirtual 314, 257, 2, 12)), none, none, some (.inl (wn (zif .eq 16))), none, none],
  [some (.inl (wn (zLA 1 0))), some (.inl (wn (zL1 1 2))), some (.inr (.invokevirtual 311, 256, 2, 12)), none, none, some (.inl (wn (zif .ne 22))), none, none],
  [some (.inl (wn (zLA 1 0))), some (.inl (wPI 1 (Int32.ofInt 1))), some (.inr (.invokevirtual 84, 205, 2, 12)), none, none, some (.inr (.ireturn, 0, 0, 0)), some (.inl (wn (zLA 1 0))), some (.inl (wn (zL1 1 1)))],
  [some (.inr (.invokevirtual 317, 279, 2, 12)), none, none, some (.inl (wn (zS1 1 3))), some (.inl (wn (zL1 1 3))), some (.inl (wPI 1 (Int32.ofInt (-1)))), some (.inl (wn (zic .eq 38))), none],
  [none, some (.inl (wn (zL1 1 3))), some (.inl (wn (zL1 1 2))), some (.inl (wn (zic .ne 45))), none, none, some (.inl (wn (zLA 1 0))), some (.inl (wPI 2 (Int8.ofInt 7).toInt32))],
  [none, some (.inr (.invokevirtual 84, 205, 2, 12)), none, none, some (.inr (.ireturn, 0, 0, 0)), some (.inl (wn (zLA 1 0))), some (.inl (wGet 12 0)), none],
  [none, some (.inl (wPI 3 (Int16.ofInt 132).toInt32)), none, none, some (.inl (wn (zL1 1 1))), some (.inl (wn zadd)), some (.inl (wPI 1 (Int32.ofInt 1))), some (.inl (wn zsub))],
  [some (.inl (wn (zL1 1 2))), some (.inl (wIast)), some (.inl (wn (zLA 1 0))), some (.inl (wn (zL1 1 3))), some (.inr (.invokevirtual 88, 206, 2, 12)), none, none, some (.inr (.ireturn, 0, 0, 0))]]
theorem wk_289 : wt_289 = xt_289.map (fun l => l.map (Option.map wcv)) := rfl
noncomputable def wt_290 : wT := [[some (.inl (wn (zLA 1 0))), some (.inl (wn (zL1 1 1))), some (.inr (.invokevirtual 311, 256, 2, 12)), none, none, some (.inl (wn (zif .eq 16))), none, none],
  [some (.inl (wn (zLA 1 0))), some (.inl (wn (zL1 1 2))), some (.inr (.invokevirtual 314, 257, 2, 12)), none, none, some (.inl (wn (zif .ne 22))), none, none],
  [some (.inl (wn (zLA 1 0))), some (.inl (wPI 1 (Int32.ofInt 1))), some (.inr (.invokevirtual 84, 205, 2, 12)), none, none, some (.inr (.ireturn, 0, 0, 0)), some (.inl (wn (zLA 1 0))), some (.inl (wn (zL1 1 2)))],
  [some (.inr (.invokevirtual 317, 279, 2, 12)), none, none, some (.inl (wn (zL1 1 1))), some (.inl (wn (zic .eq 38))), none, none, some (.inl (wn (zLA 1 0)))],
  [some (.inl (wPI 2 (Int8.ofInt 7).toInt32)), none, some (.inr (.invokevirtual 84, 205, 2, 12)), none, none, some (.inr (.ireturn, 0, 0, 0)), some (.inl (wn (zLA 1 0))), some (.inl (wGet 12 0))],
  [none, none, some (.inl (wPI 3 (Int16.ofInt 132).toInt32)), none, none, some (.inl (wn (zL1 1 2))), some (.inl (wn zadd)), some (.inl (wPI 1 (Int32.ofInt 1)))],
  [some (.inl (wn zsub)), some (.inl (wPI 1 (Int32.ofInt (-1)))), some (.inl (wIast)), some (.inl (wn (zLA 1 0))), some (.inl (wGet 12 0)), none, none, some (.inl (wPI 3 (Int16.ofInt 128).toInt32))],
  [none, none, some (.inl (wn (zL1 1 1))), some (.inl (wn zadd)), some (.inl (wPI 3 (Int16.ofInt 9999).toInt32)), none, none, some (.inl (wn (zLA 1 0)))],
  [some (.inl (wGet 12 0)), none, none, some (.inl (wPI 3 (Int16.ofInt 128).toInt32)), none, none, some (.inl (wn (zL1 1 1))), some (.inl (wn zadd))],
  [some (.inl (wIald)), some (.inl (wn (zLA 1 0))), some (.inl (wn (zL1 1 2))), some (.inr (.invokevirtual 275, 270, 2, 12)), none, none, some (.inl (wPI 1 (Int32.ofInt 2))), some (.inl (wn zdiv))],
  [some (.inl (wn zadd)), some (.inl (wn zmin)), none, none, some (.inl (wIast)), some (.inl (wn (zLA 1 0))), some (.inl (wn (zLA 1 0))), some (.inl (wGet 12 0))],
  [none, none, some (.inl (wPI 3 (Int16.ofInt 128).toInt32)), none, none, some (.inl (wn (zL1 1 1))), some (.inl (wn zadd)), some (.inl (wIald))],
  [some (.inr (.invokevirtual 88, 206, 2, 12)), none, none, some (.inr (.ireturn, 0, 0, 0))]]
theorem wk_290 : wt_290 = xt_290.map (fun l => l.map (Option.map wcv)) := rfl
noncomputable def wt_291 : wT := [[some (.inl (wn (zLA 1 0))), some (.inl (wn (zL1 1 1))), some (.inr (.invokevirtual 311, 256, 2, 12)), none, none, some (.inl (wn (zif .eq 20))), none, none],
  [some (.inl (wn (zL1 1 2))), some (.inl (wn zi2l)), some (.inl (wPL 1 (Int64.ofNat 1))), some (.inl (wPL 3 (Int64.ofInt 999))), none, none, some (.inr (.invokestatic 334, 216, 3, 0)), none],
  [none, some (.inl (wn (zif .ne 26))), none, none, some (.inl (wn (zLA 1 0))), some (.inl (wPI 1 (Int32.ofInt 1))), some (.inr (.invokevirtual 84, 205, 2, 12)), none],
  [none, some (.inr (.ireturn, 0, 0, 0)), some (.inl (wn (zLA 1 0))), some (.inl (wGet 12 0)), none, none, some (.inl (wPI 3 (Int16.ofInt 128).toInt32)), none],
  [none, some (.inl (wn (zL1 1 1))), some (.inl (wn zadd)), some (.inl (wIald)), some (.inl (wn (zL1 1 2))), some (.inl (wn zadd)), some (.inl (wPI 3 (Int16.ofInt 9999).toInt32)), none],
  [none, some (.inl (wn (zic .le 51))), none, none, some (.inl (wn (zLA 1 0))), some (.inl (wPI 2 (Int8.ofInt 7).toInt32)), none, some (.inr (.invokevirtual 84, 205, 2, 12))],
  [none, none, some (.inr (.ireturn, 0, 0, 0)), some (.inl (wn (zLA 1 0))), some (.inl (wGet 12 0)), none, none, some (.inl (wPI 3 (Int16.ofInt 128).toInt32))],
  [none, none, some (.inl (wn (zL1 1 1))), some (.inl (wn zadd)), some (.inl (wn zdup2)), some (.inl (wIald)), some (.inl (wn (zL1 1 2))), some (.inl (wn zadd))],
  [some (.inl (wIast)), some (.inl (wn (zLA 1 0))), some (.inl (wn (zLA 1 0))), some (.inl (wGet 12 0)), none, none, some (.inl (wPI 3 (Int16.ofInt 128).toInt32)), none],
  [none, some (.inl (wn (zL1 1 1))), some (.inl (wn zadd)), some (.inl (wIald)), some (.inr (.invokevirtual 88, 206, 2, 12)), none, none, some (.inr (.ireturn, 0, 0, 0))]]
theorem wk_291 : wt_291 = xt_291.map (fun l => l.map (Option.map wcv)) := rfl
noncomputable def wt_292 : wT := [[some (.inl (wn (zL1 1 1))), some (.inl (wn zi2l)), some (.inl (wPL 1 (Int64.ofNat 0))), some (.inl (wPL 3 (Int64.ofInt 99))), none, none, some (.inr (.invokestatic 334, 216, 3, 0)), none],
  [none, some (.inl (wn (zif .eq 24))), none, none, some (.inl (wn (zL1 1 2))), some (.inl (wn zi2l)), some (.inl (wPL 1 (Int64.ofNat 0))), some (.inl (wPL 3 (Int64.ofInt 20)))],
  [none, none, some (.inr (.invokestatic 334, 216, 3, 0)), none, none, some (.inl (wn (zif .ne 30))), none, none],
  [some (.inl (wn (zLA 1 0))), some (.inl (wPI 1 (Int32.ofInt 1))), some (.inr (.invokevirtual 91, 204, 2, 12)), none, none, some (.inr (.ireturn, 0, 0, 0)), some (.inl (wn (zLA 1 0))), some (.inl (wGet 12 0))],
  [none, none, some (.inl (wPI 2 (Int8.ofInt 6).toInt32)), none, some (.inl (wn (zL1 1 1))), some (.inl (wIast)), some (.inl (wn (zLA 1 0))), some (.inl (wGet 12 0))],
  [none, none, some (.inl (wPI 2 (Int8.ofInt 7).toInt32)), none, some (.inl (wn (zL1 1 2))), some (.inl (wIast)), some (.inl (wn (zLA 1 0))), some (.inl (wPI 1 (Int32.ofInt 0)))],
  [some (.inr (.invokevirtual 91, 204, 2, 12)), none, none, some (.inr (.ireturn, 0, 0, 0))]]
theorem wk_292 : wt_292 = xt_292.map (fun l => l.map (Option.map wcv)) := rfl
noncomputable def wt_293 : wT := [[some (.inl (wn (zLA 1 0))), some (.inl (wn (zL1 1 1))), some (.inl (wn (zL1 1 2))), some (.inr (.invokevirtual 293, 253, 3, 12)), none, none, some (.inl (wn (zif .ne 15))), none],
  [none, some (.inl (wn (zLA 1 0))), some (.inl (wPI 1 (Int32.ofInt 1))), some (.inr (.invokevirtual 91, 204, 2, 12)), none, none, some (.inr (.ireturn, 0, 0, 0)), some (.inl (wPI 2 (Int8.ofInt 6).toInt32))],
  [none, some (.inl (wn (zL1 1 2))), some (.inl (wn zmul)), some (.inl (wn (zL1 1 1))), some (.inl (wn zadd)), some (.inl (wn (zS1 2 4))), none, some (.inl (wn (zLA 1 0)))],
  [some (.inl (wn (zL1 2 4))), none, some (.inr (.invokevirtual 296, 264, 2, 12)), none, none, some (.inl (wPI 1 (Int32.ofInt (-1)))), some (.inl (wn (zic .ne 43))), none],
  [none, some (.inl (wn (zLA 1 0))), some (.inl (wn (zL1 2 4))), none, some (.inr (.invokevirtual 320, 262, 2, 12)), none, none, some (.inl (wn (zL1 1 3)))],
  [some (.inl (wn (zic .ne 50))), none, none, some (.inl (wn (zLA 1 0))), some (.inl (wPI 2 (Int8.ofInt 7).toInt32)), none, some (.inr (.invokevirtual 91, 204, 2, 12)), none],
  [none, some (.inr (.ireturn, 0, 0, 0)), some (.inl (wn (zLA 1 0))), some (.inl (wGet 12 0)), none, none, some (.inl (wPI 2 (Int8.ofInt 10).toInt32)), none],
  [some (.inl (wn (zL1 2 4))), none, some (.inl (wn zadd)), some (.inl (wn (zL1 1 3))), some (.inl (wn (zif .eq 67))), none, none, some (.inl (wPI 1 (Int32.ofInt 1)))],
  [some (.inl (wGo 68)), none, none, some (.inl (wPI 1 (Int32.ofInt 0))), some (.inl (wIast)), some (.inl (wn (zLA 1 0))), some (.inl (wPI 1 (Int32.ofInt 0))), some (.inr (.invokevirtual 91, 204, 2, 12))],
  [none, none, some (.inr (.ireturn, 0, 0, 0))]]
theorem wk_293 : wt_293 = xt_293.map (fun l => l.map (Option.map wcv)) := rfl
noncomputable def wt_294 : wT := [[some (.inl (wn (zLA 1 0))), some (.inl (wn (zL1 1 1))), some (.inr (.invokevirtual 302, 254, 2, 12)), none, none, some (.inl (wn (zif .eq 38))), none, none],
  [some (.inl (wn (zL1 1 2))), some (.inl (wn zi2l)), some (.inl (wPL 1 (Int64.ofNat 0))), some (.inl (wn (zLA 1 0))), some (.inl (wn (zL1 1 1))), some (.inl (wPI 1 (Int32.ofInt 3))), some (.inr (.invokevirtual 260, 260, 3, 12)), none],
  [none, some (.inl (wn zi2l)), some (.inl (wPL 1 (Int64.ofNat 1))), some (.inl (wn zlsub)), some (.inr (.invokestatic 334, 216, 3, 0)), none, none, some (.inl (wn (zif .eq 38)))],
  [none, none, some (.inl (wn (zL1 1 3))), some (.inl (wn zi2l)), some (.inl (wPL 1 (Int64.ofNat 0))), some (.inl (wPL 3 (Int64.ofInt 4))), none, none],
  [some (.inr (.invokestatic 334, 216, 3, 0)), none, none, some (.inl (wn (zif .ne 44))), none, none, some (.inl (wn (zLA 1 0))), some (.inl (wPI 1 (Int32.ofInt 1)))],
  [some (.inr (.invokevirtual 91, 204, 2, 12)), none, none, some (.inr (.ireturn, 0, 0, 0)), some (.inl (wn (zLA 1 0))), some (.inl (wGet 12 0)), none, none],
  [some (.inl (wn (zL1 1 1))), some (.inr (.invokestatic 257, 251, 1, 0)), none, none, some (.inl (wPI 2 (Int8.ofInt 6).toInt32)), none, some (.inl (wn zadd)), some (.inl (wn (zL1 1 2)))],
  [some (.inl (wn zadd)), some (.inl (wn (zL1 1 3))), some (.inl (wIast)), some (.inl (wn (zLA 1 0))), some (.inl (wPI 1 (Int32.ofInt 0))), some (.inr (.invokevirtual 91, 204, 2, 12)), none, none],
  [some (.inr (.ireturn, 0, 0, 0))]]
theorem wk_294 : wt_294 = xt_294.map (fun l => l.map (Option.map wcv)) := rfl
noncomputable def wt_295 : wT := [[some (.inl (wn (zLA 1 0))), some (.inl (wn (zL1 1 1))), some (.inr (.invokevirtual 302, 254, 2, 12)), none, none, some (.inl (wn (zif .eq 17))), none, none],
  [some (.inl (wn (zLA 1 0))), some (.inl (wn (zL1 1 2))), some (.inl (wn (zL1 1 3))), some (.inr (.invokevirtual 293, 253, 3, 12)), none, none, some (.inl (wn (zif .ne 23))), none],
  [none, some (.inl (wn (zLA 1 0))), some (.inl (wPI 1 (Int32.ofInt 1))), some (.inr (.invokevirtual 91, 204, 2, 12)), none, none, some (.inr (.ireturn, 0, 0, 0)), some (.inl (wPI 2 (Int8.ofInt 6).toInt32))],
  [none, some (.inl (wn (zL1 1 3))), some (.inl (wn zmul)), some (.inl (wn (zL1 1 2))), some (.inl (wn zadd)), some (.inl (wn (zS1 2 4))), none, some (.inl (wn (zLA 1 0)))],
  [some (.inl (wn (zL1 1 1))), some (.inr (.invokevirtual 263, 261, 2, 12)), none, none, some (.inl (wn (zif .eq 58))), none, none, some (.inl (wn (zLA 1 0)))],
  [some (.inl (wn (zL1 2 4))), none, some (.inr (.invokevirtual 320, 262, 2, 12)), none, none, some (.inl (wn (zif .ne 58))), none, none],
  [some (.inl (wn (zLA 1 0))), some (.inl (wn (zL1 2 4))), none, some (.inr (.invokevirtual 296, 264, 2, 12)), none, none, some (.inl (wPI 1 (Int32.ofInt (-1)))), some (.inl (wn (zic .eq 65)))],
  [none, none, some (.inl (wn (zLA 1 0))), some (.inl (wPI 2 (Int8.ofInt 7).toInt32)), none, some (.inr (.invokevirtual 91, 204, 2, 12)), none, none],
  [some (.inr (.ireturn, 0, 0, 0)), some (.inl (wn (zLA 1 0))), some (.inl (wGet 12 0)), none, none, some (.inl (wn (zL1 1 1))), some (.inr (.invokestatic 257, 251, 1, 0)), none],
  [none, some (.inl (wPI 1 (Int32.ofInt 5))), some (.inl (wn zadd)), some (.inl (wn (zL1 2 4))), none, some (.inl (wIast)), some (.inl (wn (zLA 1 0))), some (.inl (wPI 1 (Int32.ofInt 0)))],
  [some (.inr (.invokevirtual 91, 204, 2, 12)), none, none, some (.inr (.ireturn, 0, 0, 0))]]
theorem wk_295 : wt_295 = xt_295.map (fun l => l.map (Option.map wcv)) := rfl
noncomputable def wt_296 : wT := [[some (.inl (wPI 1 (Int32.ofInt 0))), some (.inl (wn (zS1 1 2))), some (.inl (wn (zL1 1 2))), some (.inl (wPI 3 (Int16.ofInt 252).toInt32)), none, none, some (.inl (wn (zic .ge 29))), none],
  [none, some (.inl (wn (zLA 1 0))), some (.inl (wGet 12 0)), none, none, some (.inl (wn (zL1 1 1))), some (.inl (wn (zL1 1 2))), some (.inl (wn zadd))],
  [some (.inl (wn (zLA 1 0))), some (.inl (wGet 12 0)), none, none, some (.inl (wn (zL1 1 2))), some (.inl (wIald)), some (.inl (wIast)), some (.inl (wn (zinc 2 1)))],
  [none, none, some (.inl (wGo 2)), none, none, some (.inr (.return_, 0, 0, 0))]]
theorem wk_296 : wt_296 = xt_296.map (fun l => l.map (Option.map wcv)) := rfl
noncomputable def wt_297 : wT := [[some (.inl (wPI 1 (Int32.ofInt 0))), some (.inl (wn (zS1 1 2))), some (.inl (wn (zL1 1 2))), some (.inl (wPI 3 (Int16.ofInt 252).toInt32)), none, none, some (.inl (wn (zic .ge 29))), none],
  [none, some (.inl (wn (zLA 1 0))), some (.inl (wGet 12 0)), none, none, some (.inl (wn (zL1 1 2))), some (.inl (wn (zLA 1 0))), some (.inl (wGet 12 0))],
  [none, none, some (.inl (wn (zL1 1 1))), some (.inl (wn (zL1 1 2))), some (.inl (wn zadd)), some (.inl (wIald)), some (.inl (wIast)), some (.inl (wn (zinc 2 1)))],
  [none, none, some (.inl (wGo 2)), none, none, some (.inr (.return_, 0, 0, 0))]]
theorem wk_297 : wt_297 = xt_297.map (fun l => l.map (Option.map wcv)) := rfl
noncomputable def wt_298 : wT := [[some (.inl (wn (zL1 1 0))), some (.inl (wn zi2l)), some (.inl (wn (zL1 1 1))), some (.inl (wn zi2l)), some (.inl (wPL 3 (Int64.ofInt 200))), none, none, some (.inr (.invokestatic 334, 216, 3, 0))],
  [none, none, some (.inr (.ireturn, 0, 0, 0))]]
theorem wk_298 : wt_298 = xt_298.map (fun l => l.map (Option.map wcv)) := rfl
noncomputable def wt_299 : wT := [[some (.inl (wn (zL1 1 1))), some (.inl (wn zi2l)), some (.inl (wPL 1 (Int64.ofNat 1))), some (.inl (wPL 3 (Int64.ofInt 999))), none, none, some (.inr (.invokestatic 334, 216, 3, 0)), none],
  [none, some (.inl (wn (zif .eq 24))), none, none, some (.inl (wn (zLA 1 0))), some (.inl (wn (zLA 1 0))), some (.inl (wn (zL1 1 1))), some (.inr (.invokevirtual 275, 270, 2, 12))],
  [none, none, some (.inr (.invokevirtual 88, 206, 2, 12)), none, none, some (.inl (wGo 29)), none, none],
  [some (.inl (wn (zLA 1 0))), some (.inl (wPI 1 (Int32.ofInt 1))), some (.inr (.invokevirtual 84, 205, 2, 12)), none, none, some (.inr (.ireturn, 0, 0, 0))]]
theorem wk_299 : wt_299 = xt_299.map (fun l => l.map (Option.map wcv)) := rfl
noncomputable def wt_300 : wT := [[some (.inl (wPI 1 (Int32.ofInt 0))), some (.inl (wn (zS1 1 2))), some (.inl (wPI 1 (Int32.ofInt 1))), some (.inl (wn (zS1 1 3))), some (.inl (wn (zL1 1 3))), some (.inl (wn (zL1 1 1))), some (.inl (wn (zic .gt 30))), none],
  [none, some (.inl (wn (zL1 1 2))), some (.inl (wn (zLA 1 0))), some (.inl (wn (zLA 1 0))), some (.inl (wGet 12 0)), none, none, some (.inl (wPI 1 (Int32.ofInt 5)))],
  [some (.inl (wIald)), some (.inl (wn (zL1 1 3))), some (.inl (wn zadd)), some (.inr (.invokevirtual 275, 270, 2, 12)), none, none, some (.inl (wn zadd)), some (.inl (wn (zS1 1 2)))],
  [some (.inl (wn (zinc 3 1))), none, none, some (.inl (wGo 4)), none, none, some (.inl (wn (zL1 1 2))), some (.inr (.ireturn, 0, 0, 0))]]
theorem wk_300 : wt_300 = xt_300.map (fun l => l.map (Option.map wcv)) := rfl
noncomputable def wt_301 : wT := [[some (.inl (wn (zL1 1 1))), some (.inl (wPI 1 (Int32.ofInt 0))), some (.inr (.invokestatic 352, 298, 2, 0)), none, none, some (.inl (wn (zif .eq 20))), none, none],
  [some (.inl (wn (zLA 1 0))), some (.inl (wn (zLA 1 0))), some (.inl (wn (zL1 1 1))), some (.inr (.invokevirtual 355, 300, 2, 12)), none, none, some (.inr (.invokevirtual 88, 206, 2, 12)), none],
  [none, some (.inl (wGo 25)), none, none, some (.inl (wn (zLA 1 0))), some (.inl (wPI 1 (Int32.ofInt 1))), some (.inr (.invokevirtual 84, 205, 2, 12)), none],
  [none, some (.inr (.ireturn, 0, 0, 0))]]
theorem wk_301 : wt_301 = xt_301.map (fun l => l.map (Option.map wcv)) := rfl
noncomputable def wt_302 : wT := [[some (.inl (wn (zLA 1 0))), some (.inl (wn (zL1 1 1))), some (.inr (.invokevirtual 302, 254, 2, 12)), none, none, some (.inl (wn (zif .eq 16))), none, none],
  [some (.inl (wn (zL1 1 2))), some (.inl (wPI 1 (Int32.ofInt 0))), some (.inr (.invokestatic 352, 298, 2, 0)), none, none, some (.inl (wn (zif .ne 22))), none, none],
  [some (.inl (wn (zLA 1 0))), some (.inl (wPI 1 (Int32.ofInt 1))), some (.inr (.invokevirtual 84, 205, 2, 12)), none, none, some (.inr (.ireturn, 0, 0, 0)), some (.inl (wn (zLA 1 0))), some (.inl (wPI 3 (Int16.ofInt 3720).toInt32))],
  [none, none, some (.inr (.invokevirtual 358, 296, 2, 12)), none, none, some (.inl (wn (zLA 1 0))), some (.inl (wn (zL1 1 2))), some (.inr (.invokevirtual 341, 285, 2, 12))],
  [none, none, some (.inl (wn (zLA 1 0))), some (.inl (wn (zL1 1 1))), some (.inr (.invokevirtual 263, 261, 2, 12)), none, none, some (.inl (wn (zif .eq 54)))],
  [none, none, some (.inl (wn (zLA 1 0))), some (.inl (wn (zL1 1 1))), some (.inl (wPI 1 (Int32.ofInt 5))), some (.inr (.invokevirtual 260, 260, 3, 12)), none, none],
  [some (.inr (.invokestatic 308, 263, 1, 0)), none, none, some (.inl (wGo 55)), none, none, some (.inl (wPI 1 (Int32.ofInt (-1)))), some (.inl (wn (zS1 1 3)))],
  [some (.inl (wn (zLA 1 0))), some (.inl (wPI 3 (Int16.ofInt 3720).toInt32)), none, none, some (.inr (.invokevirtual 361, 297, 2, 12)), none, none, some (.inl (wn (zLA 1 0)))],
  [some (.inl (wn (zL1 1 3))), some (.inr (.invokevirtual 299, 207, 2, 12)), none, none, some (.inr (.ireturn, 0, 0, 0))]]
theorem wk_302 : wt_302 = xt_302.map (fun l => l.map (Option.map wcv)) := rfl
noncomputable def wt_303 : wT := [[some (.inl (wn (zLA 1 0))), some (.inl (wn (zL1 1 1))), some (.inl (wn (zL1 1 2))), some (.inr (.invokevirtual 293, 253, 3, 12)), none, none, some (.inl (wn (zif .eq 17))), none],
  [none, some (.inl (wn (zL1 1 3))), some (.inl (wPI 1 (Int32.ofInt 0))), some (.inr (.invokestatic 352, 298, 2, 0)), none, none, some (.inl (wn (zif .ne 23))), none],
  [none, some (.inl (wn (zLA 1 0))), some (.inl (wPI 1 (Int32.ofInt 1))), some (.inr (.invokevirtual 84, 205, 2, 12)), none, none, some (.inr (.ireturn, 0, 0, 0)), some (.inl (wn (zLA 1 0)))],
  [some (.inl (wPI 3 (Int16.ofInt 3720).toInt32)), none, none, some (.inr (.invokevirtual 358, 296, 2, 12)), none, none, some (.inl (wn (zLA 1 0))), some (.inl (wn (zL1 1 3)))],
  [some (.inr (.invokevirtual 341, 285, 2, 12)), none, none, some (.inl (wn (zLA 1 0))), some (.inl (wPI 2 (Int8.ofInt 6).toInt32)), none, some (.inl (wn (zL1 1 2))), some (.inl (wn zmul))],
  [some (.inl (wn (zL1 1 1))), some (.inl (wn zadd)), some (.inr (.invokevirtual 296, 264, 2, 12)), none, none, some (.inl (wn (zS1 2 4))), none, some (.inl (wn (zLA 1 0)))],
  [some (.inl (wPI 3 (Int16.ofInt 3720).toInt32)), none, none, some (.inr (.invokevirtual 361, 297, 2, 12)), none, none, some (.inl (wn (zLA 1 0))), some (.inl (wn (zL1 2 4)))],
  [none, some (.inr (.invokevirtual 299, 207, 2, 12)), none, none, some (.inr (.ireturn, 0, 0, 0))]]
theorem wk_303 : wt_303 = xt_303.map (fun l => l.map (Option.map wcv)) := rfl
noncomputable def wt_304 : wT := [[some (.inl (wn (zL1 1 1))), some (.inl (wPI 1 (Int32.ofInt 0))), some (.inr (.invokestatic 352, 298, 2, 0)), none, none, some (.inl (wn (zif .ne 14))), none, none],
  [some (.inl (wn (zLA 1 0))), some (.inl (wPI 1 (Int32.ofInt 1))), some (.inr (.invokevirtual 84, 205, 2, 12)), none, none, some (.inr (.ireturn, 0, 0, 0)), some (.inl (wn (zLA 1 0))), some (.inl (wPI 3 (Int16.ofInt 3720).toInt32))],
  [none, none, some (.inr (.invokevirtual 358, 296, 2, 12)), none, none, some (.inl (wn (zLA 1 0))), some (.inl (wn (zL1 1 1))), some (.inr (.invokevirtual 341, 285, 2, 12))],
  [none, none, some (.inl (wn (zLA 1 0))), some (.inr (.invokevirtual 284, 266, 1, 12)), none, none, some (.inl (wn (zS1 1 2))), some (.inl (wn (zLA 1 0)))],
  [some (.inl (wPI 3 (Int16.ofInt 3720).toInt32)), none, none, some (.inr (.invokevirtual 361, 297, 2, 12)), none, none, some (.inl (wn (zLA 1 0))), some (.inl (wn (zL1 1 2)))],
  [some (.inr (.invokevirtual 88, 206, 2, 12)), none, none, some (.inr (.ireturn, 0, 0, 0))]]
theorem wk_304 : wt_304 = xt_304.map (fun l => l.map (Option.map wcv)) := rfl
noncomputable def wt_305 : wT := [[some (.inl (wn (zLA 1 0))), some (.inl (wPI 3 (Int16.ofInt 3720).toInt32)), none, none, some (.inr (.invokevirtual 358, 296, 2, 12)), none, none, some (.inl (wPI 1 (Int32.ofInt 1)))],
  [some (.inl (wn (zS1 1 2))), some (.inl (wn (zL1 1 2))), some (.inl (wn (zL1 1 1))), some (.inl (wn (zic .gt 34))), none, none, some (.inl (wn (zLA 1 0))), some (.inr (.invokevirtual 329, 284, 1, 12))],
  [none, none, some (.inl (wn (zLA 1 0))), some (.inl (wGet 12 24)), none, none, some (.inl (wn (zL1 1 2))), some (.inl (wn (zLA 1 0)))],
  [some (.inr (.invokevirtual 284, 266, 1, 12)), none, none, some (.inl (wIast)), some (.inl (wn (zinc 2 1))), none, none, some (.inl (wGo 9))],
  [none, none, some (.inl (wn (zLA 1 0))), some (.inl (wPI 3 (Int16.ofInt 3720).toInt32)), none, none, some (.inr (.invokevirtual 361, 297, 2, 12)), none],
  [none, some (.inr (.return_, 0, 0, 0))]]
theorem wk_305 : wt_305 = xt_305.map (fun l => l.map (Option.map wcv)) := rfl
noncomputable def wt_306 : wT := [[some (.inl (wn (zLA 1 0))), some (.inl (wPI 3 (Int16.ofInt 200).toInt32)), none, none, some (.inr (.invokevirtual 364, 305, 2, 12)), none, none, some (.inl (wPI 1 (Int32.ofInt 1)))],
  [some (.inl (wn (zS1 1 2))), some (.inl (wn (zL1 1 2))), some (.inl (wPI 3 (Int16.ofInt 200).toInt32)), none, none, some (.inl (wn (zic .gt 38))), none, none],
  [some (.inl (wn (zLA 1 0))), some (.inl (wn (zLA 1 0))), some (.inl (wGet 12 24)), none, none, some (.inl (wn (zL1 1 2))), some (.inl (wIald)), some (.inl (wn (zL1 1 1)))],
  [some (.inr (.invokevirtual 367, 258, 3, 12)), none, none, some (.inl (wn (zif .eq 32))), none, none, some (.inl (wn (zL1 1 2))), some (.inr (.ireturn, 0, 0, 0))],
  [some (.inl (wn (zinc 2 1))), none, none, some (.inl (wGo 9)), none, none, some (.inl (wPI 1 (Int32.ofInt (-1)))), some (.inr (.ireturn, 0, 0, 0))]]
theorem wk_306 : wt_306 = xt_306.map (fun l => l.map (Option.map wcv)) := rfl
noncomputable def wt_307 : wT := [[some (.inl (wn (zLA 1 0))), some (.inl (wn (zL1 1 1))), some (.inr (.invokevirtual 305, 255, 2, 12)), none, none, some (.inl (wn (zif .eq 20))), none, none],
  [some (.inl (wn (zLA 1 0))), some (.inl (wn (zLA 1 0))), some (.inl (wn (zL1 1 1))), some (.inr (.invokevirtual 370, 306, 2, 12)), none, none, some (.inr (.invokevirtual 299, 207, 2, 12)), none],
  [none, some (.inl (wGo 25)), none, none, some (.inl (wn (zLA 1 0))), some (.inl (wPI 1 (Int32.ofInt 1))), some (.inr (.invokevirtual 84, 205, 2, 12)), none],
  [none, some (.inr (.ireturn, 0, 0, 0))]]
theorem wk_307 : wt_307 = xt_307.map (fun l => l.map (Option.map wcv)) := rfl
noncomputable def wt_308 : wT := [[some (.inl (wn (zLA 1 0))), some (.inl (wn (zL1 1 1))), some (.inr (.invokevirtual 305, 255, 2, 12)), none, none, some (.inl (wn (zif .ne 14))), none, none],
  [some (.inl (wn (zLA 1 0))), some (.inl (wPI 1 (Int32.ofInt 1))), some (.inr (.invokevirtual 84, 205, 2, 12)), none, none, some (.inr (.ireturn, 0, 0, 0)), some (.inl (wn (zLA 1 0))), some (.inl (wn (zL1 1 1)))],
  [some (.inr (.invokevirtual 370, 306, 2, 12)), none, none, some (.inl (wn (zS1 1 2))), some (.inl (wn (zL1 1 2))), some (.inl (wPI 1 (Int32.ofInt (-1)))), some (.inl (wn (zic .ne 34))), none],
  [none, some (.inl (wn (zLA 1 0))), some (.inl (wPI 2 (Int8.ofInt 6).toInt32)), none, some (.inr (.invokevirtual 84, 205, 2, 12)), none, none, some (.inl (wGo 43))],
  [none, none, some (.inl (wn (zLA 1 0))), some (.inl (wn (zLA 1 0))), some (.inl (wn (zL1 1 2))), some (.inr (.invokevirtual 355, 300, 2, 12)), none, none],
  [some (.inr (.invokevirtual 88, 206, 2, 12)), none, none, some (.inr (.ireturn, 0, 0, 0))]]
theorem wk_308 : wt_308 = xt_308.map (fun l => l.map (Option.map wcv)) := rfl
noncomputable def wt_309 : wT := [[some (.inl (wn (zLA 1 0))), some (.inl (wn (zL1 1 1))), some (.inr (.invokevirtual 305, 255, 2, 12)), none, none, some (.inl (wn (zif .eq 16))), none, none],
  [some (.inl (wn (zL1 1 2))), some (.inl (wPI 1 (Int32.ofInt 1))), some (.inr (.invokestatic 352, 298, 2, 0)), none, none, some (.inl (wn (zif .ne 22))), none, none],
  [some (.inl (wn (zLA 1 0))), some (.inl (wPI 1 (Int32.ofInt 1))), some (.inr (.invokevirtual 84, 205, 2, 12)), none, none, some (.inr (.ireturn, 0, 0, 0)), some (.inl (wn (zLA 1 0))), some (.inl (wn (zL1 1 2)))],
  [some (.inr (.invokevirtual 364, 305, 2, 12)), none, none, some (.inl (wPI 1 (Int32.ofInt 0))), some (.inl (wn (zS1 1 3))), some (.inl (wPI 1 (Int32.ofInt 1))), some (.inl (wn (zS1 2 4))), none],
  [some (.inl (wn (zL1 2 4))), none, some (.inl (wn (zL1 1 2))), some (.inl (wn (zic .gt 67))), none, none, some (.inl (wn (zL1 1 3))), some (.inl (wn (zLA 1 0)))],
  [some (.inl (wn (zLA 1 0))), some (.inl (wGet 12 24)), none, none, some (.inl (wn (zL1 2 4))), none, some (.inl (wIald)), some (.inl (wn (zL1 1 1)))],
  [some (.inr (.invokevirtual 367, 258, 3, 12)), none, none, some (.inl (wn (zif .eq 58))), none, none, some (.inl (wPI 1 (Int32.ofInt 1))), some (.inl (wGo 59))],
  [none, none, some (.inl (wPI 1 (Int32.ofInt 0))), some (.inl (wn zadd)), some (.inl (wn (zS1 1 3))), some (.inl (wn (zinc 4 1))), none, none],
  [some (.inl (wGo 32)), none, none, some (.inl (wn (zLA 1 0))), some (.inl (wn (zL1 1 3))), some (.inr (.invokevirtual 88, 206, 2, 12)), none, none],
  [some (.inr (.ireturn, 0, 0, 0))]]
theorem wk_309 : wt_309 = xt_309.map (fun l => l.map (Option.map wcv)) := rfl
noncomputable def wt_310 : wT := [[some (.inl (wn (zLA 1 0))), some (.inl (wn (zL1 1 1))), some (.inr (.invokevirtual 305, 255, 2, 12)), none, none, some (.inl (wn (zif .eq 16))), none, none],
  [some (.inl (wn (zL1 1 2))), some (.inl (wPI 1 (Int32.ofInt 1))), some (.inr (.invokestatic 352, 298, 2, 0)), none, none, some (.inl (wn (zif .ne 22))), none, none],
  [some (.inl (wn (zLA 1 0))), some (.inl (wPI 1 (Int32.ofInt 1))), some (.inr (.invokevirtual 84, 205, 2, 12)), none, none, some (.inr (.ireturn, 0, 0, 0)), some (.inl (wn (zLA 1 0))), some (.inl (wn (zL1 1 2)))],
  [some (.inr (.invokevirtual 364, 305, 2, 12)), none, none, some (.inl (wPI 1 (Int32.ofInt 0))), some (.inl (wn (zS1 1 3))), some (.inl (wPI 1 (Int32.ofInt 0))), some (.inl (wn (zS1 2 4))), none],
  [some (.inl (wPI 1 (Int32.ofInt 1))), some (.inl (wn (zS1 2 5))), none, some (.inl (wn (zL1 2 5))), none, some (.inl (wn (zL1 1 2))), some (.inl (wn (zic .gt 79))), none],
  [none, some (.inl (wn (zLA 1 0))), some (.inl (wn (zLA 1 0))), some (.inl (wGet 12 24)), none, none, some (.inl (wn (zL1 2 5))), none],
  [some (.inl (wIald)), some (.inl (wn (zL1 1 1))), some (.inr (.invokevirtual 367, 258, 3, 12)), none, none, some (.inl (wn (zif .eq 63))), none, none],
  [some (.inl (wn (zL1 2 4))), none, some (.inl (wPI 1 (Int32.ofInt 1))), some (.inl (wn zadd)), some (.inl (wGo 64)), none, none, some (.inl (wPI 1 (Int32.ofInt 0)))],
  [some (.inl (wn (zS1 2 4))), none, some (.inl (wn (zL1 1 3))), some (.inl (wn (zL1 2 4))), none, some (.inl (wn zmax)), none, none],
  [some (.inl (wn (zS1 1 3))), some (.inl (wn (zinc 5 1))), none, none, some (.inl (wGo 35)), none, none, some (.inl (wn (zLA 1 0)))],
  [some (.inl (wn (zL1 1 3))), some (.inr (.invokevirtual 88, 206, 2, 12)), none, none, some (.inr (.ireturn, 0, 0, 0))]]
theorem wk_310 : wt_310 = xt_310.map (fun l => l.map (Option.map wcv)) := rfl
noncomputable def wt_311 : wT := [[some (.inl (wn (zLA 1 0))), some (.inl (wn (zL1 1 1))), some (.inr (.invokevirtual 302, 254, 2, 12)), none, none, some (.inl (wn (zif .ne 14))), none, none],
  [some (.inl (wn (zLA 1 0))), some (.inl (wPI 1 (Int32.ofInt 1))), some (.inr (.invokevirtual 84, 205, 2, 12)), none, none, some (.inr (.ireturn, 0, 0, 0)), some (.inl (wn (zLA 1 0))), some (.inl (wPI 3 (Int16.ofInt 3720).toInt32))],
  [none, none, some (.inr (.invokevirtual 358, 296, 2, 12)), none, none, some (.inl (wPI 1 (Int32.ofInt 1))), some (.inl (wn (zS1 1 2))), some (.inl (wPI 1 (Int32.ofInt 1)))],
  [some (.inl (wn (zS1 1 3))), some (.inl (wn (zL1 1 3))), some (.inl (wPI 3 (Int16.ofInt 200).toInt32)), none, none, some (.inl (wn (zic .gt 54))), none, none],
  [some (.inl (wn (zLA 1 0))), some (.inr (.invokevirtual 329, 284, 1, 12)), none, none, some (.inl (wn (zLA 1 0))), some (.inl (wn (zL1 1 1))), some (.inr (.invokevirtual 263, 261, 2, 12)), none],
  [none, some (.inl (wn (zif .eq 48))), none, none, some (.inl (wn (zL1 1 3))), some (.inl (wPI 1 (Int32.ofInt 1))), some (.inl (wn zadd)), some (.inl (wn (zS1 1 2)))],
  [some (.inl (wn (zinc 3 1))), none, none, some (.inl (wGo 25)), none, none, some (.inl (wn (zLA 1 0))), some (.inl (wPI 3 (Int16.ofInt 3720).toInt32))],
  [none, none, some (.inr (.invokevirtual 361, 297, 2, 12)), none, none, some (.inl (wn (zL1 1 2))), some (.inl (wPI 3 (Int16.ofInt 200).toInt32)), none],
  [none, some (.inl (wn (zic .le 77))), none, none, some (.inl (wn (zLA 1 0))), some (.inl (wPI 2 (Int8.ofInt 6).toInt32)), none, some (.inr (.invokevirtual 84, 205, 2, 12))],
  [none, none, some (.inl (wGo 82)), none, none, some (.inl (wn (zLA 1 0))), some (.inl (wn (zL1 1 2))), some (.inr (.invokevirtual 88, 206, 2, 12))],
  [none, none, some (.inr (.ireturn, 0, 0, 0))]]
theorem wk_311 : wt_311 = xt_311.map (fun l => l.map (Option.map wcv)) := rfl
noncomputable def wt_312 : wT := [[some (.inl (wPI 1 (Int32.ofInt 0))), some (.inl (wn (zS1 1 2))), some (.inl (wn (zL1 1 2))), some (.inl (wn (zLA 1 0))), some (.inl (wGet 12 0)), none, none, some (.inl (wPI 1 (Int32.ofInt 2)))],
  [some (.inl (wIald)), some (.inl (wn (zic .ge 75))), none, none, some (.inl (wn (zL1 1 2))), some (.inr (.invokestatic 257, 251, 1, 0)), none, none],
  [some (.inl (wn (zS1 1 3))), some (.inl (wn (zLA 1 0))), some (.inl (wGet 12 0)), none, none, some (.inl (wn (zL1 1 3))), some (.inl (wPI 1 (Int32.ofInt 4))), some (.inl (wn zadd))],
  [some (.inl (wIald)), some (.inl (wn (zLA 1 0))), some (.inl (wGet 12 0)), none, none, some (.inl (wn (zL1 1 1))), some (.inl (wn (zL1 1 3))), some (.inl (wn zadd))],
  [some (.inl (wPI 1 (Int32.ofInt 4))), some (.inl (wn zadd)), some (.inl (wIald)), some (.inl (wn (zic .ne 67))), none, none, some (.inl (wn (zLA 1 0))), some (.inl (wn (zL1 1 2)))],
  [some (.inr (.invokevirtual 263, 261, 2, 12)), none, none, some (.inl (wn (zif .eq 69))), none, none, some (.inl (wn (zLA 1 0))), some (.inl (wGet 12 0))],
  [none, none, some (.inl (wn (zL1 1 3))), some (.inl (wPI 1 (Int32.ofInt 5))), some (.inl (wn zadd)), some (.inl (wIald)), some (.inl (wn (zLA 1 0))), some (.inl (wGet 12 0))],
  [none, none, some (.inl (wn (zL1 1 1))), some (.inl (wn (zL1 1 3))), some (.inl (wn zadd)), some (.inl (wPI 1 (Int32.ofInt 5))), some (.inl (wn zadd)), some (.inl (wIald))],
  [some (.inl (wn (zic .eq 69))), none, none, some (.inl (wPI 1 (Int32.ofInt 0))), some (.inr (.ireturn, 0, 0, 0)), some (.inl (wn (zinc 2 1))), none, none],
  [some (.inl (wGo 2)), none, none, some (.inl (wPI 1 (Int32.ofInt 1))), some (.inr (.ireturn, 0, 0, 0))]]
theorem wk_312 : wt_312 = xt_312.map (fun l => l.map (Option.map wcv)) := rfl
noncomputable def wt_313 : wT := [[some (.inl (wn (zLA 1 0))), some (.inl (wPI 3 (Int16.ofInt 3720).toInt32)), none, none, some (.inr (.invokevirtual 358, 296, 2, 12)), none, none, some (.inl (wPI 1 (Int32.ofInt (-1))))],
  [some (.inl (wn (zS1 1 1))), some (.inl (wPI 1 (Int32.ofInt 1))), some (.inl (wn (zS1 1 2))), some (.inl (wn (zL1 1 2))), some (.inl (wPI 3 (Int16.ofInt 200).toInt32)), none, none, some (.inl (wn (zic .gt 45)))],
  [none, none, some (.inl (wn (zL1 1 1))), some (.inl (wPI 1 (Int32.ofInt (-1)))), some (.inl (wn (zic .ne 45))), none, none, some (.inl (wn (zLA 1 0)))],
  [some (.inr (.invokevirtual 329, 284, 1, 12)), none, none, some (.inl (wn (zLA 1 0))), some (.inl (wPI 3 (Int16.ofInt 3720).toInt32)), none, none, some (.inr (.invokevirtual 376, 312, 2, 12))],
  [none, none, some (.inl (wn (zif .eq 39))), none, none, some (.inl (wn (zL1 1 2))), some (.inl (wn (zS1 1 1))), some (.inl (wn (zinc 2 1)))],
  [none, none, some (.inl (wGo 11)), none, none, some (.inl (wn (zLA 1 0))), some (.inl (wPI 3 (Int16.ofInt 3720).toInt32)), none],
  [none, some (.inr (.invokevirtual 361, 297, 2, 12)), none, none, some (.inl (wn (zLA 1 0))), some (.inl (wn (zL1 1 1))), some (.inr (.invokevirtual 299, 207, 2, 12)), none],
  [none, some (.inr (.ireturn, 0, 0, 0))]]
theorem wk_313 : wt_313 = xt_313.map (fun l => l.map (Option.map wcv)) := rfl
noncomputable def wt_314 : wT := [[some (.inl (wn (zLA 1 0))), some (.inl (wn (zL1 1 1))), some (.inr (.invokevirtual 302, 254, 2, 12)), none, none, some (.inl (wn (zif .eq 16))), none, none],
  [some (.inl (wn (zL1 1 2))), some (.inl (wPI 1 (Int32.ofInt 1))), some (.inr (.invokestatic 352, 298, 2, 0)), none, none, some (.inl (wn (zif .ne 22))), none, none],
  [some (.inl (wn (zLA 1 0))), some (.inl (wPI 1 (Int32.ofInt 1))), some (.inr (.invokevirtual 84, 205, 2, 12)), none, none, some (.inr (.ireturn, 0, 0, 0)), some (.inl (wn (zLA 1 0))), some (.inl (wPI 3 (Int16.ofInt 3720).toInt32))],
  [none, none, some (.inr (.invokevirtual 358, 296, 2, 12)), none, none, some (.inl (wPI 1 (Int32.ofInt 0))), some (.inl (wn (zS1 1 3))), some (.inl (wPI 1 (Int32.ofInt 0)))],
  [some (.inl (wn (zS1 2 4))), none, some (.inl (wn (zL1 2 4))), none, some (.inl (wn (zL1 1 2))), some (.inl (wn (zic .ge 103))), none, none],
  [some (.inl (wn (zLA 1 0))), some (.inl (wn (zL1 1 1))), some (.inr (.invokevirtual 263, 261, 2, 12)), none, none, some (.inl (wn (zif .eq 57))), none, none],
  [some (.inl (wn (zLA 1 0))), some (.inl (wn (zL1 1 1))), some (.inl (wPI 1 (Int32.ofInt 5))), some (.inr (.invokevirtual 260, 260, 3, 12)), none, none, some (.inl (wGo 58)), none],
  [none, some (.inl (wPI 1 (Int32.ofInt (-1)))), some (.inl (wn (zS1 2 5))), none, some (.inl (wn (zLA 1 0))), some (.inr (.invokevirtual 329, 284, 1, 12)), none, none],
  [some (.inl (wn (zL1 1 3))), some (.inl (wn (zL1 2 5))), none, some (.inl (wPI 1 (Int32.ofInt (-1)))), some (.inl (wn (zic .eq 94))), none, none, some (.inl (wn (zLA 1 0)))],
  [some (.inl (wn (zL1 1 1))), some (.inr (.invokevirtual 263, 261, 2, 12)), none, none, some (.inl (wn (zif .eq 94))), none, none, some (.inl (wn (zLA 1 0)))],
  [some (.inl (wn (zL1 1 1))), some (.inl (wPI 1 (Int32.ofInt 5))), some (.inr (.invokevirtual 260, 260, 3, 12)), none, none, some (.inl (wn (zL1 2 5))), none, some (.inl (wn (zic .ne 94)))],
  [none, none, some (.inl (wPI 1 (Int32.ofInt 1))), some (.inl (wGo 95)), none, none, some (.inl (wPI 1 (Int32.ofInt 0))), some (.inl (wn zadd))],
  [some (.inl (wn (zS1 1 3))), some (.inl (wn (zinc 4 1))), none, none, some (.inl (wGo 34)), none, none, some (.inl (wn (zLA 1 0)))],
  [some (.inl (wPI 3 (Int16.ofInt 3720).toInt32)), none, none, some (.inr (.invokevirtual 361, 297, 2, 12)), none, none, some (.inl (wn (zLA 1 0))), some (.inl (wn (zL1 1 3)))],
  [some (.inr (.invokevirtual 88, 206, 2, 12)), none, none, some (.inr (.ireturn, 0, 0, 0))]]
theorem wk_314 : wt_314 = xt_314.map (fun l => l.map (Option.map wcv)) := rfl
noncomputable def wt_315 : wT := [[some (.inl (wn (zL1 1 1))), some (.inl (wn zi2l)), some (.inl (wPL 1 (Int64.ofNat 0))), some (.inl (wPL 1 (Int64.ofNat 1))), some (.inl (wn (zLA 1 0))), some (.inl (wGet 12 0)), none, none],
  [some (.inl (wPI 1 (Int32.ofInt 3))), some (.inl (wIald)), some (.inl (wn zlshl)), some (.inl (wPL 1 (Int64.ofNat 1))), some (.inl (wn zlsub)), some (.inr (.invokestatic 334, 216, 3, 0)), none, none],
  [some (.inl (wn (zif .eq 35))), none, none, some (.inl (wn (zL1 1 2))), some (.inl (wn zi2l)), some (.inl (wPL 1 (Int64.ofNat 1))), some (.inl (wPL 3 (Int64.ofInt 12))), none],
  [none, some (.inr (.invokestatic 334, 216, 3, 0)), none, none, some (.inl (wn (zif .eq 35))), none, none, some (.inl (wPI 1 (Int32.ofInt 1)))],
  [some (.inl (wGo 36)), none, none, some (.inl (wPI 1 (Int32.ofInt 0))), some (.inr (.ireturn, 0, 0, 0))]]
theorem wk_315 : wt_315 = xt_315.map (fun l => l.map (Option.map wcv)) := rfl
noncomputable def wt_316 : wT := [[some (.inl (wPI 1 (Int32.ofInt 0))), some (.inl (wn (zS1 1 2))), some (.inl (wPI 1 (Int32.ofInt 0))), some (.inl (wn (zS1 1 3))), some (.inl (wn (zL1 1 1))), some (.inl (wn (zL1 1 3))), some (.inl (wn zshr)), some (.inl (wn (zif .eq 46)))],
  [none, none, some (.inl (wn (zL1 1 2))), some (.inl (wn (zLA 1 0))), some (.inl (wn (zL1 1 1))), some (.inl (wn (zL1 1 3))), some (.inr (.invokevirtual 367, 258, 3, 12)), none],
  [none, some (.inl (wn (zif .eq 37))), none, none, some (.inl (wn (zLA 1 0))), some (.inl (wn (zLA 1 0))), some (.inl (wGet 12 0)), none],
  [none, some (.inl (wPI 1 (Int32.ofInt 5))), some (.inl (wIald)), some (.inl (wn (zL1 1 3))), some (.inl (wn zadd)), some (.inl (wPI 1 (Int32.ofInt 1))), some (.inl (wn zadd)), some (.inr (.invokevirtual 275, 270, 2, 12))],
  [none, none, some (.inl (wGo 38)), none, none, some (.inl (wPI 1 (Int32.ofInt 0))), some (.inl (wn zadd)), some (.inl (wn (zS1 1 2)))],
  [some (.inl (wn (zinc 3 1))), none, none, some (.inl (wGo 4)), none, none, some (.inl (wn (zL1 1 2))), some (.inr (.ireturn, 0, 0, 0))]]
theorem wk_316 : wt_316 = xt_316.map (fun l => l.map (Option.map wcv)) := rfl
noncomputable def wt_317 : wT := [[some (.inl (wn (zLA 1 0))), some (.inl (wn (zL1 1 2))), some (.inr (.invokevirtual 364, 305, 2, 12)), none, none, some (.inl (wPI 1 (Int32.ofInt (-1)))), some (.inl (wn (zS1 1 3))), some (.inl (wPI 1 (Int32.ofInt 0)))],
  [some (.inl (wn (zS1 2 4))), none, some (.inl (wn (zL1 2 4))), none, some (.inl (wPI 1 (Int32.ofInt 1))), some (.inl (wn (zL1 1 2))), some (.inl (wn zshl)), some (.inl (wn (zic .ge 141)))],
  [none, none, some (.inl (wPI 1 (Int32.ofInt 0))), some (.inl (wn (zS1 2 5))), none, some (.inl (wPI 1 (Int32.ofInt 0))), some (.inl (wn (zS1 2 6))), none],
  [some (.inl (wn (zL1 2 6))), none, some (.inl (wn (zL1 1 2))), some (.inl (wn (zic .ge 65))), none, none, some (.inl (wn (zL1 2 5))), none],
  [some (.inl (wn (zLA 1 0))), some (.inl (wn (zL1 2 4))), none, some (.inl (wn (zL1 2 6))), none, some (.inr (.invokevirtual 367, 258, 3, 12)), none, none],
  [some (.inl (wn (zif .eq 55))), none, none, some (.inl (wn (zLA 1 0))), some (.inl (wGet 12 24)), none, none, some (.inl (wn (zL1 2 6)))],
  [none, some (.inl (wPI 1 (Int32.ofInt 1))), some (.inl (wn zadd)), some (.inl (wIald)), some (.inl (wGo 56)), none, none, some (.inl (wPI 1 (Int32.ofInt 0)))],
  [some (.inl (wn zor)), some (.inl (wn (zS1 2 5))), none, some (.inl (wn (zinc 6 1))), none, none, some (.inl (wGo 24)), none],
  [none, some (.inl (wn (zL1 1 1))), some (.inl (wn (zL1 2 5))), none, some (.inl (wPI 1 (Int32.ofInt (-1)))), some (.inl (wn zxor)), some (.inl (wn zandI)), some (.inl (wn (zif .eq 77)))],
  [none, none, some (.inl (wGo 135)), none, none, some (.inl (wn (zL1 1 3))), some (.inl (wPI 1 (Int32.ofInt (-1)))), some (.inl (wn (zic .ne 86)))],
  [none, none, some (.inl (wPI 1 (Int32.ofInt (-1)))), some (.inl (wGo 125)), none, none, some (.inl (wn (zLA 1 0))), some (.inl (wn (zL1 2 4)))],
  [none, some (.inr (.invokevirtual 381, 316, 2, 12)), none, none, some (.inl (wn (zLA 1 0))), some (.inl (wn (zL1 1 3))), some (.inr (.invokevirtual 381, 316, 2, 12)), none],
  [none, some (.inl (wn (zic .eq 115))), none, none, some (.inl (wn (zLA 1 0))), some (.inl (wn (zL1 2 4))), none, some (.inr (.invokevirtual 381, 316, 2, 12))],
  [none, none, some (.inl (wn (zLA 1 0))), some (.inl (wn (zL1 1 3))), some (.inr (.invokevirtual 381, 316, 2, 12)), none, none, some (.inl (wn zsub))],
  [some (.inl (wGo 125)), none, none, some (.inl (wn (zL1 2 4))), none, some (.inr (.invokestatic 384, 259, 1, 0)), none, none],
  [some (.inl (wn (zL1 1 3))), some (.inr (.invokestatic 384, 259, 1, 0)), none, none, some (.inl (wn zsub)), some (.inl (wn (zS1 2 6))), none, some (.inl (wn (zL1 2 6)))],
  [none, some (.inl (wn (zif .ge 135))), none, none, some (.inl (wn (zL1 2 4))), none, some (.inl (wn (zS1 1 3))), some (.inl (wn (zinc 4 1)))],
  [none, none, some (.inl (wGo 10)), none, none, some (.inl (wn (zL1 1 3))), some (.inr (.ireturn, 0, 0, 0))]]
theorem wk_317 : wt_317 = xt_317.map (fun l => l.map (Option.map wcv)) := rfl
noncomputable def wt_318 : wT := [[some (.inl (wn (zLA 1 0))), some (.inl (wn (zL1 1 1))), some (.inl (wn (zL1 1 2))), some (.inr (.invokevirtual 387, 315, 3, 12)), none, none, some (.inl (wn (zif .ne 15))), none],
  [none, some (.inl (wn (zLA 1 0))), some (.inl (wPI 1 (Int32.ofInt 1))), some (.inr (.invokevirtual 84, 205, 2, 12)), none, none, some (.inr (.ireturn, 0, 0, 0)), some (.inl (wn (zLA 1 0)))],
  [some (.inl (wn (zL1 1 1))), some (.inl (wn (zL1 1 2))), some (.inr (.invokevirtual 390, 317, 3, 12)), none, none, some (.inl (wn (zS1 1 3))), some (.inl (wn (zL1 1 3))), some (.inl (wPI 1 (Int32.ofInt (-1))))],
  [some (.inl (wn (zic .ne 36))), none, none, some (.inl (wn (zLA 1 0))), some (.inl (wPI 2 (Int8.ofInt 6).toInt32)), none, some (.inr (.invokevirtual 84, 205, 2, 12)), none],
  [none, some (.inl (wGo 45)), none, none, some (.inl (wn (zLA 1 0))), some (.inl (wn (zLA 1 0))), some (.inl (wn (zL1 1 3))), some (.inr (.invokevirtual 381, 316, 2, 12))],
  [none, none, some (.inr (.invokevirtual 88, 206, 2, 12)), none, none, some (.inr (.ireturn, 0, 0, 0))]]
theorem wk_318 : wt_318 = xt_318.map (fun l => l.map (Option.map wcv)) := rfl
noncomputable def wt_319 : wT := [[some (.inl (wn (zLA 1 0))), some (.inl (wn (zL1 1 1))), some (.inl (wn (zL1 1 2))), some (.inr (.invokevirtual 387, 315, 3, 12)), none, none, some (.inl (wn (zif .eq 22))), none],
  [none, some (.inl (wn (zLA 1 0))), some (.inl (wn (zLA 1 0))), some (.inl (wn (zL1 1 1))), some (.inl (wn (zL1 1 2))), some (.inr (.invokevirtual 390, 317, 3, 12)), none, none],
  [some (.inr (.invokevirtual 299, 207, 2, 12)), none, none, some (.inl (wGo 27)), none, none, some (.inl (wn (zLA 1 0))), some (.inl (wPI 1 (Int32.ofInt 1)))],
  [some (.inr (.invokevirtual 84, 205, 2, 12)), none, none, some (.inr (.ireturn, 0, 0, 0))]]
theorem wk_319 : wt_319 = xt_319.map (fun l => l.map (Option.map wcv)) := rfl
