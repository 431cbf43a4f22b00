noncomputable def wt_200 : wT := [[some (.inl (wPI 1 (Int32.ofInt 0))), some (.inl (wn (zS1 1 2))), some (.inl (wn (zL1 1 2))), some (.inl (wPI 3 (Int16.ofInt 620).toInt32)), none, none, some (.inl (wn (zic .ge 24))), none],
  [none, some (.inl (wn (zLA 1 0))), some (.inl (wGet 12 0)), none, none, some (.inl (wn (zL1 1 1))), some (.inl (wn (zL1 1 2))), some (.inl (wn zadd))],
  [some (.inl (wPI 1 (Int32.ofInt 0))), some (.inl (wIast)), some (.inl (wn (zinc 2 1))), none, none, some (.inl (wGo 2)), none, none],
  [some (.inl (wPI 1 (Int32.ofInt 0))), some (.inl (wn (zS1 1 2))), some (.inl (wn (zL1 1 2))), some (.inl (wPI 2 (Int8.ofInt 120).toInt32)), none, some (.inl (wn (zic .ge 51))), none, none],
  [some (.inl (wn (zLA 1 0))), some (.inl (wGet 12 0)), none, none, some (.inl (wn (zL1 1 1))), some (.inl (wPI 3 (Int16.ofInt 132).toInt32)), none, none],
  [some (.inl (wn zadd)), some (.inl (wn (zL1 1 2))), some (.inl (wn zadd)), some (.inl (wPI 1 (Int32.ofInt (-1)))), some (.inl (wIast)), some (.inl (wn (zinc 2 1))), none, none],
  [some (.inl (wGo 26)), none, none, some (.inl (wn (zLA 1 0))), some (.inl (wGet 12 0)), none, none, some (.inl (wn (zL1 1 1)))],
  [some (.inl (wPI 2 (Int8.ofInt 6).toInt32)), none, some (.inl (wn zadd)), some (.inl (wPI 1 (Int32.ofInt 5))), some (.inl (wIast)), some (.inl (wn (zLA 1 0))), some (.inl (wGet 12 0)), none],
  [none, some (.inl (wn (zL1 1 1))), some (.inl (wPI 2 (Int8.ofInt 7).toInt32)), none, some (.inl (wn zadd)), some (.inl (wPI 1 (Int32.ofInt 1))), some (.inl (wIast)), some (.inl (wn (zLA 1 0)))],
  [some (.inl (wGet 12 0)), none, none, some (.inl (wn (zL1 1 1))), some (.inl (wPI 2 (Int8.ofInt 8).toInt32)), none, some (.inl (wn zadd)), some (.inl (wPI 1 (Int32.ofInt (-1))))],
  [some (.inl (wIast)), some (.inr (.return_, 0, 0, 0))]]
theorem wk_200 : wt_200 = xt_200.map (fun l => l.map (Option.map wcv)) := rfl
noncomputable def wt_201 : wT := [[some (.inl (wn (zLA 1 0))), some (.inl (wGet 12 2)), none, none, some (.inr (.ireturn, 0, 0, 0))]]
theorem wk_201 : wt_201 = xt_201.map (fun l => l.map (Option.map wcv)) := rfl
noncomputable def wt_202 : wT := [[some (.inl (wn (zLA 1 0))), some (.inl (wGet 12 3)), none, none, some (.inr (.lreturn, 0, 0, 0))]]
theorem wk_202 : wt_202 = xt_202.map (fun l => l.map (Option.map wcv)) := rfl
noncomputable def wt_203 : wT := [[some (.inl (wn (zLA 1 0))), some (.inl (wGet 12 4)), none, none, some (.inr (.lreturn, 0, 0, 0))]]
theorem wk_203 : wt_203 = xt_203.map (fun l => l.map (Option.map wcv)) := rfl
noncomputable def wt_204 : wT := [[some (.inl (wn (zLA 1 0))), some (.inl (wn (zL1 1 1))), some (.inl (wPut 12 2)), none, none, some (.inl (wn (zL1 1 1))), some (.inl (wn (zif .ne 13))), none],
  [none, some (.inl (wPI 1 (Int32.ofInt 1))), some (.inl (wGo 14)), none, none, some (.inl (wPI 1 (Int32.ofInt 0))), some (.inr (.ireturn, 0, 0, 0))]]
theorem wk_204 : wt_204 = xt_204.map (fun l => l.map (Option.map wcv)) := rfl
noncomputable def wt_205 : wT := [[some (.inl (wn (zLA 1 0))), some (.inl (wn (zL1 1 1))), some (.inl (wPut 12 2)), none, none, some (.inl (wPI 1 (Int32.ofInt (-1)))), some (.inr (.ireturn, 0, 0, 0))]]
theorem wk_205 : wt_205 = xt_205.map (fun l => l.map (Option.map wcv)) := rfl
noncomputable def wt_206 : wT := [[some (.inl (wn (zLA 1 0))), some (.inl (wPI 1 (Int32.ofInt 0))), some (.inl (wPut 12 2)), none, none, some (.inl (wn (zL1 1 1))), some (.inr (.ireturn, 0, 0, 0))]]
theorem wk_206 : wt_206 = xt_206.map (fun l => l.map (Option.map wcv)) := rfl
noncomputable def wt_207 : wT := [[some (.inl (wn (zL1 1 1))), some (.inl (wPI 1 (Int32.ofInt (-1)))), some (.inl (wn (zic .ne 14))), none, none, some (.inl (wn (zLA 1 0))), some (.inl (wPI 2 (Int8.ofInt 6).toInt32)), none],
  [some (.inr (.invokevirtual 84, 205, 2, 12)), none, none, some (.inl (wGo 19)), none, none, some (.inl (wn (zLA 1 0))), some (.inl (wn (zL1 1 1)))],
  [some (.inr (.invokevirtual 88, 206, 2, 12)), none, none, some (.inr (.ireturn, 0, 0, 0))]]
theorem wk_207 : wt_207 = xt_207.map (fun l => l.map (Option.map wcv)) := rfl
noncomputable def wt_208 : wT := [[some (.inl (wn (zL2 1 1))), some (.inl (wn (zS2 2 5))), none, some (.inl (wn (zL2 1 3))), some (.inl (wn (zS2 2 7))), none, some (.inl (wn (zL2 2 7))), none],
  [some (.inl (wPL 1 (Int64.ofNat 0))), some (.inl (wn zlcm)), some (.inl (wn (zif .eq 31))), none, none, some (.inl (wn (zL2 2 5))), none, some (.inl (wn (zL2 2 7)))],
  [none, some (.inl (wn zlrem)), some (.inl (wn (zS2 2 9))), none, some (.inl (wn (zL2 2 7))), none, some (.inl (wn (zS2 2 5))), none],
  [some (.inl (wn (zL2 2 9))), none, some (.inl (wn (zS2 2 7))), none, some (.inl (wGo 6)), none, none, some (.inl (wn (zLA 1 0)))],
  [some (.inl (wn (zL2 1 1))), some (.inl (wn (zL2 2 5))), none, some (.inl (wn zldiv)), some (.inl (wPut 12 3)), none, none, some (.inl (wn (zLA 1 0)))],
  [some (.inl (wn (zL2 1 3))), some (.inl (wn (zL2 2 5))), none, some (.inl (wn zldiv)), some (.inl (wPut 12 4)), none, none, some (.inl (wn (zLA 1 0)))],
  [some (.inl (wPI 1 (Int32.ofInt 0))), some (.inr (.invokevirtual 91, 204, 2, 12)), none, none, some (.inr (.ireturn, 0, 0, 0))]]
theorem wk_208 : wt_208 = xt_208.map (fun l => l.map (Option.map wcv)) := rfl
noncomputable def wt_209 : wT := [[some (.inl (wn (zL1 1 0))), some (.inl (wn (zif .lt 13))), none, none, some (.inl (wn (zL1 1 0))), some (.inl (wPI 1 (Int32.ofInt 4))), some (.inl (wn (zic .ge 13))), none],
  [none, some (.inl (wPI 1 (Int32.ofInt 1))), some (.inl (wGo 14)), none, none, some (.inl (wPI 1 (Int32.ofInt 0))), some (.inr (.ireturn, 0, 0, 0))]]
theorem wk_209 : wt_209 = xt_209.map (fun l => l.map (Option.map wcv)) := rfl
noncomputable def wt_210 : wT := [[some (.inl (wn (zL1 1 2))), some (.inl (wn (zif .ne 11))), none, none, some (.inl (wn (zL2 1 0))), some (.inl (wn zl2i)), some (.inl (wn zi2b)), some (.inl (wn zi2l))],
  [some (.inl (wGo 35)), none, none, some (.inl (wn (zL1 1 2))), some (.inl (wPI 1 (Int32.ofInt 1))), some (.inl (wn (zic .ne 23))), none, none],
  [some (.inl (wn (zL2 1 0))), some (.inl (wn zl2i)), some (.inl (wn zi2s)), some (.inl (wn zi2l)), some (.inl (wGo 35)), none, none, some (.inl (wn (zL1 1 2)))],
  [some (.inl (wPI 1 (Int32.ofInt 2))), some (.inl (wn (zic .ne 34))), none, none, some (.inl (wn (zL2 1 0))), some (.inl (wn zl2i)), some (.inl (wn zi2l)), some (.inl (wGo 35))],
  [none, none, some (.inl (wn (zL2 1 0))), some (.inr (.lreturn, 0, 0, 0))]]
theorem wk_210 : wt_210 = xt_210.map (fun l => l.map (Option.map wcv)) := rfl
noncomputable def wt_211 : wT := [[some (.inl (wn (zL1 1 1))), some (.inr (.invokestatic 95, 209, 1, 0)), none, none, some (.inl (wn (zif .eq 26))), none, none, some (.inl (wn (zL1 1 2)))],
  [some (.inl (wn (zif .lt 26))), none, none, some (.inl (wn (zL1 1 2))), some (.inl (wPI 1 (Int32.ofInt 3))), some (.inl (wn (zic .gt 26))), none, none],
  [some (.inl (wn (zL1 1 3))), some (.inl (wn (zif .lt 26))), none, none, some (.inl (wn (zL1 1 3))), some (.inl (wPI 2 (Int8.ofInt 60).toInt32)), none, some (.inl (wn (zic .le 32)))],
  [none, none, some (.inl (wn (zLA 1 0))), some (.inl (wPI 1 (Int32.ofInt 1))), some (.inr (.invokevirtual 91, 204, 2, 12)), none, none, some (.inr (.ireturn, 0, 0, 0))],
  [some (.inl (wn (zLA 1 0))), some (.inl (wGet 12 5)), none, none, some (.inl (wn (zL1 1 1))), some (.inl (wn (zL1 1 2))), some (.inl (wIast)), some (.inl (wn (zLA 1 0)))],
  [some (.inl (wGet 12 6)), none, none, some (.inl (wn (zL1 1 1))), some (.inl (wn (zL1 1 3))), some (.inl (wIast)), some (.inl (wPI 1 (Int32.ofInt 0))), some (.inl (wn (zS1 2 4)))],
  [none, some (.inl (wn (zL1 2 4))), none, some (.inl (wn (zL1 1 3))), some (.inl (wn (zic .ge 74))), none, none, some (.inl (wn (zLA 1 0)))],
  [some (.inl (wGet 12 7)), none, none, some (.inl (wPI 2 (Int8.ofInt 60).toInt32)), none, some (.inl (wn (zL1 1 1))), some (.inl (wn zmul)), some (.inl (wn (zL1 2 4)))],
  [none, some (.inl (wn zadd)), some (.inl (wPL 1 (Int64.ofNat 0))), some (.inl (wLast)), some (.inl (wn (zinc 4 1))), none, none, some (.inl (wGo 49))],
  [none, none, some (.inl (wn (zLA 1 0))), some (.inl (wPI 1 (Int32.ofInt 0))), some (.inr (.invokevirtual 91, 204, 2, 12)), none, none, some (.inr (.ireturn, 0, 0, 0))]]
theorem wk_211 : wt_211 = xt_211.map (fun l => l.map (Option.map wcv)) := rfl
noncomputable def wt_212 : wT := [[some (.inl (wn (zL1 1 1))), some (.inr (.invokestatic 95, 209, 1, 0)), none, none, some (.inl (wn (zif .ne 11))), none, none, some (.inl (wPI 1 (Int32.ofInt 1)))],
  [some (.inl (wGo 44)), none, none, some (.inl (wn (zLA 1 0))), some (.inl (wGet 12 6)), none, none, some (.inl (wn (zL1 1 1)))],
  [some (.inl (wIald)), some (.inl (wPI 1 (Int32.ofInt (-1)))), some (.inl (wn (zic .ne 25))), none, none, some (.inl (wPI 1 (Int32.ofInt 2))), some (.inl (wGo 44)), none],
  [none, some (.inl (wn (zL1 1 2))), some (.inl (wn (zif .lt 39))), none, none, some (.inl (wn (zL1 1 2))), some (.inl (wn (zLA 1 0))), some (.inl (wGet 12 6))],
  [none, none, some (.inl (wn (zL1 1 1))), some (.inl (wIald)), some (.inl (wn (zic .lt 43))), none, none, some (.inl (wPI 1 (Int32.ofInt 3)))],
  [some (.inl (wGo 44)), none, none, some (.inl (wPI 1 (Int32.ofInt 0))), some (.inr (.ireturn, 0, 0, 0))]]
theorem wk_212 : wt_212 = xt_212.map (fun l => l.map (Option.map wcv)) := rfl
noncomputable def wt_213 : wT := [[some (.inl (wn (zLA 1 0))), some (.inl (wn (zL1 1 1))), some (.inl (wn (zL1 1 2))), some (.inr (.invokevirtual 98, 212, 3, 12)), none, none, some (.inl (wn (zS1 2 5))), none],
  [some (.inl (wn (zL1 2 5))), none, some (.inl (wn (zif .ne 34))), none, none, some (.inl (wn (zLA 1 0))), some (.inl (wGet 12 7)), none],
  [none, some (.inl (wPI 2 (Int8.ofInt 60).toInt32)), none, some (.inl (wn (zL1 1 1))), some (.inl (wn zmul)), some (.inl (wn (zL1 1 2))), some (.inl (wn zadd)), some (.inl (wn (zL2 1 3)))],
  [some (.inl (wn (zLA 1 0))), some (.inl (wGet 12 5)), none, none, some (.inl (wn (zL1 1 1))), some (.inl (wIald)), some (.inr (.invokestatic 102, 210, 2, 0)), none],
  [none, some (.inl (wLast)), some (.inl (wn (zLA 1 0))), some (.inl (wn (zL1 2 5))), none, some (.inr (.invokevirtual 91, 204, 2, 12)), none, none],
  [some (.inr (.ireturn, 0, 0, 0))]]
theorem wk_213 : wt_213 = xt_213.map (fun l => l.map (Option.map wcv)) := rfl
noncomputable def wt_214 : wT := [[some (.inl (wn (zLA 1 0))), some (.inl (wn (zLA 1 0))), some (.inl (wn (zL1 1 1))), some (.inl (wn (zL1 1 2))), some (.inr (.invokevirtual 98, 212, 3, 12)), none, none, some (.inl (wPut 12 2))],
  [none, none, some (.inl (wn (zLA 1 0))), some (.inl (wGet 12 2)), none, none, some (.inl (wn (zif .le 23))), none],
  [none, some (.inl (wPL 3 (Int64.ofInt (-1)))), none, none, some (.inl (wGo 34)), none, none, some (.inl (wn (zLA 1 0)))],
  [some (.inl (wGet 12 7)), none, none, some (.inl (wPI 2 (Int8.ofInt 60).toInt32)), none, some (.inl (wn (zL1 1 1))), some (.inl (wn zmul)), some (.inl (wn (zL1 1 2)))],
  [some (.inl (wn zadd)), some (.inl (wAld 22)), some (.inr (.lreturn, 0, 0, 0))]]
theorem wk_214 : wt_214 = xt_214.map (fun l => l.map (Option.map wcv)) := rfl
noncomputable def wt_215 : wT := [[some (.inl (wn (zL1 1 1))), some (.inr (.invokestatic 95, 209, 1, 0)), none, none, some (.inl (wn (zif .eq 28))), none, none, some (.inl (wn (zL1 1 3)))],
  [some (.inr (.invokestatic 95, 209, 1, 0)), none, none, some (.inl (wn (zif .eq 28))), none, none, some (.inl (wn (zL1 1 2))), some (.inl (wn (zif .lt 28)))],
  [none, none, some (.inl (wn (zL1 2 4))), none, some (.inl (wn (zif .lt 28))), none, none, some (.inl (wn (zL1 2 5)))],
  [none, some (.inl (wn (zif .ge 34))), none, none, some (.inl (wn (zLA 1 0))), some (.inl (wPI 1 (Int32.ofInt 1))), some (.inr (.invokevirtual 91, 204, 2, 12)), none],
  [none, some (.inr (.ireturn, 0, 0, 0)), some (.inl (wn (zLA 1 0))), some (.inl (wGet 12 6)), none, none, some (.inl (wn (zL1 1 1))), some (.inl (wIald))],
  [some (.inl (wPI 1 (Int32.ofInt (-1)))), some (.inl (wn (zic .eq 54))), none, none, some (.inl (wn (zLA 1 0))), some (.inl (wGet 12 6)), none, none],
  [some (.inl (wn (zL1 1 3))), some (.inl (wIald)), some (.inl (wPI 1 (Int32.ofInt (-1)))), some (.inl (wn (zic .ne 60))), none, none, some (.inl (wn (zLA 1 0))), some (.inl (wPI 1 (Int32.ofInt 2)))],
  [some (.inr (.invokevirtual 91, 204, 2, 12)), none, none, some (.inr (.ireturn, 0, 0, 0)), some (.inl (wn (zLA 1 0))), some (.inl (wGet 12 5)), none, none],
  [some (.inl (wn (zL1 1 1))), some (.inl (wIald)), some (.inl (wn (zLA 1 0))), some (.inl (wGet 12 5)), none, none, some (.inl (wn (zL1 1 3))), some (.inl (wIald))],
  [some (.inl (wn (zic .eq 82))), none, none, some (.inl (wn (zLA 1 0))), some (.inl (wPI 2 (Int8.ofInt 8).toInt32)), none, some (.inr (.invokevirtual 91, 204, 2, 12)), none],
  [none, some (.inr (.ireturn, 0, 0, 0)), some (.inl (wn (zL1 2 5))), none, some (.inl (wn (zLA 1 0))), some (.inl (wGet 12 6)), none, none],
  [some (.inl (wn (zL1 1 1))), some (.inl (wIald)), some (.inl (wn (zL1 1 2))), some (.inl (wn zsub)), some (.inl (wn (zic .gt 109))), none, none, some (.inl (wn (zL1 2 5)))],
  [none, some (.inl (wn (zLA 1 0))), some (.inl (wGet 12 6)), none, none, some (.inl (wn (zL1 1 3))), some (.inl (wIald)), some (.inl (wn (zL1 2 4)))],
  [none, some (.inl (wn zsub)), some (.inl (wn (zic .le 115))), none, none, some (.inl (wn (zLA 1 0))), some (.inl (wPI 1 (Int32.ofInt 3))), some (.inr (.invokevirtual 91, 204, 2, 12))],
  [none, none, some (.inr (.ireturn, 0, 0, 0)), some (.inl (wPI 1 (Int32.ofInt 0))), some (.inl (wn (zS1 2 6))), none, some (.inl (wn (zL1 2 6))), none],
  [some (.inl (wn (zL1 2 5))), none, some (.inl (wn (zic .ge 180))), none, none, some (.inl (wn (zL1 1 2))), some (.inl (wn (zL1 2 4))), none],
  [some (.inl (wn (zic .ge 141))), none, none, some (.inl (wn (zL1 2 5))), none, some (.inl (wPI 1 (Int32.ofInt 1))), some (.inl (wn zsub)), some (.inl (wn (zL1 2 6)))],
  [none, some (.inl (wn zsub)), some (.inl (wGo 143)), none, none, some (.inl (wn (zL1 2 6))), none, some (.inl (wn (zS1 2 7)))],
  [none, some (.inl (wn (zLA 1 0))), some (.inl (wGet 12 7)), none, none, some (.inl (wPI 2 (Int8.ofInt 60).toInt32)), none, some (.inl (wn (zL1 1 3)))],
  [some (.inl (wn zmul)), some (.inl (wn (zL1 2 4))), none, some (.inl (wn zadd)), some (.inl (wn (zL1 2 7))), none, some (.inl (wn zadd)), some (.inl (wn (zLA 1 0)))],
  [some (.inl (wGet 12 7)), none, none, some (.inl (wPI 2 (Int8.ofInt 60).toInt32)), none, some (.inl (wn (zL1 1 1))), some (.inl (wn zmul)), some (.inl (wn (zL1 1 2)))],
  [some (.inl (wn zadd)), some (.inl (wn (zL1 2 7))), none, some (.inl (wn zadd)), some (.inl (wAld 22)), some (.inl (wLast)), some (.inl (wn (zinc 6 1))), none],
  [none, some (.inl (wGo 118)), none, none, some (.inl (wn (zLA 1 0))), some (.inl (wPI 1 (Int32.ofInt 0))), some (.inr (.invokevirtual 91, 204, 2, 12)), none],
  [none, some (.inr (.ireturn, 0, 0, 0))]]
theorem wk_215 : wt_215 = xt_215.map (fun l => l.map (Option.map wcv)) := rfl
noncomputable def wt_216 : wT := [[some (.inl (wn (zL2 1 0))), some (.inl (wn (zL2 1 2))), some (.inl (wn zlcm)), some (.inl (wn (zif .lt 17))), none, none, some (.inl (wn (zL2 1 0))), some (.inl (wn (zL2 2 4)))],
  [none, some (.inl (wn zlcm)), some (.inl (wn (zif .gt 17))), none, none, some (.inl (wPI 1 (Int32.ofInt 1))), some (.inl (wGo 18)), none],
  [none, some (.inl (wPI 1 (Int32.ofInt 0))), some (.inr (.ireturn, 0, 0, 0))]]
theorem wk_216 : wt_216 = xt_216.map (fun l => l.map (Option.map wcv)) := rfl
noncomputable def wt_217 : wT := [[some (.inl (wn (zLA 1 0))), some (.inl (wGet 12 10)), none, none, some (.inl (wPI 2 (Int8.ofInt 20).toInt32)), none, some (.inl (wn zadd)), some (.inl (wPI 3 (Int16.ofInt 900).toInt32))],
  [none, none, some (.inl (wn (zic .le 15))), none, none, some (.inl (wPI 1 (Int32.ofInt (-1)))), some (.inr (.ireturn, 0, 0, 0)), some (.inl (wn (zLA 1 0)))],
  [some (.inl (wn (zL1 1 1))), some (.inr (.invokevirtual 111, 218, 2, 12)), none, none, some (.inl (wn (zLA 1 0))), some (.inl (wn (zL1 1 2))), some (.inr (.invokevirtual 111, 218, 2, 12)), none],
  [none, some (.inl (wn (zLA 1 0))), some (.inl (wn (zL1 1 3))), some (.inr (.invokevirtual 111, 218, 2, 12)), none, none, some (.inl (wn (zLA 1 0))), some (.inl (wn (zL1 2 4)))],
  [none, some (.inr (.invokevirtual 111, 218, 2, 12)), none, none, some (.inl (wn (zLA 1 0))), some (.inl (wn (zL1 2 5))), none, some (.inr (.invokevirtual 111, 218, 2, 12))],
  [none, none, some (.inl (wn (zLA 1 0))), some (.inl (wGet 12 10)), none, none, some (.inr (.ireturn, 0, 0, 0))]]
theorem wk_217 : wt_217 = xt_217.map (fun l => l.map (Option.map wcv)) := rfl
noncomputable def wt_218 : wT := [[some (.inl (wPI 2 (Int8.ofInt 24).toInt32)), none, some (.inl (wn (zS1 1 2))), some (.inl (wn (zL1 1 2))), some (.inl (wn (zif .lt 36))), none, none, some (.inl (wn (zLA 1 0)))],
  [some (.inl (wGet 12 8)), none, none, some (.inl (wn (zLA 1 0))), some (.inl (wGet 12 10)), none, none, some (.inl (wn (zL1 1 1)))],
  [some (.inl (wn (zL1 1 2))), some (.inl (wn zshr)), some (.inl (wn zi2b)), some (.inl (wBast)), some (.inl (wn (zLA 1 0))), some (.inl (wn zdup)), some (.inl (wGet 12 10)), none],
  [none, some (.inl (wPI 1 (Int32.ofInt 1))), some (.inl (wn zadd)), some (.inl (wPut 12 10)), none, none, some (.inl (wn (zinc 2 (-8)))), none],
  [none, some (.inl (wGo 3)), none, none, some (.inr (.return_, 0, 0, 0))]]
theorem wk_218 : wt_218 = xt_218.map (fun l => l.map (Option.map wcv)) := rfl
noncomputable def wt_219 : wT := [[some (.inl (wn (zL1 1 1))), some (.inl (wn (zLA 1 0))), some (.inl (wGet 12 11)), none, none, some (.inl (wn (zic .ge 21))), none, none],
  [some (.inl (wn (zLA 1 0))), some (.inl (wGet 12 9)), none, none, some (.inl (wn (zL1 1 1))), some (.inl (wAld 21)), some (.inl (wPI 3 (Int16.ofInt 255).toInt32)), none],
  [none, some (.inl (wn zandI)), some (.inl (wGo 22)), none, none, some (.inl (wPI 1 (Int32.ofInt (-1)))), some (.inr (.ireturn, 0, 0, 0))]]
theorem wk_219 : wt_219 = xt_219.map (fun l => l.map (Option.map wcv)) := rfl
noncomputable def wt_220 : wT := [[some (.inl (wn (zL1 1 0))), some (.inl (wPI 2 (Int8.ofInt 97).toInt32)), none, some (.inl (wn (zic .lt 16))), none, none, some (.inl (wn (zL1 1 0))), some (.inl (wPI 2 (Int8.ofInt 122).toInt32))],
  [none, some (.inl (wn (zic .gt 16))), none, none, some (.inl (wPI 1 (Int32.ofInt 1))), some (.inl (wGo 17)), none, none],
  [some (.inl (wPI 1 (Int32.ofInt 0))), some (.inr (.ireturn, 0, 0, 0))]]
theorem wk_220 : wt_220 = xt_220.map (fun l => l.map (Option.map wcv)) := rfl
noncomputable def wt_221 : wT := [[some (.inl (wn (zL1 1 0))), some (.inl (wPI 2 (Int8.ofInt 48).toInt32)), none, some (.inl (wn (zic .lt 16))), none, none, some (.inl (wn (zL1 1 0))), some (.inl (wPI 2 (Int8.ofInt 57).toInt32))],
  [none, some (.inl (wn (zic .gt 16))), none, none, some (.inl (wPI 1 (Int32.ofInt 1))), some (.inl (wGo 17)), none, none],
  [some (.inl (wPI 1 (Int32.ofInt 0))), some (.inr (.ireturn, 0, 0, 0))]]
theorem wk_221 : wt_221 = xt_221.map (fun l => l.map (Option.map wcv)) := rfl
noncomputable def wt_222 : wT := [[some (.inl (wn (zLA 1 0))), some (.inl (wn (zLA 1 0))), some (.inl (wGet 12 14)), none, none, some (.inr (.invokevirtual 120, 219, 2, 12)), none, none],
  [some (.inl (wPI 2 (Int8.ofInt 32).toInt32)), none, some (.inl (wn (zic .eq 26))), none, none, some (.inl (wn (zLA 1 0))), some (.inl (wn (zLA 1 0))), some (.inl (wGet 12 14))],
  [none, none, some (.inr (.invokevirtual 120, 219, 2, 12)), none, none, some (.inl (wPI 2 (Int8.ofInt 10).toInt32)), none, some (.inl (wn (zic .ne 39)))],
  [none, none, some (.inl (wn (zLA 1 0))), some (.inl (wn zdup)), some (.inl (wGet 12 14)), none, none, some (.inl (wPI 1 (Int32.ofInt 1)))],
  [some (.inl (wn zadd)), some (.inl (wPut 12 14)), none, none, some (.inl (wGo 0)), none, none, some (.inl (wn (zLA 1 0)))],
  [some (.inl (wn (zLA 1 0))), some (.inl (wGet 12 14)), none, none, some (.inl (wPut 12 13)), none, none, some (.inl (wn (zLA 1 0)))],
  [some (.inl (wn (zLA 1 0))), some (.inl (wGet 12 14)), none, none, some (.inr (.invokevirtual 120, 219, 2, 12)), none, none, some (.inl (wn (zS1 1 1)))],
  [some (.inl (wn (zLA 1 0))), some (.inl (wn (zL1 1 1))), some (.inl (wPut 12 15)), none, none, some (.inl (wn (zL1 1 1))), some (.inl (wPI 1 (Int32.ofInt (-1)))), some (.inl (wn (zic .ne 74)))],
  [none, none, some (.inl (wn (zLA 1 0))), some (.inl (wPI 1 (Int32.ofInt 0))), some (.inl (wPut 12 12)), none, none, some (.inl (wGo 251))],
  [none, none, some (.inl (wn (zL1 1 1))), some (.inr (.invokestatic 132, 220, 1, 0)), none, none, some (.inl (wn (zif .eq 116))), none],
  [none, some (.inl (wn (zLA 1 0))), some (.inl (wn (zLA 1 0))), some (.inl (wGet 12 14)), none, none, some (.inr (.invokevirtual 120, 219, 2, 12)), none],
  [none, some (.inr (.invokestatic 132, 220, 1, 0)), none, none, some (.inl (wn (zif .eq 108))), none, none, some (.inl (wn (zLA 1 0)))],
  [some (.inl (wn zdup)), some (.inl (wGet 12 14)), none, none, some (.inl (wPI 1 (Int32.ofInt 1))), some (.inl (wn zadd)), some (.inl (wPut 12 14)), none],
  [none, some (.inl (wGo 81)), none, none, some (.inl (wn (zLA 1 0))), some (.inl (wPI 1 (Int32.ofInt 2))), some (.inl (wPut 12 12)), none],
  [none, some (.inl (wGo 251)), none, none, some (.inl (wn (zL1 1 1))), some (.inr (.invokestatic 135, 221, 1, 0)), none, none],
  [some (.inl (wn (zif .eq 208))), none, none, some (.inl (wn (zLA 1 0))), some (.inl (wPI 1 (Int32.ofInt 0))), some (.inl (wPut 12 15)), none, none],
  [some (.inl (wn (zLA 1 0))), some (.inl (wn (zLA 1 0))), some (.inl (wGet 12 14)), none, none, some (.inr (.invokevirtual 120, 219, 2, 12)), none, none],
  [some (.inr (.invokestatic 135, 221, 1, 0)), none, none, some (.inl (wn (zif .eq 183))), none, none, some (.inl (wn (zLA 1 0))), some (.inl (wPI 2 (Int32.ofInt 100000)))],
  [none, some (.inl (wPI 2 (Int8.ofInt 10).toInt32)), none, some (.inl (wn (zLA 1 0))), some (.inl (wGet 12 15)), none, none, some (.inl (wn zmul))],
  [some (.inl (wn (zLA 1 0))), some (.inl (wn (zLA 1 0))), some (.inl (wGet 12 14)), none, none, some (.inr (.invokevirtual 120, 219, 2, 12)), none, none],
  [some (.inl (wn zadd)), some (.inl (wPI 2 (Int8.ofInt 48).toInt32)), none, some (.inl (wn zsub)), some (.inl (wn zmin)), none, none, some (.inl (wPut 12 15))],
  [none, none, some (.inl (wn (zLA 1 0))), some (.inl (wn zdup)), some (.inl (wGet 12 14)), none, none, some (.inl (wPI 1 (Int32.ofInt 1)))],
  [some (.inl (wn zadd)), some (.inl (wPut 12 14)), none, none, some (.inl (wGo 128)), none, none, some (.inl (wn (zLA 1 0)))],
  [some (.inl (wn (zLA 1 0))), some (.inl (wGet 12 14)), none, none, some (.inl (wn (zLA 1 0))), some (.inl (wGet 12 13)), none, none],
  [some (.inl (wn zsub)), some (.inl (wPI 1 (Int32.ofInt 4))), some (.inl (wn (zic .le 201))), none, none, some (.inl (wPI 1 (Int32.ofInt 1))), some (.inl (wGo 202)), none],
  [none, some (.inl (wPI 1 (Int32.ofInt 3))), some (.inl (wPut 12 12)), none, none, some (.inl (wGo 251)), none, none],
  [some (.inl (wn (zLA 1 0))), some (.inl (wn zdup)), some (.inl (wGet 12 14)), none, none, some (.inl (wPI 1 (Int32.ofInt 1))), some (.inl (wn zadd)), some (.inl (wPut 12 14))],
  [none, none, some (.inl (wn (zLA 1 0))), some (.inl (wn (zL1 1 1))), some (.inl (wPI 2 (Int8.ofInt 59).toInt32)), none, some (.inl (wn (zic .eq 243))), none],
  [none, some (.inl (wn (zL1 1 1))), some (.inl (wPI 2 (Int8.ofInt 60).toInt32)), none, some (.inl (wn (zic .eq 243))), none, none, some (.inl (wn (zL1 1 1)))],
  [some (.inl (wPI 2 (Int8.ofInt 62).toInt32)), none, some (.inl (wn (zic .eq 243))), none, none, some (.inl (wn (zL1 1 1))), some (.inl (wPI 2 (Int8.ofInt 61).toInt32)), none],
  [some (.inl (wn (zic .ne 247))), none, none, some (.inl (wPI 1 (Int32.ofInt 4))), some (.inl (wGo 248)), none, none, some (.inl (wPI 1 (Int32.ofInt 1)))],
  [some (.inl (wPut 12 12)), none, none, some (.inr (.return_, 0, 0, 0))]]
theorem wk_222 : wt_222 = xt_222.map (fun l => l.map (Option.map wcv)) := rfl
noncomputable def wt_223 : wT := [[some (.inl (wn (zLA 1 0))), some (.inl (wGet 12 12)), none, none, some (.inl (wPI 1 (Int32.ofInt 4))), some (.inl (wn (zic .ne 20))), none, none],
  [some (.inl (wn (zLA 1 0))), some (.inl (wGet 12 15)), none, none, some (.inl (wn (zL1 1 1))), some (.inl (wn (zic .ne 20))), none, none],
  [some (.inl (wPI 1 (Int32.ofInt 1))), some (.inl (wGo 21)), none, none, some (.inl (wPI 1 (Int32.ofInt 0))), some (.inr (.ireturn, 0, 0, 0))]]
theorem wk_223 : wt_223 = xt_223.map (fun l => l.map (Option.map wcv)) := rfl
noncomputable def wt_224 : wT := [[some (.inl (wn (zLA 1 0))), some (.inl (wGet 12 12)), none, none, some (.inl (wPI 1 (Int32.ofInt 2))), some (.inl (wn (zic .eq 10))), none, none],
  [some (.inl (wPI 1 (Int32.ofInt (-1)))), some (.inr (.ireturn, 0, 0, 0)), some (.inl (wPI 1 (Int32.ofInt 0))), some (.inl (wn (zS1 1 2))), some (.inl (wPI 1 (Int32.ofInt 1))), some (.inl (wn (zS1 1 3))), some (.inl (wn (zL1 1 3))), some (.inl (wn (zLA 1 1)))],
  [some (.inl (wNo)), none, none, some (.inl (wn (zic .ge 133))), none, none, some (.inl (wn (zL1 1 3))), some (.inl (wn (zS1 2 4)))],
  [none, some (.inl (wn (zLA 1 1))), some (.inl (wn (zL1 2 4))), none, some (.inl (wNo)), none, none, some (.inl (wPI 2 (Int8.ofInt 32).toInt32))],
  [none, some (.inl (wn (zic .eq 42))), none, none, some (.inl (wn (zinc 4 1))), none, none, some (.inl (wGo 25))],
  [none, none, some (.inl (wn (zL1 2 4))), none, some (.inl (wn (zL1 1 3))), some (.inl (wn zsub)), some (.inl (wn (zLA 1 0))), some (.inl (wGet 12 14))],
  [none, none, some (.inl (wn (zLA 1 0))), some (.inl (wGet 12 13)), none, none, some (.inl (wn zsub)), some (.inl (wn (zic .ne 62)))],
  [none, none, some (.inl (wPI 1 (Int32.ofInt 1))), some (.inl (wGo 63)), none, none, some (.inl (wPI 1 (Int32.ofInt 0))), some (.inl (wn (zS1 2 5)))],
  [none, some (.inl (wn (zL1 1 3))), some (.inl (wn (zS1 2 6))), none, some (.inl (wn (zL1 2 6))), none, some (.inl (wn (zL1 2 4))), none],
  [some (.inl (wn (zic .ge 115))), none, none, some (.inl (wn (zL1 2 5))), none, some (.inl (wn (zif .eq 115))), none, none],
  [some (.inl (wn (zLA 1 1))), some (.inl (wn (zL1 2 6))), none, some (.inl (wNo)), none, none, some (.inl (wn (zLA 1 0))), some (.inl (wn (zLA 1 0)))],
  [some (.inl (wGet 12 13)), none, none, some (.inl (wn (zL1 2 6))), none, some (.inl (wn zadd)), some (.inl (wn (zL1 1 3))), some (.inl (wn zsub))],
  [some (.inr (.invokevirtual 120, 219, 2, 12)), none, none, some (.inl (wn (zic .ne 106))), none, none, some (.inl (wPI 1 (Int32.ofInt 1))), some (.inl (wGo 107))],
  [none, none, some (.inl (wPI 1 (Int32.ofInt 0))), some (.inl (wn (zS1 2 5))), none, some (.inl (wn (zinc 6 1))), none, none],
  [some (.inl (wGo 68)), none, none, some (.inl (wn (zL1 2 5))), none, some (.inl (wn (zif .eq 122))), none, none],
  [some (.inl (wn (zL1 1 2))), some (.inr (.ireturn, 0, 0, 0)), some (.inl (wn (zinc 2 1))), none, none, some (.inl (wn (zL1 2 4))), none, some (.inl (wPI 1 (Int32.ofInt 1)))],
  [some (.inl (wn zadd)), some (.inl (wn (zS1 1 3))), some (.inl (wGo 14)), none, none, some (.inl (wPI 1 (Int32.ofInt (-1)))), some (.inr (.ireturn, 0, 0, 0))]]
theorem wk_224 : wt_224 = xt_224.map (fun l => l.map (Option.map wcv)) := rfl
noncomputable def wt_225 : wT := [[some (.inl (wn (zLA 1 0))), some (.inl (wGet 12 18)), none, none, some (.inl (wn (zif .ne 32))), none, none, some (.inl (wn (zLA 1 0)))],
  [some (.inl (wn (zLA 1 0))), some (.inl (wGet 12 12)), none, none, some (.inl (wPI 1 (Int32.ofInt 1))), some (.inl (wn (zic .ne 20))), none, none],
  [some (.inl (wPI 1 (Int32.ofInt 1))), some (.inl (wGo 21)), none, none, some (.inl (wn (zL1 1 1))), some (.inl (wPut 12 18)), none, none],
  [some (.inl (wn (zLA 1 0))), some (.inl (wn (zLA 1 0))), some (.inl (wGet 12 13)), none, none, some (.inl (wPut 12 17)), none, none],
  [some (.inl (wPI 1 (Int32.ofInt 0))), some (.inr (.ireturn, 0, 0, 0))]]
theorem wk_225 : wt_225 = xt_225.map (fun l => l.map (Option.map wcv)) := rfl
noncomputable def wt_226 : wT := [[some (.inl (wn (zL1 1 1))), some (.inl (wn (zif .lt 17))), none, none, some (.inl (wn (zL1 1 1))), some (.inl (wn (zLA 1 0))), some (.inl (wGet 12 10)), none],
  [none, some (.inl (wn (zic .gt 17))), none, none, some (.inl (wn (zL1 1 1))), some (.inl (wn (zL1 1 2))), some (.inl (wn (zic .le 19))), none],
  [none, some (.inl (wPI 1 (Int32.ofInt 0))), some (.inr (.ireturn, 0, 0, 0)), some (.inl (wn (zLA 1 0))), some (.inl (wn (zL1 1 1))), some (.inl (wPut 12 11)), none, none],
  [some (.inl (wPI 1 (Int32.ofInt 0))), some (.inl (wn (zS1 1 3))), some (.inl (wn (zL1 1 3))), some (.inl (wn (zL1 1 1))), some (.inl (wn (zic .ge 49))), none, none, some (.inl (wn (zLA 1 0)))],
  [some (.inl (wGet 12 9)), none, none, some (.inl (wn (zL1 1 3))), some (.inl (wn (zLA 1 0))), some (.inl (wGet 12 8)), none, none],
  [some (.inl (wn (zL1 1 3))), some (.inl (wAld 21)), some (.inl (wBast)), some (.inl (wn (zinc 3 1))), none, none, some (.inl (wGo 26)), none],
  [none, some (.inl (wn (zLA 1 0))), some (.inl (wPI 1 (Int32.ofInt 0))), some (.inl (wPut 12 10)), none, none, some (.inl (wn (zLA 1 0))), some (.inl (wPI 1 (Int32.ofInt 0)))],
  [some (.inl (wPut 12 18)), none, none, some (.inl (wn (zLA 1 0))), some (.inl (wPI 1 (Int32.ofInt (-1)))), some (.inl (wPut 12 17)), none, none],
  [some (.inl (wn (zLA 1 0))), some (.inl (wPI 1 (Int32.ofInt 0))), some (.inl (wPut 12 14)), none, none, some (.inl (wn (zLA 1 0))), some (.inl (wPI 1 (Int32.ofInt 0))), some (.inl (wPut 12 19))],
  [none, none, some (.inl (wn (zLA 1 0))), some (.inr (.invokevirtual 160, 222, 1, 12)), none, none, some (.inl (wPI 1 (Int32.ofInt 1))), some (.inr (.ireturn, 0, 0, 0))]]
theorem wk_226 : wt_226 = xt_226.map (fun l => l.map (Option.map wcv)) := rfl
noncomputable def wt_227 : wT := [[some (.inl (wn (zLA 1 0))), some (.inl (wn (zL1 1 1))), some (.inr (.invokevirtual 163, 223, 2, 12)), none, none, some (.inl (wn (zif .ne 14))), none, none],
  [some (.inl (wn (zLA 1 0))), some (.inl (wPI 1 (Int32.ofInt 2))), some (.inr (.invokevirtual 166, 225, 2, 12)), none, none, some (.inr (.ireturn, 0, 0, 0)), some (.inl (wn (zLA 1 0))), some (.inr (.invokevirtual 160, 222, 1, 12))],
  [none, none, some (.inl (wPI 1 (Int32.ofInt 1))), some (.inr (.ireturn, 0, 0, 0))]]
theorem wk_227 : wt_227 = xt_227.map (fun l => l.map (Option.map wcv)) := rfl
noncomputable def wt_228 : wT := [[some (.inl (wn (zLA 1 0))), some (.inl (wn (zLA 1 1))), some (.inr (.invokevirtual 169, 224, 2, 12)), none, none, some (.inl (wn (zL1 1 2))), some (.inl (wn (zic .eq 15))), none],
  [none, some (.inl (wn (zLA 1 0))), some (.inl (wPI 1 (Int32.ofInt 2))), some (.inr (.invokevirtual 166, 225, 2, 12)), none, none, some (.inr (.ireturn, 0, 0, 0)), some (.inl (wn (zLA 1 0)))],
  [some (.inr (.invokevirtual 160, 222, 1, 12)), none, none, some (.inl (wPI 1 (Int32.ofInt 1))), some (.inr (.ireturn, 0, 0, 0))]]
theorem wk_228 : wt_228 = xt_228.map (fun l => l.map (Option.map wcv)) := rfl
noncomputable def wt_229 : wT := [[some (.inl (wn (zLA 1 0))), some (.inl (wGet 12 12)), none, none, some (.inl (wPI 1 (Int32.ofInt 3))), some (.inl (wn (zic .eq 14))), none, none],
  [some (.inl (wn (zLA 1 0))), some (.inl (wPI 1 (Int32.ofInt 2))), some (.inr (.invokevirtual 166, 225, 2, 12)), none, none, some (.inr (.ireturn, 0, 0, 0)), some (.inl (wn (zLA 1 0))), some (.inl (wGet 12 15))],
  [none, none, some (.inl (wn (zL1 1 2))), some (.inl (wn (zic .lt 30))), none, none, some (.inl (wn (zLA 1 0))), some (.inl (wGet 12 15))],
  [none, none, some (.inl (wn (zL1 1 3))), some (.inl (wn (zic .le 36))), none, none, some (.inl (wn (zLA 1 0))), some (.inl (wPI 1 (Int32.ofInt 4)))],
  [some (.inr (.invokevirtual 166, 225, 2, 12)), none, none, some (.inr (.ireturn, 0, 0, 0)), some (.inl (wn (zLA 1 0))), some (.inl (wGet 12 0)), none, none],
  [some (.inl (wn (zL1 1 1))), some (.inl (wn (zLA 1 0))), some (.inl (wGet 12 15)), none, none, some (.inl (wIast)), some (.inl (wn (zLA 1 0))), some (.inr (.invokevirtual 160, 222, 1, 12))],
  [none, none, some (.inl (wPI 1 (Int32.ofInt 1))), some (.inr (.ireturn, 0, 0, 0))]]
theorem wk_229 : wt_229 = xt_229.map (fun l => l.map (Option.map wcv)) := rfl
noncomputable def wt_230 : wT := [[some (.inl (wn (zLA 1 0))), some (.inl (wGet 12 12)), none, none, some (.inl (wPI 1 (Int32.ofInt 2))), some (.inl (wn (zic .ne 35))), none, none],
  [some (.inl (wn (zLA 1 0))), some (.inl (wGet 12 14)), none, none, some (.inl (wn (zLA 1 0))), some (.inl (wGet 12 13)), none, none],
  [some (.inl (wn zsub)), some (.inl (wPI 2 (Int8.ofInt 8).toInt32)), none, some (.inl (wn (zic .gt 35))), none, none, some (.inl (wn (zLA 1 0))), some (.inl (wn (zLA 1 1)))],
  [some (.inr (.invokevirtual 169, 224, 2, 12)), none, none, some (.inl (wPI 1 (Int32.ofInt (-1)))), some (.inl (wn (zic .ne 35))), none, none, some (.inl (wPI 1 (Int32.ofInt 1)))],
  [some (.inl (wGo 36)), none, none, some (.inl (wPI 1 (Int32.ofInt 0))), some (.inr (.ireturn, 0, 0, 0))]]
theorem wk_230 : wt_230 = xt_230.map (fun l => l.map (Option.map wcv)) := rfl
noncomputable def wt_231 : wT := [[some (.inl (wPL 1 (Int64.ofNat 0))), some (.inl (wn (zS2 1 1))), some (.inl (wn (zLA 1 0))), some (.inl (wGet 12 13)), none, none, some (.inl (wn (zS1 1 3))), some (.inl (wn (zL1 1 3)))],
  [some (.inl (wn (zLA 1 0))), some (.inl (wGet 12 14)), none, none, some (.inl (wn (zic .ge 33))), none, none, some (.inl (wn (zL2 1 1)))],
  [some (.inl (wPI 2 (Int8.ofInt 8).toInt32)), none, some (.inl (wn zlshl)), some (.inl (wn (zLA 1 0))), some (.inl (wn (zL1 1 3))), some (.inr (.invokevirtual 120, 219, 2, 12)), none, none],
  [some (.inl (wn zi2l)), some (.inl (wn zlor)), some (.inl (wn (zS2 1 1))), some (.inl (wn (zinc 3 1))), none, none, some (.inl (wGo 7)), none],
  [none, some (.inl (wn (zL2 1 1))), some (.inr (.lreturn, 0, 0, 0))]]
theorem wk_231 : wt_231 = xt_231.map (fun l => l.map (Option.map wcv)) := rfl
noncomputable def wt_232 : wT := [[some (.inl (wPI 1 (Int32.ofInt 0))), some (.inl (wn (zS1 1 3))), some (.inl (wn (zL1 1 3))), some (.inl (wn (zL1 1 2))), some (.inl (wn (zic .ge 31))), none, none, some (.inl (wn (zLA 1 0)))],
  [some (.inl (wGet 12 1)), none, none, some (.inl (wn (zL1 1 1))), some (.inl (wn (zL1 1 3))), some (.inl (wn zadd)), some (.inl (wAld 22)), some (.inl (wn (zLA 1 0)))],
  [some (.inr (.invokevirtual 173, 231, 1, 12)), none, none, some (.inl (wn zlcm)), some (.inl (wn (zif .ne 25))), none, none, some (.inl (wn (zL1 1 3)))],
  [some (.inr (.ireturn, 0, 0, 0)), some (.inl (wn (zinc 3 1))), none, none, some (.inl (wGo 2)), none, none, some (.inl (wPI 1 (Int32.ofInt (-1))))],
  [some (.inr (.ireturn, 0, 0, 0))]]
theorem wk_232 : wt_232 = xt_232.map (fun l => l.map (Option.map wcv)) := rfl
noncomputable def wt_233 : wT := [[some (.inl (wn (zL1 1 1))), some (.inl (wn (zif .ne 11))), none, none, some (.inl (wn (zLA 1 0))), some (.inl (wGet 12 16)), none, none],
  [some (.inl (wGo 24)), none, none, some (.inl (wn (zL1 1 1))), some (.inl (wPI 1 (Int32.ofInt 1))), some (.inl (wn (zic .ne 23))), none, none],
  [some (.inl (wn (zLA 1 0))), some (.inl (wGet 12 17)), none, none, some (.inl (wGo 24)), none, none, some (.inl (wPI 1 (Int32.ofInt (-1))))],
  [some (.inr (.ireturn, 0, 0, 0))]]
theorem wk_233 : wt_233 = xt_233.map (fun l => l.map (Option.map wcv)) := rfl
noncomputable def wt_234 : wT := [[some (.inl (wn (zLA 1 0))), some (.inl (wn (zLA 1 0))), some (.inl (wGet 12 18)), none, none, some (.inl (wPut 12 16)), none, none],
  [some (.inl (wn (zLA 1 0))), some (.inl (wGet 12 18)), none, none, some (.inl (wn (zif .le 24))), none, none, some (.inl (wn (zLA 1 0)))],
  [some (.inl (wPI 2 (Int8.ofInt 9).toInt32)), none, some (.inr (.invokevirtual 84, 205, 2, 12)), none, none, some (.inl (wGo 29)), none, none],
  [some (.inl (wn (zLA 1 0))), some (.inl (wn (zL1 1 1))), some (.inr (.invokevirtual 88, 206, 2, 12)), none, none, some (.inr (.ireturn, 0, 0, 0))]]
theorem wk_234 : wt_234 = xt_234.map (fun l => l.map (Option.map wcv)) := rfl
noncomputable def wt_235 : wT := [[some (.inl (wn (zLA 1 0))), some (.inl (wNo)), none, some (.inr (.invokevirtual 169, 224, 2, 12)), none, none, some (.inl (wn (zL1 1 1))), some (.inl (wn (zic .eq 12)))],
  [none, none, some (.inl (wPI 1 (Int32.ofInt 0))), some (.inr (.ireturn, 0, 0, 0)), some (.inl (wn (zLA 1 0))), some (.inr (.invokevirtual 160, 222, 1, 12)), none, none],
  [some (.inl (wPI 1 (Int32.ofInt 1))), some (.inr (.ireturn, 0, 0, 0))]]
theorem wk_235 : wt_235 = xt_235.map (fun l => l.map (Option.map wcv)) := rfl
noncomputable def wt_236 : wT := [[some (.inl (wn (zLA 1 0))), some (.inl (wGet 12 0)), none, none, some (.inl (wPI 3 (Int16.ofInt 2480).toInt32)), none, none, some (.inl (wn (zL1 1 1)))],
  [some (.inl (wn zadd)), some (.inl (wIald)), some (.inl (wn (zL1 1 2))), some (.inl (wn (zic .ne 21))), none, none, some (.inl (wn (zLA 1 0))), some (.inl (wPI 2 (Int8.ofInt 6).toInt32))],
  [none, some (.inr (.invokevirtual 166, 225, 2, 12)), none, none, some (.inr (.ireturn, 0, 0, 0)), some (.inl (wn (zLA 1 0))), some (.inr (.invokevirtual 160, 222, 1, 12)), none],
  [none, some (.inl (wn (zLA 1 0))), some (.inl (wNo)), none, some (.inr (.invokevirtual 179, 230, 2, 12)), none, none, some (.inl (wn (zif .ne 40)))],
  [none, none, some (.inl (wn (zLA 1 0))), some (.inl (wPI 1 (Int32.ofInt 2))), some (.inr (.invokevirtual 166, 225, 2, 12)), none, none, some (.inr (.ireturn, 0, 0, 0))],
  [some (.inl (wn (zLA 1 0))), some (.inl (wPI 2 (Int8.ofInt 60).toInt32)), none, some (.inl (wn (zLA 1 0))), some (.inl (wGet 12 0)), none, none, some (.inl (wPI 3 (Int16.ofInt 2482).toInt32))],
  [none, none, some (.inl (wIald)), some (.inr (.invokevirtual 183, 232, 3, 12)), none, none, some (.inl (wPI 1 (Int32.ofInt (-1)))), some (.inl (wn (zic .ne 94)))],
  [none, none, some (.inl (wn (zLA 1 0))), some (.inl (wPI 2 (Int8.ofInt 65).toInt32)), none, some (.inl (wn (zLA 1 0))), some (.inl (wGet 12 0)), none],
  [none, some (.inl (wPI 3 (Int16.ofInt 2483).toInt32)), none, none, some (.inl (wIald)), some (.inr (.invokevirtual 183, 232, 3, 12)), none, none],
  [some (.inl (wPI 1 (Int32.ofInt (-1)))), some (.inl (wn (zic .ne 94))), none, none, some (.inl (wn (zLA 1 0))), some (.inl (wPI 2 (Int8.ofInt 71).toInt32)), none, some (.inl (wn (zLA 1 0)))],
  [some (.inl (wGet 12 0)), none, none, some (.inl (wPI 3 (Int16.ofInt 2484).toInt32)), none, none, some (.inl (wIald)), some (.inr (.invokevirtual 183, 232, 3, 12))],
  [none, none, some (.inl (wPI 1 (Int32.ofInt (-1)))), some (.inl (wn (zic .eq 100))), none, none, some (.inl (wn (zLA 1 0))), some (.inl (wPI 1 (Int32.ofInt 3)))],
  [some (.inr (.invokevirtual 166, 225, 2, 12)), none, none, some (.inr (.ireturn, 0, 0, 0)), some (.inl (wn (zLA 1 0))), some (.inl (wGet 12 1)), none, none],
  [some (.inl (wPI 2 (Int8.ofInt 60).toInt32)), none, some (.inl (wn (zL1 1 3))), some (.inl (wn zadd)), some (.inl (wn (zLA 1 0))), some (.inl (wGet 12 0)), none, none],
  [some (.inl (wPI 3 (Int16.ofInt 2480).toInt32)), none, none, some (.inl (wn (zL1 1 1))), some (.inl (wn zadd)), some (.inl (wIald)), some (.inl (wn zadd)), some (.inl (wn (zLA 1 0)))],
  [some (.inr (.invokevirtual 173, 231, 1, 12)), none, none, some (.inl (wLast)), some (.inl (wn (zLA 1 0))), some (.inr (.invokevirtual 160, 222, 1, 12)), none, none],
  [some (.inl (wPI 1 (Int32.ofInt 1))), some (.inr (.ireturn, 0, 0, 0))]]
theorem wk_236 : wt_236 = xt_236.map (fun l => l.map (Option.map wcv)) := rfl
noncomputable def wt_237 : wT := [[some (.inl (wn (zLA 1 0))), some (.inl (wNo)), none, some (.inr (.invokevirtual 179, 230, 2, 12)), none, none, some (.inl (wn (zif .ne 15))), none],
  [none, some (.inl (wn (zLA 1 0))), some (.inl (wPI 1 (Int32.ofInt 2))), some (.inr (.invokevirtual 166, 225, 2, 12)), none, none, some (.inr (.ireturn, 0, 0, 0)), some (.inl (wn (zLA 1 0)))],
  [some (.inl (wGet 12 0)), none, none, some (.inl (wn (zL1 1 1))), some (.inl (wn (zLA 1 0))), some (.inl (wPI 2 (Int8.ofInt 60).toInt32)), none, some (.inl (wn (zLA 1 0)))],
  [some (.inl (wGet 12 0)), none, none, some (.inl (wPI 3 (Int16.ofInt 2482).toInt32)), none, none, some (.inl (wIald)), some (.inr (.invokevirtual 183, 232, 3, 12))],
  [none, none, some (.inl (wIast)), some (.inl (wn (zLA 1 0))), some (.inl (wGet 12 0)), none, none, some (.inl (wn (zL1 1 1)))],
  [some (.inl (wIald)), some (.inl (wPI 1 (Int32.ofInt (-1)))), some (.inl (wn (zic .ne 51))), none, none, some (.inl (wn (zLA 1 0))), some (.inl (wPI 1 (Int32.ofInt 3))), some (.inr (.invokevirtual 166, 225, 2, 12))],
  [none, none, some (.inr (.ireturn, 0, 0, 0)), some (.inl (wn (zLA 1 0))), some (.inr (.invokevirtual 160, 222, 1, 12)), none, none, some (.inl (wPI 1 (Int32.ofInt 1)))],
  [some (.inr (.ireturn, 0, 0, 0))]]
theorem wk_237 : wt_237 = xt_237.map (fun l => l.map (Option.map wcv)) := rfl
noncomputable def wt_238 : wT := [[some (.inl (wPI 3 (Int16.ofInt 3092).toInt32)), none, none, some (.inl (wn (zS1 1 3))), some (.inl (wn (zLA 1 0))), some (.inl (wn (zL1 1 3))), some (.inl (wPI 1 (Int32.ofInt 0))), some (.inl (wn (zLA 1 0)))],
  [some (.inl (wGet 12 0)), none, none, some (.inl (wPI 3 (Int16.ofInt 2480).toInt32)), none, none, some (.inl (wIald)), some (.inl (wPI 1 (Int32.ofInt 1)))],
  [some (.inl (wn zsub)), some (.inr (.invokevirtual 186, 229, 4, 12)), none, none, some (.inl (wn (zif .ne 25))), none, none, some (.inl (wPI 1 (Int32.ofInt 0)))],
  [some (.inr (.ireturn, 0, 0, 0)), some (.inl (wn (zLA 1 0))), some (.inl (wGet 12 12)), none, none, some (.inl (wPI 1 (Int32.ofInt 3))), some (.inl (wn (zic .ne 86))), none],
  [none, some (.inl (wn (zLA 1 0))), some (.inl (wGet 12 15)), none, none, some (.inl (wn (zif .lt 86))), none, none],
  [some (.inl (wn (zLA 1 0))), some (.inl (wGet 12 15)), none, none, some (.inl (wn (zLA 1 0))), some (.inl (wGet 12 0)), none, none],
  [some (.inl (wPI 3 (Int16.ofInt 2481).toInt32)), none, none, some (.inl (wIald)), some (.inl (wn (zic .ge 86))), none, none, some (.inl (wn (zL1 1 2)))],
  [some (.inl (wn (zif .eq 86))), none, none, some (.inl (wn (zLA 1 0))), some (.inl (wPI 2 (Int8.ofInt 6).toInt32)), none, some (.inl (wn (zLA 1 0))), some (.inl (wGet 12 15))],
  [none, none, some (.inl (wn zmul)), some (.inl (wn (zLA 1 0))), some (.inl (wGet 12 0)), none, none, some (.inl (wn (zL1 1 3)))],
  [some (.inl (wIald)), some (.inl (wn zadd)), some (.inr (.invokevirtual 190, 239, 2, 12)), none, none, some (.inl (wn (zif .eq 86))), none, none],
  [some (.inl (wn (zLA 1 0))), some (.inl (wPI 1 (Int32.ofInt 5))), some (.inr (.invokevirtual 166, 225, 2, 12)), none, none, some (.inr (.ireturn, 0, 0, 0)), some (.inl (wn (zLA 1 0))), some (.inl (wn (zL1 1 3)))],
  [some (.inl (wPI 1 (Int32.ofInt 1))), some (.inl (wn zadd)), some (.inl (wPI 1 (Int32.ofInt 0))), some (.inl (wn (zLA 1 0))), some (.inl (wGet 12 0)), none, none, some (.inl (wPI 3 (Int16.ofInt 2481).toInt32))],
  [none, none, some (.inl (wIald)), some (.inl (wPI 1 (Int32.ofInt 1))), some (.inl (wn zsub)), some (.inr (.invokevirtual 186, 229, 4, 12)), none, none],
  [some (.inl (wn (zif .ne 109))), none, none, some (.inl (wPI 1 (Int32.ofInt 0))), some (.inr (.ireturn, 0, 0, 0)), some (.inl (wn (zLA 1 0))), some (.inl (wGet 12 0)), none],
  [none, some (.inl (wn (zL1 1 1))), some (.inl (wPI 2 (Int8.ofInt 6).toInt32)), none, some (.inl (wn (zLA 1 0))), some (.inl (wGet 12 0)), none, none],
  [some (.inl (wn (zL1 1 3))), some (.inl (wPI 1 (Int32.ofInt 1))), some (.inl (wn zadd)), some (.inl (wIald)), some (.inl (wn zmul)), some (.inl (wn (zLA 1 0))), some (.inl (wGet 12 0)), none],
  [none, some (.inl (wn (zL1 1 3))), some (.inl (wIald)), some (.inl (wn zadd)), some (.inl (wIast)), some (.inl (wPI 1 (Int32.ofInt 1))), some (.inr (.ireturn, 0, 0, 0))]]
theorem wk_238 : wt_238 = xt_238.map (fun l => l.map (Option.map wcv)) := rfl
noncomputable def wt_239 : wT := [[some (.inl (wn (zLA 1 0))), some (.inl (wGet 12 0)), none, none, some (.inl (wPI 3 (Int16.ofInt 2490).toInt32)), none, none, some (.inl (wn (zL1 1 1)))],
  [some (.inl (wn zadd)), some (.inl (wIald)), some (.inl (wPI 1 (Int32.ofInt 1))), some (.inl (wn (zic .ne 18))), none, none, some (.inl (wPI 1 (Int32.ofInt 1))), some (.inl (wGo 19))],
  [none, none, some (.inl (wPI 1 (Int32.ofInt 0))), some (.inl (wn (zS1 1 2))), some (.inl (wPI 1 (Int32.ofInt 0))), some (.inl (wn (zS1 1 3))), some (.inl (wn (zL1 1 3))), some (.inl (wn (zLA 1 0)))],
  [some (.inl (wGet 12 0)), none, none, some (.inl (wPI 3 (Int16.ofInt 2482).toInt32)), none, none, some (.inl (wIald)), some (.inl (wn (zic .ge 67)))],
  [none, none, some (.inl (wn (zL1 1 2))), some (.inl (wn (zif .ne 55))), none, none, some (.inl (wn (zLA 1 0))), some (.inl (wGet 12 0))],
  [none, none, some (.inl (wPI 3 (Int16.ofInt 2520).toInt32)), none, none, some (.inl (wPI 2 (Int8.ofInt 14).toInt32)), none, some (.inl (wn (zL1 1 3)))],
  [some (.inl (wn zmul)), some (.inl (wn zadd)), some (.inl (wIald)), some (.inl (wn (zL1 1 1))), some (.inl (wn (zic .ne 59))), none, none, some (.inl (wPI 1 (Int32.ofInt 1)))],
  [some (.inl (wGo 60)), none, none, some (.inl (wPI 1 (Int32.ofInt 0))), some (.inl (wn (zS1 1 2))), some (.inl (wn (zinc 3 1))), none, none],
  [some (.inl (wGo 22)), none, none, some (.inl (wn (zL1 1 2))), some (.inr (.ireturn, 0, 0, 0))]]
theorem wk_239 : wt_239 = xt_239.map (fun l => l.map (Option.map wcv)) := rfl
