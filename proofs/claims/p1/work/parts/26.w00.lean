noncomputable def wt_0 : wT := [[some (.inl (wn (zLA 1 0))), some (.inl (wn zobj)), none, none, some (.inl (wn (zLA 1 0))), some (.inl (wNo)), none, none],
  [some (.inl (wn zdup)), some (.inr (.invokespecial 13, 9, 1, 1)), none, none, some (.inl (wPut 0 0)), none, none, some (.inl (wn (zLA 1 0)))],
  [some (.inl (wPI 3 (Int16.ofInt 201).toInt32)), none, none, some (.inl (wNo)), none, some (.inl (wPut 0 1)), none, none],
  [some (.inl (wn (zLA 1 0))), some (.inl (wPI 3 (Int16.ofInt 201).toInt32)), none, none, some (.inl (wNo)), none, some (.inl (wPut 0 2)), none],
  [none, some (.inl (wn (zLA 1 0))), some (.inl (wPI 2 (Int8.ofInt 64).toInt32)), none, some (.inl (wNo)), none, some (.inl (wPut 0 3)), none],
  [none, some (.inr (.return_, 0, 0, 0))]]
theorem wk_0 : wt_0 = xt_0.map (fun l => l.map (Option.map wcv)) := rfl
noncomputable def wt_1 : wT := [[some (.inl (wn (zLA 1 0))), some (.inl (wGet 0 0)), none, none, some (.inl (wn (zLA 1 1))), some (.inl (wGet 10 1)), none, none],
  [some (.inr (.invokevirtual 34, 10, 2, 1)), none, none, some (.inl (wPI 1 (Int32.ofInt 0))), some (.inl (wn (zS1 1 3))), some (.inl (wn (zL1 1 3))), some (.inl (wn (zL1 1 2))), some (.inl (wn (zic .ge 35)))],
  [none, none, some (.inl (wn (zLA 1 0))), some (.inl (wGet 0 0)), none, none, some (.inl (wn (zLA 1 1))), some (.inl (wGet 10 0))],
  [none, none, some (.inr (.invokevirtual 42, 18, 2, 1)), none, none, some (.inl (wn (zinc 3 1))), none, none],
  [some (.inl (wGo 13)), none, none, some (.inr (.return_, 0, 0, 0))]]
theorem wk_1 : wt_1 = xt_1.map (fun l => l.map (Option.map wcv)) := rfl
noncomputable def wt_2 : wT := [[some (.inl (wn (zLA 1 0))), some (.inl (wGet 0 0)), none, none, some (.inl (wn (zLA 1 1))), some (.inl (wGet 10 1)), none, none],
  [some (.inr (.invokevirtual 34, 10, 2, 1)), none, none, some (.inl (wn (zLA 1 0))), some (.inl (wGet 0 1)), none, none, some (.inl (wPI 1 (Int32.ofInt 0)))],
  [some (.inl (wn (zLA 1 1))), some (.inl (wGet 10 2)), none, none, some (.inl (wn (zLA 1 0))), some (.inl (wGet 0 0)), none, none],
  [some (.inr (.invokevirtual 50, 92, 2, 8)), none, none, some (.inl (wIast)), some (.inl (wPI 1 (Int32.ofInt 1))), some (.inl (wn (zS1 1 3))), some (.inl (wn (zL1 1 3))), some (.inl (wn (zL1 1 2)))],
  [some (.inl (wn (zic .gt 76))), none, none, some (.inl (wn (zL1 1 3))), some (.inl (wPI 3 (Int16.ofInt 200).toInt32)), none, none, some (.inl (wn (zic .gt 76)))],
  [none, none, some (.inl (wn (zLA 1 0))), some (.inl (wGet 0 0)), none, none, some (.inl (wn (zLA 1 1))), some (.inl (wGet 10 0))],
  [none, none, some (.inr (.invokevirtual 42, 18, 2, 1)), none, none, some (.inl (wn (zLA 1 0))), some (.inl (wGet 0 1)), none],
  [none, some (.inl (wn (zL1 1 3))), some (.inl (wn (zLA 1 1))), some (.inl (wGet 10 2)), none, none, some (.inl (wn (zLA 1 0))), some (.inl (wGet 0 0))],
  [none, none, some (.inr (.invokevirtual 50, 92, 2, 8)), none, none, some (.inl (wIast)), some (.inl (wn (zinc 3 1))), none],
  [none, some (.inl (wGo 30)), none, none, some (.inr (.return_, 0, 0, 0))]]
theorem wk_2 : wt_2 = xt_2.map (fun l => l.map (Option.map wcv)) := rfl
noncomputable def wt_3 : wT := [[some (.inl (wn (zLA 1 0))), some (.inl (wGet 0 0)), none, none, some (.inl (wn (zLA 1 1))), some (.inl (wGet 10 1)), none, none],
  [some (.inr (.invokevirtual 34, 10, 2, 1)), none, none, some (.inl (wn (zLA 1 0))), some (.inl (wGet 0 2)), none, none, some (.inl (wPI 1 (Int32.ofInt 0)))],
  [some (.inl (wn (zLA 1 0))), some (.inl (wGet 0 0)), none, none, some (.inl (wn (zL1 1 2))), some (.inr (.invokevirtual 56, 12, 2, 1)), none, none],
  [some (.inl (wIast)), some (.inl (wPI 1 (Int32.ofInt 1))), some (.inl (wn (zS1 2 4))), none, some (.inl (wn (zL1 2 4))), none, some (.inl (wn (zL1 1 3))), some (.inl (wn (zic .gt 74)))],
  [none, none, some (.inl (wn (zL1 2 4))), none, some (.inl (wPI 3 (Int16.ofInt 200).toInt32)), none, none, some (.inl (wn (zic .gt 74)))],
  [none, none, some (.inl (wn (zLA 1 0))), some (.inl (wGet 0 0)), none, none, some (.inl (wn (zLA 1 1))), some (.inl (wGet 10 0))],
  [none, none, some (.inr (.invokevirtual 42, 18, 2, 1)), none, none, some (.inl (wn (zLA 1 0))), some (.inl (wGet 0 2)), none],
  [none, some (.inl (wn (zL1 2 4))), none, some (.inl (wn (zLA 1 0))), some (.inl (wGet 0 0)), none, none, some (.inl (wn (zL1 1 2)))],
  [some (.inr (.invokevirtual 56, 12, 2, 1)), none, none, some (.inl (wIast)), some (.inl (wn (zinc 4 1))), none, none, some (.inl (wGo 28))],
  [none, none, some (.inr (.return_, 0, 0, 0))]]
theorem wk_3 : wt_3 = xt_3.map (fun l => l.map (Option.map wcv)) := rfl
noncomputable def wt_4 : wT := [[some (.inl (wn (zLA 1 0))), some (.inl (wGet 0 0)), none, none, some (.inl (wn (zLA 1 1))), some (.inl (wGet 10 1)), none, none],
  [some (.inr (.invokevirtual 34, 10, 2, 1)), none, none, some (.inl (wPI 1 (Int32.ofInt 1))), some (.inl (wn (zS1 1 3))), some (.inl (wn (zL1 1 3))), some (.inl (wPI 3 (Int16.ofInt 200).toInt32)), none],
  [none, some (.inl (wn (zic .gt 54))), none, none, some (.inl (wn (zLA 1 0))), some (.inl (wGet 0 0)), none, none],
  [some (.inl (wn (zLA 1 1))), some (.inl (wGet 10 0)), none, none, some (.inr (.invokevirtual 42, 18, 2, 1)), none, none, some (.inl (wn (zLA 1 1)))],
  [some (.inl (wGet 10 2)), none, none, some (.inl (wn (zL1 1 2))), some (.inl (wn (zLA 1 0))), some (.inl (wGet 0 0)), none, none],
  [some (.inr (.invokevirtual 60, 93, 3, 8)), none, none, some (.inl (wn (zif .eq 48))), none, none, some (.inl (wn (zL1 1 3))), some (.inr (.ireturn, 0, 0, 0))],
  [some (.inl (wn (zinc 3 1))), none, none, some (.inl (wGo 13)), none, none, some (.inl (wPI 1 (Int32.ofInt (-1)))), some (.inr (.ireturn, 0, 0, 0))]]
theorem wk_4 : wt_4 = xt_4.map (fun l => l.map (Option.map wcv)) := rfl
noncomputable def wt_5 : wT := [[some (.inl (wn (zLA 1 0))), some (.inl (wn (zLA 1 1))), some (.inl (wn (zL1 1 3))), some (.inr (.invokevirtual 64, 2, 3, 0)), none, none, some (.inl (wn (zLA 1 0))), some (.inl (wGet 0 3))],
  [none, none, some (.inl (wPL 3 (Int64.ofInt (-1)))), none, none, some (.inr (.invokestatic 70, 354, 2, 0)), none, none],
  [some (.inl (wn (zLA 1 0))), some (.inl (wGet 0 3)), none, none, some (.inl (wPI 1 (Int32.ofInt 0))), some (.inl (wPL 1 (Int64.ofNat 0))), some (.inl (wLast)), some (.inl (wPI 1 (Int32.ofInt 1)))],
  [some (.inl (wn (zS1 2 4))), none, some (.inl (wn (zL1 2 4))), none, some (.inl (wn (zL1 1 3))), some (.inl (wn (zic .gt 91))), none, none],
  [some (.inl (wn (zL1 2 4))), none, some (.inl (wPI 2 (Int8.ofInt 12).toInt32)), none, some (.inl (wn (zic .gt 91))), none, none, some (.inl (wn (zLA 1 1)))],
  [some (.inl (wn (zLA 1 1))), some (.inl (wGet 10 1)), none, none, some (.inl (wGet 1 1)), none, none, some (.inl (wn (zL1 2 4)))],
  [none, some (.inl (wn zadd)), some (.inr (.invokevirtual 80, 106, 2, 10)), none, none, some (.inl (wn zi2l)), some (.inl (wPI 2 (Int8.ofInt 16).toInt32)), none],
  [some (.inl (wn zlshl)), some (.inl (wPL 3 (Int64.ofInt 4096))), none, none, some (.inl (wn zlor)), some (.inl (wPL 1 (Int64.ofNat 1))), some (.inl (wn (zL1 2 4))), none],
  [some (.inl (wPI 1 (Int32.ofInt 1))), some (.inl (wn zsub)), some (.inl (wn zlshl)), some (.inl (wn zlor)), some (.inl (wn (zS2 2 5))), none, some (.inl (wn (zLA 1 0))), some (.inl (wn (zLA 1 0)))],
  [some (.inl (wGet 0 1)), none, none, some (.inl (wn (zL1 2 4))), none, some (.inl (wIald)), some (.inl (wn (zL1 1 2))), some (.inl (wn zandI))],
  [some (.inl (wn (zL2 2 5))), none, some (.inr (.invokevirtual 85, 6, 3, 0)), none, none, some (.inl (wn (zinc 4 1))), none, none],
  [some (.inl (wGo 26)), none, none, some (.inl (wn (zLA 1 0))), some (.inl (wGet 0 3)), none, none, some (.inl (wn (zL1 1 2)))],
  [some (.inl (wAld 22)), some (.inr (.lreturn, 0, 0, 0))]]
theorem wk_5 : wt_5 = xt_5.map (fun l => l.map (Option.map wcv)) := rfl
noncomputable def wt_6 : wT := [[some (.inl (wPI 2 (Int8.ofInt 63).toInt32)), none, some (.inl (wn (zS1 2 4))), none, some (.inl (wn (zL1 2 4))), none, some (.inl (wn (zif .lt 97))), none],
  [none, some (.inl (wn (zL1 2 4))), none, some (.inl (wn (zL1 1 1))), some (.inl (wn zor)), some (.inl (wn (zS1 2 5))), none, some (.inl (wn (zLA 1 0)))],
  [some (.inl (wGet 0 3)), none, none, some (.inl (wn (zL1 2 4))), none, some (.inl (wAld 22)), some (.inl (wPL 3 (Int64.ofInt (-1)))), none],
  [none, some (.inl (wn zlcm)), some (.inl (wn (zif .eq 67))), none, none, some (.inl (wn (zLA 1 0))), some (.inl (wGet 0 3)), none],
  [none, some (.inl (wn (zL1 2 5))), none, some (.inl (wAld 22)), some (.inl (wPL 3 (Int64.ofInt (-1)))), none, none, some (.inl (wn zlcm))],
  [some (.inl (wn (zif .eq 63))), none, none, some (.inl (wn (zLA 1 0))), some (.inl (wGet 0 3)), none, none, some (.inl (wn (zL1 2 4)))],
  [none, some (.inl (wAld 22)), some (.inl (wn (zL2 1 2))), some (.inl (wn zladd)), some (.inl (wn (zLA 1 0))), some (.inl (wGet 0 3)), none, none],
  [some (.inl (wn (zL1 2 5))), none, some (.inl (wAld 22)), some (.inl (wn zlcm)), some (.inl (wn (zif .ge 67))), none, none, some (.inl (wPI 1 (Int32.ofInt 1)))],
  [some (.inl (wGo 68)), none, none, some (.inl (wPI 1 (Int32.ofInt 0))), some (.inl (wn (zS1 2 6))), none, some (.inl (wn (zL1 2 6))), none],
  [some (.inl (wn (zif .eq 91))), none, none, some (.inl (wn (zLA 1 0))), some (.inl (wGet 0 3)), none, none, some (.inl (wn (zL1 2 5)))],
  [none, some (.inl (wn (zLA 1 0))), some (.inl (wGet 0 3)), none, none, some (.inl (wn (zL1 2 4))), none, some (.inl (wAld 22))],
  [some (.inl (wn (zL2 1 2))), some (.inl (wn zladd)), some (.inl (wLast)), some (.inl (wn (zinc 4 (-1)))), none, none, some (.inl (wGo 4)), none],
  [none, some (.inr (.return_, 0, 0, 0))]]
theorem wk_6 : wt_6 = xt_6.map (fun l => l.map (Option.map wcv)) := rfl
noncomputable def wt_7 : wT := [[some (.inl (wn (zL2 1 0))), some (.inl (wPI 2 (Int8.ofInt 16).toInt32)), none, some (.inl (wn zlshr)), some (.inl (wn zl2i)), some (.inr (.ireturn, 0, 0, 0))]]
theorem wk_7 : wt_7 = xt_7.map (fun l => l.map (Option.map wcv)) := rfl
noncomputable def wt_8 : wT := [[some (.inl (wn (zL2 1 0))), some (.inl (wPL 3 (Int64.ofInt 4095))), none, none, some (.inl (wn zland)), some (.inl (wn zl2i)), some (.inr (.ireturn, 0, 0, 0))]]
theorem wk_8 : wt_8 = xt_8.map (fun l => l.map (Option.map wcv)) := rfl
noncomputable def wt_9 : wT := [[some (.inl (wn (zLA 1 0))), some (.inl (wn zobj)), none, none, some (.inl (wn (zLA 1 0))), some (.inl (wPI 1 (Int32.ofInt 0))), some (.inl (wPut 1 0)), none],
  [none, some (.inl (wn (zLA 1 0))), some (.inl (wPI 1 (Int32.ofInt 0))), some (.inl (wPut 1 1)), none, none, some (.inl (wn (zLA 1 0))), some (.inl (wPI 1 (Int32.ofInt 5)))],
  [some (.inl (wNo)), none, some (.inl (wPut 1 2)), none, none, some (.inl (wn (zLA 1 0))), some (.inl (wPI 1 (Int32.ofInt 5))), some (.inl (wNo))],
  [none, some (.inl (wPut 1 3)), none, none, some (.inl (wn (zLA 1 0))), some (.inl (wPI 1 (Int32.ofInt 5))), some (.inl (wNo)), none],
  [some (.inl (wPut 1 4)), none, none, some (.inl (wn (zLA 1 0))), some (.inl (wPI 1 (Int32.ofInt 5))), some (.inl (wNo)), none, some (.inl (wPut 1 5))],
  [none, none, some (.inl (wn (zLA 1 0))), some (.inl (wPI 1 (Int32.ofInt 5))), some (.inl (wNo)), none, some (.inl (wPut 1 6)), none],
  [none, some (.inl (wn (zLA 1 0))), some (.inl (wPI 2 (Int8.ofInt 40).toInt32)), none, some (.inl (wNo)), none, some (.inl (wPut 1 7)), none],
  [none, some (.inl (wn (zLA 1 0))), some (.inl (wPI 1 (Int32.ofInt 5))), some (.inl (wNo)), none, some (.inl (wPut 1 8)), none, none],
  [some (.inl (wn (zLA 1 0))), some (.inl (wPI 1 (Int32.ofInt 5))), some (.inl (wNo)), none, some (.inl (wPut 1 9)), none, none, some (.inr (.return_, 0, 0, 0))]]
theorem wk_9 : wt_9 = xt_9.map (fun l => l.map (Option.map wcv)) := rfl
noncomputable def wt_10 : wT := [[some (.inl (wn (zLA 1 0))), some (.inl (wn (zLA 1 1))), some (.inl (wGet 1 0)), none, none, some (.inl (wPut 1 0)), none, none],
  [some (.inl (wn (zLA 1 0))), some (.inl (wn (zLA 1 1))), some (.inl (wGet 1 1)), none, none, some (.inl (wPut 1 1)), none, none],
  [some (.inl (wn (zLA 1 1))), some (.inl (wGet 1 2)), none, none, some (.inl (wPI 1 (Int32.ofInt 0))), some (.inl (wn (zLA 1 0))), some (.inl (wGet 1 2)), none],
  [none, some (.inl (wPI 1 (Int32.ofInt 0))), some (.inl (wPI 1 (Int32.ofInt 5))), some (.inl (wCopy)), none, none, some (.inl (wn (zLA 1 1))), some (.inl (wGet 1 3))],
  [none, none, some (.inl (wPI 1 (Int32.ofInt 0))), some (.inl (wn (zLA 1 0))), some (.inl (wGet 1 3)), none, none, some (.inl (wPI 1 (Int32.ofInt 0)))],
  [some (.inl (wPI 1 (Int32.ofInt 5))), some (.inl (wCopy)), none, none, some (.inl (wn (zLA 1 1))), some (.inl (wGet 1 4)), none, none],
  [some (.inl (wPI 1 (Int32.ofInt 0))), some (.inl (wn (zLA 1 0))), some (.inl (wGet 1 4)), none, none, some (.inl (wPI 1 (Int32.ofInt 0))), some (.inl (wPI 1 (Int32.ofInt 5))), some (.inl (wCopy))],
  [none, none, some (.inl (wn (zLA 1 1))), some (.inl (wGet 1 5)), none, none, some (.inl (wPI 1 (Int32.ofInt 0))), some (.inl (wn (zLA 1 0)))],
  [some (.inl (wGet 1 5)), none, none, some (.inl (wPI 1 (Int32.ofInt 0))), some (.inl (wPI 1 (Int32.ofInt 5))), some (.inl (wCopy)), none, none],
  [some (.inl (wn (zLA 1 1))), some (.inl (wGet 1 6)), none, none, some (.inl (wPI 1 (Int32.ofInt 0))), some (.inl (wn (zLA 1 0))), some (.inl (wGet 1 6)), none],
  [none, some (.inl (wPI 1 (Int32.ofInt 0))), some (.inl (wPI 1 (Int32.ofInt 5))), some (.inl (wCopy)), none, none, some (.inl (wn (zLA 1 1))), some (.inl (wGet 1 7))],
  [none, none, some (.inl (wPI 1 (Int32.ofInt 0))), some (.inl (wn (zLA 1 0))), some (.inl (wGet 1 7)), none, none, some (.inl (wPI 1 (Int32.ofInt 0)))],
  [some (.inl (wPI 2 (Int8.ofInt 40).toInt32)), none, some (.inl (wCopy)), none, none, some (.inl (wn (zLA 1 1))), some (.inl (wGet 1 8)), none],
  [none, some (.inl (wPI 1 (Int32.ofInt 0))), some (.inl (wn (zLA 1 0))), some (.inl (wGet 1 8)), none, none, some (.inl (wPI 1 (Int32.ofInt 0))), some (.inl (wPI 1 (Int32.ofInt 5)))],
  [some (.inl (wCopy)), none, none, some (.inl (wn (zLA 1 1))), some (.inl (wGet 1 9)), none, none, some (.inl (wPI 1 (Int32.ofInt 0)))],
  [some (.inl (wn (zLA 1 0))), some (.inl (wGet 1 9)), none, none, some (.inl (wPI 1 (Int32.ofInt 0))), some (.inl (wPI 1 (Int32.ofInt 5))), some (.inl (wCopy)), none],
  [none, some (.inr (.return_, 0, 0, 0))]]
theorem wk_10 : wt_10 = xt_10.map (fun l => l.map (Option.map wcv)) := rfl
noncomputable def wt_11 : wT := [[some (.inl (wn (zLA 1 0))), some (.inl (wPI 1 (Int32.ofInt 0))), some (.inl (wPut 1 1)), none, none, some (.inl (wPI 1 (Int32.ofInt 0))), some (.inl (wn (zS1 1 1))), some (.inl (wn (zL1 1 1)))],
  [some (.inl (wn (zLA 1 0))), some (.inl (wGet 1 0)), none, none, some (.inl (wn (zic .ge 53))), none, none, some (.inl (wn (zLA 1 0)))],
  [some (.inl (wGet 1 8)), none, none, some (.inl (wn (zL1 1 1))), some (.inl (wn (zLA 1 0))), some (.inl (wGet 1 4)), none, none],
  [some (.inl (wn (zL1 1 1))), some (.inl (wIald)), some (.inl (wn (zif .ne 33))), none, none, some (.inl (wPI 1 (Int32.ofInt 1))), some (.inl (wGo 34)), none],
  [none, some (.inl (wPI 1 (Int32.ofInt 0))), some (.inl (wIast)), some (.inl (wn (zLA 1 0))), some (.inl (wGet 1 9)), none, none, some (.inl (wn (zL1 1 1)))],
  [some (.inl (wn (zLA 1 0))), some (.inl (wGet 1 3)), none, none, some (.inl (wn (zL1 1 1))), some (.inl (wIald)), some (.inl (wIast)), some (.inl (wn (zinc 1 1)))],
  [none, none, some (.inl (wGo 7)), none, none, some (.inr (.return_, 0, 0, 0))]]
theorem wk_11 : wt_11 = xt_11.map (fun l => l.map (Option.map wcv)) := rfl
noncomputable def wt_12 : wT := [[some (.inl (wn (zLA 1 0))), some (.inl (wGet 1 8)), none, none, some (.inl (wn (zL1 1 1))), some (.inl (wIald)), some (.inl (wPI 1 (Int32.ofInt 1))), some (.inl (wn (zic .ne 19)))],
  [none, none, some (.inl (wn (zLA 1 0))), some (.inl (wGet 1 9)), none, none, some (.inl (wn (zL1 1 1))), some (.inl (wIald))],
  [some (.inl (wGo 20)), none, none, some (.inl (wPI 1 (Int32.ofInt (-1)))), some (.inr (.ireturn, 0, 0, 0))]]
theorem wk_12 : wt_12 = xt_12.map (fun l => l.map (Option.map wcv)) := rfl
noncomputable def wt_13 : wT := [[some (.inl (wPI 1 (Int32.ofInt 0))), some (.inl (wn (zS1 1 2))), some (.inl (wn (zL1 1 2))), some (.inl (wn (zLA 1 0))), some (.inl (wGet 1 0)), none, none, some (.inl (wn (zic .ge 27)))],
  [none, none, some (.inl (wn (zLA 1 0))), some (.inl (wn (zL1 1 2))), some (.inr (.invokevirtual 50, 12, 2, 1)), none, none, some (.inl (wn (zL1 1 1)))],
  [some (.inl (wn (zic .ne 21))), none, none, some (.inl (wn (zL1 1 2))), some (.inr (.ireturn, 0, 0, 0)), some (.inl (wn (zinc 2 1))), none, none],
  [some (.inl (wGo 2)), none, none, some (.inl (wPI 1 (Int32.ofInt (-1)))), some (.inr (.ireturn, 0, 0, 0))]]
theorem wk_13 : wt_13 = xt_13.map (fun l => l.map (Option.map wcv)) := rfl
noncomputable def wt_14 : wT := [[some (.inl (wn (zLA 1 2))), some (.inl (wGet 3 2)), none, none, some (.inl (wn (zL1 1 1))), some (.inl (wn zlushr)), some (.inl (wPL 1 (Int64.ofNat 1))), some (.inl (wn zland))],
  [some (.inl (wPL 1 (Int64.ofNat 0))), some (.inl (wn zlcm)), some (.inl (wn (zif .eq 15))), none, none, some (.inl (wPI 1 (Int32.ofInt 0))), some (.inr (.ireturn, 0, 0, 0)), some (.inl (wPI 1 (Int32.ofInt 0)))],
  [some (.inl (wn (zS1 1 3))), some (.inl (wn (zL1 1 3))), some (.inl (wn (zLA 1 0))), some (.inl (wGet 1 0)), none, none, some (.inl (wn (zic .ge 53))), none],
  [none, some (.inl (wn (zLA 1 0))), some (.inl (wGet 1 8)), none, none, some (.inl (wn (zL1 1 3))), some (.inl (wIald)), some (.inl (wPI 1 (Int32.ofInt 1)))],
  [some (.inl (wn (zic .ne 47))), none, none, some (.inl (wn (zLA 1 0))), some (.inl (wGet 1 9)), none, none, some (.inl (wn (zL1 1 3)))],
  [some (.inl (wIald)), some (.inl (wn (zL1 1 1))), some (.inl (wn (zic .ne 47))), none, none, some (.inl (wPI 1 (Int32.ofInt 0))), some (.inr (.ireturn, 0, 0, 0)), some (.inl (wn (zinc 3 1)))],
  [none, none, some (.inl (wGo 17)), none, none, some (.inl (wPI 1 (Int32.ofInt 1))), some (.inr (.ireturn, 0, 0, 0))]]
theorem wk_14 : wt_14 = xt_14.map (fun l => l.map (Option.map wcv)) := rfl
noncomputable def wt_15 : wT := [[some (.inl (wPI 1 (Int32.ofInt 0))), some (.inl (wn (zS1 1 2))), some (.inl (wn (zL1 1 2))), some (.inl (wn (zLA 1 0))), some (.inl (wGet 1 0)), none, none, some (.inl (wn (zic .ge 28)))],
  [none, none, some (.inl (wn (zLA 1 0))), some (.inl (wGet 1 3)), none, none, some (.inl (wn (zL1 1 2))), some (.inl (wIald))],
  [some (.inl (wn (zL1 1 1))), some (.inl (wn (zic .ne 22))), none, none, some (.inl (wPI 1 (Int32.ofInt 1))), some (.inr (.ireturn, 0, 0, 0)), some (.inl (wn (zinc 2 1))), none],
  [none, some (.inl (wGo 2)), none, none, some (.inl (wPI 1 (Int32.ofInt 0))), some (.inr (.ireturn, 0, 0, 0))]]
theorem wk_15 : wt_15 = xt_15.map (fun l => l.map (Option.map wcv)) := rfl
noncomputable def wt_16 : wT := [[some (.inl (wPI 1 (Int32.ofInt 0))), some (.inl (wn (zS1 1 2))), some (.inl (wPI 1 (Int32.ofInt 0))), some (.inl (wn (zS1 1 3))), some (.inl (wn (zL1 1 3))), some (.inl (wn (zLA 1 0))), some (.inl (wGet 1 0)), none],
  [none, some (.inl (wn (zic .ge 34))), none, none, some (.inl (wn (zLA 1 0))), some (.inl (wGet 1 8)), none, none],
  [some (.inl (wn (zL1 1 3))), some (.inl (wIald)), some (.inl (wn (zL1 1 1))), some (.inl (wn (zic .ne 28))), none, none, some (.inl (wn (zL1 1 2))), some (.inl (wPI 1 (Int32.ofInt 1)))],
  [some (.inl (wn (zL1 1 3))), some (.inl (wn zshl)), some (.inl (wn zor)), some (.inl (wn (zS1 1 2))), some (.inl (wn (zinc 3 1))), none, none, some (.inl (wGo 4))],
  [none, none, some (.inl (wn (zL1 1 2))), some (.inr (.ireturn, 0, 0, 0))]]
theorem wk_16 : wt_16 = xt_16.map (fun l => l.map (Option.map wcv)) := rfl
noncomputable def wt_17 : wT := [[some (.inl (wPI 1 (Int32.ofInt 0))), some (.inl (wn (zS1 1 2))), some (.inl (wn (zL1 1 2))), some (.inl (wn (zLA 1 0))), some (.inl (wGet 1 0)), none, none, some (.inl (wn (zic .ge 46)))],
  [none, none, some (.inl (wn (zLA 1 0))), some (.inl (wGet 1 8)), none, none, some (.inl (wn (zL1 1 2))), some (.inl (wIald))],
  [some (.inl (wn (zLA 1 1))), some (.inl (wGet 1 8)), none, none, some (.inl (wn (zL1 1 2))), some (.inl (wIald)), some (.inl (wn (zic .ne 38))), none],
  [none, some (.inl (wn (zLA 1 0))), some (.inl (wn (zL1 1 2))), some (.inr (.invokevirtual 50, 12, 2, 1)), none, none, some (.inl (wn (zLA 1 1))), some (.inl (wn (zL1 1 2)))],
  [some (.inr (.invokevirtual 50, 12, 2, 1)), none, none, some (.inl (wn (zic .eq 40))), none, none, some (.inl (wPI 1 (Int32.ofInt 0))), some (.inr (.ireturn, 0, 0, 0))],
  [some (.inl (wn (zinc 2 1))), none, none, some (.inl (wGo 2)), none, none, some (.inl (wPI 1 (Int32.ofInt 1))), some (.inr (.ireturn, 0, 0, 0))]]
theorem wk_17 : wt_17 = xt_17.map (fun l => l.map (Option.map wcv)) := rfl
noncomputable def wt_18 : wT := [[some (.inl (wPI 1 (Int32.ofInt 0))), some (.inl (wn (zS1 1 2))), some (.inl (wn (zL1 1 2))), some (.inl (wn (zLA 1 0))), some (.inl (wGet 1 0)), none, none, some (.inl (wn (zic .ge 50)))],
  [none, none, some (.inl (wn (zLA 1 0))), some (.inl (wGet 1 8)), none, none, some (.inl (wn (zL1 1 2))), some (.inl (wIald))],
  [some (.inl (wn (zif .ne 28))), none, none, some (.inl (wn (zLA 1 0))), some (.inl (wn (zL1 1 2))), some (.inl (wn (zLA 1 1))), some (.inr (.invokevirtual 60, 19, 3, 1)), none],
  [none, some (.inl (wGo 44)), none, none, some (.inl (wn (zLA 1 0))), some (.inl (wGet 1 8)), none, none],
  [some (.inl (wn (zL1 1 2))), some (.inl (wIald)), some (.inl (wPI 1 (Int32.ofInt 1))), some (.inl (wn (zic .ne 44))), none, none, some (.inl (wn (zLA 1 0))), some (.inl (wn (zL1 1 2)))],
  [some (.inl (wn (zLA 1 1))), some (.inr (.invokevirtual 64, 20, 3, 1)), none, none, some (.inl (wn (zinc 2 1))), none, none, some (.inl (wGo 2))],
  [none, none, some (.inl (wn (zLA 1 0))), some (.inl (wn zdup)), some (.inl (wGet 1 1)), none, none, some (.inl (wPI 1 (Int32.ofInt 1)))],
  [some (.inl (wn zadd)), some (.inl (wPut 1 1)), none, none, some (.inr (.return_, 0, 0, 0))]]
theorem wk_18 : wt_18 = xt_18.map (fun l => l.map (Option.map wcv)) := rfl
noncomputable def wt_19 : wT := [[some (.inl (wn (zLA 1 0))), some (.inl (wGet 1 4)), none, none, some (.inl (wn (zL1 1 1))), some (.inl (wIald)), some (.inl (wn (zLA 1 0))), some (.inl (wGet 1 1))],
  [none, none, some (.inl (wPI 1 (Int32.ofInt 1))), some (.inl (wn zadd)), some (.inl (wn (zic .le 16))), none, none, some (.inr (.return_, 0, 0, 0))],
  [some (.inl (wn (zLA 1 0))), some (.inl (wn (zL1 1 1))), some (.inr (.invokevirtual 67, 21, 2, 1)), none, none, some (.inl (wn (zif .eq 34))), none, none],
  [some (.inl (wn (zLA 1 0))), some (.inl (wGet 1 8)), none, none, some (.inl (wn (zL1 1 1))), some (.inl (wPI 1 (Int32.ofInt 2))), some (.inl (wIast)), some (.inl (wGo 67))],
  [none, none, some (.inl (wn (zLA 1 0))), some (.inl (wn (zLA 1 0))), some (.inl (wGet 1 3)), none, none, some (.inl (wn (zL1 1 1)))],
  [some (.inl (wIald)), some (.inl (wn (zLA 1 2))), some (.inr (.invokevirtual 71, 14, 3, 1)), none, none, some (.inl (wn (zif .eq 67))), none, none],
  [some (.inl (wn (zLA 1 0))), some (.inl (wGet 1 8)), none, none, some (.inl (wn (zL1 1 1))), some (.inl (wPI 1 (Int32.ofInt 1))), some (.inl (wIast)), some (.inl (wn (zLA 1 0)))],
  [some (.inl (wGet 1 9)), none, none, some (.inl (wn (zL1 1 1))), some (.inl (wn (zLA 1 0))), some (.inl (wGet 1 3)), none, none],
  [some (.inl (wn (zL1 1 1))), some (.inl (wIald)), some (.inl (wIast)), some (.inr (.return_, 0, 0, 0))]]
theorem wk_19 : wt_19 = xt_19.map (fun l => l.map (Option.map wcv)) := rfl
noncomputable def wt_20 : wT := [[some (.inl (wn (zLA 1 0))), some (.inl (wn (zL1 1 1))), some (.inr (.invokevirtual 67, 21, 2, 1)), none, none, some (.inl (wn (zif .eq 16))), none, none],
  [some (.inl (wn (zLA 1 0))), some (.inl (wGet 1 8)), none, none, some (.inl (wn (zL1 1 1))), some (.inl (wPI 1 (Int32.ofInt 2))), some (.inl (wIast)), some (.inr (.return_, 0, 0, 0))],
  [some (.inl (wn (zLA 1 2))), some (.inl (wn (zLA 1 0))), some (.inl (wGet 1 9)), none, none, some (.inl (wn (zL1 1 1))), some (.inl (wIald)), some (.inl (wn (zLA 1 0)))],
  [some (.inl (wn (zL1 1 1))), some (.inr (.invokevirtual 75, 22, 2, 1)), none, none, some (.inr (.invokevirtual 78, 48, 3, 3)), none, none, some (.inl (wn (zS1 1 3)))],
  [some (.inl (wn (zL1 1 3))), some (.inl (wPI 1 (Int32.ofInt (-1)))), some (.inl (wn (zic .eq 53))), none, none, some (.inl (wn (zLA 1 0))), some (.inl (wn (zL1 1 3))), some (.inl (wn (zLA 1 2)))],
  [some (.inr (.invokevirtual 71, 14, 3, 1)), none, none, some (.inl (wn (zif .eq 53))), none, none, some (.inl (wn (zLA 1 0))), some (.inl (wGet 1 9))],
  [none, none, some (.inl (wn (zL1 1 1))), some (.inl (wn (zL1 1 3))), some (.inl (wIast)), some (.inr (.return_, 0, 0, 0))]]
theorem wk_20 : wt_20 = xt_20.map (fun l => l.map (Option.map wcv)) := rfl
noncomputable def wt_21 : wT := [[some (.inl (wn (zLA 1 0))), some (.inl (wGet 1 5)), none, none, some (.inl (wn (zL1 1 1))), some (.inl (wIald)), some (.inl (wPI 1 (Int32.ofInt (-1)))), some (.inl (wn (zic .eq 29)))],
  [none, none, some (.inl (wn (zLA 1 0))), some (.inl (wGet 1 5)), none, none, some (.inl (wn (zL1 1 1))), some (.inl (wIald))],
  [some (.inl (wn (zLA 1 0))), some (.inl (wGet 1 1)), none, none, some (.inl (wPI 1 (Int32.ofInt 1))), some (.inl (wn zadd)), some (.inl (wn (zic .gt 29))), none],
  [none, some (.inl (wPI 1 (Int32.ofInt 1))), some (.inl (wGo 30)), none, none, some (.inl (wPI 1 (Int32.ofInt 0))), some (.inr (.ireturn, 0, 0, 0))]]
theorem wk_21 : wt_21 = xt_21.map (fun l => l.map (Option.map wcv)) := rfl
noncomputable def wt_22 : wT := [[some (.inl (wn (zLA 1 0))), some (.inl (wGet 1 6)), none, none, some (.inl (wn (zL1 1 1))), some (.inl (wIald)), some (.inl (wn (zS1 1 2))), some (.inl (wn (zL1 1 2)))],
  [some (.inl (wPI 1 (Int32.ofInt 1))), some (.inl (wn (zic .ge 16))), none, none, some (.inl (wPI 1 (Int32.ofInt 4))), some (.inl (wGo 32)), none, none],
  [some (.inl (wn (zLA 1 0))), some (.inl (wGet 1 7)), none, none, some (.inl (wn (zL1 1 1))), some (.inl (wPI 2 (Int8.ofInt 8).toInt32)), none, some (.inl (wn zmul))],
  [some (.inl (wn (zLA 1 0))), some (.inl (wGet 1 1)), none, none, some (.inl (wn (zL1 1 2))), some (.inl (wn zrem)), some (.inl (wn zadd)), some (.inl (wIald))],
  [some (.inr (.ireturn, 0, 0, 0))]]
theorem wk_22 : wt_22 = xt_22.map (fun l => l.map (Option.map wcv)) := rfl
noncomputable def wt_23 : wT := [[some (.inl (wn (zLA 1 0))), some (.inl (wn zobj)), none, none, some (.inl (wn (zLA 1 0))), some (.inl (wPI 3 (Int16.ofInt 900).toInt32)), none, none],
  [some (.inl (wNo)), none, some (.inl (wPut 2 0)), none, none, some (.inl (wn (zLA 1 0))), some (.inl (wPI 1 (Int32.ofInt 0))), some (.inl (wPut 2 1))],
  [none, none, some (.inl (wn (zLA 1 0))), some (.inl (wPI 1 (Int32.ofInt 0))), some (.inl (wPut 2 2)), none, none, some (.inl (wn (zLA 1 0)))],
  [some (.inl (wPI 1 (Int32.ofInt 0))), some (.inl (wPut 2 3)), none, none, some (.inl (wn (zLA 1 0))), some (.inl (wPI 1 (Int32.ofInt 0))), some (.inl (wPut 2 4)), none],
  [none, some (.inl (wn (zLA 1 0))), some (.inl (wPI 1 (Int32.ofInt (-1)))), some (.inl (wPut 2 5)), none, none, some (.inl (wn (zLA 1 0))), some (.inl (wPL 1 (Int64.ofNat 0)))],
  [some (.inl (wPut 2 6)), none, none, some (.inl (wn (zLA 1 0))), some (.inl (wPI 1 (Int32.ofInt 0))), some (.inl (wPut 2 7)), none, none],
  [some (.inl (wn (zLA 1 0))), some (.inl (wPI 1 (Int32.ofInt (-1)))), some (.inl (wPut 2 8)), none, none, some (.inl (wn (zLA 1 0))), some (.inl (wPI 1 (Int32.ofInt 0))), some (.inl (wPut 2 9))],
  [none, none, some (.inl (wn (zLA 1 0))), some (.inl (wPI 1 (Int32.ofInt (-1)))), some (.inl (wPut 2 10)), none, none, some (.inr (.return_, 0, 0, 0))]]
theorem wk_23 : wt_23 = xt_23.map (fun l => l.map (Option.map wcv)) := rfl
noncomputable def wt_24 : wT := [[some (.inl (wn (zLA 1 0))), some (.inl (wn (zL1 1 1))), some (.inl (wPI 3 (Int16.ofInt 900).toInt32)), none, none, some (.inl (wn zmin)), none, none],
  [some (.inl (wPut 2 1)), none, none, some (.inl (wn (zLA 1 0))), some (.inl (wPI 1 (Int32.ofInt 0))), some (.inl (wPut 2 4)), none, none],
  [some (.inl (wn (zLA 1 0))), some (.inl (wPI 1 (Int32.ofInt 0))), some (.inl (wPut 2 9)), none, none, some (.inl (wn (zLA 1 0))), some (.inl (wPI 1 (Int32.ofInt (-1)))), some (.inl (wPut 2 10))],
  [none, none, some (.inl (wn (zLA 1 0))), some (.inr (.invokevirtual 53, 25, 1, 2)), none, none, some (.inr (.return_, 0, 0, 0))]]
theorem wk_24 : wt_24 = xt_24.map (fun l => l.map (Option.map wcv)) := rfl
noncomputable def wt_25 : wT := [[some (.inl (wn (zLA 1 0))), some (.inl (wn (zLA 1 0))), some (.inl (wGet 2 4)), none, none, some (.inl (wPut 2 3)), none, none],
  [some (.inl (wn (zLA 1 0))), some (.inl (wGet 2 3)), none, none, some (.inl (wn (zLA 1 0))), some (.inl (wGet 2 1)), none, none],
  [some (.inl (wn (zic .ge 60))), none, none, some (.inl (wn (zLA 1 0))), some (.inl (wGet 2 0)), none, none, some (.inl (wn (zLA 1 0)))],
  [some (.inl (wGet 2 3)), none, none, some (.inl (wAld 21)), some (.inl (wPI 2 (Int8.ofInt 32).toInt32)), none, some (.inl (wn (zic .eq 47))), none],
  [none, some (.inl (wn (zLA 1 0))), some (.inl (wGet 2 0)), none, none, some (.inl (wn (zLA 1 0))), some (.inl (wGet 2 3)), none],
  [none, some (.inl (wAld 21)), some (.inl (wPI 2 (Int8.ofInt 10).toInt32)), none, some (.inl (wn (zic .ne 60))), none, none, some (.inl (wn (zLA 1 0)))],
  [some (.inl (wn zdup)), some (.inl (wGet 2 3)), none, none, some (.inl (wPI 1 (Int32.ofInt 1))), some (.inl (wn zadd)), some (.inl (wPut 2 3)), none],
  [none, some (.inl (wGo 8)), none, none, some (.inl (wn (zLA 1 0))), some (.inl (wn (zLA 1 0))), some (.inl (wGet 2 3)), none],
  [none, some (.inl (wPut 2 4)), none, none, some (.inl (wn (zLA 1 0))), some (.inl (wPI 1 (Int32.ofInt (-1)))), some (.inl (wPut 2 5)), none],
  [none, some (.inl (wn (zLA 1 0))), some (.inl (wPL 1 (Int64.ofNat 0))), some (.inl (wPut 2 6)), none, none, some (.inl (wn (zLA 1 0))), some (.inl (wPI 1 (Int32.ofInt 0)))],
  [some (.inl (wPut 2 7)), none, none, some (.inl (wn (zLA 1 0))), some (.inl (wGet 2 3)), none, none, some (.inl (wn (zLA 1 0)))],
  [some (.inl (wGet 2 1)), none, none, some (.inl (wn (zic .lt 102))), none, none, some (.inl (wn (zLA 1 0))), some (.inl (wPI 1 (Int32.ofInt 0)))],
  [some (.inl (wPut 2 2)), none, none, some (.inl (wGo 150)), none, none, some (.inl (wn (zLA 1 0))), some (.inl (wn (zLA 1 0)))],
  [some (.inl (wGet 2 3)), none, none, some (.inr (.invokevirtual 56, 26, 2, 2)), none, none, some (.inl (wn (zif .eq 128))), none],
  [none, some (.inl (wn (zLA 1 0))), some (.inr (.invokevirtual 60, 28, 1, 2)), none, none, some (.inl (wn (zLA 1 0))), some (.inl (wn (zLA 1 0))), some (.inr (.invokevirtual 63, 31, 1, 2))],
  [none, none, some (.inl (wPut 2 5)), none, none, some (.inl (wGo 150)), none, none],
  [some (.inl (wn (zLA 1 0))), some (.inl (wn (zLA 1 0))), some (.inl (wGet 2 3)), none, none, some (.inr (.invokevirtual 67, 27, 2, 2)), none, none],
  [some (.inl (wn (zif .eq 146))), none, none, some (.inl (wn (zLA 1 0))), some (.inr (.invokevirtual 70, 29, 1, 2)), none, none, some (.inl (wGo 150))],
  [none, none, some (.inl (wn (zLA 1 0))), some (.inr (.invokevirtual 73, 30, 1, 2)), none, none, some (.inr (.return_, 0, 0, 0))]]
theorem wk_25 : wt_25 = xt_25.map (fun l => l.map (Option.map wcv)) := rfl
noncomputable def wt_26 : wT := [[some (.inl (wn (zL1 1 1))), some (.inl (wn (zLA 1 0))), some (.inl (wGet 2 1)), none, none, some (.inl (wn (zic .ge 34))), none, none],
  [some (.inl (wn (zLA 1 0))), some (.inl (wGet 2 0)), none, none, some (.inl (wn (zL1 1 1))), some (.inl (wAld 21)), some (.inl (wPI 2 (Int8.ofInt 97).toInt32)), none],
  [some (.inl (wn (zic .lt 34))), none, none, some (.inl (wn (zLA 1 0))), some (.inl (wGet 2 0)), none, none, some (.inl (wn (zL1 1 1)))],
  [some (.inl (wAld 21)), some (.inl (wPI 2 (Int8.ofInt 122).toInt32)), none, some (.inl (wn (zic .gt 34))), none, none, some (.inl (wPI 1 (Int32.ofInt 1))), some (.inl (wGo 35))],
  [none, none, some (.inl (wPI 1 (Int32.ofInt 0))), some (.inr (.ireturn, 0, 0, 0))]]
theorem wk_26 : wt_26 = xt_26.map (fun l => l.map (Option.map wcv)) := rfl
noncomputable def wt_27 : wT := [[some (.inl (wn (zL1 1 1))), some (.inl (wn (zLA 1 0))), some (.inl (wGet 2 1)), none, none, some (.inl (wn (zic .ge 34))), none, none],
  [some (.inl (wn (zLA 1 0))), some (.inl (wGet 2 0)), none, none, some (.inl (wn (zL1 1 1))), some (.inl (wAld 21)), some (.inl (wPI 2 (Int8.ofInt 48).toInt32)), none],
  [some (.inl (wn (zic .lt 34))), none, none, some (.inl (wn (zLA 1 0))), some (.inl (wGet 2 0)), none, none, some (.inl (wn (zL1 1 1)))],
  [some (.inl (wAld 21)), some (.inl (wPI 2 (Int8.ofInt 57).toInt32)), none, some (.inl (wn (zic .gt 34))), none, none, some (.inl (wPI 1 (Int32.ofInt 1))), some (.inl (wGo 35))],
  [none, none, some (.inl (wPI 1 (Int32.ofInt 0))), some (.inr (.ireturn, 0, 0, 0))]]
theorem wk_27 : wt_27 = xt_27.map (fun l => l.map (Option.map wcv)) := rfl
noncomputable def wt_28 : wT := [[some (.inl (wn (zLA 1 0))), some (.inl (wPI 1 (Int32.ofInt 1))), some (.inl (wPut 2 2)), none, none, some (.inl (wn (zLA 1 0))), some (.inl (wGet 2 4)), none],
  [none, some (.inl (wn (zLA 1 0))), some (.inl (wGet 2 1)), none, none, some (.inl (wn (zic .ge 82))), none, none],
  [some (.inl (wn (zLA 1 0))), some (.inl (wn (zLA 1 0))), some (.inl (wGet 2 4)), none, none, some (.inr (.invokevirtual 56, 26, 2, 2)), none, none],
  [some (.inl (wn (zif .eq 82))), none, none, some (.inl (wn (zLA 1 0))), some (.inl (wGet 2 4)), none, none, some (.inl (wn (zLA 1 0)))],
  [some (.inl (wGet 2 3)), none, none, some (.inl (wn zsub)), some (.inl (wPI 2 (Int8.ofInt 8).toInt32)), none, some (.inl (wn (zic .ge 69))), none],
  [none, some (.inl (wn (zLA 1 0))), some (.inl (wn (zLA 1 0))), some (.inl (wGet 2 6)), none, none, some (.inl (wPL 3 (Int64.ofInt 32))), none],
  [none, some (.inl (wn zlmul)), some (.inl (wn (zLA 1 0))), some (.inl (wGet 2 0)), none, none, some (.inl (wn (zLA 1 0))), some (.inl (wGet 2 4))],
  [none, none, some (.inl (wAld 21)), some (.inl (wPI 2 (Int8.ofInt 97).toInt32)), none, some (.inl (wn zsub)), some (.inl (wPI 1 (Int32.ofInt 1))), some (.inl (wn zadd))],
  [some (.inl (wn zi2l)), some (.inl (wn zladd)), some (.inl (wPut 2 6)), none, none, some (.inl (wn (zLA 1 0))), some (.inl (wn zdup)), some (.inl (wGet 2 4))],
  [none, none, some (.inl (wPI 1 (Int32.ofInt 1))), some (.inl (wn zadd)), some (.inl (wPut 2 4)), none, none, some (.inl (wGo 5))],
  [none, none, some (.inr (.return_, 0, 0, 0))]]
theorem wk_28 : wt_28 = xt_28.map (fun l => l.map (Option.map wcv)) := rfl
noncomputable def wt_29 : wT := [[some (.inl (wn (zLA 1 0))), some (.inl (wGet 2 4)), none, none, some (.inl (wn (zLA 1 0))), some (.inl (wGet 2 1)), none, none],
  [some (.inl (wn (zic .ge 72))), none, none, some (.inl (wn (zLA 1 0))), some (.inl (wn (zLA 1 0))), some (.inl (wGet 2 4)), none, none],
  [some (.inr (.invokevirtual 67, 27, 2, 2)), none, none, some (.inl (wn (zif .eq 72))), none, none, some (.inl (wn (zLA 1 0))), some (.inl (wGet 2 4))],
  [none, none, some (.inl (wn (zLA 1 0))), some (.inl (wGet 2 3)), none, none, some (.inl (wn zsub)), some (.inl (wPI 1 (Int32.ofInt 4)))],
  [some (.inl (wn (zic .ge 59))), none, none, some (.inl (wn (zLA 1 0))), some (.inl (wn (zLA 1 0))), some (.inl (wGet 2 7)), none, none],
  [some (.inl (wPI 2 (Int8.ofInt 10).toInt32)), none, some (.inl (wn zmul)), some (.inl (wn (zLA 1 0))), some (.inl (wGet 2 0)), none, none, some (.inl (wn (zLA 1 0)))],
  [some (.inl (wGet 2 4)), none, none, some (.inl (wAld 21)), some (.inl (wPI 2 (Int8.ofInt 48).toInt32)), none, some (.inl (wn zsub)), some (.inl (wn zadd))],
  [some (.inl (wPut 2 7)), none, none, some (.inl (wn (zLA 1 0))), some (.inl (wn zdup)), some (.inl (wGet 2 4)), none, none],
  [some (.inl (wPI 1 (Int32.ofInt 1))), some (.inl (wn zadd)), some (.inl (wPut 2 4)), none, none, some (.inl (wGo 0)), none, none],
  [some (.inl (wn (zLA 1 0))), some (.inl (wn (zLA 1 0))), some (.inl (wGet 2 4)), none, none, some (.inl (wn (zLA 1 0))), some (.inl (wGet 2 3)), none],
  [none, some (.inl (wn zsub)), some (.inl (wPI 1 (Int32.ofInt 4))), some (.inl (wn (zic .le 90))), none, none, some (.inl (wPI 1 (Int32.ofInt 4))), some (.inl (wGo 91))],
  [none, none, some (.inl (wPI 1 (Int32.ofInt 2))), some (.inl (wPut 2 2)), none, none, some (.inr (.return_, 0, 0, 0))]]
theorem wk_29 : wt_29 = xt_29.map (fun l => l.map (Option.map wcv)) := rfl
noncomputable def wt_30 : wT := [[some (.inl (wn (zLA 1 0))), some (.inl (wn (zLA 1 0))), some (.inl (wGet 2 0)), none, none, some (.inl (wn (zLA 1 0))), some (.inl (wGet 2 3)), none],
  [none, some (.inl (wAld 21)), some (.inl (wPut 2 7)), none, none, some (.inl (wn (zLA 1 0))), some (.inl (wn (zLA 1 0))), some (.inl (wGet 2 7))],
  [none, none, some (.inl (wPI 2 (Int8.ofInt 59).toInt32)), none, some (.inl (wn (zic .eq 50))), none, none, some (.inl (wn (zLA 1 0)))],
  [some (.inl (wGet 2 7)), none, none, some (.inl (wPI 2 (Int8.ofInt 60).toInt32)), none, some (.inl (wn (zic .eq 50))), none, none],
  [some (.inl (wn (zLA 1 0))), some (.inl (wGet 2 7)), none, none, some (.inl (wPI 2 (Int8.ofInt 62).toInt32)), none, some (.inl (wn (zic .eq 50))), none],
  [none, some (.inl (wn (zLA 1 0))), some (.inl (wGet 2 7)), none, none, some (.inl (wPI 2 (Int8.ofInt 61).toInt32)), none, some (.inl (wn (zic .ne 54)))],
  [none, none, some (.inl (wPI 1 (Int32.ofInt 3))), some (.inl (wGo 55)), none, none, some (.inl (wPI 1 (Int32.ofInt 4))), some (.inl (wPut 2 2))],
  [none, none, some (.inl (wn (zLA 1 0))), some (.inl (wn (zLA 1 0))), some (.inl (wGet 2 3)), none, none, some (.inl (wPI 1 (Int32.ofInt 1)))],
  [some (.inl (wn zadd)), some (.inl (wPut 2 4)), none, none, some (.inr (.return_, 0, 0, 0))]]
theorem wk_30 : wt_30 = xt_30.map (fun l => l.map (Option.map wcv)) := rfl
noncomputable def wt_31 : wT := [[some (.inl (wPI 1 (Int32.ofInt 0))), some (.inl (wn (zS1 1 1))), some (.inl (wn (zLA 1 0))), some (.inl (wGet 2 3)), none, none, some (.inl (wn (zS1 1 2))), some (.inl (wPI 1 (Int32.ofInt 1)))],
  [some (.inl (wn (zS1 1 3))), some (.inl (wPI 1 (Int32.ofInt 0))), some (.inl (wn (zS1 2 4))), none, some (.inl (wn (zL1 2 4))), none, some (.inl (wNo)), none],
  [some (.inl (wNo)), none, none, some (.inl (wn (zic .ge 103))), none, none, some (.inl (wNo)), none],
  [some (.inl (wn (zL1 2 4))), none, some (.inl (wNo)), none, none, some (.inl (wn (zS1 2 5))), none, some (.inl (wn (zL1 2 5)))],
  [none, some (.inl (wPI 2 (Int8.ofInt 32).toInt32)), none, some (.inl (wn (zic .eq 73))), none, none, some (.inl (wn (zL1 1 3))), some (.inl (wn (zif .eq 65)))],
  [none, none, some (.inl (wn (zL1 1 2))), some (.inl (wn (zLA 1 0))), some (.inl (wGet 2 4)), none, none, some (.inl (wn (zic .ge 65)))],
  [none, none, some (.inl (wn (zLA 1 0))), some (.inl (wGet 2 0)), none, none, some (.inl (wn (zL1 1 2))), some (.inl (wAld 21))],
  [some (.inl (wn (zL1 2 5))), none, some (.inl (wn (zic .ne 65))), none, none, some (.inl (wPI 1 (Int32.ofInt 1))), some (.inl (wGo 66)), none],
  [none, some (.inl (wPI 1 (Int32.ofInt 0))), some (.inl (wn (zS1 1 3))), some (.inl (wn (zinc 2 1))), none, none, some (.inl (wGo 97)), none],
  [none, some (.inl (wn (zL1 1 3))), some (.inl (wn (zif .eq 87))), none, none, some (.inl (wn (zL1 1 2))), some (.inl (wn (zLA 1 0))), some (.inl (wGet 2 4))],
  [none, none, some (.inl (wn (zic .ne 87))), none, none, some (.inl (wn (zL1 1 1))), some (.inr (.ireturn, 0, 0, 0)), some (.inl (wn (zinc 1 1)))],
  [none, none, some (.inl (wn (zLA 1 0))), some (.inl (wGet 2 3)), none, none, some (.inl (wn (zS1 1 2))), some (.inl (wPI 1 (Int32.ofInt 1)))],
  [some (.inl (wn (zS1 1 3))), some (.inl (wn (zinc 4 1))), none, none, some (.inl (wGo 12)), none, none, some (.inl (wPI 1 (Int32.ofInt (-1))))],
  [some (.inr (.ireturn, 0, 0, 0))]]
theorem wk_31 : wt_31 = xt_31.map (fun l => l.map (Option.map wcv)) := rfl
noncomputable def wt_32 : wT := [[some (.inl (wn (zLA 1 0))), some (.inl (wGet 2 2)), none, none, some (.inl (wn (zif .ne 11))), none, none, some (.inl (wPI 1 (Int32.ofInt 1)))],
  [some (.inl (wGo 12)), none, none, some (.inl (wPI 1 (Int32.ofInt 0))), some (.inr (.ireturn, 0, 0, 0))]]
theorem wk_32 : wt_32 = xt_32.map (fun l => l.map (Option.map wcv)) := rfl
noncomputable def wt_33 : wT := [[some (.inl (wn (zLA 1 0))), some (.inl (wn (zLA 1 0))), some (.inl (wGet 2 2)), none, none, some (.inl (wPI 1 (Int32.ofInt 4))), some (.inl (wn (zic .ne 13))), none],
  [none, some (.inl (wPI 1 (Int32.ofInt 1))), some (.inl (wGo 14)), none, none, some (.inl (wn (zL1 1 1))), some (.inl (wPut 2 9)), none],
  [none, some (.inl (wn (zLA 1 0))), some (.inl (wn (zLA 1 0))), some (.inl (wGet 2 3)), none, none, some (.inl (wPut 2 10)), none],
  [none, some (.inl (wPI 1 (Int32.ofInt 0))), some (.inr (.ireturn, 0, 0, 0))]]
theorem wk_33 : wt_33 = xt_33.map (fun l => l.map (Option.map wcv)) := rfl
noncomputable def wt_34 : wT := [[some (.inl (wn (zLA 1 0))), some (.inl (wGet 2 5)), none, none, some (.inl (wn (zL1 1 1))), some (.inl (wn (zic .eq 14))), none, none],
  [some (.inl (wn (zLA 1 0))), some (.inl (wPI 1 (Int32.ofInt 2))), some (.inr (.invokevirtual 89, 33, 2, 2)), none, none, some (.inr (.ireturn, 0, 0, 0)), some (.inl (wn (zLA 1 0))), some (.inr (.invokevirtual 53, 25, 1, 2))],
  [none, none, some (.inl (wPI 1 (Int32.ofInt 1))), some (.inr (.ireturn, 0, 0, 0))]]
theorem wk_34 : wt_34 = xt_34.map (fun l => l.map (Option.map wcv)) := rfl
noncomputable def wt_35 : wT := [[some (.inl (wn (zLA 1 0))), some (.inl (wGet 2 2)), none, none, some (.inl (wPI 1 (Int32.ofInt 3))), some (.inl (wn (zic .ne 17))), none, none],
  [some (.inl (wn (zLA 1 0))), some (.inl (wGet 2 7)), none, none, some (.inl (wPI 2 (Int8.ofInt 59).toInt32)), none, some (.inl (wn (zic .eq 23))), none],
  [none, some (.inl (wn (zLA 1 0))), some (.inl (wPI 1 (Int32.ofInt 2))), some (.inr (.invokevirtual 89, 33, 2, 2)), none, none, some (.inr (.ireturn, 0, 0, 0)), some (.inl (wn (zLA 1 0)))],
  [some (.inr (.invokevirtual 53, 25, 1, 2)), none, none, some (.inl (wPI 1 (Int32.ofInt 1))), some (.inr (.ireturn, 0, 0, 0))]]
theorem wk_35 : wt_35 = xt_35.map (fun l => l.map (Option.map wcv)) := rfl
noncomputable def wt_36 : wT := [[some (.inl (wn (zLA 1 0))), some (.inl (wGet 2 2)), none, none, some (.inl (wPI 1 (Int32.ofInt 3))), some (.inl (wn (zic .ne 17))), none, none],
  [some (.inl (wn (zLA 1 0))), some (.inl (wGet 2 7)), none, none, some (.inl (wPI 2 (Int8.ofInt 59).toInt32)), none, some (.inl (wn (zic .ne 25))), none],
  [none, some (.inl (wn (zLA 1 0))), some (.inl (wPI 1 (Int32.ofInt 2))), some (.inr (.invokevirtual 89, 33, 2, 2)), none, none, some (.inl (wn (zif .eq 29))), none],
  [none, some (.inl (wPI 1 (Int32.ofInt 1))), some (.inl (wGo 30)), none, none, some (.inl (wPI 1 (Int32.ofInt 0))), some (.inr (.ireturn, 0, 0, 0))]]
theorem wk_36 : wt_36 = xt_36.map (fun l => l.map (Option.map wcv)) := rfl
noncomputable def wt_37 : wT := [[some (.inl (wn (zLA 1 0))), some (.inl (wGet 2 2)), none, none, some (.inl (wPI 1 (Int32.ofInt 2))), some (.inl (wn (zic .eq 14))), none, none],
  [some (.inl (wn (zLA 1 0))), some (.inl (wPI 1 (Int32.ofInt 2))), some (.inr (.invokevirtual 89, 33, 2, 2)), none, none, some (.inr (.ireturn, 0, 0, 0)), some (.inl (wn (zLA 1 0))), some (.inl (wGet 2 7))],
  [none, none, some (.inl (wn (zL1 1 1))), some (.inl (wn (zL1 1 2))), some (.inr (.invokestatic 92, 127, 3, 1)), none, none, some (.inl (wn (zif .ne 34)))],
  [none, none, some (.inl (wn (zLA 1 0))), some (.inl (wPI 1 (Int32.ofInt 4))), some (.inr (.invokevirtual 89, 33, 2, 2)), none, none, some (.inl (wn (zif .eq 38)))],
  [none, none, some (.inl (wPI 1 (Int32.ofInt 1))), some (.inl (wGo 39)), none, none, some (.inl (wPI 1 (Int32.ofInt 0))), some (.inr (.ireturn, 0, 0, 0))]]
theorem wk_37 : wt_37 = xt_37.map (fun l => l.map (Option.map wcv)) := rfl
noncomputable def wt_38 : wT := [[some (.inl (wn (zLA 1 0))), some (.inl (wGet 2 2)), none, none, some (.inl (wPI 1 (Int32.ofInt 1))), some (.inl (wn (zic .ne 30))), none, none],
  [some (.inl (wn (zLA 1 0))), some (.inl (wGet 2 5)), none, none, some (.inl (wPI 1 (Int32.ofInt (-1)))), some (.inl (wn (zic .ne 30))), none, none],
  [some (.inl (wn (zLA 1 0))), some (.inl (wGet 2 4)), none, none, some (.inl (wn (zLA 1 0))), some (.inl (wGet 2 3)), none, none],
  [some (.inl (wn zsub)), some (.inl (wPI 2 (Int8.ofInt 8).toInt32)), none, some (.inl (wn (zic .le 38))), none, none, some (.inl (wn (zLA 1 0))), some (.inl (wPI 1 (Int32.ofInt 2)))],
  [some (.inr (.invokevirtual 89, 33, 2, 2)), none, none, some (.inl (wn (zif .eq 42))), none, none, some (.inl (wPI 1 (Int32.ofInt 1))), some (.inl (wGo 43))],
  [none, none, some (.inl (wPI 1 (Int32.ofInt 0))), some (.inr (.ireturn, 0, 0, 0))]]
theorem wk_38 : wt_38 = xt_38.map (fun l => l.map (Option.map wcv)) := rfl
noncomputable def wt_39 : wT := [[some (.inl (wn (zLA 1 0))), some (.inr (.invokevirtual 96, 38, 1, 2)), none, none, some (.inl (wn (zif .ne 9))), none, none, some (.inl (wPI 1 (Int32.ofInt 0)))],
  [some (.inr (.ireturn, 0, 0, 0)), some (.inl (wn (zLA 1 0))), some (.inl (wn (zLA 1 1))), some (.inl (wn (zL1 1 2))), some (.inl (wn (zLA 1 0))), some (.inl (wGet 2 6)), none, none],
  [some (.inr (.invokestatic 100, 40, 3, 0)), none, none, some (.inl (wPut 2 8)), none, none, some (.inl (wn (zLA 1 0))), some (.inl (wGet 2 8))],
  [none, none, some (.inl (wPI 1 (Int32.ofInt (-1)))), some (.inl (wn (zic .ne 38))), none, none, some (.inl (wn (zLA 1 0))), some (.inl (wPI 1 (Int32.ofInt 3)))],
  [some (.inr (.invokevirtual 89, 33, 2, 2)), none, none, some (.inl (wn (zif .eq 42))), none, none, some (.inl (wPI 1 (Int32.ofInt 1))), some (.inl (wGo 43))],
  [none, none, some (.inl (wPI 1 (Int32.ofInt 0))), some (.inr (.ireturn, 0, 0, 0))]]
theorem wk_39 : wt_39 = xt_39.map (fun l => l.map (Option.map wcv)) := rfl
