noncomputable def wt_120 : wT := [[some (.inl (wn (zLA 1 0))), some (.inl (wGet 11 7)), none, none, some (.inr (.lreturn, 0, 0, 0))]]
theorem wk_120 : wt_120 = xt_120.map (fun l => l.map (Option.map wcv)) := rfl
noncomputable def wt_121 : wT := [[some (.inl (wn (zLA 1 0))), some (.inl (wPI 1 (Int32.ofInt 0))), some (.inl (wPut 11 5)), none, none, some (.inl (wn (zL1 1 1))), some (.inr (.ireturn, 0, 0, 0))]]
theorem wk_121 : wt_121 = xt_121.map (fun l => l.map (Option.map wcv)) := rfl
noncomputable def wt_122 : wT := [[some (.inl (wn (zLA 1 0))), some (.inl (wn (zL1 1 1))), some (.inl (wPut 11 5)), none, none, some (.inl (wPI 1 (Int32.ofInt (-1)))), some (.inr (.ireturn, 0, 0, 0))]]
theorem wk_122 : wt_122 = xt_122.map (fun l => l.map (Option.map wcv)) := rfl
noncomputable def wt_123 : wT := [[some (.inl (wn (zLA 1 0))), some (.inl (wPI 1 (Int32.ofInt 0))), some (.inl (wPut 11 5)), none, none, some (.inl (wPI 1 (Int32.ofInt 1))), some (.inr (.ireturn, 0, 0, 0))]]
theorem wk_123 : wt_123 = xt_123.map (fun l => l.map (Option.map wcv)) := rfl
noncomputable def wt_124 : wT := [[some (.inl (wn (zLA 1 0))), some (.inl (wn (zL1 1 1))), some (.inl (wPut 11 5)), none, none, some (.inl (wPI 1 (Int32.ofInt 0))), some (.inr (.ireturn, 0, 0, 0))]]
theorem wk_124 : wt_124 = xt_124.map (fun l => l.map (Option.map wcv)) := rfl
noncomputable def wt_125 : wT := [[some (.inl (wn (zL1 1 1))), some (.inl (wPI 1 (Int32.ofInt (-1)))), some (.inl (wn (zic .ne 14))), none, none, some (.inl (wn (zLA 1 0))), some (.inl (wPI 2 (Int8.ofInt 6).toInt32)), none],
  [some (.inr (.invokevirtual 112, 122, 2, 11)), none, none, some (.inl (wGo 19)), none, none, some (.inl (wn (zLA 1 0))), some (.inl (wn (zL1 1 1)))],
  [some (.inr (.invokevirtual 116, 121, 2, 11)), none, none, some (.inr (.ireturn, 0, 0, 0))]]
theorem wk_125 : wt_125 = xt_125.map (fun l => l.map (Option.map wcv)) := rfl
noncomputable def wt_126 : wT := [[some (.inl (wn (zL2 1 1))), some (.inl (wn (zS2 2 5))), none, some (.inl (wn (zL2 1 3))), some (.inl (wn (zS2 2 7))), none, some (.inl (wPI 1 (Int32.ofInt 0))), some (.inl (wn (zS1 2 9)))],
  [none, some (.inl (wn (zL1 2 9))), none, some (.inl (wPI 3 (Int16.ofInt 128).toInt32)), none, none, some (.inl (wn (zic .ge 45))), none],
  [none, some (.inl (wn (zL2 2 7))), none, some (.inl (wPL 1 (Int64.ofNat 0))), some (.inl (wn zlcm)), some (.inl (wn (zif .eq 45))), none, none],
  [some (.inl (wn (zL2 2 5))), none, some (.inl (wn (zL2 2 7))), none, some (.inl (wn zlrem)), some (.inl (wn (zS2 2 10))), none, some (.inl (wn (zL2 2 7)))],
  [none, some (.inl (wn (zS2 2 5))), none, some (.inl (wn (zL2 2 10))), none, some (.inl (wn (zS2 2 7))), none, some (.inl (wn (zinc 9 1)))],
  [none, none, some (.inl (wGo 9)), none, none, some (.inl (wn (zL2 2 5))), none, some (.inl (wPL 1 (Int64.ofNat 0)))],
  [some (.inl (wn zlcm)), some (.inl (wn (zif .le 57))), none, none, some (.inl (wn (zL2 2 5))), none, some (.inl (wGo 58)), none],
  [none, some (.inl (wPL 1 (Int64.ofNat 1))), some (.inl (wn (zS2 2 9))), none, some (.inl (wn (zLA 1 0))), some (.inl (wn (zL2 1 1))), some (.inl (wn (zL2 2 9))), none],
  [some (.inl (wn zldiv)), some (.inl (wPut 11 6)), none, none, some (.inl (wn (zLA 1 0))), some (.inl (wn (zL2 1 3))), some (.inl (wn (zL2 2 9))), none],
  [some (.inl (wn zldiv)), some (.inl (wPut 11 7)), none, none, some (.inr (.return_, 0, 0, 0))]]
theorem wk_126 : wt_126 = xt_126.map (fun l => l.map (Option.map wcv)) := rfl
noncomputable def wt_127 : wT := [[some (.inl (wn (zL1 1 0))), some (.inl (wn (zL1 1 1))), some (.inl (wn (zic .lt 14))), none, none, some (.inl (wn (zL1 1 0))), some (.inl (wn (zL1 1 2))), some (.inl (wn (zic .gt 14)))],
  [none, none, some (.inl (wPI 1 (Int32.ofInt 1))), some (.inl (wGo 15)), none, none, some (.inl (wPI 1 (Int32.ofInt 0))), some (.inr (.ireturn, 0, 0, 0))]]
theorem wk_127 : wt_127 = xt_127.map (fun l => l.map (Option.map wcv)) := rfl
noncomputable def wt_128 : wT := [[some (.inl (wn (zL1 1 1))), some (.inl (wPI 1 (Int32.ofInt 0))), some (.inl (wn (zLA 1 0))), some (.inl (wGet 11 10)), none, none, some (.inl (wGet 10 1)), none],
  [none, some (.inl (wGet 1 0)), none, none, some (.inl (wPI 1 (Int32.ofInt 1))), some (.inl (wn zsub)), some (.inr (.invokestatic 128, 127, 3, 0)), none],
  [none, some (.inr (.ireturn, 0, 0, 0))]]
theorem wk_128 : wt_128 = xt_128.map (fun l => l.map (Option.map wcv)) := rfl
noncomputable def wt_129 : wT := [[some (.inl (wn (zL1 1 1))), some (.inl (wPI 1 (Int32.ofInt 0))), some (.inl (wn (zLA 1 0))), some (.inl (wGet 11 10)), none, none, some (.inl (wGet 10 2)), none],
  [none, some (.inl (wGet 8 0)), none, none, some (.inl (wPI 1 (Int32.ofInt 1))), some (.inl (wn zsub)), some (.inr (.invokestatic 128, 127, 3, 0)), none],
  [none, some (.inr (.ireturn, 0, 0, 0))]]
theorem wk_129 : wt_129 = xt_129.map (fun l => l.map (Option.map wcv)) := rfl
noncomputable def wt_130 : wT := [[some (.inl (wn (zL1 1 1))), some (.inl (wPI 1 (Int32.ofInt 0))), some (.inl (wPI 1 (Int32.ofInt 1))), some (.inl (wn (zLA 1 0))), some (.inl (wGet 11 10)), none, none, some (.inl (wGet 10 2))],
  [none, none, some (.inl (wGet 8 0)), none, none, some (.inl (wn zshl)), some (.inl (wPI 1 (Int32.ofInt 1))), some (.inl (wn zsub))],
  [some (.inr (.invokestatic 128, 127, 3, 0)), none, none, some (.inr (.ireturn, 0, 0, 0))]]
theorem wk_130 : wt_130 = xt_130.map (fun l => l.map (Option.map wcv)) := rfl
noncomputable def wt_131 : wT := [[some (.inl (wn (zL1 1 1))), some (.inl (wPI 1 (Int32.ofInt 0))), some (.inl (wn (zLA 1 0))), some (.inl (wGet 11 10)), none, none, some (.inl (wGet 10 6)), none],
  [none, some (.inl (wPI 1 (Int32.ofInt 1))), some (.inl (wn zsub)), some (.inr (.invokestatic 128, 127, 3, 0)), none, none, some (.inr (.ireturn, 0, 0, 0))]]
theorem wk_131 : wt_131 = xt_131.map (fun l => l.map (Option.map wcv)) := rfl
noncomputable def wt_132 : wT := [[some (.inl (wn (zL1 1 1))), some (.inl (wPI 1 (Int32.ofInt 1))), some (.inl (wn (zLA 1 0))), some (.inl (wGet 11 10)), none, none, some (.inl (wGet 10 1)), none],
  [none, some (.inl (wGet 1 1)), none, none, some (.inr (.invokestatic 128, 127, 3, 0)), none, none, some (.inr (.ireturn, 0, 0, 0))]]
theorem wk_132 : wt_132 = xt_132.map (fun l => l.map (Option.map wcv)) := rfl
noncomputable def wt_133 : wT := [[some (.inl (wn (zL1 1 0))), some (.inl (wPI 1 (Int32.ofInt 0))), some (.inl (wPI 1 (Int32.ofInt 3))), some (.inr (.invokestatic 128, 127, 3, 0)), none, none, some (.inr (.ireturn, 0, 0, 0))]]
theorem wk_133 : wt_133 = xt_133.map (fun l => l.map (Option.map wcv)) := rfl
noncomputable def wt_134 : wT := [[some (.inl (wn (zL1 1 1))), some (.inr (.invokestatic 145, 133, 1, 0)), none, none, some (.inl (wn (zif .eq 26))), none, none, some (.inl (wn (zL1 1 2)))],
  [some (.inl (wPI 1 (Int32.ofInt 0))), some (.inl (wPI 1 (Int32.ofInt 3))), some (.inr (.invokestatic 128, 127, 3, 0)), none, none, some (.inl (wn (zif .eq 26))), none, none],
  [some (.inl (wn (zL1 1 3))), some (.inl (wPI 1 (Int32.ofInt 0))), some (.inl (wPI 2 (Int8.ofInt 60).toInt32)), none, some (.inr (.invokestatic 128, 127, 3, 0)), none, none, some (.inl (wn (zif .ne 32)))],
  [none, none, some (.inl (wn (zLA 1 0))), some (.inl (wPI 1 (Int32.ofInt 1))), some (.inr (.invokevirtual 149, 124, 2, 11)), none, none, some (.inr (.ireturn, 0, 0, 0))],
  [some (.inl (wn (zLA 1 0))), some (.inl (wGet 11 1)), none, none, some (.inl (wn (zL1 1 1))), some (.inl (wn (zL1 1 2))), some (.inl (wIast)), some (.inl (wn (zLA 1 0)))],
  [some (.inl (wGet 11 2)), none, none, some (.inl (wn (zL1 1 1))), some (.inl (wn (zL1 1 3))), some (.inl (wIast)), some (.inl (wn (zLA 1 0))), some (.inl (wGet 11 0))],
  [none, none, some (.inl (wn (zL1 1 1))), some (.inl (wAald)), some (.inl (wPL 1 (Int64.ofNat 0))), some (.inr (.invokestatic 152, 354, 2, 0)), none, none],
  [some (.inl (wn (zLA 1 0))), some (.inr (.invokevirtual 155, 123, 1, 11)), none, none, some (.inr (.ireturn, 0, 0, 0))]]
theorem wk_134 : wt_134 = xt_134.map (fun l => l.map (Option.map wcv)) := rfl
noncomputable def wt_135 : wT := [[some (.inl (wn (zLA 1 0))), some (.inl (wn (zL1 1 1))), some (.inl (wn (zL1 1 2))), some (.inr (.invokevirtual 159, 138, 3, 11)), none, none, some (.inl (wn (zS1 2 5))), none],
  [some (.inl (wn (zL1 2 5))), none, some (.inl (wn (zif .eq 20))), none, none, some (.inl (wn (zLA 1 0))), some (.inl (wn (zL1 2 5))), none],
  [some (.inr (.invokevirtual 149, 124, 2, 11)), none, none, some (.inr (.ireturn, 0, 0, 0)), some (.inl (wn (zLA 1 0))), some (.inl (wGet 11 0)), none, none],
  [some (.inl (wn (zL1 1 1))), some (.inl (wAald)), some (.inl (wn (zL1 1 2))), some (.inl (wn (zLA 1 0))), some (.inl (wGet 11 1)), none, none, some (.inl (wn (zL1 1 1)))],
  [some (.inl (wIald)), some (.inl (wn (zL2 1 3))), some (.inr (.invokestatic 163, 140, 2, 0)), none, none, some (.inl (wLast)), some (.inl (wn (zLA 1 0))), some (.inr (.invokevirtual 155, 123, 1, 11))],
  [none, none, some (.inr (.ireturn, 0, 0, 0))]]
theorem wk_135 : wt_135 = xt_135.map (fun l => l.map (Option.map wcv)) := rfl
noncomputable def wt_136 : wT := [[some (.inl (wn (zLA 1 0))), some (.inl (wn (zL1 1 1))), some (.inl (wn (zL1 1 2))), some (.inr (.invokevirtual 159, 138, 3, 11)), none, none, some (.inl (wn (zS1 1 3))), some (.inl (wn (zL1 1 3)))],
  [some (.inl (wn (zif .eq 18))), none, none, some (.inl (wn (zLA 1 0))), some (.inl (wn (zL1 1 3))), some (.inr (.invokevirtual 112, 122, 2, 11)), none, none],
  [some (.inl (wn zi2l)), some (.inr (.lreturn, 0, 0, 0)), some (.inl (wn (zLA 1 0))), some (.inl (wPI 1 (Int32.ofInt 0))), some (.inl (wPut 11 5)), none, none, some (.inl (wn (zLA 1 0)))],
  [some (.inl (wGet 11 0)), none, none, some (.inl (wn (zL1 1 1))), some (.inl (wAald)), some (.inl (wn (zL1 1 2))), some (.inl (wAld 22)), some (.inr (.lreturn, 0, 0, 0))]]
theorem wk_136 : wt_136 = xt_136.map (fun l => l.map (Option.map wcv)) := rfl
noncomputable def wt_137 : wT := [[some (.inl (wn (zL1 1 1))), some (.inr (.invokestatic 145, 133, 1, 0)), none, none, some (.inl (wn (zif .eq 28))), none, none, some (.inl (wn (zL1 1 3)))],
  [some (.inr (.invokestatic 145, 133, 1, 0)), none, none, some (.inl (wn (zif .eq 28))), none, none, some (.inl (wn (zL1 1 2))), some (.inl (wn (zif .lt 28)))],
  [none, none, some (.inl (wn (zL1 2 4))), none, some (.inl (wn (zif .lt 28))), none, none, some (.inl (wn (zL1 2 5)))],
  [none, some (.inl (wn (zif .ge 34))), none, none, some (.inl (wn (zLA 1 0))), some (.inl (wPI 1 (Int32.ofInt 1))), some (.inr (.invokevirtual 149, 124, 2, 11)), none],
  [none, some (.inr (.ireturn, 0, 0, 0)), some (.inl (wn (zLA 1 0))), some (.inl (wGet 11 1)), none, none, some (.inl (wn (zL1 1 1))), some (.inl (wIald))],
  [some (.inl (wPI 1 (Int32.ofInt (-1)))), some (.inl (wn (zic .eq 54))), none, none, some (.inl (wn (zLA 1 0))), some (.inl (wGet 11 1)), none, none],
  [some (.inl (wn (zL1 1 3))), some (.inl (wIald)), some (.inl (wPI 1 (Int32.ofInt (-1)))), some (.inl (wn (zic .ne 60))), none, none, some (.inl (wn (zLA 1 0))), some (.inl (wPI 1 (Int32.ofInt 2)))],
  [some (.inr (.invokevirtual 149, 124, 2, 11)), none, none, some (.inr (.ireturn, 0, 0, 0)), some (.inl (wn (zLA 1 0))), some (.inl (wGet 11 1)), none, none],
  [some (.inl (wn (zL1 1 1))), some (.inl (wIald)), some (.inl (wn (zLA 1 0))), some (.inl (wGet 11 1)), none, none, some (.inl (wn (zL1 1 3))), some (.inl (wIald))],
  [some (.inl (wn (zic .eq 82))), none, none, some (.inl (wn (zLA 1 0))), some (.inl (wPI 2 (Int8.ofInt 8).toInt32)), none, some (.inr (.invokevirtual 149, 124, 2, 11)), none],
  [none, some (.inr (.ireturn, 0, 0, 0)), some (.inl (wn (zL1 2 5))), none, some (.inl (wn (zLA 1 0))), some (.inl (wGet 11 2)), none, none],
  [some (.inl (wn (zL1 1 1))), some (.inl (wIald)), some (.inl (wn (zL1 1 2))), some (.inl (wn zsub)), some (.inl (wn (zic .gt 109))), none, none, some (.inl (wn (zL1 2 5)))],
  [none, some (.inl (wn (zLA 1 0))), some (.inl (wGet 11 2)), none, none, some (.inl (wn (zL1 1 3))), some (.inl (wIald)), some (.inl (wn (zL1 2 4)))],
  [none, some (.inl (wn zsub)), some (.inl (wn (zic .le 115))), none, none, some (.inl (wn (zLA 1 0))), some (.inl (wPI 1 (Int32.ofInt 3))), some (.inr (.invokevirtual 149, 124, 2, 11))],
  [none, none, some (.inr (.ireturn, 0, 0, 0)), some (.inl (wn (zLA 1 0))), some (.inl (wGet 11 0)), none, none, some (.inl (wn (zL1 1 1)))],
  [some (.inl (wAald)), some (.inl (wn (zL1 1 2))), some (.inl (wn (zLA 1 0))), some (.inl (wGet 11 0)), none, none, some (.inl (wn (zL1 1 3))), some (.inl (wAald))],
  [some (.inl (wn (zL1 2 4))), none, some (.inl (wn (zL1 2 5))), none, some (.inl (wCopy)), none, none, some (.inl (wn (zLA 1 0)))],
  [some (.inr (.invokevirtual 155, 123, 1, 11)), none, none, some (.inr (.ireturn, 0, 0, 0))]]
theorem wk_137 : wt_137 = xt_137.map (fun l => l.map (Option.map wcv)) := rfl
noncomputable def wt_138 : wT := [[some (.inl (wn (zL1 1 1))), some (.inr (.invokestatic 145, 133, 1, 0)), none, none, some (.inl (wn (zif .ne 9))), none, none, some (.inl (wPI 1 (Int32.ofInt 1)))],
  [some (.inr (.ireturn, 0, 0, 0)), some (.inl (wn (zLA 1 0))), some (.inl (wGet 11 1)), none, none, some (.inl (wn (zL1 1 1))), some (.inl (wIald)), some (.inl (wPI 1 (Int32.ofInt (-1))))],
  [some (.inl (wn (zic .ne 21))), none, none, some (.inl (wPI 1 (Int32.ofInt 2))), some (.inr (.ireturn, 0, 0, 0)), some (.inl (wn (zL1 1 2))), some (.inl (wPI 1 (Int32.ofInt 0))), some (.inl (wn (zLA 1 0)))],
  [some (.inl (wGet 11 2)), none, none, some (.inl (wn (zL1 1 1))), some (.inl (wIald)), some (.inl (wPI 1 (Int32.ofInt 1))), some (.inl (wn zsub)), some (.inr (.invokestatic 128, 127, 3, 0))],
  [none, none, some (.inl (wn (zif .eq 41))), none, none, some (.inl (wPI 1 (Int32.ofInt 0))), some (.inl (wGo 42)), none],
  [none, some (.inl (wPI 1 (Int32.ofInt 3))), some (.inr (.ireturn, 0, 0, 0))]]
theorem wk_138 : wt_138 = xt_138.map (fun l => l.map (Option.map wcv)) := rfl
noncomputable def wt_139 : wT := [[some (.inl (wn (zLA 1 0))), some (.inl (wGet 11 1)), none, none, some (.inl (wn (zL1 1 1))), some (.inl (wIald)), some (.inl (wPI 1 (Int32.ofInt (-1)))), some (.inl (wn (zic .ne 12)))],
  [none, none, some (.inl (wPI 1 (Int32.ofInt 2))), some (.inr (.ireturn, 0, 0, 0)), some (.inl (wn (zLA 1 0))), some (.inl (wGet 11 2)), none, none],
  [some (.inl (wn (zL1 1 1))), some (.inl (wIald)), some (.inl (wn (zL1 1 2))), some (.inl (wn (zic .ge 26))), none, none, some (.inl (wPI 1 (Int32.ofInt 3))), some (.inl (wGo 27))],
  [none, none, some (.inl (wPI 1 (Int32.ofInt 0))), some (.inr (.ireturn, 0, 0, 0))]]
theorem wk_139 : wt_139 = xt_139.map (fun l => l.map (Option.map wcv)) := rfl
noncomputable def wt_140 : wT := [[some (.inl (wn (zL1 1 0))), some (.inl (wn (zsw 41 0 2 #[27, 32, 37]))), none, none, none, none, none, none],
  [none, none, none, none, none, none, none, none],
  [none, none, none, none, none, none, none, none],
  [none, none, none, none, some (.inl (wn (zL2 1 1))), some (.inl (wn zl2i)), some (.inl (wn zi2b)), some (.inl (wn zi2l))],
  [some (.inr (.lreturn, 0, 0, 0)), some (.inl (wn (zL2 1 1))), some (.inl (wn zl2i)), some (.inl (wn zi2s)), some (.inl (wn zi2l)), some (.inr (.lreturn, 0, 0, 0)), some (.inl (wn (zL2 1 1))), some (.inl (wn zl2i))],
  [some (.inl (wn zi2l)), some (.inr (.lreturn, 0, 0, 0)), some (.inl (wn (zL2 1 1))), some (.inr (.lreturn, 0, 0, 0))]]
theorem wk_140 : wt_140 = xt_140.map (fun l => l.map (Option.map wcv)) := rfl
noncomputable def wt_141 : wT := [[some (.inl (wn (zLA 1 0))), some (.inl (wGet 11 4)), none, none, some (.inl (wPI 2 (Int8.ofInt 20).toInt32)), none, some (.inl (wn zadd)), some (.inl (wPI 3 (Int16.ofInt 900).toInt32))],
  [none, none, some (.inl (wn (zic .le 15))), none, none, some (.inl (wPI 1 (Int32.ofInt (-1)))), some (.inr (.ireturn, 0, 0, 0)), some (.inl (wn (zLA 1 0)))],
  [some (.inl (wn (zL1 1 1))), some (.inr (.invokevirtual 173, 142, 2, 11)), none, none, some (.inl (wn (zLA 1 0))), some (.inl (wn (zL1 1 2))), some (.inr (.invokevirtual 173, 142, 2, 11)), none],
  [none, some (.inl (wn (zLA 1 0))), some (.inl (wn (zL1 1 3))), some (.inr (.invokevirtual 173, 142, 2, 11)), none, none, some (.inl (wn (zLA 1 0))), some (.inl (wn (zL1 2 4)))],
  [none, some (.inr (.invokevirtual 173, 142, 2, 11)), none, none, some (.inl (wn (zLA 1 0))), some (.inl (wn (zL1 2 5))), none, some (.inr (.invokevirtual 173, 142, 2, 11))],
  [none, none, some (.inl (wn (zLA 1 0))), some (.inl (wGet 11 4)), none, none, some (.inr (.ireturn, 0, 0, 0))]]
theorem wk_141 : wt_141 = xt_141.map (fun l => l.map (Option.map wcv)) := rfl
noncomputable def wt_142 : wT := [[some (.inl (wPI 2 (Int8.ofInt 24).toInt32)), none, some (.inl (wn (zS1 1 2))), some (.inl (wn (zL1 1 2))), some (.inl (wn (zif .lt 49))), none, none, some (.inl (wn (zLA 1 0)))],
  [some (.inl (wGet 11 4)), none, none, some (.inl (wPI 3 (Int16.ofInt 900).toInt32)), none, none, some (.inl (wn (zic .ge 43))), none],
  [none, some (.inl (wn (zLA 1 0))), some (.inl (wGet 11 3)), none, none, some (.inl (wGet 2 0)), none, none],
  [some (.inl (wn (zLA 1 0))), some (.inl (wGet 11 4)), none, none, some (.inl (wn (zL1 1 1))), some (.inl (wn (zL1 1 2))), some (.inl (wn zushr)), some (.inl (wn zi2b))],
  [some (.inl (wBast)), some (.inl (wn (zLA 1 0))), some (.inl (wn zdup)), some (.inl (wGet 11 4)), none, none, some (.inl (wPI 1 (Int32.ofInt 1))), some (.inl (wn zadd))],
  [some (.inl (wPut 11 4)), none, none, some (.inl (wn (zinc 2 (-8)))), none, none, some (.inl (wGo 3)), none],
  [none, some (.inr (.return_, 0, 0, 0))]]
theorem wk_142 : wt_142 = xt_142.map (fun l => l.map (Option.map wcv)) := rfl
noncomputable def wt_143 : wT := [[some (.inl (wn (zL1 1 1))), some (.inl (wPI 1 (Int32.ofInt 0))), some (.inl (wn (zLA 1 0))), some (.inl (wGet 11 4)), none, none, some (.inr (.invokestatic 128, 127, 3, 0)), none],
  [none, some (.inl (wn (zif .ne 18))), none, none, some (.inl (wn (zLA 1 0))), some (.inl (wPI 1 (Int32.ofInt 1))), some (.inr (.invokevirtual 112, 122, 2, 11)), none],
  [none, some (.inr (.ireturn, 0, 0, 0)), some (.inl (wn (zLA 1 0))), some (.inl (wPI 1 (Int32.ofInt 0))), some (.inl (wPut 11 4)), none, none, some (.inl (wn (zLA 1 0)))],
  [some (.inl (wGet 11 13)), none, none, some (.inl (wn (zL1 1 1))), some (.inr (.invokevirtual 181, 75, 2, 7)), none, none, some (.inl (wn (zS1 1 2)))],
  [some (.inl (wn (zLA 1 0))), some (.inr (.invokevirtual 184, 145, 1, 11)), none, none, some (.inl (wn (zL1 1 2))), some (.inl (wn (zif .ne 47))), none, none],
  [some (.inl (wn (zLA 1 0))), some (.inl (wPI 2 (Int8.ofInt 9).toInt32)), none, some (.inr (.invokevirtual 112, 122, 2, 11)), none, none, some (.inr (.ireturn, 0, 0, 0)), some (.inl (wn (zLA 1 0)))],
  [some (.inl (wGet 11 10)), none, none, some (.inl (wn (zLA 1 0))), some (.inl (wGet 11 13)), none, none, some (.inl (wGet 7 0))],
  [none, none, some (.inr (.invokevirtual 190, 105, 2, 10)), none, none, some (.inl (wn (zLA 1 0))), some (.inl (wn (zLA 1 0))), some (.inl (wGet 11 10))],
  [none, none, some (.inl (wGet 10 2)), none, none, some (.inl (wGet 8 0)), none, none],
  [some (.inr (.invokevirtual 116, 121, 2, 11)), none, none, some (.inr (.ireturn, 0, 0, 0))]]
theorem wk_143 : wt_143 = xt_143.map (fun l => l.map (Option.map wcv)) := rfl
noncomputable def wt_144 : wT := [[some (.inl (wn (zL1 1 1))), some (.inl (wPI 1 (Int32.ofInt 0))), some (.inl (wn (zLA 1 0))), some (.inl (wGet 11 4)), none, none, some (.inl (wPI 3 (Int16.ofInt 300).toInt32)), none],
  [none, some (.inl (wn zmin)), none, none, some (.inr (.invokestatic 128, 127, 3, 0)), none, none, some (.inl (wn (zif .ne 24)))],
  [none, none, some (.inl (wn (zLA 1 0))), some (.inl (wPI 1 (Int32.ofInt 1))), some (.inr (.invokevirtual 112, 122, 2, 11)), none, none, some (.inr (.ireturn, 0, 0, 0))],
  [some (.inl (wn (zLA 1 0))), some (.inl (wPI 1 (Int32.ofInt 0))), some (.inl (wPut 11 4)), none, none, some (.inl (wn (zLA 1 0))), some (.inl (wGet 11 14)), none],
  [none, some (.inl (wn (zLA 1 0))), some (.inl (wGet 11 10)), none, none, some (.inl (wn (zL1 1 1))), some (.inr (.invokevirtual 199, 51, 3, 4)), none],
  [none, some (.inl (wn (zS1 1 2))), some (.inl (wn (zLA 1 0))), some (.inr (.invokevirtual 184, 145, 1, 11)), none, none, some (.inl (wn (zL1 1 2))), some (.inl (wn (zif .ne 57)))],
  [none, none, some (.inl (wn (zLA 1 0))), some (.inl (wPI 2 (Int8.ofInt 9).toInt32)), none, some (.inr (.invokevirtual 112, 122, 2, 11)), none, none],
  [some (.inr (.ireturn, 0, 0, 0)), some (.inl (wn (zLA 1 0))), some (.inl (wGet 11 10)), none, none, some (.inl (wGet 10 3)), none, none],
  [some (.inl (wn (zLA 1 0))), some (.inl (wGet 11 14)), none, none, some (.inl (wGet 4 0)), none, none, some (.inr (.invokevirtual 208, 72, 2, 6))],
  [none, none, some (.inl (wn (zLA 1 0))), some (.inl (wn (zLA 1 0))), some (.inl (wGet 11 10)), none, none, some (.inl (wGet 10 3))],
  [none, none, some (.inl (wGet 6 1)), none, none, some (.inr (.invokevirtual 116, 121, 2, 11)), none, none],
  [some (.inr (.ireturn, 0, 0, 0))]]
theorem wk_144 : wt_144 = xt_144.map (fun l => l.map (Option.map wcv)) := rfl
noncomputable def wt_145 : wT := [[some (.inl (wn (zLA 1 0))), some (.inl (wn (zLA 1 0))), some (.inl (wGet 11 3)), none, none, some (.inl (wGet 2 9)), none, none],
  [some (.inl (wPut 11 8)), none, none, some (.inl (wn (zLA 1 0))), some (.inl (wn (zLA 1 0))), some (.inl (wGet 11 3)), none, none],
  [some (.inl (wGet 2 10)), none, none, some (.inl (wPut 11 9)), none, none, some (.inr (.return_, 0, 0, 0))]]
theorem wk_145 : wt_145 = xt_145.map (fun l => l.map (Option.map wcv)) := rfl
noncomputable def wt_146 : wT := [[some (.inl (wn (zL1 1 1))), some (.inl (wn (zif .ne 9))), none, none, some (.inl (wn (zLA 1 0))), some (.inl (wGet 11 8)), none, none],
  [some (.inr (.ireturn, 0, 0, 0)), some (.inl (wn (zL1 1 1))), some (.inl (wPI 1 (Int32.ofInt 1))), some (.inl (wn (zic .ne 21))), none, none, some (.inl (wn (zLA 1 0))), some (.inl (wGet 11 9))],
  [none, none, some (.inl (wGo 22)), none, none, some (.inl (wPI 1 (Int32.ofInt (-1)))), some (.inr (.ireturn, 0, 0, 0))]]
theorem wk_146 : wt_146 = xt_146.map (fun l => l.map (Option.map wcv)) := rfl
noncomputable def wt_147 : wT := [[some (.inl (wn (zLA 1 0))), some (.inl (wGet 11 10)), none, none, some (.inl (wGet 10 1)), none, none, some (.inl (wn (zSA 1 2)))],
  [some (.inl (wn (zL1 1 1))), some (.inl (wn (zsw 254 0 13 #[71, 86, 101, 110, 125, 137, 146, 164, 176, 186, 196, 212, 230, 242]))), none, none, none, none, none, none],
  [none, none, none, none, none, none, none, none],
  [none, none, none, none, none, none, none, none],
  [none, none, none, none, none, none, none, none],
  [none, none, none, none, none, none, none, none],
  [none, none, none, none, none, none, none, none],
  [none, none, none, none, none, none, none, none],
  [none, none, none, none, none, none, none, none],
  [none, none, none, none, none, none, none, none],
  [some (.inl (wn (zLA 1 0))), some (.inl (wn (zLA 1 0))), some (.inl (wGet 11 10)), none, none, some (.inl (wGet 10 0)), none, none],
  [some (.inl (wGet 3 0)), none, none, some (.inr (.invokevirtual 116, 121, 2, 11)), none, none, some (.inr (.ireturn, 0, 0, 0)), some (.inl (wn (zLA 1 0)))],
  [some (.inl (wn (zLA 1 0))), some (.inl (wGet 11 10)), none, none, some (.inl (wGet 10 0)), none, none, some (.inl (wGet 3 1))],
  [none, none, some (.inr (.invokevirtual 116, 121, 2, 11)), none, none, some (.inr (.ireturn, 0, 0, 0)), some (.inl (wn (zLA 1 0))), some (.inl (wn (zLA 1 2)))],
  [some (.inl (wGet 1 0)), none, none, some (.inr (.invokevirtual 116, 121, 2, 11)), none, none, some (.inr (.ireturn, 0, 0, 0)), some (.inl (wn (zLA 1 0)))],
  [some (.inl (wn (zLA 1 0))), some (.inl (wGet 11 10)), none, none, some (.inl (wGet 10 2)), none, none, some (.inl (wGet 8 0))],
  [none, none, some (.inr (.invokevirtual 116, 121, 2, 11)), none, none, some (.inr (.ireturn, 0, 0, 0)), some (.inl (wn (zLA 1 0))), some (.inl (wn (zLA 1 0)))],
  [some (.inl (wGet 11 10)), none, none, some (.inl (wGet 10 6)), none, none, some (.inr (.invokevirtual 116, 121, 2, 11)), none],
  [none, some (.inr (.ireturn, 0, 0, 0)), some (.inl (wn (zLA 1 0))), some (.inl (wn (zLA 1 2))), some (.inl (wGet 1 1)), none, none, some (.inr (.invokevirtual 116, 121, 2, 11))],
  [none, none, some (.inr (.ireturn, 0, 0, 0)), some (.inl (wn (zLA 1 0))), some (.inl (wn (zLA 1 0))), some (.inl (wGet 11 10)), none, none],
  [some (.inl (wn (zLA 1 2))), some (.inl (wGet 1 1)), none, none, some (.inl (wPI 1 (Int32.ofInt 1))), some (.inl (wn zadd)), some (.inr (.invokevirtual 230, 106, 2, 10)), none],
  [none, some (.inr (.invokevirtual 116, 121, 2, 11)), none, none, some (.inr (.ireturn, 0, 0, 0)), some (.inl (wn (zLA 1 0))), some (.inl (wn (zLA 1 0))), some (.inl (wGet 11 10))],
  [none, none, some (.inl (wGet 10 5)), none, none, some (.inr (.invokevirtual 116, 121, 2, 11)), none, none],
  [some (.inr (.ireturn, 0, 0, 0)), some (.inl (wn (zLA 1 0))), some (.inl (wn (zLA 1 2))), some (.inl (wPI 1 (Int32.ofInt 1))), some (.inr (.invokevirtual 236, 16, 2, 1)), none, none, some (.inr (.invokevirtual 116, 121, 2, 11))],
  [none, none, some (.inr (.ireturn, 0, 0, 0)), some (.inl (wn (zLA 1 0))), some (.inl (wn (zLA 1 2))), some (.inl (wPI 1 (Int32.ofInt 2))), some (.inr (.invokevirtual 236, 16, 2, 1)), none],
  [none, some (.inr (.invokevirtual 116, 121, 2, 11)), none, none, some (.inr (.ireturn, 0, 0, 0)), some (.inl (wn (zLA 1 0))), some (.inl (wn (zLA 1 0))), some (.inl (wGet 11 10))],
  [none, none, some (.inl (wGet 10 2)), none, none, some (.inl (wn (zLA 1 2))), some (.inr (.invokevirtual 239, 92, 2, 8)), none],
  [none, some (.inr (.invokevirtual 116, 121, 2, 11)), none, none, some (.inr (.ireturn, 0, 0, 0)), some (.inl (wn (zLA 1 0))), some (.inl (wn (zLA 1 0))), some (.inl (wGet 11 10))],
  [none, none, some (.inl (wGet 10 0)), none, none, some (.inl (wGet 3 2)), none, none],
  [some (.inr (.invokestatic 246, 353, 1, 0)), none, none, some (.inr (.invokevirtual 116, 121, 2, 11)), none, none, some (.inr (.ireturn, 0, 0, 0)), some (.inl (wn (zLA 1 0)))],
  [some (.inl (wn (zLA 1 0))), some (.inl (wGet 11 10)), none, none, some (.inr (.invokevirtual 252, 116, 1, 10)), none, none, some (.inr (.invokevirtual 116, 121, 2, 11))],
  [none, none, some (.inr (.ireturn, 0, 0, 0)), some (.inl (wn (zLA 1 0))), some (.inl (wn (zLA 1 0))), some (.inl (wGet 11 10)), none, none],
  [some (.inr (.invokevirtual 256, 114, 1, 10)), none, none, some (.inr (.invokevirtual 116, 121, 2, 11)), none, none, some (.inr (.ireturn, 0, 0, 0)), some (.inl (wn (zLA 1 0)))],
  [some (.inl (wPI 1 (Int32.ofInt 1))), some (.inr (.invokevirtual 112, 122, 2, 11)), none, none, some (.inr (.ireturn, 0, 0, 0))]]
theorem wk_147 : wt_147 = xt_147.map (fun l => l.map (Option.map wcv)) := rfl
noncomputable def wt_148 : wT := [[some (.inl (wn (zLA 1 0))), some (.inl (wGet 11 10)), none, none, some (.inl (wGet 10 0)), none, none, some (.inl (wn (zL1 1 1)))],
  [some (.inl (wn (zL1 1 2))), some (.inr (.invokevirtual 259, 46, 3, 3)), none, none, some (.inl (wn (zif .ne 21))), none, none, some (.inl (wn (zLA 1 0)))],
  [some (.inl (wPI 1 (Int32.ofInt 1))), some (.inr (.invokevirtual 112, 122, 2, 11)), none, none, some (.inr (.ireturn, 0, 0, 0)), some (.inl (wn (zLA 1 0))), some (.inl (wn (zLA 1 0))), some (.inl (wGet 11 10))],
  [none, none, some (.inl (wGet 10 1)), none, none, some (.inl (wn (zL1 1 1))), some (.inl (wn (zL1 1 2))), some (.inr (.invokestatic 263, 43, 2, 0))],
  [none, none, some (.inr (.invokevirtual 266, 13, 2, 1)), none, none, some (.inr (.invokevirtual 269, 125, 2, 11)), none, none],
  [some (.inr (.ireturn, 0, 0, 0))]]
theorem wk_148 : wt_148 = xt_148.map (fun l => l.map (Option.map wcv)) := rfl
noncomputable def wt_149 : wT := [[some (.inl (wn (zLA 1 0))), some (.inl (wGet 11 10)), none, none, some (.inl (wGet 10 0)), none, none, some (.inl (wn (zL1 1 1)))],
  [some (.inl (wn (zL1 1 2))), some (.inr (.invokevirtual 259, 46, 3, 3)), none, none, some (.inl (wn (zif .ne 21))), none, none, some (.inl (wn (zLA 1 0)))],
  [some (.inl (wPI 1 (Int32.ofInt 1))), some (.inr (.invokevirtual 112, 122, 2, 11)), none, none, some (.inr (.ireturn, 0, 0, 0)), some (.inl (wn (zLA 1 0))), some (.inl (wn (zLA 1 0))), some (.inl (wGet 11 10))],
  [none, none, some (.inl (wGet 10 0)), none, none, some (.inl (wn (zL1 1 1))), some (.inl (wn (zL1 1 2))), some (.inr (.invokestatic 263, 43, 2, 0))],
  [none, none, some (.inr (.invokevirtual 272, 47, 2, 3)), none, none, some (.inl (wn (zif .eq 44))), none, none],
  [some (.inl (wPI 1 (Int32.ofInt 1))), some (.inl (wGo 45)), none, none, some (.inl (wPI 1 (Int32.ofInt 0))), some (.inr (.invokevirtual 116, 121, 2, 11)), none, none],
  [some (.inr (.ireturn, 0, 0, 0))]]
theorem wk_149 : wt_149 = xt_149.map (fun l => l.map (Option.map wcv)) := rfl
noncomputable def wt_150 : wT := [[some (.inl (wn (zLA 1 0))), some (.inl (wn (zL1 1 1))), some (.inr (.invokevirtual 275, 128, 2, 11)), none, none, some (.inl (wn (zif .eq 17))), none, none],
  [some (.inl (wn (zL1 1 2))), some (.inl (wPI 1 (Int32.ofInt 0))), some (.inl (wPI 1 (Int32.ofInt 4))), some (.inr (.invokestatic 128, 127, 3, 0)), none, none, some (.inl (wn (zif .ne 23))), none],
  [none, some (.inl (wn (zLA 1 0))), some (.inl (wPI 1 (Int32.ofInt 1))), some (.inr (.invokevirtual 112, 122, 2, 11)), none, none, some (.inr (.ireturn, 0, 0, 0)), some (.inl (wn (zLA 1 0)))],
  [some (.inl (wGet 11 10)), none, none, some (.inl (wGet 10 1)), none, none, some (.inl (wn (zSA 1 3))), some (.inl (wn (zLA 1 3)))],
  [some (.inl (wn (zL1 1 1))), some (.inr (.invokevirtual 278, 12, 2, 1)), none, none, some (.inl (wn (zS1 2 4))), none, some (.inl (wn (zL1 1 2))), some (.inl (wn (zsw 91 0 3 #[29, 49, 69, 80])))],
  [none, none, none, none, none, none, none, none],
  [none, none, none, none, none, none, none, none],
  [none, none, none, none, none, none, none, none],
  [none, none, none, none, some (.inl (wn (zLA 1 0))), some (.inl (wn (zL1 2 4))), none, some (.inl (wPI 1 (Int32.ofInt (-1))))],
  [some (.inl (wn (zic .ne 79))), none, none, some (.inl (wPI 1 (Int32.ofInt (-1)))), some (.inl (wGo 84)), none, none, some (.inl (wn (zL1 2 4)))],
  [none, some (.inr (.invokestatic 281, 44, 1, 0)), none, none, some (.inr (.invokevirtual 269, 125, 2, 11)), none, none, some (.inr (.ireturn, 0, 0, 0))],
  [some (.inl (wn (zLA 1 0))), some (.inl (wn (zL1 2 4))), none, some (.inl (wPI 1 (Int32.ofInt (-1)))), some (.inl (wn (zic .ne 99))), none, none, some (.inl (wPI 1 (Int32.ofInt (-1))))],
  [some (.inl (wGo 104)), none, none, some (.inl (wn (zL1 2 4))), none, some (.inr (.invokestatic 284, 45, 1, 0)), none, none],
  [some (.inr (.invokevirtual 269, 125, 2, 11)), none, none, some (.inr (.ireturn, 0, 0, 0)), some (.inl (wn (zLA 1 0))), some (.inl (wn (zLA 1 3))), some (.inl (wGet 1 4)), none],
  [none, some (.inl (wn (zL1 1 1))), some (.inl (wIald)), some (.inr (.invokevirtual 116, 121, 2, 11)), none, none, some (.inr (.ireturn, 0, 0, 0)), some (.inl (wn (zLA 1 0)))],
  [some (.inl (wn (zLA 1 3))), some (.inl (wGet 1 5)), none, none, some (.inl (wn (zL1 1 1))), some (.inl (wIald)), some (.inr (.invokevirtual 269, 125, 2, 11)), none],
  [none, some (.inr (.ireturn, 0, 0, 0)), some (.inl (wn (zLA 1 0))), some (.inl (wn (zLA 1 3))), some (.inl (wGet 1 6)), none, none, some (.inl (wn (zL1 1 1)))],
  [some (.inl (wIald)), some (.inr (.invokevirtual 116, 121, 2, 11)), none, none, some (.inr (.ireturn, 0, 0, 0))]]
theorem wk_150 : wt_150 = xt_150.map (fun l => l.map (Option.map wcv)) := rfl
noncomputable def wt_151 : wT := [[some (.inl (wn (zLA 1 0))), some (.inl (wn (zL1 1 1))), some (.inr (.invokevirtual 275, 128, 2, 11)), none, none, some (.inl (wn (zif .ne 14))), none, none],
  [some (.inl (wn (zLA 1 0))), some (.inl (wPI 1 (Int32.ofInt 1))), some (.inr (.invokevirtual 112, 122, 2, 11)), none, none, some (.inr (.ireturn, 0, 0, 0)), some (.inl (wn (zL1 1 2))), some (.inl (wPI 1 (Int32.ofInt 0)))],
  [some (.inl (wn (zLA 1 0))), some (.inl (wGet 11 10)), none, none, some (.inl (wGet 10 1)), none, none, some (.inl (wGet 1 6))],
  [none, none, some (.inl (wn (zL1 1 1))), some (.inl (wIald)), some (.inl (wPI 1 (Int32.ofInt 1))), some (.inl (wn zsub)), some (.inr (.invokestatic 128, 127, 3, 0)), none],
  [none, some (.inl (wn (zif .ne 43))), none, none, some (.inl (wn (zLA 1 0))), some (.inl (wPI 2 (Int8.ofInt 6).toInt32)), none, some (.inr (.invokevirtual 112, 122, 2, 11))],
  [none, none, some (.inr (.ireturn, 0, 0, 0)), some (.inl (wn (zLA 1 0))), some (.inl (wn (zLA 1 0))), some (.inl (wGet 11 10)), none, none],
  [some (.inl (wGet 10 1)), none, none, some (.inl (wGet 1 7)), none, none, some (.inl (wn (zL1 1 1))), some (.inl (wPI 2 (Int8.ofInt 8).toInt32))],
  [none, some (.inl (wn zmul)), some (.inl (wn (zL1 1 2))), some (.inl (wn zadd)), some (.inl (wIald)), some (.inr (.invokevirtual 116, 121, 2, 11)), none, none],
  [some (.inr (.ireturn, 0, 0, 0))]]
theorem wk_151 : wt_151 = xt_151.map (fun l => l.map (Option.map wcv)) := rfl
noncomputable def wt_152 : wT := [[some (.inl (wn (zLA 1 0))), some (.inl (wn (zL1 1 1))), some (.inr (.invokevirtual 299, 129, 2, 11)), none, none, some (.inl (wn (zif .eq 17))), none, none],
  [some (.inl (wn (zL1 1 2))), some (.inl (wPI 1 (Int32.ofInt 0))), some (.inl (wPI 1 (Int32.ofInt 2))), some (.inr (.invokestatic 128, 127, 3, 0)), none, none, some (.inl (wn (zif .ne 23))), none],
  [none, some (.inl (wn (zLA 1 0))), some (.inl (wPI 1 (Int32.ofInt 1))), some (.inr (.invokevirtual 112, 122, 2, 11)), none, none, some (.inr (.ireturn, 0, 0, 0)), some (.inl (wn (zLA 1 0)))],
  [some (.inl (wGet 11 10)), none, none, some (.inl (wGet 10 2)), none, none, some (.inl (wn (zSA 1 3))), some (.inl (wn (zL1 1 2)))],
  [some (.inl (wn (zif .ne 46))), none, none, some (.inl (wn (zLA 1 0))), some (.inl (wn (zLA 1 3))), some (.inl (wGet 8 2)), none, none],
  [some (.inl (wn (zL1 1 1))), some (.inl (wIald)), some (.inr (.invokevirtual 116, 121, 2, 11)), none, none, some (.inr (.ireturn, 0, 0, 0)), some (.inl (wn (zLA 1 0))), some (.inl (wn (zL1 1 2)))],
  [some (.inl (wPI 1 (Int32.ofInt 1))), some (.inl (wn (zic .ne 61))), none, none, some (.inl (wn (zLA 1 3))), some (.inl (wGet 8 3)), none, none],
  [some (.inl (wn (zL1 1 1))), some (.inl (wIald)), some (.inl (wGo 67)), none, none, some (.inl (wn (zLA 1 3))), some (.inl (wGet 8 4)), none],
  [none, some (.inl (wn (zL1 1 1))), some (.inl (wIald)), some (.inr (.invokevirtual 269, 125, 2, 11)), none, none, some (.inr (.ireturn, 0, 0, 0))]]
theorem wk_152 : wt_152 = xt_152.map (fun l => l.map (Option.map wcv)) := rfl
noncomputable def wt_153 : wT := [[some (.inl (wn (zLA 1 0))), some (.inl (wn (zL1 1 1))), some (.inr (.invokevirtual 311, 131, 2, 11)), none, none, some (.inl (wn (zif .eq 24))), none, none],
  [some (.inl (wn (zLA 1 0))), some (.inl (wn (zLA 1 0))), some (.inl (wGet 11 10)), none, none, some (.inl (wGet 10 8)), none, none],
  [some (.inl (wn (zL1 1 1))), some (.inl (wIald)), some (.inr (.invokevirtual 116, 121, 2, 11)), none, none, some (.inl (wGo 29)), none, none],
  [some (.inl (wn (zLA 1 0))), some (.inl (wPI 1 (Int32.ofInt 1))), some (.inr (.invokevirtual 112, 122, 2, 11)), none, none, some (.inr (.ireturn, 0, 0, 0))]]
theorem wk_153 : wt_153 = xt_153.map (fun l => l.map (Option.map wcv)) := rfl
noncomputable def wt_154 : wT := [[some (.inl (wn (zLA 1 0))), some (.inl (wn (zL1 1 1))), some (.inr (.invokevirtual 317, 132, 2, 11)), none, none, some (.inl (wn (zif .eq 23))), none, none],
  [some (.inl (wn (zLA 1 0))), some (.inl (wn (zLA 1 0))), some (.inl (wGet 11 10)), none, none, some (.inl (wn (zL1 1 1))), some (.inr (.invokevirtual 320, 112, 2, 10)), none],
  [none, some (.inr (.invokevirtual 269, 125, 2, 11)), none, none, some (.inl (wGo 28)), none, none, some (.inl (wn (zLA 1 0)))],
  [some (.inl (wPI 1 (Int32.ofInt 1))), some (.inr (.invokevirtual 112, 122, 2, 11)), none, none, some (.inr (.ireturn, 0, 0, 0))]]
theorem wk_154 : wt_154 = xt_154.map (fun l => l.map (Option.map wcv)) := rfl
noncomputable def wt_155 : wT := [[some (.inl (wn (zLA 1 0))), some (.inl (wn (zL1 1 1))), some (.inr (.invokevirtual 311, 131, 2, 11)), none, none, some (.inl (wn (zif .eq 23))), none, none],
  [some (.inl (wn (zLA 1 0))), some (.inl (wn (zLA 1 0))), some (.inl (wGet 11 10)), none, none, some (.inl (wn (zL1 1 1))), some (.inr (.invokevirtual 323, 113, 2, 10)), none],
  [none, some (.inr (.invokevirtual 116, 121, 2, 11)), none, none, some (.inl (wGo 28)), none, none, some (.inl (wn (zLA 1 0)))],
  [some (.inl (wPI 1 (Int32.ofInt 1))), some (.inr (.invokevirtual 112, 122, 2, 11)), none, none, some (.inr (.ireturn, 0, 0, 0))]]
theorem wk_155 : wt_155 = xt_155.map (fun l => l.map (Option.map wcv)) := rfl
noncomputable def wt_156 : wT := [[some (.inl (wn (zLA 1 0))), some (.inl (wn (zL1 1 1))), some (.inr (.invokevirtual 311, 131, 2, 11)), none, none, some (.inl (wn (zif .eq 18))), none, none],
  [some (.inl (wn (zL1 1 2))), some (.inl (wPI 1 (Int32.ofInt 1))), some (.inl (wPI 2 (Int8.ofInt 99).toInt32)), none, some (.inr (.invokestatic 128, 127, 3, 0)), none, none, some (.inl (wn (zif .ne 24)))],
  [none, none, some (.inl (wn (zLA 1 0))), some (.inl (wPI 1 (Int32.ofInt 1))), some (.inr (.invokevirtual 112, 122, 2, 11)), none, none, some (.inr (.ireturn, 0, 0, 0))],
  [some (.inl (wPI 1 (Int32.ofInt 0))), some (.inl (wn (zS1 1 3))), some (.inl (wn (zL1 1 3))), some (.inl (wn (zL1 1 2))), some (.inl (wn (zic .ge 57))), none, none, some (.inl (wn (zLA 1 0)))],
  [some (.inl (wGet 11 10)), none, none, some (.inl (wn (zL1 1 1))), some (.inl (wPI 1 (Int32.ofInt 1))), some (.inr (.invokevirtual 326, 109, 3, 10)), none, none],
  [some (.inl (wn (zif .eq 57))), none, none, some (.inl (wn (zLA 1 0))), some (.inl (wGet 11 10)), none, none, some (.inl (wn (zL1 1 1)))],
  [some (.inr (.invokevirtual 329, 110, 2, 10)), none, none, some (.inl (wn (zinc 3 1))), none, none, some (.inl (wGo 26)), none],
  [none, some (.inl (wn (zL1 1 3))), some (.inl (wn (zif .ne 70))), none, none, some (.inl (wn (zLA 1 0))), some (.inl (wPI 2 (Int8.ofInt 7).toInt32)), none],
  [some (.inr (.invokevirtual 112, 122, 2, 11)), none, none, some (.inl (wGo 75)), none, none, some (.inl (wn (zLA 1 0))), some (.inl (wn (zL1 1 3)))],
  [some (.inr (.invokevirtual 116, 121, 2, 11)), none, none, some (.inr (.ireturn, 0, 0, 0))]]
theorem wk_156 : wt_156 = xt_156.map (fun l => l.map (Option.map wcv)) := rfl
noncomputable def wt_157 : wT := [[some (.inl (wn (zL1 1 1))), some (.inl (wPI 1 (Int32.ofInt 1))), some (.inl (wPI 2 (Int8.ofInt 99).toInt32)), none, some (.inr (.invokestatic 128, 127, 3, 0)), none, none, some (.inl (wn (zif .ne 16)))],
  [none, none, some (.inl (wn (zLA 1 0))), some (.inl (wPI 1 (Int32.ofInt 1))), some (.inr (.invokevirtual 112, 122, 2, 11)), none, none, some (.inr (.ireturn, 0, 0, 0))],
  [some (.inl (wn (zLA 1 0))), some (.inl (wGet 11 10)), none, none, some (.inl (wn (zL1 1 1))), some (.inr (.invokevirtual 332, 108, 2, 10)), none, none],
  [some (.inl (wn (zif .ne 33))), none, none, some (.inl (wn (zLA 1 0))), some (.inl (wPI 1 (Int32.ofInt 4))), some (.inr (.invokevirtual 112, 122, 2, 11)), none, none],
  [some (.inr (.ireturn, 0, 0, 0)), some (.inl (wPI 1 (Int32.ofInt 0))), some (.inl (wn (zS1 1 2))), some (.inl (wn (zL1 1 2))), some (.inl (wn (zL1 1 1))), some (.inl (wn (zic .ge 54))), none, none],
  [some (.inl (wn (zLA 1 0))), some (.inl (wGet 11 10)), none, none, some (.inl (wPI 1 (Int32.ofInt (-1)))), some (.inr (.invokevirtual 329, 110, 2, 10)), none, none],
  [some (.inl (wn (zinc 2 1))), none, none, some (.inl (wGo 35)), none, none, some (.inl (wn (zLA 1 0))), some (.inl (wn (zLA 1 0)))],
  [some (.inl (wGet 11 10)), none, none, some (.inl (wGet 10 1)), none, none, some (.inl (wGet 1 1)), none],
  [none, some (.inr (.invokevirtual 116, 121, 2, 11)), none, none, some (.inr (.ireturn, 0, 0, 0))]]
theorem wk_157 : wt_157 = xt_157.map (fun l => l.map (Option.map wcv)) := rfl
noncomputable def wt_158 : wT := [[some (.inl (wn (zLA 1 0))), some (.inl (wn (zL1 1 1))), some (.inr (.invokevirtual 317, 132, 2, 11)), none, none, some (.inl (wn (zif .eq 16))), none, none],
  [some (.inl (wn (zLA 1 0))), some (.inl (wn (zL1 1 2))), some (.inr (.invokevirtual 311, 131, 2, 11)), none, none, some (.inl (wn (zif .ne 22))), none, none],
  [some (.inl (wn (zLA 1 0))), some (.inl (wPI 1 (Int32.ofInt 1))), some (.inr (.invokevirtual 112, 122, 2, 11)), none, none, some (.inr (.ireturn, 0, 0, 0)), some (.inl (wn (zLA 1 0))), some (.inl (wGet 11 10))],
  [none, none, some (.inl (wn (zL1 1 1))), some (.inr (.invokevirtual 320, 112, 2, 10)), none, none, some (.inl (wn (zS1 1 3))), some (.inl (wn (zL1 1 3)))],
  [some (.inl (wPI 1 (Int32.ofInt (-1)))), some (.inl (wn (zic .eq 41))), none, none, some (.inl (wn (zL1 1 3))), some (.inl (wn (zL1 1 2))), some (.inl (wn (zic .ne 48))), none],
  [none, some (.inl (wn (zLA 1 0))), some (.inl (wPI 2 (Int8.ofInt 7).toInt32)), none, some (.inr (.invokevirtual 112, 122, 2, 11)), none, none, some (.inr (.ireturn, 0, 0, 0))],
  [some (.inl (wn (zLA 1 0))), some (.inl (wGet 11 10)), none, none, some (.inl (wn (zL1 1 1))), some (.inl (wn (zL1 1 2))), some (.inr (.invokevirtual 335, 111, 3, 10)), none],
  [none, some (.inl (wn (zLA 1 0))), some (.inl (wn (zL1 1 3))), some (.inr (.invokevirtual 116, 121, 2, 11)), none, none, some (.inr (.ireturn, 0, 0, 0))]]
theorem wk_158 : wt_158 = xt_158.map (fun l => l.map (Option.map wcv)) := rfl
noncomputable def wt_159 : wT := [[some (.inl (wn (zLA 1 0))), some (.inl (wn (zL1 1 1))), some (.inr (.invokevirtual 311, 131, 2, 11)), none, none, some (.inl (wn (zif .eq 16))), none, none],
  [some (.inl (wn (zLA 1 0))), some (.inl (wn (zL1 1 2))), some (.inr (.invokevirtual 317, 132, 2, 11)), none, none, some (.inl (wn (zif .ne 22))), none, none],
  [some (.inl (wn (zLA 1 0))), some (.inl (wPI 1 (Int32.ofInt 1))), some (.inr (.invokevirtual 112, 122, 2, 11)), none, none, some (.inr (.ireturn, 0, 0, 0)), some (.inl (wn (zLA 1 0))), some (.inl (wGet 11 10))],
  [none, none, some (.inl (wn (zL1 1 2))), some (.inr (.invokevirtual 320, 112, 2, 10)), none, none, some (.inl (wn (zL1 1 1))), some (.inl (wn (zic .eq 41)))],
  [none, none, some (.inl (wn (zLA 1 0))), some (.inl (wPI 2 (Int8.ofInt 7).toInt32)), none, some (.inr (.invokevirtual 112, 122, 2, 11)), none, none],
  [some (.inr (.ireturn, 0, 0, 0)), some (.inl (wn (zLA 1 0))), some (.inl (wGet 11 10)), none, none, some (.inl (wn (zL1 1 2))), some (.inl (wPI 1 (Int32.ofInt (-1)))), some (.inr (.invokevirtual 335, 111, 3, 10))],
  [none, none, some (.inl (wn (zLA 1 0))), some (.inl (wGet 11 10)), none, none, some (.inl (wGet 10 8)), none],
  [none, some (.inl (wn (zL1 1 1))), some (.inl (wIald)), some (.inl (wn (zLA 1 0))), some (.inl (wGet 11 10)), none, none, some (.inl (wn (zL1 1 2)))],
  [some (.inr (.invokevirtual 230, 106, 2, 10)), none, none, some (.inl (wPI 1 (Int32.ofInt 2))), some (.inl (wn zdiv)), some (.inl (wn zadd)), some (.inl (wn (zS1 1 3))), some (.inl (wn (zLA 1 0)))],
  [some (.inl (wGet 11 10)), none, none, some (.inl (wGet 10 8)), none, none, some (.inl (wn (zL1 1 1))), some (.inl (wn (zL1 1 3)))],
  [some (.inl (wPI 3 (Int16.ofInt 9999).toInt32)), none, none, some (.inl (wn zmin)), none, none, some (.inl (wIast)), some (.inl (wn (zLA 1 0)))],
  [some (.inl (wn (zLA 1 0))), some (.inl (wGet 11 10)), none, none, some (.inl (wGet 10 8)), none, none, some (.inl (wn (zL1 1 1)))],
  [some (.inl (wIald)), some (.inr (.invokevirtual 116, 121, 2, 11)), none, none, some (.inr (.ireturn, 0, 0, 0))]]
theorem wk_159 : wt_159 = xt_159.map (fun l => l.map (Option.map wcv)) := rfl
