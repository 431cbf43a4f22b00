noncomputable def zt_120 : zT := [[some (.inl (zLA 1 0)), some (.inl (zget' 11 7)), none, none, some (.inr (.lreturn, 0, 0, 0))]]
theorem zk_120 : zt_120 = xt_120.map (fun l => l.map (Option.map zcv)) := rfl
noncomputable def zt_121 : zT := [[some (.inl (zLA 1 0)), some (.inl (zPI 1 (Int32.ofInt 0))), some (.inl (zput' 11 5)), none, none, some (.inl (zL1 1 1)), some (.inr (.ireturn, 0, 0, 0))]]
theorem zk_121 : zt_121 = xt_121.map (fun l => l.map (Option.map zcv)) := rfl
noncomputable def zt_122 : zT := [[some (.inl (zLA 1 0)), some (.inl (zL1 1 1)), some (.inl (zput' 11 5)), none, none, some (.inl (zPI 1 (Int32.ofInt (-1)))), some (.inr (.ireturn, 0, 0, 0))]]
theorem zk_122 : zt_122 = xt_122.map (fun l => l.map (Option.map zcv)) := rfl
noncomputable def zt_123 : zT := [[some (.inl (zLA 1 0)), some (.inl (zPI 1 (Int32.ofInt 0))), some (.inl (zput' 11 5)), none, none, some (.inl (zPI 1 (Int32.ofInt 1))), some (.inr (.ireturn, 0, 0, 0))]]
theorem zk_123 : zt_123 = xt_123.map (fun l => l.map (Option.map zcv)) := rfl
noncomputable def zt_124 : zT := [[some (.inl (zLA 1 0)), some (.inl (zL1 1 1)), some (.inl (zput' 11 5)), none, none, some (.inl (zPI 1 (Int32.ofInt 0))), some (.inr (.ireturn, 0, 0, 0))]]
theorem zk_124 : zt_124 = xt_124.map (fun l => l.map (Option.map zcv)) := rfl
noncomputable def zt_125 : zT := [[some (.inl (zL1 1 1)), some (.inl (zPI 1 (Int32.ofInt (-1)))), some (.inl (zic .ne 14)), none, none, some (.inl (zLA 1 0)), some (.inl (zPI 2 (Int8.ofInt 6).toInt32)), none],
  [some (.inr (.invokevirtual 112, 122, 2, 11)), none, none, some (.inl (zgo 19)), none, none, some (.inl (zLA 1 0)), some (.inl (zL1 1 1))],
  [some (.inr (.invokevirtual 116, 121, 2, 11)), none, none, some (.inr (.ireturn, 0, 0, 0))]]
theorem zk_125 : zt_125 = xt_125.map (fun l => l.map (Option.map zcv)) := rfl
noncomputable def zt_126 : zT := [[some (.inl (zL2 1 1)), some (.inl (zS2 2 5)), none, some (.inl (zL2 1 3)), some (.inl (zS2 2 7)), none, some (.inl (zPI 1 (Int32.ofInt 0))), some (.inl (zS1 2 9))],
  [none, some (.inl (zL1 2 9)), none, some (.inl (zPI 3 (Int16.ofInt 128).toInt32)), none, none, some (.inl (zic .ge 45)), none],
  [none, some (.inl (zL2 2 7)), none, some (.inl (zPL 1 (Int64.ofNat 0))), some (.inl (zlcm)), some (.inl (zif .eq 45)), none, none],
  [some (.inl (zL2 2 5)), none, some (.inl (zL2 2 7)), none, some (.inl (zlrem)), some (.inl (zS2 2 10)), none, some (.inl (zL2 2 7))],
  [none, some (.inl (zS2 2 5)), none, some (.inl (zL2 2 10)), none, some (.inl (zS2 2 7)), none, some (.inl (zinc 9 1))],
  [none, none, some (.inl (zgo 9)), none, none, some (.inl (zL2 2 5)), none, some (.inl (zPL 1 (Int64.ofNat 0)))],
  [some (.inl (zlcm)), some (.inl (zif .le 57)), none, none, some (.inl (zL2 2 5)), none, some (.inl (zgo 58)), none],
  [none, some (.inl (zPL 1 (Int64.ofNat 1))), some (.inl (zS2 2 9)), none, some (.inl (zLA 1 0)), some (.inl (zL2 1 1)), some (.inl (zL2 2 9)), none],
  [some (.inl (zldiv)), some (.inl (zput' 11 6)), none, none, some (.inl (zLA 1 0)), some (.inl (zL2 1 3)), some (.inl (zL2 2 9)), none],
  [some (.inl (zldiv)), some (.inl (zput' 11 7)), none, none, some (.inr (.return_, 0, 0, 0))]]
theorem zk_126 : zt_126 = xt_126.map (fun l => l.map (Option.map zcv)) := rfl
noncomputable def zt_127 : zT := [[some (.inl (zL1 1 0)), some (.inl (zL1 1 1)), some (.inl (zic .lt 14)), none, none, some (.inl (zL1 1 0)), some (.inl (zL1 1 2)), some (.inl (zic .gt 14))],
  [none, none, some (.inl (zPI 1 (Int32.ofInt 1))), some (.inl (zgo 15)), none, none, some (.inl (zPI 1 (Int32.ofInt 0))), some (.inr (.ireturn, 0, 0, 0))]]
theorem zk_127 : zt_127 = xt_127.map (fun l => l.map (Option.map zcv)) := rfl
noncomputable def zt_128 : zT := [[some (.inl (zL1 1 1)), some (.inl (zPI 1 (Int32.ofInt 0))), some (.inl (zLA 1 0)), some (.inl (zget' 11 10)), none, none, some (.inl (zget' 10 1)), none],
  [none, some (.inl (zget' 1 0)), none, none, some (.inl (zPI 1 (Int32.ofInt 1))), some (.inl (zsub)), some (.inr (.invokestatic 128, 127, 3, 0)), none],
  [none, some (.inr (.ireturn, 0, 0, 0))]]
theorem zk_128 : zt_128 = xt_128.map (fun l => l.map (Option.map zcv)) := rfl
noncomputable def zt_129 : zT := [[some (.inl (zL1 1 1)), some (.inl (zPI 1 (Int32.ofInt 0))), some (.inl (zLA 1 0)), some (.inl (zget' 11 10)), none, none, some (.inl (zget' 10 2)), none],
  [none, some (.inl (zget' 8 0)), none, none, some (.inl (zPI 1 (Int32.ofInt 1))), some (.inl (zsub)), some (.inr (.invokestatic 128, 127, 3, 0)), none],
  [none, some (.inr (.ireturn, 0, 0, 0))]]
theorem zk_129 : zt_129 = xt_129.map (fun l => l.map (Option.map zcv)) := rfl
noncomputable def zt_130 : zT := [[some (.inl (zL1 1 1)), some (.inl (zPI 1 (Int32.ofInt 0))), some (.inl (zPI 1 (Int32.ofInt 1))), some (.inl (zLA 1 0)), some (.inl (zget' 11 10)), none, none, some (.inl (zget' 10 2))],
  [none, none, some (.inl (zget' 8 0)), none, none, some (.inl (zshl)), some (.inl (zPI 1 (Int32.ofInt 1))), some (.inl (zsub))],
  [some (.inr (.invokestatic 128, 127, 3, 0)), none, none, some (.inr (.ireturn, 0, 0, 0))]]
theorem zk_130 : zt_130 = xt_130.map (fun l => l.map (Option.map zcv)) := rfl
noncomputable def zt_131 : zT := [[some (.inl (zL1 1 1)), some (.inl (zPI 1 (Int32.ofInt 0))), some (.inl (zLA 1 0)), some (.inl (zget' 11 10)), none, none, some (.inl (zget' 10 6)), none],
  [none, some (.inl (zPI 1 (Int32.ofInt 1))), some (.inl (zsub)), some (.inr (.invokestatic 128, 127, 3, 0)), none, none, some (.inr (.ireturn, 0, 0, 0))]]
theorem zk_131 : zt_131 = xt_131.map (fun l => l.map (Option.map zcv)) := rfl
noncomputable def zt_132 : zT := [[some (.inl (zL1 1 1)), some (.inl (zPI 1 (Int32.ofInt 1))), some (.inl (zLA 1 0)), some (.inl (zget' 11 10)), none, none, some (.inl (zget' 10 1)), none],
  [none, some (.inl (zget' 1 1)), none, none, some (.inr (.invokestatic 128, 127, 3, 0)), none, none, some (.inr (.ireturn, 0, 0, 0))]]
theorem zk_132 : zt_132 = xt_132.map (fun l => l.map (Option.map zcv)) := rfl
noncomputable def zt_133 : zT := [[some (.inl (zL1 1 0)), some (.inl (zPI 1 (Int32.ofInt 0))), some (.inl (zPI 1 (Int32.ofInt 3))), some (.inr (.invokestatic 128, 127, 3, 0)), none, none, some (.inr (.ireturn, 0, 0, 0))]]
theorem zk_133 : zt_133 = xt_133.map (fun l => l.map (Option.map zcv)) := rfl
noncomputable def zt_134 : zT := [[some (.inl (zL1 1 1)), some (.inr (.invokestatic 145, 133, 1, 0)), none, none, some (.inl (zif .eq 26)), none, none, some (.inl (zL1 1 2))],
  [some (.inl (zPI 1 (Int32.ofInt 0))), some (.inl (zPI 1 (Int32.ofInt 3))), some (.inr (.invokestatic 128, 127, 3, 0)), none, none, some (.inl (zif .eq 26)), none, none],
  [some (.inl (zL1 1 3)), some (.inl (zPI 1 (Int32.ofInt 0))), some (.inl (zPI 2 (Int8.ofInt 60).toInt32)), none, some (.inr (.invokestatic 128, 127, 3, 0)), none, none, some (.inl (zif .ne 32))],
  [none, none, some (.inl (zLA 1 0)), some (.inl (zPI 1 (Int32.ofInt 1))), some (.inr (.invokevirtual 149, 124, 2, 11)), none, none, some (.inr (.ireturn, 0, 0, 0))],
  [some (.inl (zLA 1 0)), some (.inl (zget' 11 1)), none, none, some (.inl (zL1 1 1)), some (.inl (zL1 1 2)), some (.inl (ziast)), some (.inl (zLA 1 0))],
  [some (.inl (zget' 11 2)), none, none, some (.inl (zL1 1 1)), some (.inl (zL1 1 3)), some (.inl (ziast)), some (.inl (zLA 1 0)), some (.inl (zget' 11 0))],
  [none, none, some (.inl (zL1 1 1)), some (.inl (zaald)), some (.inl (zPL 1 (Int64.ofNat 0))), some (.inr (.invokestatic 152, 354, 2, 0)), none, none],
  [some (.inl (zLA 1 0)), some (.inr (.invokevirtual 155, 123, 1, 11)), none, none, some (.inr (.ireturn, 0, 0, 0))]]
theorem zk_134 : zt_134 = xt_134.map (fun l => l.map (Option.map zcv)) := rfl
noncomputable def zt_135 : zT := [[some (.inl (zLA 1 0)), some (.inl (zL1 1 1)), some (.inl (zL1 1 2)), some (.inr (.invokevirtual 159, 138, 3, 11)), none, none, some (.inl (zS1 2 5)), none],
  [some (.inl (zL1 2 5)), none, some (.inl (zif .eq 20)), none, none, some (.inl (zLA 1 0)), some (.inl (zL1 2 5)), none],
  [some (.inr (.invokevirtual 149, 124, 2, 11)), none, none, some (.inr (.ireturn, 0, 0, 0)), some (.inl (zLA 1 0)), some (.inl (zget' 11 0)), none, none],
  [some (.inl (zL1 1 1)), some (.inl (zaald)), some (.inl (zL1 1 2)), some (.inl (zLA 1 0)), some (.inl (zget' 11 1)), none, none, some (.inl (zL1 1 1))],
  [some (.inl (ziald)), some (.inl (zL2 1 3)), some (.inr (.invokestatic 163, 140, 2, 0)), none, none, some (.inl (zlast)), some (.inl (zLA 1 0)), some (.inr (.invokevirtual 155, 123, 1, 11))],
  [none, none, some (.inr (.ireturn, 0, 0, 0))]]
theorem zk_135 : zt_135 = xt_135.map (fun l => l.map (Option.map zcv)) := rfl
noncomputable def zt_136 : zT := [[some (.inl (zLA 1 0)), some (.inl (zL1 1 1)), some (.inl (zL1 1 2)), some (.inr (.invokevirtual 159, 138, 3, 11)), none, none, some (.inl (zS1 1 3)), some (.inl (zL1 1 3))],
  [some (.inl (zif .eq 18)), none, none, some (.inl (zLA 1 0)), some (.inl (zL1 1 3)), some (.inr (.invokevirtual 112, 122, 2, 11)), none, none],
  [some (.inl (zi2l)), some (.inr (.lreturn, 0, 0, 0)), some (.inl (zLA 1 0)), some (.inl (zPI 1 (Int32.ofInt 0))), some (.inl (zput' 11 5)), none, none, some (.inl (zLA 1 0))],
  [some (.inl (zget' 11 0)), none, none, some (.inl (zL1 1 1)), some (.inl (zaald)), some (.inl (zL1 1 2)), some (.inl (zald' 22)), some (.inr (.lreturn, 0, 0, 0))]]
theorem zk_136 : zt_136 = xt_136.map (fun l => l.map (Option.map zcv)) := rfl
noncomputable def zt_137 : zT := [[some (.inl (zL1 1 1)), some (.inr (.invokestatic 145, 133, 1, 0)), none, none, some (.inl (zif .eq 28)), none, none, some (.inl (zL1 1 3))],
  [some (.inr (.invokestatic 145, 133, 1, 0)), none, none, some (.inl (zif .eq 28)), none, none, some (.inl (zL1 1 2)), some (.inl (zif .lt 28))],
  [none, none, some (.inl (zL1 2 4)), none, some (.inl (zif .lt 28)), none, none, some (.inl (zL1 2 5))],
  [none, some (.inl (zif .ge 34)), none, none, some (.inl (zLA 1 0)), some (.inl (zPI 1 (Int32.ofInt 1))), some (.inr (.invokevirtual 149, 124, 2, 11)), none],
  [none, some (.inr (.ireturn, 0, 0, 0)), some (.inl (zLA 1 0)), some (.inl (zget' 11 1)), none, none, some (.inl (zL1 1 1)), some (.inl (ziald))],
  [some (.inl (zPI 1 (Int32.ofInt (-1)))), some (.inl (zic .eq 54)), none, none, some (.inl (zLA 1 0)), some (.inl (zget' 11 1)), none, none],
  [some (.inl (zL1 1 3)), some (.inl (ziald)), some (.inl (zPI 1 (Int32.ofInt (-1)))), some (.inl (zic .ne 60)), none, none, some (.inl (zLA 1 0)), some (.inl (zPI 1 (Int32.ofInt 2)))],
  [some (.inr (.invokevirtual 149, 124, 2, 11)), none, none, some (.inr (.ireturn, 0, 0, 0)), some (.inl (zLA 1 0)), some (.inl (zget' 11 1)), none, none],
  [some (.inl (zL1 1 1)), some (.inl (ziald)), some (.inl (zLA 1 0)), some (.inl (zget' 11 1)), none, none, some (.inl (zL1 1 3)), some (.inl (ziald))],
  [some (.inl (zic .eq 82)), none, none, some (.inl (zLA 1 0)), some (.inl (zPI 2 (Int8.ofInt 8).toInt32)), none, some (.inr (.invokevirtual 149, 124, 2, 11)), none],
  [none, some (.inr (.ireturn, 0, 0, 0)), some (.inl (zL1 2 5)), none, some (.inl (zLA 1 0)), some (.inl (zget' 11 2)), none, none],
  [some (.inl (zL1 1 1)), some (.inl (ziald)), some (.inl (zL1 1 2)), some (.inl (zsub)), some (.inl (zic .gt 109)), none, none, some (.inl (zL1 2 5))],
  [none, some (.inl (zLA 1 0)), some (.inl (zget' 11 2)), none, none, some (.inl (zL1 1 3)), some (.inl (ziald)), some (.inl (zL1 2 4))],
  [none, some (.inl (zsub)), some (.inl (zic .le 115)), none, none, some (.inl (zLA 1 0)), some (.inl (zPI 1 (Int32.ofInt 3))), some (.inr (.invokevirtual 149, 124, 2, 11))],
  [none, none, some (.inr (.ireturn, 0, 0, 0)), some (.inl (zLA 1 0)), some (.inl (zget' 11 0)), none, none, some (.inl (zL1 1 1))],
  [some (.inl (zaald)), some (.inl (zL1 1 2)), some (.inl (zLA 1 0)), some (.inl (zget' 11 0)), none, none, some (.inl (zL1 1 3)), some (.inl (zaald))],
  [some (.inl (zL1 2 4)), none, some (.inl (zL1 2 5)), none, some (.inl (zcopy')), none, none, some (.inl (zLA 1 0))],
  [some (.inr (.invokevirtual 155, 123, 1, 11)), none, none, some (.inr (.ireturn, 0, 0, 0))]]
theorem zk_137 : zt_137 = xt_137.map (fun l => l.map (Option.map zcv)) := rfl
noncomputable def zt_138 : zT := [[some (.inl (zL1 1 1)), some (.inr (.invokestatic 145, 133, 1, 0)), none, none, some (.inl (zif .ne 9)), none, none, some (.inl (zPI 1 (Int32.ofInt 1)))],
  [some (.inr (.ireturn, 0, 0, 0)), some (.inl (zLA 1 0)), some (.inl (zget' 11 1)), none, none, some (.inl (zL1 1 1)), some (.inl (ziald)), some (.inl (zPI 1 (Int32.ofInt (-1))))],
  [some (.inl (zic .ne 21)), none, none, some (.inl (zPI 1 (Int32.ofInt 2))), some (.inr (.ireturn, 0, 0, 0)), some (.inl (zL1 1 2)), some (.inl (zPI 1 (Int32.ofInt 0))), some (.inl (zLA 1 0))],
  [some (.inl (zget' 11 2)), none, none, some (.inl (zL1 1 1)), some (.inl (ziald)), some (.inl (zPI 1 (Int32.ofInt 1))), some (.inl (zsub)), some (.inr (.invokestatic 128, 127, 3, 0))],
  [none, none, some (.inl (zif .eq 41)), none, none, some (.inl (zPI 1 (Int32.ofInt 0))), some (.inl (zgo 42)), none],
  [none, some (.inl (zPI 1 (Int32.ofInt 3))), some (.inr (.ireturn, 0, 0, 0))]]
theorem zk_138 : zt_138 = xt_138.map (fun l => l.map (Option.map zcv)) := rfl
noncomputable def zt_139 : zT := [[some (.inl (zLA 1 0)), some (.inl (zget' 11 1)), none, none, some (.inl (zL1 1 1)), some (.inl (ziald)), some (.inl (zPI 1 (Int32.ofInt (-1)))), some (.inl (zic .ne 12))],
  [none, none, some (.inl (zPI 1 (Int32.ofInt 2))), some (.inr (.ireturn, 0, 0, 0)), some (.inl (zLA 1 0)), some (.inl (zget' 11 2)), none, none],
  [some (.inl (zL1 1 1)), some (.inl (ziald)), some (.inl (zL1 1 2)), some (.inl (zic .ge 26)), none, none, some (.inl (zPI 1 (Int32.ofInt 3))), some (.inl (zgo 27))],
  [none, none, some (.inl (zPI 1 (Int32.ofInt 0))), some (.inr (.ireturn, 0, 0, 0))]]
theorem zk_139 : zt_139 = xt_139.map (fun l => l.map (Option.map zcv)) := rfl
noncomputable def zt_140 : zT := [[some (.inl (zL1 1 0)), some (.inl (zsw 41 0 2 #[27, 32, 37])), none, none, none, none, none, none],
  [none, none, none, none, none, none, none, none],
  [none, none, none, none, none, none, none, none],
  [none, none, none, none, some (.inl (zL2 1 1)), some (.inl (zl2i)), some (.inl (zi2b)), some (.inl (zi2l))],
  [some (.inr (.lreturn, 0, 0, 0)), some (.inl (zL2 1 1)), some (.inl (zl2i)), some (.inl (zi2s)), some (.inl (zi2l)), some (.inr (.lreturn, 0, 0, 0)), some (.inl (zL2 1 1)), some (.inl (zl2i))],
  [some (.inl (zi2l)), some (.inr (.lreturn, 0, 0, 0)), some (.inl (zL2 1 1)), some (.inr (.lreturn, 0, 0, 0))]]
theorem zk_140 : zt_140 = xt_140.map (fun l => l.map (Option.map zcv)) := rfl
noncomputable def zt_141 : zT := [[some (.inl (zLA 1 0)), some (.inl (zget' 11 4)), none, none, some (.inl (zPI 2 (Int8.ofInt 20).toInt32)), none, some (.inl (zadd)), some (.inl (zPI 3 (Int16.ofInt 900).toInt32))],
  [none, none, some (.inl (zic .le 15)), none, none, some (.inl (zPI 1 (Int32.ofInt (-1)))), some (.inr (.ireturn, 0, 0, 0)), some (.inl (zLA 1 0))],
  [some (.inl (zL1 1 1)), some (.inr (.invokevirtual 173, 142, 2, 11)), none, none, some (.inl (zLA 1 0)), some (.inl (zL1 1 2)), some (.inr (.invokevirtual 173, 142, 2, 11)), none],
  [none, some (.inl (zLA 1 0)), some (.inl (zL1 1 3)), some (.inr (.invokevirtual 173, 142, 2, 11)), none, none, some (.inl (zLA 1 0)), some (.inl (zL1 2 4))],
  [none, some (.inr (.invokevirtual 173, 142, 2, 11)), none, none, some (.inl (zLA 1 0)), some (.inl (zL1 2 5)), none, some (.inr (.invokevirtual 173, 142, 2, 11))],
  [none, none, some (.inl (zLA 1 0)), some (.inl (zget' 11 4)), none, none, some (.inr (.ireturn, 0, 0, 0))]]
theorem zk_141 : zt_141 = xt_141.map (fun l => l.map (Option.map zcv)) := rfl
noncomputable def zt_142 : zT := [[some (.inl (zPI 2 (Int8.ofInt 24).toInt32)), none, some (.inl (zS1 1 2)), some (.inl (zL1 1 2)), some (.inl (zif .lt 49)), none, none, some (.inl (zLA 1 0))],
  [some (.inl (zget' 11 4)), none, none, some (.inl (zPI 3 (Int16.ofInt 900).toInt32)), none, none, some (.inl (zic .ge 43)), none],
  [none, some (.inl (zLA 1 0)), some (.inl (zget' 11 3)), none, none, some (.inl (zget' 2 0)), none, none],
  [some (.inl (zLA 1 0)), some (.inl (zget' 11 4)), none, none, some (.inl (zL1 1 1)), some (.inl (zL1 1 2)), some (.inl (zushr)), some (.inl (zi2b))],
  [some (.inl (zbast)), some (.inl (zLA 1 0)), some (.inl (zdup)), some (.inl (zget' 11 4)), none, none, some (.inl (zPI 1 (Int32.ofInt 1))), some (.inl (zadd))],
  [some (.inl (zput' 11 4)), none, none, some (.inl (zinc 2 (-8))), none, none, some (.inl (zgo 3)), none],
  [none, some (.inr (.return_, 0, 0, 0))]]
theorem zk_142 : zt_142 = xt_142.map (fun l => l.map (Option.map zcv)) := rfl
noncomputable def zt_143 : zT := [[some (.inl (zL1 1 1)), some (.inl (zPI 1 (Int32.ofInt 0))), some (.inl (zLA 1 0)), some (.inl (zget' 11 4)), none, none, some (.inr (.invokestatic 128, 127, 3, 0)), none],
  [none, some (.inl (zif .ne 18)), none, none, some (.inl (zLA 1 0)), some (.inl (zPI 1 (Int32.ofInt 1))), some (.inr (.invokevirtual 112, 122, 2, 11)), none],
  [none, some (.inr (.ireturn, 0, 0, 0)), some (.inl (zLA 1 0)), some (.inl (zPI 1 (Int32.ofInt 0))), some (.inl (zput' 11 4)), none, none, some (.inl (zLA 1 0))],
  [some (.inl (zget' 11 13)), none, none, some (.inl (zL1 1 1)), some (.inr (.invokevirtual 181, 75, 2, 7)), none, none, some (.inl (zS1 1 2))],
  [some (.inl (zLA 1 0)), some (.inr (.invokevirtual 184, 145, 1, 11)), none, none, some (.inl (zL1 1 2)), some (.inl (zif .ne 47)), none, none],
  [some (.inl (zLA 1 0)), some (.inl (zPI 2 (Int8.ofInt 9).toInt32)), none, some (.inr (.invokevirtual 112, 122, 2, 11)), none, none, some (.inr (.ireturn, 0, 0, 0)), some (.inl (zLA 1 0))],
  [some (.inl (zget' 11 10)), none, none, some (.inl (zLA 1 0)), some (.inl (zget' 11 13)), none, none, some (.inl (zget' 7 0))],
  [none, none, some (.inr (.invokevirtual 190, 105, 2, 10)), none, none, some (.inl (zLA 1 0)), some (.inl (zLA 1 0)), some (.inl (zget' 11 10))],
  [none, none, some (.inl (zget' 10 2)), none, none, some (.inl (zget' 8 0)), none, none],
  [some (.inr (.invokevirtual 116, 121, 2, 11)), none, none, some (.inr (.ireturn, 0, 0, 0))]]
theorem zk_143 : zt_143 = xt_143.map (fun l => l.map (Option.map zcv)) := rfl
noncomputable def zt_144 : zT := [[some (.inl (zL1 1 1)), some (.inl (zPI 1 (Int32.ofInt 0))), some (.inl (zLA 1 0)), some (.inl (zget' 11 4)), none, none, some (.inl (zPI 3 (Int16.ofInt 300).toInt32)), none],
  [none, some (.inl (zmin)), none, none, some (.inr (.invokestatic 128, 127, 3, 0)), none, none, some (.inl (zif .ne 24))],
  [none, none, some (.inl (zLA 1 0)), some (.inl (zPI 1 (Int32.ofInt 1))), some (.inr (.invokevirtual 112, 122, 2, 11)), none, none, some (.inr (.ireturn, 0, 0, 0))],
  [some (.inl (zLA 1 0)), some (.inl (zPI 1 (Int32.ofInt 0))), some (.inl (zput' 11 4)), none, none, some (.inl (zLA 1 0)), some (.inl (zget' 11 14)), none],
  [none, some (.inl (zLA 1 0)), some (.inl (zget' 11 10)), none, none, some (.inl (zL1 1 1)), some (.inr (.invokevirtual 199, 51, 3, 4)), none],
  [none, some (.inl (zS1 1 2)), some (.inl (zLA 1 0)), some (.inr (.invokevirtual 184, 145, 1, 11)), none, none, some (.inl (zL1 1 2)), some (.inl (zif .ne 57))],
  [none, none, some (.inl (zLA 1 0)), some (.inl (zPI 2 (Int8.ofInt 9).toInt32)), none, some (.inr (.invokevirtual 112, 122, 2, 11)), none, none],
  [some (.inr (.ireturn, 0, 0, 0)), some (.inl (zLA 1 0)), some (.inl (zget' 11 10)), none, none, some (.inl (zget' 10 3)), none, none],
  [some (.inl (zLA 1 0)), some (.inl (zget' 11 14)), none, none, some (.inl (zget' 4 0)), none, none, some (.inr (.invokevirtual 208, 72, 2, 6))],
  [none, none, some (.inl (zLA 1 0)), some (.inl (zLA 1 0)), some (.inl (zget' 11 10)), none, none, some (.inl (zget' 10 3))],
  [none, none, some (.inl (zget' 6 1)), none, none, some (.inr (.invokevirtual 116, 121, 2, 11)), none, none],
  [some (.inr (.ireturn, 0, 0, 0))]]
theorem zk_144 : zt_144 = xt_144.map (fun l => l.map (Option.map zcv)) := rfl
noncomputable def zt_145 : zT := [[some (.inl (zLA 1 0)), some (.inl (zLA 1 0)), some (.inl (zget' 11 3)), none, none, some (.inl (zget' 2 9)), none, none],
  [some (.inl (zput' 11 8)), none, none, some (.inl (zLA 1 0)), some (.inl (zLA 1 0)), some (.inl (zget' 11 3)), none, none],
  [some (.inl (zget' 2 10)), none, none, some (.inl (zput' 11 9)), none, none, some (.inr (.return_, 0, 0, 0))]]
theorem zk_145 : zt_145 = xt_145.map (fun l => l.map (Option.map zcv)) := rfl
noncomputable def zt_146 : zT := [[some (.inl (zL1 1 1)), some (.inl (zif .ne 9)), none, none, some (.inl (zLA 1 0)), some (.inl (zget' 11 8)), none, none],
  [some (.inr (.ireturn, 0, 0, 0)), some (.inl (zL1 1 1)), some (.inl (zPI 1 (Int32.ofInt 1))), some (.inl (zic .ne 21)), none, none, some (.inl (zLA 1 0)), some (.inl (zget' 11 9))],
  [none, none, some (.inl (zgo 22)), none, none, some (.inl (zPI 1 (Int32.ofInt (-1)))), some (.inr (.ireturn, 0, 0, 0))]]
theorem zk_146 : zt_146 = xt_146.map (fun l => l.map (Option.map zcv)) := rfl
noncomputable def zt_147 : zT := [[some (.inl (zLA 1 0)), some (.inl (zget' 11 10)), none, none, some (.inl (zget' 10 1)), none, none, some (.inl (zSA 1 2))],
  [some (.inl (zL1 1 1)), some (.inl (zsw 254 0 13 #[71, 86, 101, 110, 125, 137, 146, 164, 176, 186, 196, 212, 230, 242])), none, none, none, none, none, none],
  [none, none, none, none, none, none, none, none],
  [none, none, none, none, none, none, none, none],
  [none, none, none, none, none, none, none, none],
  [none, none, none, none, none, none, none, none],
  [none, none, none, none, none, none, none, none],
  [none, none, none, none, none, none, none, none],
  [none, none, none, none, none, none, none, none],
  [none, none, none, none, none, none, none, none],
  [some (.inl (zLA 1 0)), some (.inl (zLA 1 0)), some (.inl (zget' 11 10)), none, none, some (.inl (zget' 10 0)), none, none],
  [some (.inl (zget' 3 0)), none, none, some (.inr (.invokevirtual 116, 121, 2, 11)), none, none, some (.inr (.ireturn, 0, 0, 0)), some (.inl (zLA 1 0))],
  [some (.inl (zLA 1 0)), some (.inl (zget' 11 10)), none, none, some (.inl (zget' 10 0)), none, none, some (.inl (zget' 3 1))],
  [none, none, some (.inr (.invokevirtual 116, 121, 2, 11)), none, none, some (.inr (.ireturn, 0, 0, 0)), some (.inl (zLA 1 0)), some (.inl (zLA 1 2))],
  [some (.inl (zget' 1 0)), none, none, some (.inr (.invokevirtual 116, 121, 2, 11)), none, none, some (.inr (.ireturn, 0, 0, 0)), some (.inl (zLA 1 0))],
  [some (.inl (zLA 1 0)), some (.inl (zget' 11 10)), none, none, some (.inl (zget' 10 2)), none, none, some (.inl (zget' 8 0))],
  [none, none, some (.inr (.invokevirtual 116, 121, 2, 11)), none, none, some (.inr (.ireturn, 0, 0, 0)), some (.inl (zLA 1 0)), some (.inl (zLA 1 0))],
  [some (.inl (zget' 11 10)), none, none, some (.inl (zget' 10 6)), none, none, some (.inr (.invokevirtual 116, 121, 2, 11)), none],
  [none, some (.inr (.ireturn, 0, 0, 0)), some (.inl (zLA 1 0)), some (.inl (zLA 1 2)), some (.inl (zget' 1 1)), none, none, some (.inr (.invokevirtual 116, 121, 2, 11))],
  [none, none, some (.inr (.ireturn, 0, 0, 0)), some (.inl (zLA 1 0)), some (.inl (zLA 1 0)), some (.inl (zget' 11 10)), none, none],
  [some (.inl (zLA 1 2)), some (.inl (zget' 1 1)), none, none, some (.inl (zPI 1 (Int32.ofInt 1))), some (.inl (zadd)), some (.inr (.invokevirtual 230, 106, 2, 10)), none],
  [none, some (.inr (.invokevirtual 116, 121, 2, 11)), none, none, some (.inr (.ireturn, 0, 0, 0)), some (.inl (zLA 1 0)), some (.inl (zLA 1 0)), some (.inl (zget' 11 10))],
  [none, none, some (.inl (zget' 10 5)), none, none, some (.inr (.invokevirtual 116, 121, 2, 11)), none, none],
  [some (.inr (.ireturn, 0, 0, 0)), some (.inl (zLA 1 0)), some (.inl (zLA 1 2)), some (.inl (zPI 1 (Int32.ofInt 1))), some (.inr (.invokevirtual 236, 16, 2, 1)), none, none, some (.inr (.invokevirtual 116, 121, 2, 11))],
  [none, none, some (.inr (.ireturn, 0, 0, 0)), some (.inl (zLA 1 0)), some (.inl (zLA 1 2)), some (.inl (zPI 1 (Int32.ofInt 2))), some (.inr (.invokevirtual 236, 16, 2, 1)), none],
  [none, some (.inr (.invokevirtual 116, 121, 2, 11)), none, none, some (.inr (.ireturn, 0, 0, 0)), some (.inl (zLA 1 0)), some (.inl (zLA 1 0)), some (.inl (zget' 11 10))],
  [none, none, some (.inl (zget' 10 2)), none, none, some (.inl (zLA 1 2)), some (.inr (.invokevirtual 239, 92, 2, 8)), none],
  [none, some (.inr (.invokevirtual 116, 121, 2, 11)), none, none, some (.inr (.ireturn, 0, 0, 0)), some (.inl (zLA 1 0)), some (.inl (zLA 1 0)), some (.inl (zget' 11 10))],
  [none, none, some (.inl (zget' 10 0)), none, none, some (.inl (zget' 3 2)), none, none],
  [some (.inr (.invokestatic 246, 353, 1, 0)), none, none, some (.inr (.invokevirtual 116, 121, 2, 11)), none, none, some (.inr (.ireturn, 0, 0, 0)), some (.inl (zLA 1 0))],
  [some (.inl (zLA 1 0)), some (.inl (zget' 11 10)), none, none, some (.inr (.invokevirtual 252, 116, 1, 10)), none, none, some (.inr (.invokevirtual 116, 121, 2, 11))],
  [none, none, some (.inr (.ireturn, 0, 0, 0)), some (.inl (zLA 1 0)), some (.inl (zLA 1 0)), some (.inl (zget' 11 10)), none, none],
  [some (.inr (.invokevirtual 256, 114, 1, 10)), none, none, some (.inr (.invokevirtual 116, 121, 2, 11)), none, none, some (.inr (.ireturn, 0, 0, 0)), some (.inl (zLA 1 0))],
  [some (.inl (zPI 1 (Int32.ofInt 1))), some (.inr (.invokevirtual 112, 122, 2, 11)), none, none, some (.inr (.ireturn, 0, 0, 0))]]
theorem zk_147 : zt_147 = xt_147.map (fun l => l.map (Option.map zcv)) := rfl
noncomputable def zt_148 : zT := [[some (.inl (zLA 1 0)), some (.inl (zget' 11 10)), none, none, some (.inl (zget' 10 0)), none, none, some (.inl (zL1 1 1))],
  [some (.inl (zL1 1 2)), some (.inr (.invokevirtual 259, 46, 3, 3)), none, none, some (.inl (zif .ne 21)), none, none, some (.inl (zLA 1 0))],
  [some (.inl (zPI 1 (Int32.ofInt 1))), some (.inr (.invokevirtual 112, 122, 2, 11)), none, none, some (.inr (.ireturn, 0, 0, 0)), some (.inl (zLA 1 0)), some (.inl (zLA 1 0)), some (.inl (zget' 11 10))],
  [none, none, some (.inl (zget' 10 1)), none, none, some (.inl (zL1 1 1)), some (.inl (zL1 1 2)), some (.inr (.invokestatic 263, 43, 2, 0))],
  [none, none, some (.inr (.invokevirtual 266, 13, 2, 1)), none, none, some (.inr (.invokevirtual 269, 125, 2, 11)), none, none],
  [some (.inr (.ireturn, 0, 0, 0))]]
theorem zk_148 : zt_148 = xt_148.map (fun l => l.map (Option.map zcv)) := rfl
noncomputable def zt_149 : zT := [[some (.inl (zLA 1 0)), some (.inl (zget' 11 10)), none, none, some (.inl (zget' 10 0)), none, none, some (.inl (zL1 1 1))],
  [some (.inl (zL1 1 2)), some (.inr (.invokevirtual 259, 46, 3, 3)), none, none, some (.inl (zif .ne 21)), none, none, some (.inl (zLA 1 0))],
  [some (.inl (zPI 1 (Int32.ofInt 1))), some (.inr (.invokevirtual 112, 122, 2, 11)), none, none, some (.inr (.ireturn, 0, 0, 0)), some (.inl (zLA 1 0)), some (.inl (zLA 1 0)), some (.inl (zget' 11 10))],
  [none, none, some (.inl (zget' 10 0)), none, none, some (.inl (zL1 1 1)), some (.inl (zL1 1 2)), some (.inr (.invokestatic 263, 43, 2, 0))],
  [none, none, some (.inr (.invokevirtual 272, 47, 2, 3)), none, none, some (.inl (zif .eq 44)), none, none],
  [some (.inl (zPI 1 (Int32.ofInt 1))), some (.inl (zgo 45)), none, none, some (.inl (zPI 1 (Int32.ofInt 0))), some (.inr (.invokevirtual 116, 121, 2, 11)), none, none],
  [some (.inr (.ireturn, 0, 0, 0))]]
theorem zk_149 : zt_149 = xt_149.map (fun l => l.map (Option.map zcv)) := rfl
noncomputable def zt_150 : zT := [[some (.inl (zLA 1 0)), some (.inl (zL1 1 1)), some (.inr (.invokevirtual 275, 128, 2, 11)), none, none, some (.inl (zif .eq 17)), none, none],
  [some (.inl (zL1 1 2)), some (.inl (zPI 1 (Int32.ofInt 0))), some (.inl (zPI 1 (Int32.ofInt 4))), some (.inr (.invokestatic 128, 127, 3, 0)), none, none, some (.inl (zif .ne 23)), none],
  [none, some (.inl (zLA 1 0)), some (.inl (zPI 1 (Int32.ofInt 1))), some (.inr (.invokevirtual 112, 122, 2, 11)), none, none, some (.inr (.ireturn, 0, 0, 0)), some (.inl (zLA 1 0))],
  [some (.inl (zget' 11 10)), none, none, some (.inl (zget' 10 1)), none, none, some (.inl (zSA 1 3)), some (.inl (zLA 1 3))],
  [some (.inl (zL1 1 1)), some (.inr (.invokevirtual 278, 12, 2, 1)), none, none, some (.inl (zS1 2 4)), none, some (.inl (zL1 1 2)), some (.inl (zsw 91 0 3 #[29, 49, 69, 80]))],
  [none, none, none, none, none, none, none, none],
  [none, none, none, none, none, none, none, none],
  [none, none, none, none, none, none, none, none],
  [none, none, none, none, some (.inl (zLA 1 0)), some (.inl (zL1 2 4)), none, some (.inl (zPI 1 (Int32.ofInt (-1))))],
  [some (.inl (zic .ne 79)), none, none, some (.inl (zPI 1 (Int32.ofInt (-1)))), some (.inl (zgo 84)), none, none, some (.inl (zL1 2 4))],
  [none, some (.inr (.invokestatic 281, 44, 1, 0)), none, none, some (.inr (.invokevirtual 269, 125, 2, 11)), none, none, some (.inr (.ireturn, 0, 0, 0))],
  [some (.inl (zLA 1 0)), some (.inl (zL1 2 4)), none, some (.inl (zPI 1 (Int32.ofInt (-1)))), some (.inl (zic .ne 99)), none, none, some (.inl (zPI 1 (Int32.ofInt (-1))))],
  [some (.inl (zgo 104)), none, none, some (.inl (zL1 2 4)), none, some (.inr (.invokestatic 284, 45, 1, 0)), none, none],
  [some (.inr (.invokevirtual 269, 125, 2, 11)), none, none, some (.inr (.ireturn, 0, 0, 0)), some (.inl (zLA 1 0)), some (.inl (zLA 1 3)), some (.inl (zget' 1 4)), none],
  [none, some (.inl (zL1 1 1)), some (.inl (ziald)), some (.inr (.invokevirtual 116, 121, 2, 11)), none, none, some (.inr (.ireturn, 0, 0, 0)), some (.inl (zLA 1 0))],
  [some (.inl (zLA 1 3)), some (.inl (zget' 1 5)), none, none, some (.inl (zL1 1 1)), some (.inl (ziald)), some (.inr (.invokevirtual 269, 125, 2, 11)), none],
  [none, some (.inr (.ireturn, 0, 0, 0)), some (.inl (zLA 1 0)), some (.inl (zLA 1 3)), some (.inl (zget' 1 6)), none, none, some (.inl (zL1 1 1))],
  [some (.inl (ziald)), some (.inr (.invokevirtual 116, 121, 2, 11)), none, none, some (.inr (.ireturn, 0, 0, 0))]]
theorem zk_150 : zt_150 = xt_150.map (fun l => l.map (Option.map zcv)) := rfl
noncomputable def zt_151 : zT := [[some (.inl (zLA 1 0)), some (.inl (zL1 1 1)), some (.inr (.invokevirtual 275, 128, 2, 11)), none, none, some (.inl (zif .ne 14)), none, none],
  [some (.inl (zLA 1 0)), some (.inl (zPI 1 (Int32.ofInt 1))), some (.inr (.invokevirtual 112, 122, 2, 11)), none, none, some (.inr (.ireturn, 0, 0, 0)), some (.inl (zL1 1 2)), some (.inl (zPI 1 (Int32.ofInt 0)))],
  [some (.inl (zLA 1 0)), some (.inl (zget' 11 10)), none, none, some (.inl (zget' 10 1)), none, none, some (.inl (zget' 1 6))],
  [none, none, some (.inl (zL1 1 1)), some (.inl (ziald)), some (.inl (zPI 1 (Int32.ofInt 1))), some (.inl (zsub)), some (.inr (.invokestatic 128, 127, 3, 0)), none],
  [none, some (.inl (zif .ne 43)), none, none, some (.inl (zLA 1 0)), some (.inl (zPI 2 (Int8.ofInt 6).toInt32)), none, some (.inr (.invokevirtual 112, 122, 2, 11))],
  [none, none, some (.inr (.ireturn, 0, 0, 0)), some (.inl (zLA 1 0)), some (.inl (zLA 1 0)), some (.inl (zget' 11 10)), none, none],
  [some (.inl (zget' 10 1)), none, none, some (.inl (zget' 1 7)), none, none, some (.inl (zL1 1 1)), some (.inl (zPI 2 (Int8.ofInt 8).toInt32))],
  [none, some (.inl (zmul)), some (.inl (zL1 1 2)), some (.inl (zadd)), some (.inl (ziald)), some (.inr (.invokevirtual 116, 121, 2, 11)), none, none],
  [some (.inr (.ireturn, 0, 0, 0))]]
theorem zk_151 : zt_151 = xt_151.map (fun l => l.map (Option.map zcv)) := rfl
noncomputable def zt_152 : zT := [[some (.inl (zLA 1 0)), some (.inl (zL1 1 1)), some (.inr (.invokevirtual 299, 129, 2, 11)), none, none, some (.inl (zif .eq 17)), none, none],
  [some (.inl (zL1 1 2)), some (.inl (zPI 1 (Int32.ofInt 0))), some (.inl (zPI 1 (Int32.ofInt 2))), some (.inr (.invokestatic 128, 127, 3, 0)), none, none, some (.inl (zif .ne 23)), none],
  [none, some (.inl (zLA 1 0)), some (.inl (zPI 1 (Int32.ofInt 1))), some (.inr (.invokevirtual 112, 122, 2, 11)), none, none, some (.inr (.ireturn, 0, 0, 0)), some (.inl (zLA 1 0))],
  [some (.inl (zget' 11 10)), none, none, some (.inl (zget' 10 2)), none, none, some (.inl (zSA 1 3)), some (.inl (zL1 1 2))],
  [some (.inl (zif .ne 46)), none, none, some (.inl (zLA 1 0)), some (.inl (zLA 1 3)), some (.inl (zget' 8 2)), none, none],
  [some (.inl (zL1 1 1)), some (.inl (ziald)), some (.inr (.invokevirtual 116, 121, 2, 11)), none, none, some (.inr (.ireturn, 0, 0, 0)), some (.inl (zLA 1 0)), some (.inl (zL1 1 2))],
  [some (.inl (zPI 1 (Int32.ofInt 1))), some (.inl (zic .ne 61)), none, none, some (.inl (zLA 1 3)), some (.inl (zget' 8 3)), none, none],
  [some (.inl (zL1 1 1)), some (.inl (ziald)), some (.inl (zgo 67)), none, none, some (.inl (zLA 1 3)), some (.inl (zget' 8 4)), none],
  [none, some (.inl (zL1 1 1)), some (.inl (ziald)), some (.inr (.invokevirtual 269, 125, 2, 11)), none, none, some (.inr (.ireturn, 0, 0, 0))]]
theorem zk_152 : zt_152 = xt_152.map (fun l => l.map (Option.map zcv)) := rfl
noncomputable def zt_153 : zT := [[some (.inl (zLA 1 0)), some (.inl (zL1 1 1)), some (.inr (.invokevirtual 311, 131, 2, 11)), none, none, some (.inl (zif .eq 24)), none, none],
  [some (.inl (zLA 1 0)), some (.inl (zLA 1 0)), some (.inl (zget' 11 10)), none, none, some (.inl (zget' 10 8)), none, none],
  [some (.inl (zL1 1 1)), some (.inl (ziald)), some (.inr (.invokevirtual 116, 121, 2, 11)), none, none, some (.inl (zgo 29)), none, none],
  [some (.inl (zLA 1 0)), some (.inl (zPI 1 (Int32.ofInt 1))), some (.inr (.invokevirtual 112, 122, 2, 11)), none, none, some (.inr (.ireturn, 0, 0, 0))]]
theorem zk_153 : zt_153 = xt_153.map (fun l => l.map (Option.map zcv)) := rfl
noncomputable def zt_154 : zT := [[some (.inl (zLA 1 0)), some (.inl (zL1 1 1)), some (.inr (.invokevirtual 317, 132, 2, 11)), none, none, some (.inl (zif .eq 23)), none, none],
  [some (.inl (zLA 1 0)), some (.inl (zLA 1 0)), some (.inl (zget' 11 10)), none, none, some (.inl (zL1 1 1)), some (.inr (.invokevirtual 320, 112, 2, 10)), none],
  [none, some (.inr (.invokevirtual 269, 125, 2, 11)), none, none, some (.inl (zgo 28)), none, none, some (.inl (zLA 1 0))],
  [some (.inl (zPI 1 (Int32.ofInt 1))), some (.inr (.invokevirtual 112, 122, 2, 11)), none, none, some (.inr (.ireturn, 0, 0, 0))]]
theorem zk_154 : zt_154 = xt_154.map (fun l => l.map (Option.map zcv)) := rfl
noncomputable def zt_155 : zT := [[some (.inl (zLA 1 0)), some (.inl (zL1 1 1)), some (.inr (.invokevirtual 311, 131, 2, 11)), none, none, some (.inl (zif .eq 23)), none, none],
  [some (.inl (zLA 1 0)), some (.inl (zLA 1 0)), some (.inl (zget' 11 10)), none, none, some (.inl (zL1 1 1)), some (.inr (.invokevirtual 323, 113, 2, 10)), none],
  [none, some (.inr (.invokevirtual 116, 121, 2, 11)), none, none, some (.inl (zgo 28)), none, none, some (.inl (zLA 1 0))],
  [some (.inl (zPI 1 (Int32.ofInt 1))), some (.inr (.invokevirtual 112, 122, 2, 11)), none, none, some (.inr (.ireturn, 0, 0, 0))]]
theorem zk_155 : zt_155 = xt_155.map (fun l => l.map (Option.map zcv)) := rfl
noncomputable def zt_156 : zT := [[some (.inl (zLA 1 0)), some (.inl (zL1 1 1)), some (.inr (.invokevirtual 311, 131, 2, 11)), none, none, some (.inl (zif .eq 18)), none, none],
  [some (.inl (zL1 1 2)), some (.inl (zPI 1 (Int32.ofInt 1))), some (.inl (zPI 2 (Int8.ofInt 99).toInt32)), none, some (.inr (.invokestatic 128, 127, 3, 0)), none, none, some (.inl (zif .ne 24))],
  [none, none, some (.inl (zLA 1 0)), some (.inl (zPI 1 (Int32.ofInt 1))), some (.inr (.invokevirtual 112, 122, 2, 11)), none, none, some (.inr (.ireturn, 0, 0, 0))],
  [some (.inl (zPI 1 (Int32.ofInt 0))), some (.inl (zS1 1 3)), some (.inl (zL1 1 3)), some (.inl (zL1 1 2)), some (.inl (zic .ge 57)), none, none, some (.inl (zLA 1 0))],
  [some (.inl (zget' 11 10)), none, none, some (.inl (zL1 1 1)), some (.inl (zPI 1 (Int32.ofInt 1))), some (.inr (.invokevirtual 326, 109, 3, 10)), none, none],
  [some (.inl (zif .eq 57)), none, none, some (.inl (zLA 1 0)), some (.inl (zget' 11 10)), none, none, some (.inl (zL1 1 1))],
  [some (.inr (.invokevirtual 329, 110, 2, 10)), none, none, some (.inl (zinc 3 1)), none, none, some (.inl (zgo 26)), none],
  [none, some (.inl (zL1 1 3)), some (.inl (zif .ne 70)), none, none, some (.inl (zLA 1 0)), some (.inl (zPI 2 (Int8.ofInt 7).toInt32)), none],
  [some (.inr (.invokevirtual 112, 122, 2, 11)), none, none, some (.inl (zgo 75)), none, none, some (.inl (zLA 1 0)), some (.inl (zL1 1 3))],
  [some (.inr (.invokevirtual 116, 121, 2, 11)), none, none, some (.inr (.ireturn, 0, 0, 0))]]
theorem zk_156 : zt_156 = xt_156.map (fun l => l.map (Option.map zcv)) := rfl
noncomputable def zt_157 : zT := [[some (.inl (zL1 1 1)), some (.inl (zPI 1 (Int32.ofInt 1))), some (.inl (zPI 2 (Int8.ofInt 99).toInt32)), none, some (.inr (.invokestatic 128, 127, 3, 0)), none, none, some (.inl (zif .ne 16))],
  [none, none, some (.inl (zLA 1 0)), some (.inl (zPI 1 (Int32.ofInt 1))), some (.inr (.invokevirtual 112, 122, 2, 11)), none, none, some (.inr (.ireturn, 0, 0, 0))],
  [some (.inl (zLA 1 0)), some (.inl (zget' 11 10)), none, none, some (.inl (zL1 1 1)), some (.inr (.invokevirtual 332, 108, 2, 10)), none, none],
  [some (.inl (zif .ne 33)), none, none, some (.inl (zLA 1 0)), some (.inl (zPI 1 (Int32.ofInt 4))), some (.inr (.invokevirtual 112, 122, 2, 11)), none, none],
  [some (.inr (.ireturn, 0, 0, 0)), some (.inl (zPI 1 (Int32.ofInt 0))), some (.inl (zS1 1 2)), some (.inl (zL1 1 2)), some (.inl (zL1 1 1)), some (.inl (zic .ge 54)), none, none],
  [some (.inl (zLA 1 0)), some (.inl (zget' 11 10)), none, none, some (.inl (zPI 1 (Int32.ofInt (-1)))), some (.inr (.invokevirtual 329, 110, 2, 10)), none, none],
  [some (.inl (zinc 2 1)), none, none, some (.inl (zgo 35)), none, none, some (.inl (zLA 1 0)), some (.inl (zLA 1 0))],
  [some (.inl (zget' 11 10)), none, none, some (.inl (zget' 10 1)), none, none, some (.inl (zget' 1 1)), none],
  [none, some (.inr (.invokevirtual 116, 121, 2, 11)), none, none, some (.inr (.ireturn, 0, 0, 0))]]
theorem zk_157 : zt_157 = xt_157.map (fun l => l.map (Option.map zcv)) := rfl
noncomputable def zt_158 : zT := [[some (.inl (zLA 1 0)), some (.inl (zL1 1 1)), some (.inr (.invokevirtual 317, 132, 2, 11)), none, none, some (.inl (zif .eq 16)), none, none],
  [some (.inl (zLA 1 0)), some (.inl (zL1 1 2)), some (.inr (.invokevirtual 311, 131, 2, 11)), none, none, some (.inl (zif .ne 22)), none, none],
  [some (.inl (zLA 1 0)), some (.inl (zPI 1 (Int32.ofInt 1))), some (.inr (.invokevirtual 112, 122, 2, 11)), none, none, some (.inr (.ireturn, 0, 0, 0)), some (.inl (zLA 1 0)), some (.inl (zget' 11 10))],
  [none, none, some (.inl (zL1 1 1)), some (.inr (.invokevirtual 320, 112, 2, 10)), none, none, some (.inl (zS1 1 3)), some (.inl (zL1 1 3))],
  [some (.inl (zPI 1 (Int32.ofInt (-1)))), some (.inl (zic .eq 41)), none, none, some (.inl (zL1 1 3)), some (.inl (zL1 1 2)), some (.inl (zic .ne 48)), none],
  [none, some (.inl (zLA 1 0)), some (.inl (zPI 2 (Int8.ofInt 7).toInt32)), none, some (.inr (.invokevirtual 112, 122, 2, 11)), none, none, some (.inr (.ireturn, 0, 0, 0))],
  [some (.inl (zLA 1 0)), some (.inl (zget' 11 10)), none, none, some (.inl (zL1 1 1)), some (.inl (zL1 1 2)), some (.inr (.invokevirtual 335, 111, 3, 10)), none],
  [none, some (.inl (zLA 1 0)), some (.inl (zL1 1 3)), some (.inr (.invokevirtual 116, 121, 2, 11)), none, none, some (.inr (.ireturn, 0, 0, 0))]]
theorem zk_158 : zt_158 = xt_158.map (fun l => l.map (Option.map zcv)) := rfl
noncomputable def zt_159 : zT := [[some (.inl (zLA 1 0)), some (.inl (zL1 1 1)), some (.inr (.invokevirtual 311, 131, 2, 11)), none, none, some (.inl (zif .eq 16)), none, none],
  [some (.inl (zLA 1 0)), some (.inl (zL1 1 2)), some (.inr (.invokevirtual 317, 132, 2, 11)), none, none, some (.inl (zif .ne 22)), none, none],
  [some (.inl (zLA 1 0)), some (.inl (zPI 1 (Int32.ofInt 1))), some (.inr (.invokevirtual 112, 122, 2, 11)), none, none, some (.inr (.ireturn, 0, 0, 0)), some (.inl (zLA 1 0)), some (.inl (zget' 11 10))],
  [none, none, some (.inl (zL1 1 2)), some (.inr (.invokevirtual 320, 112, 2, 10)), none, none, some (.inl (zL1 1 1)), some (.inl (zic .eq 41))],
  [none, none, some (.inl (zLA 1 0)), some (.inl (zPI 2 (Int8.ofInt 7).toInt32)), none, some (.inr (.invokevirtual 112, 122, 2, 11)), none, none],
  [some (.inr (.ireturn, 0, 0, 0)), some (.inl (zLA 1 0)), some (.inl (zget' 11 10)), none, none, some (.inl (zL1 1 2)), some (.inl (zPI 1 (Int32.ofInt (-1)))), some (.inr (.invokevirtual 335, 111, 3, 10))],
  [none, none, some (.inl (zLA 1 0)), some (.inl (zget' 11 10)), none, none, some (.inl (zget' 10 8)), none],
  [none, some (.inl (zL1 1 1)), some (.inl (ziald)), some (.inl (zLA 1 0)), some (.inl (zget' 11 10)), none, none, some (.inl (zL1 1 2))],
  [some (.inr (.invokevirtual 230, 106, 2, 10)), none, none, some (.inl (zPI 1 (Int32.ofInt 2))), some (.inl (zdiv)), some (.inl (zadd)), some (.inl (zS1 1 3)), some (.inl (zLA 1 0))],
  [some (.inl (zget' 11 10)), none, none, some (.inl (zget' 10 8)), none, none, some (.inl (zL1 1 1)), some (.inl (zL1 1 3))],
  [some (.inl (zPI 3 (Int16.ofInt 9999).toInt32)), none, none, some (.inl (zmin)), none, none, some (.inl (ziast)), some (.inl (zLA 1 0))],
  [some (.inl (zLA 1 0)), some (.inl (zget' 11 10)), none, none, some (.inl (zget' 10 8)), none, none, some (.inl (zL1 1 1))],
  [some (.inl (ziald)), some (.inr (.invokevirtual 116, 121, 2, 11)), none, none, some (.inr (.ireturn, 0, 0, 0))]]
theorem zk_159 : zt_159 = xt_159.map (fun l => l.map (Option.map zcv)) := rfl
