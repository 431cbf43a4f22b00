noncomputable def zt_200 : zT := [[some (.inl (zPI 1 (Int32.ofInt 0))), some (.inl (zS1 1 2)), some (.inl (zL1 1 2)), some (.inl (zPI 3 (Int16.ofInt 620).toInt32)), none, none, some (.inl (zic .ge 24)), none],
  [none, some (.inl (zLA 1 0)), some (.inl (zget' 12 0)), none, none, some (.inl (zL1 1 1)), some (.inl (zL1 1 2)), some (.inl (zadd))],
  [some (.inl (zPI 1 (Int32.ofInt 0))), some (.inl (ziast)), some (.inl (zinc 2 1)), none, none, some (.inl (zgo 2)), none, none],
  [some (.inl (zPI 1 (Int32.ofInt 0))), some (.inl (zS1 1 2)), some (.inl (zL1 1 2)), some (.inl (zPI 2 (Int8.ofInt 120).toInt32)), none, some (.inl (zic .ge 51)), none, none],
  [some (.inl (zLA 1 0)), some (.inl (zget' 12 0)), none, none, some (.inl (zL1 1 1)), some (.inl (zPI 3 (Int16.ofInt 132).toInt32)), none, none],
  [some (.inl (zadd)), some (.inl (zL1 1 2)), some (.inl (zadd)), some (.inl (zPI 1 (Int32.ofInt (-1)))), some (.inl (ziast)), some (.inl (zinc 2 1)), none, none],
  [some (.inl (zgo 26)), none, none, some (.inl (zLA 1 0)), some (.inl (zget' 12 0)), none, none, some (.inl (zL1 1 1))],
  [some (.inl (zPI 2 (Int8.ofInt 6).toInt32)), none, some (.inl (zadd)), some (.inl (zPI 1 (Int32.ofInt 5))), some (.inl (ziast)), some (.inl (zLA 1 0)), some (.inl (zget' 12 0)), none],
  [none, some (.inl (zL1 1 1)), some (.inl (zPI 2 (Int8.ofInt 7).toInt32)), none, some (.inl (zadd)), some (.inl (zPI 1 (Int32.ofInt 1))), some (.inl (ziast)), some (.inl (zLA 1 0))],
  [some (.inl (zget' 12 0)), none, none, some (.inl (zL1 1 1)), some (.inl (zPI 2 (Int8.ofInt 8).toInt32)), none, some (.inl (zadd)), some (.inl (zPI 1 (Int32.ofInt (-1))))],
  [some (.inl (ziast)), some (.inr (.return_, 0, 0, 0))]]
theorem zk_200 : zt_200 = xt_200.map (fun l => l.map (Option.map zcv)) := rfl
noncomputable def zt_201 : zT := [[some (.inl (zLA 1 0)), some (.inl (zget' 12 2)), none, none, some (.inr (.ireturn, 0, 0, 0))]]
theorem zk_201 : zt_201 = xt_201.map (fun l => l.map (Option.map zcv)) := rfl
noncomputable def zt_202 : zT := [[some (.inl (zLA 1 0)), some (.inl (zget' 12 3)), none, none, some (.inr (.lreturn, 0, 0, 0))]]
theorem zk_202 : zt_202 = xt_202.map (fun l => l.map (Option.map zcv)) := rfl
noncomputable def zt_203 : zT := [[some (.inl (zLA 1 0)), some (.inl (zget' 12 4)), none, none, some (.inr (.lreturn, 0, 0, 0))]]
theorem zk_203 : zt_203 = xt_203.map (fun l => l.map (Option.map zcv)) := rfl
noncomputable def zt_204 : zT := [[some (.inl (zLA 1 0)), some (.inl (zL1 1 1)), some (.inl (zput' 12 2)), none, none, some (.inl (zL1 1 1)), some (.inl (zif .ne 13)), none],
  [none, some (.inl (zPI 1 (Int32.ofInt 1))), some (.inl (zgo 14)), none, none, some (.inl (zPI 1 (Int32.ofInt 0))), some (.inr (.ireturn, 0, 0, 0))]]
theorem zk_204 : zt_204 = xt_204.map (fun l => l.map (Option.map zcv)) := rfl
noncomputable def zt_205 : zT := [[some (.inl (zLA 1 0)), some (.inl (zL1 1 1)), some (.inl (zput' 12 2)), none, none, some (.inl (zPI 1 (Int32.ofInt (-1)))), some (.inr (.ireturn, 0, 0, 0))]]
theorem zk_205 : zt_205 = xt_205.map (fun l => l.map (Option.map zcv)) := rfl
noncomputable def zt_206 : zT := [[some (.inl (zLA 1 0)), some (.inl (zPI 1 (Int32.ofInt 0))), some (.inl (zput' 12 2)), none, none, some (.inl (zL1 1 1)), some (.inr (.ireturn, 0, 0, 0))]]
theorem zk_206 : zt_206 = xt_206.map (fun l => l.map (Option.map zcv)) := rfl
noncomputable def zt_207 : zT := [[some (.inl (zL1 1 1)), some (.inl (zPI 1 (Int32.ofInt (-1)))), some (.inl (zic .ne 14)), none, none, some (.inl (zLA 1 0)), some (.inl (zPI 2 (Int8.ofInt 6).toInt32)), none],
  [some (.inr (.invokevirtual 84, 205, 2, 12)), none, none, some (.inl (zgo 19)), none, none, some (.inl (zLA 1 0)), some (.inl (zL1 1 1))],
  [some (.inr (.invokevirtual 88, 206, 2, 12)), none, none, some (.inr (.ireturn, 0, 0, 0))]]
theorem zk_207 : zt_207 = xt_207.map (fun l => l.map (Option.map zcv)) := rfl
noncomputable def zt_208 : zT := [[some (.inl (zL2 1 1)), some (.inl (zS2 2 5)), none, some (.inl (zL2 1 3)), some (.inl (zS2 2 7)), none, some (.inl (zL2 2 7)), none],
  [some (.inl (zPL 1 (Int64.ofNat 0))), some (.inl (zlcm)), some (.inl (zif .eq 31)), none, none, some (.inl (zL2 2 5)), none, some (.inl (zL2 2 7))],
  [none, some (.inl (zlrem)), some (.inl (zS2 2 9)), none, some (.inl (zL2 2 7)), none, some (.inl (zS2 2 5)), none],
  [some (.inl (zL2 2 9)), none, some (.inl (zS2 2 7)), none, some (.inl (zgo 6)), none, none, some (.inl (zLA 1 0))],
  [some (.inl (zL2 1 1)), some (.inl (zL2 2 5)), none, some (.inl (zldiv)), some (.inl (zput' 12 3)), none, none, some (.inl (zLA 1 0))],
  [some (.inl (zL2 1 3)), some (.inl (zL2 2 5)), none, some (.inl (zldiv)), some (.inl (zput' 12 4)), none, none, some (.inl (zLA 1 0))],
  [some (.inl (zPI 1 (Int32.ofInt 0))), some (.inr (.invokevirtual 91, 204, 2, 12)), none, none, some (.inr (.ireturn, 0, 0, 0))]]
theorem zk_208 : zt_208 = xt_208.map (fun l => l.map (Option.map zcv)) := rfl
noncomputable def zt_209 : zT := [[some (.inl (zL1 1 0)), some (.inl (zif .lt 13)), none, none, some (.inl (zL1 1 0)), some (.inl (zPI 1 (Int32.ofInt 4))), some (.inl (zic .ge 13)), none],
  [none, some (.inl (zPI 1 (Int32.ofInt 1))), some (.inl (zgo 14)), none, none, some (.inl (zPI 1 (Int32.ofInt 0))), some (.inr (.ireturn, 0, 0, 0))]]
theorem zk_209 : zt_209 = xt_209.map (fun l => l.map (Option.map zcv)) := rfl
noncomputable def zt_210 : zT := [[some (.inl (zL1 1 2)), some (.inl (zif .ne 11)), none, none, some (.inl (zL2 1 0)), some (.inl (zl2i)), some (.inl (zi2b)), some (.inl (zi2l))],
  [some (.inl (zgo 35)), none, none, some (.inl (zL1 1 2)), some (.inl (zPI 1 (Int32.ofInt 1))), some (.inl (zic .ne 23)), none, none],
  [some (.inl (zL2 1 0)), some (.inl (zl2i)), some (.inl (zi2s)), some (.inl (zi2l)), some (.inl (zgo 35)), none, none, some (.inl (zL1 1 2))],
  [some (.inl (zPI 1 (Int32.ofInt 2))), some (.inl (zic .ne 34)), none, none, some (.inl (zL2 1 0)), some (.inl (zl2i)), some (.inl (zi2l)), some (.inl (zgo 35))],
  [none, none, some (.inl (zL2 1 0)), some (.inr (.lreturn, 0, 0, 0))]]
theorem zk_210 : zt_210 = xt_210.map (fun l => l.map (Option.map zcv)) := rfl
noncomputable def zt_211 : zT := [[some (.inl (zL1 1 1)), some (.inr (.invokestatic 95, 209, 1, 0)), none, none, some (.inl (zif .eq 26)), none, none, some (.inl (zL1 1 2))],
  [some (.inl (zif .lt 26)), none, none, some (.inl (zL1 1 2)), some (.inl (zPI 1 (Int32.ofInt 3))), some (.inl (zic .gt 26)), none, none],
  [some (.inl (zL1 1 3)), some (.inl (zif .lt 26)), none, none, some (.inl (zL1 1 3)), some (.inl (zPI 2 (Int8.ofInt 60).toInt32)), none, some (.inl (zic .le 32))],
  [none, none, some (.inl (zLA 1 0)), some (.inl (zPI 1 (Int32.ofInt 1))), some (.inr (.invokevirtual 91, 204, 2, 12)), none, none, some (.inr (.ireturn, 0, 0, 0))],
  [some (.inl (zLA 1 0)), some (.inl (zget' 12 5)), none, none, some (.inl (zL1 1 1)), some (.inl (zL1 1 2)), some (.inl (ziast)), some (.inl (zLA 1 0))],
  [some (.inl (zget' 12 6)), none, none, some (.inl (zL1 1 1)), some (.inl (zL1 1 3)), some (.inl (ziast)), some (.inl (zPI 1 (Int32.ofInt 0))), some (.inl (zS1 2 4))],
  [none, some (.inl (zL1 2 4)), none, some (.inl (zL1 1 3)), some (.inl (zic .ge 74)), none, none, some (.inl (zLA 1 0))],
  [some (.inl (zget' 12 7)), none, none, some (.inl (zPI 2 (Int8.ofInt 60).toInt32)), none, some (.inl (zL1 1 1)), some (.inl (zmul)), some (.inl (zL1 2 4))],
  [none, some (.inl (zadd)), some (.inl (zPL 1 (Int64.ofNat 0))), some (.inl (zlast)), some (.inl (zinc 4 1)), none, none, some (.inl (zgo 49))],
  [none, none, some (.inl (zLA 1 0)), some (.inl (zPI 1 (Int32.ofInt 0))), some (.inr (.invokevirtual 91, 204, 2, 12)), none, none, some (.inr (.ireturn, 0, 0, 0))]]
theorem zk_211 : zt_211 = xt_211.map (fun l => l.map (Option.map zcv)) := rfl
noncomputable def zt_212 : zT := [[some (.inl (zL1 1 1)), some (.inr (.invokestatic 95, 209, 1, 0)), none, none, some (.inl (zif .ne 11)), none, none, some (.inl (zPI 1 (Int32.ofInt 1)))],
  [some (.inl (zgo 44)), none, none, some (.inl (zLA 1 0)), some (.inl (zget' 12 6)), none, none, some (.inl (zL1 1 1))],
  [some (.inl (ziald)), some (.inl (zPI 1 (Int32.ofInt (-1)))), some (.inl (zic .ne 25)), none, none, some (.inl (zPI 1 (Int32.ofInt 2))), some (.inl (zgo 44)), none],
  [none, some (.inl (zL1 1 2)), some (.inl (zif .lt 39)), none, none, some (.inl (zL1 1 2)), some (.inl (zLA 1 0)), some (.inl (zget' 12 6))],
  [none, none, some (.inl (zL1 1 1)), some (.inl (ziald)), some (.inl (zic .lt 43)), none, none, some (.inl (zPI 1 (Int32.ofInt 3)))],
  [some (.inl (zgo 44)), none, none, some (.inl (zPI 1 (Int32.ofInt 0))), some (.inr (.ireturn, 0, 0, 0))]]
theorem zk_212 : zt_212 = xt_212.map (fun l => l.map (Option.map zcv)) := rfl
noncomputable def zt_213 : zT := [[some (.inl (zLA 1 0)), some (.inl (zL1 1 1)), some (.inl (zL1 1 2)), some (.inr (.invokevirtual 98, 212, 3, 12)), none, none, some (.inl (zS1 2 5)), none],
  [some (.inl (zL1 2 5)), none, some (.inl (zif .ne 34)), none, none, some (.inl (zLA 1 0)), some (.inl (zget' 12 7)), none],
  [none, some (.inl (zPI 2 (Int8.ofInt 60).toInt32)), none, some (.inl (zL1 1 1)), some (.inl (zmul)), some (.inl (zL1 1 2)), some (.inl (zadd)), some (.inl (zL2 1 3))],
  [some (.inl (zLA 1 0)), some (.inl (zget' 12 5)), none, none, some (.inl (zL1 1 1)), some (.inl (ziald)), some (.inr (.invokestatic 102, 210, 2, 0)), none],
  [none, some (.inl (zlast)), some (.inl (zLA 1 0)), some (.inl (zL1 2 5)), none, some (.inr (.invokevirtual 91, 204, 2, 12)), none, none],
  [some (.inr (.ireturn, 0, 0, 0))]]
theorem zk_213 : zt_213 = xt_213.map (fun l => l.map (Option.map zcv)) := rfl
noncomputable def zt_214 : zT := [[some (.inl (zLA 1 0)), some (.inl (zLA 1 0)), some (.inl (zL1 1 1)), some (.inl (zL1 1 2)), some (.inr (.invokevirtual 98, 212, 3, 12)), none, none, some (.inl (zput' 12 2))],
  [none, none, some (.inl (zLA 1 0)), some (.inl (zget' 12 2)), none, none, some (.inl (zif .le 23)), none],
  [none, some (.inl (zPL 3 (Int64.ofInt (-1)))), none, none, some (.inl (zgo 34)), none, none, some (.inl (zLA 1 0))],
  [some (.inl (zget' 12 7)), none, none, some (.inl (zPI 2 (Int8.ofInt 60).toInt32)), none, some (.inl (zL1 1 1)), some (.inl (zmul)), some (.inl (zL1 1 2))],
  [some (.inl (zadd)), some (.inl (zald' 22)), some (.inr (.lreturn, 0, 0, 0))]]
theorem zk_214 : zt_214 = xt_214.map (fun l => l.map (Option.map zcv)) := rfl
noncomputable def zt_215 : zT := [[some (.inl (zL1 1 1)), some (.inr (.invokestatic 95, 209, 1, 0)), none, none, some (.inl (zif .eq 28)), none, none, some (.inl (zL1 1 3))],
  [some (.inr (.invokestatic 95, 209, 1, 0)), none, none, some (.inl (zif .eq 28)), none, none, some (.inl (zL1 1 2)), some (.inl (zif .lt 28))],
  [none, none, some (.inl (zL1 2 4)), none, some (.inl (zif .lt 28)), none, none, some (.inl (zL1 2 5))],
  [none, some (.inl (zif .ge 34)), none, none, some (.inl (zLA 1 0)), some (.inl (zPI 1 (Int32.ofInt 1))), some (.inr (.invokevirtual 91, 204, 2, 12)), none],
  [none, some (.inr (.ireturn, 0, 0, 0)), some (.inl (zLA 1 0)), some (.inl (zget' 12 6)), none, none, some (.inl (zL1 1 1)), some (.inl (ziald))],
  [some (.inl (zPI 1 (Int32.ofInt (-1)))), some (.inl (zic .eq 54)), none, none, some (.inl (zLA 1 0)), some (.inl (zget' 12 6)), none, none],
  [some (.inl (zL1 1 3)), some (.inl (ziald)), some (.inl (zPI 1 (Int32.ofInt (-1)))), some (.inl (zic .ne 60)), none, none, some (.inl (zLA 1 0)), some (.inl (zPI 1 (Int32.ofInt 2)))],
  [some (.inr (.invokevirtual 91, 204, 2, 12)), none, none, some (.inr (.ireturn, 0, 0, 0)), some (.inl (zLA 1 0)), some (.inl (zget' 12 5)), none, none],
  [some (.inl (zL1 1 1)), some (.inl (ziald)), some (.inl (zLA 1 0)), some (.inl (zget' 12 5)), none, none, some (.inl (zL1 1 3)), some (.inl (ziald))],
  [some (.inl (zic .eq 82)), none, none, some (.inl (zLA 1 0)), some (.inl (zPI 2 (Int8.ofInt 8).toInt32)), none, some (.inr (.invokevirtual 91, 204, 2, 12)), none],
  [none, some (.inr (.ireturn, 0, 0, 0)), some (.inl (zL1 2 5)), none, some (.inl (zLA 1 0)), some (.inl (zget' 12 6)), none, none],
  [some (.inl (zL1 1 1)), some (.inl (ziald)), some (.inl (zL1 1 2)), some (.inl (zsub)), some (.inl (zic .gt 109)), none, none, some (.inl (zL1 2 5))],
  [none, some (.inl (zLA 1 0)), some (.inl (zget' 12 6)), none, none, some (.inl (zL1 1 3)), some (.inl (ziald)), some (.inl (zL1 2 4))],
  [none, some (.inl (zsub)), some (.inl (zic .le 115)), none, none, some (.inl (zLA 1 0)), some (.inl (zPI 1 (Int32.ofInt 3))), some (.inr (.invokevirtual 91, 204, 2, 12))],
  [none, none, some (.inr (.ireturn, 0, 0, 0)), some (.inl (zPI 1 (Int32.ofInt 0))), some (.inl (zS1 2 6)), none, some (.inl (zL1 2 6)), none],
  [some (.inl (zL1 2 5)), none, some (.inl (zic .ge 180)), none, none, some (.inl (zL1 1 2)), some (.inl (zL1 2 4)), none],
  [some (.inl (zic .ge 141)), none, none, some (.inl (zL1 2 5)), none, some (.inl (zPI 1 (Int32.ofInt 1))), some (.inl (zsub)), some (.inl (zL1 2 6))],
  [none, some (.inl (zsub)), some (.inl (zgo 143)), none, none, some (.inl (zL1 2 6)), none, some (.inl (zS1 2 7))],
  [none, some (.inl (zLA 1 0)), some (.inl (zget' 12 7)), none, none, some (.inl (zPI 2 (Int8.ofInt 60).toInt32)), none, some (.inl (zL1 1 3))],
  [some (.inl (zmul)), some (.inl (zL1 2 4)), none, some (.inl (zadd)), some (.inl (zL1 2 7)), none, some (.inl (zadd)), some (.inl (zLA 1 0))],
  [some (.inl (zget' 12 7)), none, none, some (.inl (zPI 2 (Int8.ofInt 60).toInt32)), none, some (.inl (zL1 1 1)), some (.inl (zmul)), some (.inl (zL1 1 2))],
  [some (.inl (zadd)), some (.inl (zL1 2 7)), none, some (.inl (zadd)), some (.inl (zald' 22)), some (.inl (zlast)), some (.inl (zinc 6 1)), none],
  [none, some (.inl (zgo 118)), none, none, some (.inl (zLA 1 0)), some (.inl (zPI 1 (Int32.ofInt 0))), some (.inr (.invokevirtual 91, 204, 2, 12)), none],
  [none, some (.inr (.ireturn, 0, 0, 0))]]
theorem zk_215 : zt_215 = xt_215.map (fun l => l.map (Option.map zcv)) := rfl
noncomputable def zt_216 : zT := [[some (.inl (zL2 1 0)), some (.inl (zL2 1 2)), some (.inl (zlcm)), some (.inl (zif .lt 17)), none, none, some (.inl (zL2 1 0)), some (.inl (zL2 2 4))],
  [none, some (.inl (zlcm)), some (.inl (zif .gt 17)), none, none, some (.inl (zPI 1 (Int32.ofInt 1))), some (.inl (zgo 18)), none],
  [none, some (.inl (zPI 1 (Int32.ofInt 0))), some (.inr (.ireturn, 0, 0, 0))]]
theorem zk_216 : zt_216 = xt_216.map (fun l => l.map (Option.map zcv)) := rfl
noncomputable def zt_217 : zT := [[some (.inl (zLA 1 0)), some (.inl (zget' 12 10)), none, none, some (.inl (zPI 2 (Int8.ofInt 20).toInt32)), none, some (.inl (zadd)), some (.inl (zPI 3 (Int16.ofInt 900).toInt32))],
  [none, none, some (.inl (zic .le 15)), none, none, some (.inl (zPI 1 (Int32.ofInt (-1)))), some (.inr (.ireturn, 0, 0, 0)), some (.inl (zLA 1 0))],
  [some (.inl (zL1 1 1)), some (.inr (.invokevirtual 111, 218, 2, 12)), none, none, some (.inl (zLA 1 0)), some (.inl (zL1 1 2)), some (.inr (.invokevirtual 111, 218, 2, 12)), none],
  [none, some (.inl (zLA 1 0)), some (.inl (zL1 1 3)), some (.inr (.invokevirtual 111, 218, 2, 12)), none, none, some (.inl (zLA 1 0)), some (.inl (zL1 2 4))],
  [none, some (.inr (.invokevirtual 111, 218, 2, 12)), none, none, some (.inl (zLA 1 0)), some (.inl (zL1 2 5)), none, some (.inr (.invokevirtual 111, 218, 2, 12))],
  [none, none, some (.inl (zLA 1 0)), some (.inl (zget' 12 10)), none, none, some (.inr (.ireturn, 0, 0, 0))]]
theorem zk_217 : zt_217 = xt_217.map (fun l => l.map (Option.map zcv)) := rfl
noncomputable def zt_218 : zT := [[some (.inl (zPI 2 (Int8.ofInt 24).toInt32)), none, some (.inl (zS1 1 2)), some (.inl (zL1 1 2)), some (.inl (zif .lt 36)), none, none, some (.inl (zLA 1 0))],
  [some (.inl (zget' 12 8)), none, none, some (.inl (zLA 1 0)), some (.inl (zget' 12 10)), none, none, some (.inl (zL1 1 1))],
  [some (.inl (zL1 1 2)), some (.inl (zshr)), some (.inl (zi2b)), some (.inl (zbast)), some (.inl (zLA 1 0)), some (.inl (zdup)), some (.inl (zget' 12 10)), none],
  [none, some (.inl (zPI 1 (Int32.ofInt 1))), some (.inl (zadd)), some (.inl (zput' 12 10)), none, none, some (.inl (zinc 2 (-8))), none],
  [none, some (.inl (zgo 3)), none, none, some (.inr (.return_, 0, 0, 0))]]
theorem zk_218 : zt_218 = xt_218.map (fun l => l.map (Option.map zcv)) := rfl
noncomputable def zt_219 : zT := [[some (.inl (zL1 1 1)), some (.inl (zLA 1 0)), some (.inl (zget' 12 11)), none, none, some (.inl (zic .ge 21)), none, none],
  [some (.inl (zLA 1 0)), some (.inl (zget' 12 9)), none, none, some (.inl (zL1 1 1)), some (.inl (zald' 21)), some (.inl (zPI 3 (Int16.ofInt 255).toInt32)), none],
  [none, some (.inl (zandI)), some (.inl (zgo 22)), none, none, some (.inl (zPI 1 (Int32.ofInt (-1)))), some (.inr (.ireturn, 0, 0, 0))]]
theorem zk_219 : zt_219 = xt_219.map (fun l => l.map (Option.map zcv)) := rfl
noncomputable def zt_220 : zT := [[some (.inl (zL1 1 0)), some (.inl (zPI 2 (Int8.ofInt 97).toInt32)), none, some (.inl (zic .lt 16)), none, none, some (.inl (zL1 1 0)), some (.inl (zPI 2 (Int8.ofInt 122).toInt32))],
  [none, some (.inl (zic .gt 16)), none, none, some (.inl (zPI 1 (Int32.ofInt 1))), some (.inl (zgo 17)), none, none],
  [some (.inl (zPI 1 (Int32.ofInt 0))), some (.inr (.ireturn, 0, 0, 0))]]
theorem zk_220 : zt_220 = xt_220.map (fun l => l.map (Option.map zcv)) := rfl
noncomputable def zt_221 : zT := [[some (.inl (zL1 1 0)), some (.inl (zPI 2 (Int8.ofInt 48).toInt32)), none, some (.inl (zic .lt 16)), none, none, some (.inl (zL1 1 0)), some (.inl (zPI 2 (Int8.ofInt 57).toInt32))],
  [none, some (.inl (zic .gt 16)), none, none, some (.inl (zPI 1 (Int32.ofInt 1))), some (.inl (zgo 17)), none, none],
  [some (.inl (zPI 1 (Int32.ofInt 0))), some (.inr (.ireturn, 0, 0, 0))]]
theorem zk_221 : zt_221 = xt_221.map (fun l => l.map (Option.map zcv)) := rfl
noncomputable def zt_222 : zT := [[some (.inl (zLA 1 0)), some (.inl (zLA 1 0)), some (.inl (zget' 12 14)), none, none, some (.inr (.invokevirtual 120, 219, 2, 12)), none, none],
  [some (.inl (zPI 2 (Int8.ofInt 32).toInt32)), none, some (.inl (zic .eq 26)), none, none, some (.inl (zLA 1 0)), some (.inl (zLA 1 0)), some (.inl (zget' 12 14))],
  [none, none, some (.inr (.invokevirtual 120, 219, 2, 12)), none, none, some (.inl (zPI 2 (Int8.ofInt 10).toInt32)), none, some (.inl (zic .ne 39))],
  [none, none, some (.inl (zLA 1 0)), some (.inl (zdup)), some (.inl (zget' 12 14)), none, none, some (.inl (zPI 1 (Int32.ofInt 1)))],
  [some (.inl (zadd)), some (.inl (zput' 12 14)), none, none, some (.inl (zgo 0)), none, none, some (.inl (zLA 1 0))],
  [some (.inl (zLA 1 0)), some (.inl (zget' 12 14)), none, none, some (.inl (zput' 12 13)), none, none, some (.inl (zLA 1 0))],
  [some (.inl (zLA 1 0)), some (.inl (zget' 12 14)), none, none, some (.inr (.invokevirtual 120, 219, 2, 12)), none, none, some (.inl (zS1 1 1))],
  [some (.inl (zLA 1 0)), some (.inl (zL1 1 1)), some (.inl (zput' 12 15)), none, none, some (.inl (zL1 1 1)), some (.inl (zPI 1 (Int32.ofInt (-1)))), some (.inl (zic .ne 74))],
  [none, none, some (.inl (zLA 1 0)), some (.inl (zPI 1 (Int32.ofInt 0))), some (.inl (zput' 12 12)), none, none, some (.inl (zgo 251))],
  [none, none, some (.inl (zL1 1 1)), some (.inr (.invokestatic 132, 220, 1, 0)), none, none, some (.inl (zif .eq 116)), none],
  [none, some (.inl (zLA 1 0)), some (.inl (zLA 1 0)), some (.inl (zget' 12 14)), none, none, some (.inr (.invokevirtual 120, 219, 2, 12)), none],
  [none, some (.inr (.invokestatic 132, 220, 1, 0)), none, none, some (.inl (zif .eq 108)), none, none, some (.inl (zLA 1 0))],
  [some (.inl (zdup)), some (.inl (zget' 12 14)), none, none, some (.inl (zPI 1 (Int32.ofInt 1))), some (.inl (zadd)), some (.inl (zput' 12 14)), none],
  [none, some (.inl (zgo 81)), none, none, some (.inl (zLA 1 0)), some (.inl (zPI 1 (Int32.ofInt 2))), some (.inl (zput' 12 12)), none],
  [none, some (.inl (zgo 251)), none, none, some (.inl (zL1 1 1)), some (.inr (.invokestatic 135, 221, 1, 0)), none, none],
  [some (.inl (zif .eq 208)), none, none, some (.inl (zLA 1 0)), some (.inl (zPI 1 (Int32.ofInt 0))), some (.inl (zput' 12 15)), none, none],
  [some (.inl (zLA 1 0)), some (.inl (zLA 1 0)), some (.inl (zget' 12 14)), none, none, some (.inr (.invokevirtual 120, 219, 2, 12)), none, none],
  [some (.inr (.invokestatic 135, 221, 1, 0)), none, none, some (.inl (zif .eq 183)), none, none, some (.inl (zLA 1 0)), some (.inl (zPI 2 (Int32.ofInt 100000)))],
  [none, some (.inl (zPI 2 (Int8.ofInt 10).toInt32)), none, some (.inl (zLA 1 0)), some (.inl (zget' 12 15)), none, none, some (.inl (zmul))],
  [some (.inl (zLA 1 0)), some (.inl (zLA 1 0)), some (.inl (zget' 12 14)), none, none, some (.inr (.invokevirtual 120, 219, 2, 12)), none, none],
  [some (.inl (zadd)), some (.inl (zPI 2 (Int8.ofInt 48).toInt32)), none, some (.inl (zsub)), some (.inl (zmin)), none, none, some (.inl (zput' 12 15))],
  [none, none, some (.inl (zLA 1 0)), some (.inl (zdup)), some (.inl (zget' 12 14)), none, none, some (.inl (zPI 1 (Int32.ofInt 1)))],
  [some (.inl (zadd)), some (.inl (zput' 12 14)), none, none, some (.inl (zgo 128)), none, none, some (.inl (zLA 1 0))],
  [some (.inl (zLA 1 0)), some (.inl (zget' 12 14)), none, none, some (.inl (zLA 1 0)), some (.inl (zget' 12 13)), none, none],
  [some (.inl (zsub)), some (.inl (zPI 1 (Int32.ofInt 4))), some (.inl (zic .le 201)), none, none, some (.inl (zPI 1 (Int32.ofInt 1))), some (.inl (zgo 202)), none],
  [none, some (.inl (zPI 1 (Int32.ofInt 3))), some (.inl (zput' 12 12)), none, none, some (.inl (zgo 251)), none, none],
  [some (.inl (zLA 1 0)), some (.inl (zdup)), some (.inl (zget' 12 14)), none, none, some (.inl (zPI 1 (Int32.ofInt 1))), some (.inl (zadd)), some (.inl (zput' 12 14))],
  [none, none, some (.inl (zLA 1 0)), some (.inl (zL1 1 1)), some (.inl (zPI 2 (Int8.ofInt 59).toInt32)), none, some (.inl (zic .eq 243)), none],
  [none, some (.inl (zL1 1 1)), some (.inl (zPI 2 (Int8.ofInt 60).toInt32)), none, some (.inl (zic .eq 243)), none, none, some (.inl (zL1 1 1))],
  [some (.inl (zPI 2 (Int8.ofInt 62).toInt32)), none, some (.inl (zic .eq 243)), none, none, some (.inl (zL1 1 1)), some (.inl (zPI 2 (Int8.ofInt 61).toInt32)), none],
  [some (.inl (zic .ne 247)), none, none, some (.inl (zPI 1 (Int32.ofInt 4))), some (.inl (zgo 248)), none, none, some (.inl (zPI 1 (Int32.ofInt 1)))],
  [some (.inl (zput' 12 12)), none, none, some (.inr (.return_, 0, 0, 0))]]
theorem zk_222 : zt_222 = xt_222.map (fun l => l.map (Option.map zcv)) := rfl
noncomputable def zt_223 : zT := [[some (.inl (zLA 1 0)), some (.inl (zget' 12 12)), none, none, some (.inl (zPI 1 (Int32.ofInt 4))), some (.inl (zic .ne 20)), none, none],
  [some (.inl (zLA 1 0)), some (.inl (zget' 12 15)), none, none, some (.inl (zL1 1 1)), some (.inl (zic .ne 20)), none, none],
  [some (.inl (zPI 1 (Int32.ofInt 1))), some (.inl (zgo 21)), none, none, some (.inl (zPI 1 (Int32.ofInt 0))), some (.inr (.ireturn, 0, 0, 0))]]
theorem zk_223 : zt_223 = xt_223.map (fun l => l.map (Option.map zcv)) := rfl
noncomputable def zt_224 : zT := [[some (.inl (zLA 1 0)), some (.inl (zget' 12 12)), none, none, some (.inl (zPI 1 (Int32.ofInt 2))), some (.inl (zic .eq 10)), none, none],
  [some (.inl (zPI 1 (Int32.ofInt (-1)))), some (.inr (.ireturn, 0, 0, 0)), some (.inl (zPI 1 (Int32.ofInt 0))), some (.inl (zS1 1 2)), some (.inl (zPI 1 (Int32.ofInt 1))), some (.inl (zS1 1 3)), some (.inl (zL1 1 3)), some (.inl (zLA 1 1))],
  [some (.inl (zno')), none, none, some (.inl (zic .ge 133)), none, none, some (.inl (zL1 1 3)), some (.inl (zS1 2 4))],
  [none, some (.inl (zLA 1 1)), some (.inl (zL1 2 4)), none, some (.inl (zno')), none, none, some (.inl (zPI 2 (Int8.ofInt 32).toInt32))],
  [none, some (.inl (zic .eq 42)), none, none, some (.inl (zinc 4 1)), none, none, some (.inl (zgo 25))],
  [none, none, some (.inl (zL1 2 4)), none, some (.inl (zL1 1 3)), some (.inl (zsub)), some (.inl (zLA 1 0)), some (.inl (zget' 12 14))],
  [none, none, some (.inl (zLA 1 0)), some (.inl (zget' 12 13)), none, none, some (.inl (zsub)), some (.inl (zic .ne 62))],
  [none, none, some (.inl (zPI 1 (Int32.ofInt 1))), some (.inl (zgo 63)), none, none, some (.inl (zPI 1 (Int32.ofInt 0))), some (.inl (zS1 2 5))],
  [none, some (.inl (zL1 1 3)), some (.inl (zS1 2 6)), none, some (.inl (zL1 2 6)), none, some (.inl (zL1 2 4)), none],
  [some (.inl (zic .ge 115)), none, none, some (.inl (zL1 2 5)), none, some (.inl (zif .eq 115)), none, none],
  [some (.inl (zLA 1 1)), some (.inl (zL1 2 6)), none, some (.inl (zno')), none, none, some (.inl (zLA 1 0)), some (.inl (zLA 1 0))],
  [some (.inl (zget' 12 13)), none, none, some (.inl (zL1 2 6)), none, some (.inl (zadd)), some (.inl (zL1 1 3)), some (.inl (zsub))],
  [some (.inr (.invokevirtual 120, 219, 2, 12)), none, none, some (.inl (zic .ne 106)), none, none, some (.inl (zPI 1 (Int32.ofInt 1))), some (.inl (zgo 107))],
  [none, none, some (.inl (zPI 1 (Int32.ofInt 0))), some (.inl (zS1 2 5)), none, some (.inl (zinc 6 1)), none, none],
  [some (.inl (zgo 68)), none, none, some (.inl (zL1 2 5)), none, some (.inl (zif .eq 122)), none, none],
  [some (.inl (zL1 1 2)), some (.inr (.ireturn, 0, 0, 0)), some (.inl (zinc 2 1)), none, none, some (.inl (zL1 2 4)), none, some (.inl (zPI 1 (Int32.ofInt 1)))],
  [some (.inl (zadd)), some (.inl (zS1 1 3)), some (.inl (zgo 14)), none, none, some (.inl (zPI 1 (Int32.ofInt (-1)))), some (.inr (.ireturn, 0, 0, 0))]]
theorem zk_224 : zt_224 = xt_224.map (fun l => l.map (Option.map zcv)) := rfl
noncomputable def zt_225 : zT := [[some (.inl (zLA 1 0)), some (.inl (zget' 12 18)), none, none, some (.inl (zif .ne 32)), none, none, some (.inl (zLA 1 0))],
  [some (.inl (zLA 1 0)), some (.inl (zget' 12 12)), none, none, some (.inl (zPI 1 (Int32.ofInt 1))), some (.inl (zic .ne 20)), none, none],
  [some (.inl (zPI 1 (Int32.ofInt 1))), some (.inl (zgo 21)), none, none, some (.inl (zL1 1 1)), some (.inl (zput' 12 18)), none, none],
  [some (.inl (zLA 1 0)), some (.inl (zLA 1 0)), some (.inl (zget' 12 13)), none, none, some (.inl (zput' 12 17)), none, none],
  [some (.inl (zPI 1 (Int32.ofInt 0))), some (.inr (.ireturn, 0, 0, 0))]]
theorem zk_225 : zt_225 = xt_225.map (fun l => l.map (Option.map zcv)) := rfl
noncomputable def zt_226 : zT := [[some (.inl (zL1 1 1)), some (.inl (zif .lt 17)), none, none, some (.inl (zL1 1 1)), some (.inl (zLA 1 0)), some (.inl (zget' 12 10)), none],
  [none, some (.inl (zic .gt 17)), none, none, some (.inl (zL1 1 1)), some (.inl (zL1 1 2)), some (.inl (zic .le 19)), none],
  [none, some (.inl (zPI 1 (Int32.ofInt 0))), some (.inr (.ireturn, 0, 0, 0)), some (.inl (zLA 1 0)), some (.inl (zL1 1 1)), some (.inl (zput' 12 11)), none, none],
  [some (.inl (zPI 1 (Int32.ofInt 0))), some (.inl (zS1 1 3)), some (.inl (zL1 1 3)), some (.inl (zL1 1 1)), some (.inl (zic .ge 49)), none, none, some (.inl (zLA 1 0))],
  [some (.inl (zget' 12 9)), none, none, some (.inl (zL1 1 3)), some (.inl (zLA 1 0)), some (.inl (zget' 12 8)), none, none],
  [some (.inl (zL1 1 3)), some (.inl (zald' 21)), some (.inl (zbast)), some (.inl (zinc 3 1)), none, none, some (.inl (zgo 26)), none],
  [none, some (.inl (zLA 1 0)), some (.inl (zPI 1 (Int32.ofInt 0))), some (.inl (zput' 12 10)), none, none, some (.inl (zLA 1 0)), some (.inl (zPI 1 (Int32.ofInt 0)))],
  [some (.inl (zput' 12 18)), none, none, some (.inl (zLA 1 0)), some (.inl (zPI 1 (Int32.ofInt (-1)))), some (.inl (zput' 12 17)), none, none],
  [some (.inl (zLA 1 0)), some (.inl (zPI 1 (Int32.ofInt 0))), some (.inl (zput' 12 14)), none, none, some (.inl (zLA 1 0)), some (.inl (zPI 1 (Int32.ofInt 0))), some (.inl (zput' 12 19))],
  [none, none, some (.inl (zLA 1 0)), some (.inr (.invokevirtual 160, 222, 1, 12)), none, none, some (.inl (zPI 1 (Int32.ofInt 1))), some (.inr (.ireturn, 0, 0, 0))]]
theorem zk_226 : zt_226 = xt_226.map (fun l => l.map (Option.map zcv)) := rfl
noncomputable def zt_227 : zT := [[some (.inl (zLA 1 0)), some (.inl (zL1 1 1)), some (.inr (.invokevirtual 163, 223, 2, 12)), none, none, some (.inl (zif .ne 14)), none, none],
  [some (.inl (zLA 1 0)), some (.inl (zPI 1 (Int32.ofInt 2))), some (.inr (.invokevirtual 166, 225, 2, 12)), none, none, some (.inr (.ireturn, 0, 0, 0)), some (.inl (zLA 1 0)), some (.inr (.invokevirtual 160, 222, 1, 12))],
  [none, none, some (.inl (zPI 1 (Int32.ofInt 1))), some (.inr (.ireturn, 0, 0, 0))]]
theorem zk_227 : zt_227 = xt_227.map (fun l => l.map (Option.map zcv)) := rfl
noncomputable def zt_228 : zT := [[some (.inl (zLA 1 0)), some (.inl (zLA 1 1)), some (.inr (.invokevirtual 169, 224, 2, 12)), none, none, some (.inl (zL1 1 2)), some (.inl (zic .eq 15)), none],
  [none, some (.inl (zLA 1 0)), some (.inl (zPI 1 (Int32.ofInt 2))), some (.inr (.invokevirtual 166, 225, 2, 12)), none, none, some (.inr (.ireturn, 0, 0, 0)), some (.inl (zLA 1 0))],
  [some (.inr (.invokevirtual 160, 222, 1, 12)), none, none, some (.inl (zPI 1 (Int32.ofInt 1))), some (.inr (.ireturn, 0, 0, 0))]]
theorem zk_228 : zt_228 = xt_228.map (fun l => l.map (Option.map zcv)) := rfl
noncomputable def zt_229 : zT := [[some (.inl (zLA 1 0)), some (.inl (zget' 12 12)), none, none, some (.inl (zPI 1 (Int32.ofInt 3))), some (.inl (zic .eq 14)), none, none],
  [some (.inl (zLA 1 0)), some (.inl (zPI 1 (Int32.ofInt 2))), some (.inr (.invokevirtual 166, 225, 2, 12)), none, none, some (.inr (.ireturn, 0, 0, 0)), some (.inl (zLA 1 0)), some (.inl (zget' 12 15))],
  [none, none, some (.inl (zL1 1 2)), some (.inl (zic .lt 30)), none, none, some (.inl (zLA 1 0)), some (.inl (zget' 12 15))],
  [none, none, some (.inl (zL1 1 3)), some (.inl (zic .le 36)), none, none, some (.inl (zLA 1 0)), some (.inl (zPI 1 (Int32.ofInt 4)))],
  [some (.inr (.invokevirtual 166, 225, 2, 12)), none, none, some (.inr (.ireturn, 0, 0, 0)), some (.inl (zLA 1 0)), some (.inl (zget' 12 0)), none, none],
  [some (.inl (zL1 1 1)), some (.inl (zLA 1 0)), some (.inl (zget' 12 15)), none, none, some (.inl (ziast)), some (.inl (zLA 1 0)), some (.inr (.invokevirtual 160, 222, 1, 12))],
  [none, none, some (.inl (zPI 1 (Int32.ofInt 1))), some (.inr (.ireturn, 0, 0, 0))]]
theorem zk_229 : zt_229 = xt_229.map (fun l => l.map (Option.map zcv)) := rfl
noncomputable def zt_230 : zT := [[some (.inl (zLA 1 0)), some (.inl (zget' 12 12)), none, none, some (.inl (zPI 1 (Int32.ofInt 2))), some (.inl (zic .ne 35)), none, none],
  [some (.inl (zLA 1 0)), some (.inl (zget' 12 14)), none, none, some (.inl (zLA 1 0)), some (.inl (zget' 12 13)), none, none],
  [some (.inl (zsub)), some (.inl (zPI 2 (Int8.ofInt 8).toInt32)), none, some (.inl (zic .gt 35)), none, none, some (.inl (zLA 1 0)), some (.inl (zLA 1 1))],
  [some (.inr (.invokevirtual 169, 224, 2, 12)), none, none, some (.inl (zPI 1 (Int32.ofInt (-1)))), some (.inl (zic .ne 35)), none, none, some (.inl (zPI 1 (Int32.ofInt 1)))],
  [some (.inl (zgo 36)), none, none, some (.inl (zPI 1 (Int32.ofInt 0))), some (.inr (.ireturn, 0, 0, 0))]]
theorem zk_230 : zt_230 = xt_230.map (fun l => l.map (Option.map zcv)) := rfl
noncomputable def zt_231 : zT := [[some (.inl (zPL 1 (Int64.ofNat 0))), some (.inl (zS2 1 1)), some (.inl (zLA 1 0)), some (.inl (zget' 12 13)), none, none, some (.inl (zS1 1 3)), some (.inl (zL1 1 3))],
  [some (.inl (zLA 1 0)), some (.inl (zget' 12 14)), none, none, some (.inl (zic .ge 33)), none, none, some (.inl (zL2 1 1))],
  [some (.inl (zPI 2 (Int8.ofInt 8).toInt32)), none, some (.inl (zlshl)), some (.inl (zLA 1 0)), some (.inl (zL1 1 3)), some (.inr (.invokevirtual 120, 219, 2, 12)), none, none],
  [some (.inl (zi2l)), some (.inl (zlor)), some (.inl (zS2 1 1)), some (.inl (zinc 3 1)), none, none, some (.inl (zgo 7)), none],
  [none, some (.inl (zL2 1 1)), some (.inr (.lreturn, 0, 0, 0))]]
theorem zk_231 : zt_231 = xt_231.map (fun l => l.map (Option.map zcv)) := rfl
noncomputable def zt_232 : zT := [[some (.inl (zPI 1 (Int32.ofInt 0))), some (.inl (zS1 1 3)), some (.inl (zL1 1 3)), some (.inl (zL1 1 2)), some (.inl (zic .ge 31)), none, none, some (.inl (zLA 1 0))],
  [some (.inl (zget' 12 1)), none, none, some (.inl (zL1 1 1)), some (.inl (zL1 1 3)), some (.inl (zadd)), some (.inl (zald' 22)), some (.inl (zLA 1 0))],
  [some (.inr (.invokevirtual 173, 231, 1, 12)), none, none, some (.inl (zlcm)), some (.inl (zif .ne 25)), none, none, some (.inl (zL1 1 3))],
  [some (.inr (.ireturn, 0, 0, 0)), some (.inl (zinc 3 1)), none, none, some (.inl (zgo 2)), none, none, some (.inl (zPI 1 (Int32.ofInt (-1))))],
  [some (.inr (.ireturn, 0, 0, 0))]]
theorem zk_232 : zt_232 = xt_232.map (fun l => l.map (Option.map zcv)) := rfl
noncomputable def zt_233 : zT := [[some (.inl (zL1 1 1)), some (.inl (zif .ne 11)), none, none, some (.inl (zLA 1 0)), some (.inl (zget' 12 16)), none, none],
  [some (.inl (zgo 24)), none, none, some (.inl (zL1 1 1)), some (.inl (zPI 1 (Int32.ofInt 1))), some (.inl (zic .ne 23)), none, none],
  [some (.inl (zLA 1 0)), some (.inl (zget' 12 17)), none, none, some (.inl (zgo 24)), none, none, some (.inl (zPI 1 (Int32.ofInt (-1))))],
  [some (.inr (.ireturn, 0, 0, 0))]]
theorem zk_233 : zt_233 = xt_233.map (fun l => l.map (Option.map zcv)) := rfl
noncomputable def zt_234 : zT := [[some (.inl (zLA 1 0)), some (.inl (zLA 1 0)), some (.inl (zget' 12 18)), none, none, some (.inl (zput' 12 16)), none, none],
  [some (.inl (zLA 1 0)), some (.inl (zget' 12 18)), none, none, some (.inl (zif .le 24)), none, none, some (.inl (zLA 1 0))],
  [some (.inl (zPI 2 (Int8.ofInt 9).toInt32)), none, some (.inr (.invokevirtual 84, 205, 2, 12)), none, none, some (.inl (zgo 29)), none, none],
  [some (.inl (zLA 1 0)), some (.inl (zL1 1 1)), some (.inr (.invokevirtual 88, 206, 2, 12)), none, none, some (.inr (.ireturn, 0, 0, 0))]]
theorem zk_234 : zt_234 = xt_234.map (fun l => l.map (Option.map zcv)) := rfl
noncomputable def zt_235 : zT := [[some (.inl (zLA 1 0)), some (.inl (zno')), none, some (.inr (.invokevirtual 169, 224, 2, 12)), none, none, some (.inl (zL1 1 1)), some (.inl (zic .eq 12))],
  [none, none, some (.inl (zPI 1 (Int32.ofInt 0))), some (.inr (.ireturn, 0, 0, 0)), some (.inl (zLA 1 0)), some (.inr (.invokevirtual 160, 222, 1, 12)), none, none],
  [some (.inl (zPI 1 (Int32.ofInt 1))), some (.inr (.ireturn, 0, 0, 0))]]
theorem zk_235 : zt_235 = xt_235.map (fun l => l.map (Option.map zcv)) := rfl
noncomputable def zt_236 : zT := [[some (.inl (zLA 1 0)), some (.inl (zget' 12 0)), none, none, some (.inl (zPI 3 (Int16.ofInt 2480).toInt32)), none, none, some (.inl (zL1 1 1))],
  [some (.inl (zadd)), some (.inl (ziald)), some (.inl (zL1 1 2)), some (.inl (zic .ne 21)), none, none, some (.inl (zLA 1 0)), some (.inl (zPI 2 (Int8.ofInt 6).toInt32))],
  [none, some (.inr (.invokevirtual 166, 225, 2, 12)), none, none, some (.inr (.ireturn, 0, 0, 0)), some (.inl (zLA 1 0)), some (.inr (.invokevirtual 160, 222, 1, 12)), none],
  [none, some (.inl (zLA 1 0)), some (.inl (zno')), none, some (.inr (.invokevirtual 179, 230, 2, 12)), none, none, some (.inl (zif .ne 40))],
  [none, none, some (.inl (zLA 1 0)), some (.inl (zPI 1 (Int32.ofInt 2))), some (.inr (.invokevirtual 166, 225, 2, 12)), none, none, some (.inr (.ireturn, 0, 0, 0))],
  [some (.inl (zLA 1 0)), some (.inl (zPI 2 (Int8.ofInt 60).toInt32)), none, some (.inl (zLA 1 0)), some (.inl (zget' 12 0)), none, none, some (.inl (zPI 3 (Int16.ofInt 2482).toInt32))],
  [none, none, some (.inl (ziald)), some (.inr (.invokevirtual 183, 232, 3, 12)), none, none, some (.inl (zPI 1 (Int32.ofInt (-1)))), some (.inl (zic .ne 94))],
  [none, none, some (.inl (zLA 1 0)), some (.inl (zPI 2 (Int8.ofInt 65).toInt32)), none, some (.inl (zLA 1 0)), some (.inl (zget' 12 0)), none],
  [none, some (.inl (zPI 3 (Int16.ofInt 2483).toInt32)), none, none, some (.inl (ziald)), some (.inr (.invokevirtual 183, 232, 3, 12)), none, none],
  [some (.inl (zPI 1 (Int32.ofInt (-1)))), some (.inl (zic .ne 94)), none, none, some (.inl (zLA 1 0)), some (.inl (zPI 2 (Int8.ofInt 71).toInt32)), none, some (.inl (zLA 1 0))],
  [some (.inl (zget' 12 0)), none, none, some (.inl (zPI 3 (Int16.ofInt 2484).toInt32)), none, none, some (.inl (ziald)), some (.inr (.invokevirtual 183, 232, 3, 12))],
  [none, none, some (.inl (zPI 1 (Int32.ofInt (-1)))), some (.inl (zic .eq 100)), none, none, some (.inl (zLA 1 0)), some (.inl (zPI 1 (Int32.ofInt 3)))],
  [some (.inr (.invokevirtual 166, 225, 2, 12)), none, none, some (.inr (.ireturn, 0, 0, 0)), some (.inl (zLA 1 0)), some (.inl (zget' 12 1)), none, none],
  [some (.inl (zPI 2 (Int8.ofInt 60).toInt32)), none, some (.inl (zL1 1 3)), some (.inl (zadd)), some (.inl (zLA 1 0)), some (.inl (zget' 12 0)), none, none],
  [some (.inl (zPI 3 (Int16.ofInt 2480).toInt32)), none, none, some (.inl (zL1 1 1)), some (.inl (zadd)), some (.inl (ziald)), some (.inl (zadd)), some (.inl (zLA 1 0))],
  [some (.inr (.invokevirtual 173, 231, 1, 12)), none, none, some (.inl (zlast)), some (.inl (zLA 1 0)), some (.inr (.invokevirtual 160, 222, 1, 12)), none, none],
  [some (.inl (zPI 1 (Int32.ofInt 1))), some (.inr (.ireturn, 0, 0, 0))]]
theorem zk_236 : zt_236 = xt_236.map (fun l => l.map (Option.map zcv)) := rfl
noncomputable def zt_237 : zT := [[some (.inl (zLA 1 0)), some (.inl (zno')), none, some (.inr (.invokevirtual 179, 230, 2, 12)), none, none, some (.inl (zif .ne 15)), none],
  [none, some (.inl (zLA 1 0)), some (.inl (zPI 1 (Int32.ofInt 2))), some (.inr (.invokevirtual 166, 225, 2, 12)), none, none, some (.inr (.ireturn, 0, 0, 0)), some (.inl (zLA 1 0))],
  [some (.inl (zget' 12 0)), none, none, some (.inl (zL1 1 1)), some (.inl (zLA 1 0)), some (.inl (zPI 2 (Int8.ofInt 60).toInt32)), none, some (.inl (zLA 1 0))],
  [some (.inl (zget' 12 0)), none, none, some (.inl (zPI 3 (Int16.ofInt 2482).toInt32)), none, none, some (.inl (ziald)), some (.inr (.invokevirtual 183, 232, 3, 12))],
  [none, none, some (.inl (ziast)), some (.inl (zLA 1 0)), some (.inl (zget' 12 0)), none, none, some (.inl (zL1 1 1))],
  [some (.inl (ziald)), some (.inl (zPI 1 (Int32.ofInt (-1)))), some (.inl (zic .ne 51)), none, none, some (.inl (zLA 1 0)), some (.inl (zPI 1 (Int32.ofInt 3))), some (.inr (.invokevirtual 166, 225, 2, 12))],
  [none, none, some (.inr (.ireturn, 0, 0, 0)), some (.inl (zLA 1 0)), some (.inr (.invokevirtual 160, 222, 1, 12)), none, none, some (.inl (zPI 1 (Int32.ofInt 1)))],
  [some (.inr (.ireturn, 0, 0, 0))]]
theorem zk_237 : zt_237 = xt_237.map (fun l => l.map (Option.map zcv)) := rfl
noncomputable def zt_238 : zT := [[some (.inl (zPI 3 (Int16.ofInt 3092).toInt32)), none, none, some (.inl (zS1 1 3)), some (.inl (zLA 1 0)), some (.inl (zL1 1 3)), some (.inl (zPI 1 (Int32.ofInt 0))), some (.inl (zLA 1 0))],
  [some (.inl (zget' 12 0)), none, none, some (.inl (zPI 3 (Int16.ofInt 2480).toInt32)), none, none, some (.inl (ziald)), some (.inl (zPI 1 (Int32.ofInt 1)))],
  [some (.inl (zsub)), some (.inr (.invokevirtual 186, 229, 4, 12)), none, none, some (.inl (zif .ne 25)), none, none, some (.inl (zPI 1 (Int32.ofInt 0)))],
  [some (.inr (.ireturn, 0, 0, 0)), some (.inl (zLA 1 0)), some (.inl (zget' 12 12)), none, none, some (.inl (zPI 1 (Int32.ofInt 3))), some (.inl (zic .ne 86)), none],
  [none, some (.inl (zLA 1 0)), some (.inl (zget' 12 15)), none, none, some (.inl (zif .lt 86)), none, none],
  [some (.inl (zLA 1 0)), some (.inl (zget' 12 15)), none, none, some (.inl (zLA 1 0)), some (.inl (zget' 12 0)), none, none],
  [some (.inl (zPI 3 (Int16.ofInt 2481).toInt32)), none, none, some (.inl (ziald)), some (.inl (zic .ge 86)), none, none, some (.inl (zL1 1 2))],
  [some (.inl (zif .eq 86)), none, none, some (.inl (zLA 1 0)), some (.inl (zPI 2 (Int8.ofInt 6).toInt32)), none, some (.inl (zLA 1 0)), some (.inl (zget' 12 15))],
  [none, none, some (.inl (zmul)), some (.inl (zLA 1 0)), some (.inl (zget' 12 0)), none, none, some (.inl (zL1 1 3))],
  [some (.inl (ziald)), some (.inl (zadd)), some (.inr (.invokevirtual 190, 239, 2, 12)), none, none, some (.inl (zif .eq 86)), none, none],
  [some (.inl (zLA 1 0)), some (.inl (zPI 1 (Int32.ofInt 5))), some (.inr (.invokevirtual 166, 225, 2, 12)), none, none, some (.inr (.ireturn, 0, 0, 0)), some (.inl (zLA 1 0)), some (.inl (zL1 1 3))],
  [some (.inl (zPI 1 (Int32.ofInt 1))), some (.inl (zadd)), some (.inl (zPI 1 (Int32.ofInt 0))), some (.inl (zLA 1 0)), some (.inl (zget' 12 0)), none, none, some (.inl (zPI 3 (Int16.ofInt 2481).toInt32))],
  [none, none, some (.inl (ziald)), some (.inl (zPI 1 (Int32.ofInt 1))), some (.inl (zsub)), some (.inr (.invokevirtual 186, 229, 4, 12)), none, none],
  [some (.inl (zif .ne 109)), none, none, some (.inl (zPI 1 (Int32.ofInt 0))), some (.inr (.ireturn, 0, 0, 0)), some (.inl (zLA 1 0)), some (.inl (zget' 12 0)), none],
  [none, some (.inl (zL1 1 1)), some (.inl (zPI 2 (Int8.ofInt 6).toInt32)), none, some (.inl (zLA 1 0)), some (.inl (zget' 12 0)), none, none],
  [some (.inl (zL1 1 3)), some (.inl (zPI 1 (Int32.ofInt 1))), some (.inl (zadd)), some (.inl (ziald)), some (.inl (zmul)), some (.inl (zLA 1 0)), some (.inl (zget' 12 0)), none],
  [none, some (.inl (zL1 1 3)), some (.inl (ziald)), some (.inl (zadd)), some (.inl (ziast)), some (.inl (zPI 1 (Int32.ofInt 1))), some (.inr (.ireturn, 0, 0, 0))]]
theorem zk_238 : zt_238 = xt_238.map (fun l => l.map (Option.map zcv)) := rfl
noncomputable def zt_239 : zT := [[some (.inl (zLA 1 0)), some (.inl (zget' 12 0)), none, none, some (.inl (zPI 3 (Int16.ofInt 2490).toInt32)), none, none, some (.inl (zL1 1 1))],
  [some (.inl (zadd)), some (.inl (ziald)), some (.inl (zPI 1 (Int32.ofInt 1))), some (.inl (zic .ne 18)), none, none, some (.inl (zPI 1 (Int32.ofInt 1))), some (.inl (zgo 19))],
  [none, none, some (.inl (zPI 1 (Int32.ofInt 0))), some (.inl (zS1 1 2)), some (.inl (zPI 1 (Int32.ofInt 0))), some (.inl (zS1 1 3)), some (.inl (zL1 1 3)), some (.inl (zLA 1 0))],
  [some (.inl (zget' 12 0)), none, none, some (.inl (zPI 3 (Int16.ofInt 2482).toInt32)), none, none, some (.inl (ziald)), some (.inl (zic .ge 67))],
  [none, none, some (.inl (zL1 1 2)), some (.inl (zif .ne 55)), none, none, some (.inl (zLA 1 0)), some (.inl (zget' 12 0))],
  [none, none, some (.inl (zPI 3 (Int16.ofInt 2520).toInt32)), none, none, some (.inl (zPI 2 (Int8.ofInt 14).toInt32)), none, some (.inl (zL1 1 3))],
  [some (.inl (zmul)), some (.inl (zadd)), some (.inl (ziald)), some (.inl (zL1 1 1)), some (.inl (zic .ne 59)), none, none, some (.inl (zPI 1 (Int32.ofInt 1)))],
  [some (.inl (zgo 60)), none, none, some (.inl (zPI 1 (Int32.ofInt 0))), some (.inl (zS1 1 2)), some (.inl (zinc 3 1)), none, none],
  [some (.inl (zgo 22)), none, none, some (.inl (zL1 1 2)), some (.inr (.ireturn, 0, 0, 0))]]
theorem zk_239 : zt_239 = xt_239.map (fun l => l.map (Option.map zcv)) := rfl
