/-- LaterPrints.turns(II)I -/
def xt_180 : xT := [[some (.aload_n 0, 0, 0, 0), some (.iload_n 1, 0, 0, 0), some (.invokevirtual 299, 129, 2, 11), none, none, some (.ifCond .eq 13, 18, 0, 0), none, none],
  [some (.iload_n 2, 0, 0, 0), some (.iconst 1, 0, 0, 0), some (.bipush 9, 0, 0, 0), none, some (.invokestatic 128, 127, 3, 0), none, none, some (.ifCond .ne 9, 24, 0, 0)],
  [none, none, some (.aload_n 0, 0, 0, 0), some (.iconst 1, 0, 0, 0), some (.invokevirtual 112, 122, 2, 11), none, none, some (.ireturn, 0, 0, 0)],
  [some (.aload_n 0, 0, 0, 0), some (.getfield 95, 11, 18, 0), none, none, some (.aload_n 0, 0, 0, 0), some (.getfield 51, 11, 10, 0), none, none],
  [some (.iload_n 1, 0, 0, 0), some (.invokevirtual 359, 4, 3, 0), none, none, some (.istore_n 3, 0, 0, 0), some (.iload_n 3, 0, 0, 0), some (.iconst (-1), 0, 0, 0), some (.if_icmp .ne 12, 51, 0, 0)],
  [none, none, some (.aload_n 0, 0, 0, 0), some (.bipush 6, 0, 0, 0), none, some (.invokevirtual 112, 122, 2, 11), none, none],
  [some (.goto 20, 68, 0, 0), none, none, some (.aload_n 0, 0, 0, 0), some (.iload_n 3, 0, 0, 0), some (.iload_n 2, 0, 0, 0), some (.invokestatic 409, 182, 2, 0), none],
  [none, some (.ifCond .le 7, 64, 0, 0), none, none, some (.iconst 1, 0, 0, 0), some (.goto 4, 65, 0, 0), none, none],
  [some (.iconst 0, 0, 0, 0), some (.invokevirtual 116, 121, 2, 11), none, none, some (.ireturn, 0, 0, 0)]]
/-- LaterPrints.turnsFirst(II)I -/
def xt_181 : xT := [[some (.aload_n 0, 0, 0, 0), some (.iload_n 1, 0, 0, 0), some (.invokevirtual 299, 129, 2, 11), none, none, some (.ifCond .eq 13, 18, 0, 0), none, none],
  [some (.iload_n 2, 0, 0, 0), some (.iconst 1, 0, 0, 0), some (.bipush 9, 0, 0, 0), none, some (.invokestatic 128, 127, 3, 0), none, none, some (.ifCond .ne 9, 24, 0, 0)],
  [none, none, some (.aload_n 0, 0, 0, 0), some (.iconst 1, 0, 0, 0), some (.invokevirtual 112, 122, 2, 11), none, none, some (.ireturn, 0, 0, 0)],
  [some (.aload_n 0, 0, 0, 0), some (.getfield 95, 11, 18, 0), none, none, some (.aload_n 0, 0, 0, 0), some (.getfield 51, 11, 10, 0), none, none],
  [some (.iload_n 1, 0, 0, 0), some (.invokevirtual 359, 4, 3, 0), none, none, some (.istore_n 3, 0, 0, 0), some (.iload_n 3, 0, 0, 0), some (.iconst (-1), 0, 0, 0), some (.if_icmp .eq 11, 50, 0, 0)],
  [none, none, some (.iload_n 3, 0, 0, 0), some (.iload_n 2, 0, 0, 0), some (.invokestatic 409, 182, 2, 0), none, none, some (.ifCond .ne 10, 57, 0, 0)],
  [none, none, some (.aload_n 0, 0, 0, 0), some (.bipush 6, 0, 0, 0), none, some (.invokevirtual 112, 122, 2, 11), none, none],
  [some (.ireturn, 0, 0, 0), some (.aload_n 0, 0, 0, 0), some (.iload_n 3, 0, 0, 0), some (.iload_n 2, 0, 0, 0), some (.invokestatic 409, 182, 2, 0), none, none, some (.invokevirtual 116, 121, 2, 11)],
  [none, none, some (.ireturn, 0, 0, 0)]]
/-- LaterPrints.winningBuy(II)I -/
def xt_182 : xT := [[some (.iload_n 1, 0, 0, 0), some (.iconst 1, 0, 0, 0), some (.if_icmp .ge 7, 9, 0, 0), none, none, some (.iconst 0, 0, 0, 0), some (.goto 8, 14, 0, 0), none],
  [none, some (.iload_n 0, 0, 0, 0), some (.iload_n 1, 0, 0, 0), some (.iconst 1, 0, 0, 0), some (.iadd, 0, 0, 0), some (.irem, 0, 0, 0), some (.ireturn, 0, 0, 0)]]
/-- LaterPrints.comesBack(II)Z -/
def xt_183 : xT := [[some (.iload_n 1, 0, 0, 0), some (.iconst 0, 0, 0, 0), some (.bipush 12, 0, 0, 0), none, some (.invokestatic 128, 127, 3, 0), none, none, some (.ifCond .eq 13, 20, 0, 0)],
  [none, none, some (.iload_n 2, 0, 0, 0), some (.iconst 0, 0, 0, 0), some (.bipush 16, 0, 0, 0), none, some (.invokestatic 128, 127, 3, 0), none],
  [none, some (.ifCond .ne 9, 26, 0, 0), none, none, some (.aload_n 0, 0, 0, 0), some (.iconst 1, 0, 0, 0), some (.invokevirtual 149, 124, 2, 11), none],
  [none, some (.ireturn, 0, 0, 0), some (.lconst 1, 0, 0, 0), some (.lstore_n 3, 0, 0, 0), some (.lconst 1, 0, 0, 0), some (.lstore 5, 0, 0, 0), none, some (.iconst 0, 0, 0, 0)],
  [some (.istore 7, 0, 0, 0), none, some (.iload 7, 0, 0, 0), none, some (.iload_n 1, 0, 0, 0), some (.if_icmp .ge 25, 62, 0, 0), none, none],
  [some (.lload_n 3, 0, 0, 0), some (.ldc2_w 412, 0, 0, 16), none, none, some (.lmul, 0, 0, 0), some (.lstore_n 3, 0, 0, 0), some (.lload 5, 0, 0, 0), none],
  [some (.bipush 16, 0, 0, 0), none, some (.iload_n 2, 0, 0, 0), some (.isub, 0, 0, 0), some (.i2l, 0, 0, 0), some (.lmul, 0, 0, 0), some (.lstore 5, 0, 0, 0), none],
  [some (.iinc 7 1, 0, 0, 0), none, none, some (.goto (-25), 34, 0, 0), none, none, some (.aload_n 0, 0, 0, 0), some (.lload_n 3, 0, 0, 0)],
  [some (.lload 5, 0, 0, 0), none, some (.lsub, 0, 0, 0), some (.lload_n 3, 0, 0, 0), some (.invokevirtual 414, 126, 3, 11), none, none, some (.aload_n 0, 0, 0, 0)],
  [some (.invokevirtual 155, 123, 1, 11), none, none, some (.ireturn, 0, 0, 0)]]
/-- LaterPrints.afford(I)I -/
def xt_184 : xT := [[some (.aload_n 0, 0, 0, 0), some (.iload_n 1, 0, 0, 0), some (.invokevirtual 311, 131, 2, 11), none, none, some (.ifCond .eq 15, 20, 0, 0), none, none],
  [some (.aload_n 0, 0, 0, 0), some (.aload_n 0, 0, 0, 0), some (.iload_n 1, 0, 0, 0), some (.invokevirtual 418, 186, 2, 11), none, none, some (.invokevirtual 116, 121, 2, 11), none],
  [none, some (.goto 8, 25, 0, 0), none, none, some (.aload_n 0, 0, 0, 0), some (.iconst 1, 0, 0, 0), some (.invokevirtual 112, 122, 2, 11), none],
  [none, some (.ireturn, 0, 0, 0)]]
/-- LaterPrints.sees(I)I -/
def xt_185 : xT := [[some (.aload_n 0, 0, 0, 0), some (.iload_n 1, 0, 0, 0), some (.invokevirtual 311, 131, 2, 11), none, none, some (.ifCond .ne 9, 14, 0, 0), none, none],
  [some (.aload_n 0, 0, 0, 0), some (.iconst 1, 0, 0, 0), some (.invokevirtual 112, 122, 2, 11), none, none, some (.ireturn, 0, 0, 0), some (.aload_n 0, 0, 0, 0), some (.iload_n 1, 0, 0, 0)],
  [some (.invokevirtual 418, 186, 2, 11), none, none, some (.istore_n 2, 0, 0, 0), some (.aload_n 0, 0, 0, 0), some (.getfield 95, 11, 18, 0), none, none],
  [some (.aload_n 0, 0, 0, 0), some (.getfield 51, 11, 10, 0), none, none, some (.iload_n 2, 0, 0, 0), some (.invokevirtual 363, 2, 3, 0), none, none],
  [some (.iconst 0, 0, 0, 0), some (.istore_n 3, 0, 0, 0), some (.iconst 1, 0, 0, 0), some (.istore 4, 0, 0, 0), none, some (.iload 4, 0, 0, 0), none, some (.iload_n 2, 0, 0, 0)],
  [some (.if_icmp .gt 22, 62, 0, 0), none, none, some (.iload_n 3, 0, 0, 0), some (.aload_n 0, 0, 0, 0), some (.getfield 95, 11, 18, 0), none, none],
  [some (.getfield 366, 0, 1, 0), none, none, some (.iload 4, 0, 0, 0), none, some (.iaload, 0, 0, 0), some (.ior, 0, 0, 0), some (.istore_n 3, 0, 0, 0)],
  [some (.iinc 4 1, 0, 0, 0), none, none, some (.goto (-22), 37, 0, 0), none, none, some (.aload_n 0, 0, 0, 0), some (.iload_n 3, 0, 0, 0)],
  [some (.invokevirtual 116, 121, 2, 11), none, none, some (.ireturn, 0, 0, 0)]]
/-- LaterPrints.mostAffordable(I)I -/
def xt_186 : xT := [[some (.iconst 0, 0, 0, 0), some (.istore_n 2, 0, 0, 0), some (.iload_n 2, 0, 0, 0), some (.sipush 200, 0, 0, 0), none, none, some (.if_icmp .ge 31, 37, 0, 0), none],
  [none, some (.aload_n 0, 0, 0, 0), some (.getfield 51, 11, 10, 0), none, none, some (.iload_n 2, 0, 0, 0), some (.iconst 1, 0, 0, 0), some (.iadd, 0, 0, 0)],
  [some (.invokevirtual 349, 107, 2, 10), none, none, some (.aload_n 0, 0, 0, 0), some (.getfield 51, 11, 10, 0), none, none, some (.getfield 314, 10, 8, 0)],
  [none, none, some (.iload_n 1, 0, 0, 0), some (.iaload, 0, 0, 0), some (.if_icmp .gt 9, 37, 0, 0), none, none, some (.iinc 2 1, 0, 0, 0)],
  [none, none, some (.goto (-32), 2, 0, 0), none, none, some (.iload_n 2, 0, 0, 0), some (.ireturn, 0, 0, 0)]]
/-- LaterPrints.steps(III)I -/
def xt_187 : xT := [[some (.iload_n 3, 0, 0, 0), some (.iconst 1, 0, 0, 0), some (.iconst 4, 0, 0, 0), some (.invokestatic 128, 127, 3, 0), none, none, some (.ifCond .ne 9, 15, 0, 0), none],
  [none, some (.aload_n 0, 0, 0, 0), some (.iconst 1, 0, 0, 0), some (.invokevirtual 112, 122, 2, 11), none, none, some (.ireturn, 0, 0, 0), some (.aload_n 0, 0, 0, 0)],
  [some (.iload_n 1, 0, 0, 0), some (.iload_n 2, 0, 0, 0), some (.invokevirtual 421, 190, 3, 11), none, none, some (.istore 4, 0, 0, 0), none, some (.iload 4, 0, 0, 0)],
  [none, some (.ifCond .eq 12, 37, 0, 0), none, none, some (.aload_n 0, 0, 0, 0), some (.iload 4, 0, 0, 0), none, some (.invokevirtual 112, 122, 2, 11)],
  [none, none, some (.goto 22, 56, 0, 0), none, none, some (.aload_n 0, 0, 0, 0), some (.aload_n 0, 0, 0, 0), some (.getfield 102, 11, 19, 0)],
  [none, none, some (.aload_n 0, 0, 0, 0), some (.getfield 51, 11, 10, 0), none, none, some (.getfield 218, 10, 0, 0), none],
  [none, some (.iload_n 3, 0, 0, 0), some (.invokevirtual 424, 97, 3, 9), none, none, some (.invokevirtual 116, 121, 2, 11), none, none],
  [some (.ireturn, 0, 0, 0)]]
/-- LaterPrints.stepsAt(IIII)I -/
def xt_188 : xT := [[some (.iload_n 3, 0, 0, 0), some (.iconst 1, 0, 0, 0), some (.iconst 4, 0, 0, 0), some (.invokestatic 128, 127, 3, 0), none, none, some (.ifCond .eq 15, 21, 0, 0), none],
  [none, some (.iload 4, 0, 0, 0), none, some (.iconst 0, 0, 0, 0), some (.iload_n 3, 0, 0, 0), some (.iconst 1, 0, 0, 0), some (.isub, 0, 0, 0), some (.invokestatic 128, 127, 3, 0)],
  [none, none, some (.ifCond .ne 9, 27, 0, 0), none, none, some (.aload_n 0, 0, 0, 0), some (.iconst 1, 0, 0, 0), some (.invokevirtual 112, 122, 2, 11)],
  [none, none, some (.ireturn, 0, 0, 0), some (.aload_n 0, 0, 0, 0), some (.iload_n 1, 0, 0, 0), some (.iload_n 2, 0, 0, 0), some (.invokevirtual 421, 190, 3, 11), none],
  [none, some (.istore 5, 0, 0, 0), none, some (.iload 5, 0, 0, 0), none, some (.ifCond .eq 10, 47, 0, 0), none, none],
  [some (.aload_n 0, 0, 0, 0), some (.iload 5, 0, 0, 0), none, some (.invokevirtual 112, 122, 2, 11), none, none, some (.ireturn, 0, 0, 0), some (.aload_n 0, 0, 0, 0)],
  [some (.getfield 102, 11, 19, 0), none, none, some (.aload_n 0, 0, 0, 0), some (.getfield 51, 11, 10, 0), none, none, some (.getfield 218, 10, 0, 0)],
  [none, none, some (.iload_n 3, 0, 0, 0), some (.invokevirtual 424, 97, 3, 9), none, none, some (.ifCond .ne 10, 72, 0, 0), none],
  [none, some (.aload_n 0, 0, 0, 0), some (.bipush 6, 0, 0, 0), none, some (.invokevirtual 112, 122, 2, 11), none, none, some (.ireturn, 0, 0, 0)],
  [some (.aload_n 0, 0, 0, 0), some (.aload_n 0, 0, 0, 0), some (.getfield 102, 11, 19, 0), none, none, some (.getfield 428, 9, 0, 0), none, none],
  [some (.iload 4, 0, 0, 0), none, some (.iaload, 0, 0, 0), some (.invokevirtual 116, 121, 2, 11), none, none, some (.ireturn, 0, 0, 0)]]
/-- LaterPrints.period(II)I -/
def xt_189 : xT := [[some (.aload_n 0, 0, 0, 0), some (.iload_n 1, 0, 0, 0), some (.iload_n 2, 0, 0, 0), some (.invokevirtual 421, 190, 3, 11), none, none, some (.istore_n 3, 0, 0, 0), some (.iload_n 3, 0, 0, 0)],
  [some (.ifCond .eq 9, 17, 0, 0), none, none, some (.aload_n 0, 0, 0, 0), some (.iload_n 3, 0, 0, 0), some (.invokevirtual 112, 122, 2, 11), none, none],
  [some (.ireturn, 0, 0, 0), some (.iconst 1, 0, 0, 0), some (.istore 4, 0, 0, 0), none, some (.iload 4, 0, 0, 0), none, some (.iconst 4, 0, 0, 0), some (.if_icmp .gt 35, 58, 0, 0)],
  [none, none, some (.aload_n 0, 0, 0, 0), some (.getfield 102, 11, 19, 0), none, none, some (.aload_n 0, 0, 0, 0), some (.getfield 51, 11, 10, 0)],
  [none, none, some (.getfield 218, 10, 0, 0), none, none, some (.iload 4, 0, 0, 0), none, some (.invokevirtual 424, 97, 3, 9)],
  [none, none, some (.ifCond .le 10, 52, 0, 0), none, none, some (.aload_n 0, 0, 0, 0), some (.iload 4, 0, 0, 0), none],
  [some (.invokevirtual 116, 121, 2, 11), none, none, some (.ireturn, 0, 0, 0), some (.iinc 4 1, 0, 0, 0), none, none, some (.goto (-35), 20, 0, 0)],
  [none, none, some (.aload_n 0, 0, 0, 0), some (.bipush 6, 0, 0, 0), none, some (.invokevirtual 112, 122, 2, 11), none, none],
  [some (.ireturn, 0, 0, 0)]]
/-- LaterPrints.whyNoTrack(II)I -/
def xt_190 : xT := [[some (.iload_n 1, 0, 0, 0), some (.invokestatic 145, 133, 1, 0), none, none, some (.ifCond .eq 13, 17, 0, 0), none, none, some (.iload_n 2, 0, 0, 0)],
  [some (.iconst 1, 0, 0, 0), some (.bipush 20, 0, 0, 0), none, some (.invokestatic 128, 127, 3, 0), none, none, some (.ifCond .ne 5, 19, 0, 0), none],
  [none, some (.iconst 1, 0, 0, 0), some (.ireturn, 0, 0, 0), some (.aload_n 0, 0, 0, 0), some (.iload_n 1, 0, 0, 0), some (.iload_n 2, 0, 0, 0), some (.invokevirtual 431, 139, 3, 11), none],
  [none, some (.istore_n 3, 0, 0, 0), some (.iload_n 3, 0, 0, 0), some (.ifCond .eq 5, 32, 0, 0), none, none, some (.iload_n 3, 0, 0, 0), some (.ireturn, 0, 0, 0)],
  [some (.aload_n 0, 0, 0, 0), some (.getfield 102, 11, 19, 0), none, none, some (.aload_n 0, 0, 0, 0), some (.getfield 11, 11, 0, 0), none, none],
  [some (.iload_n 1, 0, 0, 0), some (.aaload, 0, 0, 0), some (.iload_n 2, 0, 0, 0), some (.aload_n 0, 0, 0, 0), some (.getfield 51, 11, 10, 0), none, none, some (.getfield 218, 10, 0, 0)],
  [none, none, some (.invokevirtual 434, 96, 4, 9), none, none, some (.ifCond .eq 7, 60, 0, 0), none, none],
  [some (.iconst 0, 0, 0, 0), some (.goto 4, 61, 0, 0), none, none, some (.iconst 5, 0, 0, 0), some (.ireturn, 0, 0, 0)]]
/-- LaterPrints.copyWay(III)I -/
def xt_191 : xT := [[some (.aload_n 0, 0, 0, 0), some (.iload_n 1, 0, 0, 0), some (.invokevirtual 275, 128, 2, 11), none, none, some (.ifCond .eq 20, 25, 0, 0), none, none],
  [some (.iload_n 2, 0, 0, 0), some (.invokestatic 145, 133, 1, 0), none, none, some (.ifCond .eq 13, 25, 0, 0), none, none, some (.iload_n 3, 0, 0, 0)],
  [some (.iconst 1, 0, 0, 0), some (.bipush 20, 0, 0, 0), none, some (.invokestatic 128, 127, 3, 0), none, none, some (.ifCond .ne 9, 31, 0, 0), none],
  [none, some (.aload_n 0, 0, 0, 0), some (.iconst 1, 0, 0, 0), some (.invokevirtual 112, 122, 2, 11), none, none, some (.ireturn, 0, 0, 0), some (.aload_n 0, 0, 0, 0)],
  [some (.iload_n 2, 0, 0, 0), some (.iload_n 3, 0, 0, 0), some (.invokevirtual 431, 139, 3, 11), none, none, some (.istore 4, 0, 0, 0), none, some (.iload 4, 0, 0, 0)],
  [none, some (.ifCond .eq 10, 51, 0, 0), none, none, some (.aload_n 0, 0, 0, 0), some (.iload 4, 0, 0, 0), none, some (.invokevirtual 112, 122, 2, 11)],
  [none, none, some (.ireturn, 0, 0, 0), some (.aload_n 0, 0, 0, 0), some (.getfield 95, 11, 18, 0), none, none, some (.aload_n 0, 0, 0, 0)],
  [some (.getfield 51, 11, 10, 0), none, none, some (.iload_n 1, 0, 0, 0), some (.iload_n 3, 0, 0, 0), some (.iconst 1, 0, 0, 0), some (.isub, 0, 0, 0), some (.invokevirtual 372, 3, 4, 0)],
  [none, none, some (.iconst 0, 0, 0, 0), some (.istore 5, 0, 0, 0), none, some (.iload 5, 0, 0, 0), none, some (.iload_n 3, 0, 0, 0)],
  [some (.if_icmp .ge 29, 101, 0, 0), none, none, some (.aload_n 0, 0, 0, 0), some (.getfield 11, 11, 0, 0), none, none, some (.iload_n 2, 0, 0, 0)],
  [some (.aaload, 0, 0, 0), some (.iload 5, 0, 0, 0), none, some (.aload_n 0, 0, 0, 0), some (.getfield 95, 11, 18, 0), none, none, some (.getfield 376, 0, 2, 0)],
  [none, none, some (.iload 5, 0, 0, 0), none, some (.iaload, 0, 0, 0), some (.i2l, 0, 0, 0), some (.lastore, 0, 0, 0), some (.iinc 5 1, 0, 0, 0)],
  [none, none, some (.goto (-29), 69, 0, 0), none, none, some (.aload_n 0, 0, 0, 0), some (.iload_n 3, 0, 0, 0), some (.invokevirtual 116, 121, 2, 11)],
  [none, none, some (.ireturn, 0, 0, 0)]]
/-- LaterPrints.between(IIIII)J -/
def xt_192 : xT := [[some (.aload_n 0, 0, 0, 0), some (.getfield 51, 11, 10, 0), none, none, some (.getfield 218, 10, 0, 0), none, none, some (.astore 6, 0, 0, 0)],
  [none, some (.aload 6, 0, 0, 0), none, some (.iload_n 1, 0, 0, 0), some (.iload_n 2, 0, 0, 0), some (.invokevirtual 259, 46, 3, 3), none, none],
  [some (.ifCond .eq 25, 41, 0, 0), none, none, some (.aload 6, 0, 0, 0), none, some (.iload_n 3, 0, 0, 0), some (.iload 4, 0, 0, 0), none],
  [some (.invokevirtual 259, 46, 3, 3), none, none, some (.ifCond .eq 14, 41, 0, 0), none, none, some (.iload 5, 0, 0, 0), none],
  [some (.iconst 0, 0, 0, 0), some (.bipush 12, 0, 0, 0), none, some (.invokestatic 128, 127, 3, 0), none, none, some (.ifCond .ne 10, 48, 0, 0), none],
  [none, some (.aload_n 0, 0, 0, 0), some (.iconst 1, 0, 0, 0), some (.invokevirtual 112, 122, 2, 11), none, none, some (.i2l, 0, 0, 0), some (.lreturn, 0, 0, 0)],
  [some (.iload_n 1, 0, 0, 0), some (.iload_n 2, 0, 0, 0), some (.invokestatic 263, 43, 2, 0), none, none, some (.istore 7, 0, 0, 0), none, some (.iload_n 3, 0, 0, 0)],
  [some (.iload 4, 0, 0, 0), none, some (.invokestatic 263, 43, 2, 0), none, none, some (.istore 8, 0, 0, 0), none, some (.aload 6, 0, 0, 0)],
  [none, some (.iload 7, 0, 0, 0), none, some (.invokevirtual 272, 47, 2, 3), none, none, some (.ifCond .ne 13, 83, 0, 0), none],
  [none, some (.aload 6, 0, 0, 0), none, some (.iload 8, 0, 0, 0), none, some (.invokevirtual 272, 47, 2, 3), none, none],
  [some (.ifCond .eq 11, 91, 0, 0), none, none, some (.aload_n 0, 0, 0, 0), some (.bipush 7, 0, 0, 0), none, some (.invokevirtual 112, 122, 2, 11), none],
  [none, some (.i2l, 0, 0, 0), some (.lreturn, 0, 0, 0), some (.aload_n 0, 0, 0, 0), some (.iconst 0, 0, 0, 0), some (.putfield 32, 11, 5, 0), none, none],
  [some (.aload_n 0, 0, 0, 0), some (.getfield 102, 11, 19, 0), none, none, some (.aload 6, 0, 0, 0), none, some (.iload 7, 0, 0, 0), none],
  [some (.iload 8, 0, 0, 0), none, some (.iload 5, 0, 0, 0), none, some (.invokevirtual 438, 100, 5, 9), none, none, some (.lreturn, 0, 0, 0)]]
/-- LaterPrints.origin(III)I -/
def xt_193 : xT := [[some (.aload_n 0, 0, 0, 0), some (.getfield 51, 11, 10, 0), none, none, some (.getfield 218, 10, 0, 0), none, none, some (.astore 4, 0, 0, 0)],
  [none, some (.aload 4, 0, 0, 0), none, some (.iload_n 1, 0, 0, 0), some (.iload_n 2, 0, 0, 0), some (.invokevirtual 259, 46, 3, 3), none, none],
  [some (.ifCond .eq 12, 28, 0, 0), none, none, some (.iload_n 3, 0, 0, 0), some (.iconst 0, 0, 0, 0), some (.iconst 4, 0, 0, 0), some (.invokestatic 128, 127, 3, 0), none],
  [none, some (.ifCond .ne 9, 34, 0, 0), none, none, some (.aload_n 0, 0, 0, 0), some (.iconst 1, 0, 0, 0), some (.invokevirtual 112, 122, 2, 11), none],
  [none, some (.ireturn, 0, 0, 0), some (.iload_n 1, 0, 0, 0), some (.iload_n 2, 0, 0, 0), some (.invokestatic 263, 43, 2, 0), none, none, some (.istore 5, 0, 0, 0)],
  [none, some (.aload 4, 0, 0, 0), none, some (.iload 5, 0, 0, 0), none, some (.invokevirtual 272, 47, 2, 3), none, none],
  [some (.ifCond .eq 12, 60, 0, 0), none, none, some (.aload_n 0, 0, 0, 0), some (.bipush 7, 0, 0, 0), none, some (.invokevirtual 112, 122, 2, 11), none],
  [none, some (.goto 19, 76, 0, 0), none, none, some (.aload_n 0, 0, 0, 0), some (.aload_n 0, 0, 0, 0), some (.getfield 102, 11, 19, 0), none],
  [none, some (.aload 4, 0, 0, 0), none, some (.iload 5, 0, 0, 0), none, some (.iload_n 3, 0, 0, 0), some (.invokevirtual 442, 102, 4, 9), none],
  [none, some (.invokevirtual 116, 121, 2, 11), none, none, some (.ireturn, 0, 0, 0)]]
/-- LaterPrints.live(I)I -/
def xt_194 : xT := [[some (.iload_n 1, 0, 0, 0), some (.iconst 0, 0, 0, 0), some (.sipush 9999, 0, 0, 0), none, none, some (.invokestatic 128, 127, 3, 0), none, none],
  [some (.ifCond .ne 9, 17, 0, 0), none, none, some (.aload_n 0, 0, 0, 0), some (.iconst 1, 0, 0, 0), some (.invokevirtual 112, 122, 2, 11), none, none],
  [some (.ireturn, 0, 0, 0), some (.aload_n 0, 0, 0, 0), some (.getfield 51, 11, 10, 0), none, none, some (.getfield 202, 10, 3, 0), none, none],
  [some (.getfield 446, 6, 0, 0), none, none, some (.ifCond .ne 10, 37, 0, 0), none, none, some (.aload_n 0, 0, 0, 0), some (.bipush 6, 0, 0, 0)],
  [none, some (.invokevirtual 112, 122, 2, 11), none, none, some (.ireturn, 0, 0, 0), some (.aload_n 0, 0, 0, 0), some (.getfield 81, 11, 15, 0), none],
  [none, some (.aload_n 0, 0, 0, 0), some (.getfield 51, 11, 10, 0), none, none, some (.iload_n 1, 0, 0, 0), some (.invokevirtual 449, 62, 3, 5), none],
  [none, some (.aload_n 0, 0, 0, 0), some (.getfield 85, 11, 16, 0), none, none, some (.iconst 0, 0, 0, 0), some (.aload_n 0, 0, 0, 0), some (.getfield 81, 11, 15, 0)],
  [none, none, some (.getfield 452, 5, 1, 0), none, none, some (.iastore, 0, 0, 0), some (.aload_n 0, 0, 0, 0), some (.getfield 85, 11, 16, 0)],
  [none, none, some (.iconst 1, 0, 0, 0), some (.aload_n 0, 0, 0, 0), some (.getfield 81, 11, 15, 0), none, none, some (.getfield 455, 5, 2, 0)],
  [none, none, some (.iastore, 0, 0, 0), some (.aload_n 0, 0, 0, 0), some (.getfield 85, 11, 16, 0), none, none, some (.iconst 2, 0, 0, 0)],
  [some (.aload_n 0, 0, 0, 0), some (.getfield 81, 11, 15, 0), none, none, some (.getfield 458, 5, 3, 0), none, none, some (.iastore, 0, 0, 0)],
  [some (.aload_n 0, 0, 0, 0), some (.getfield 85, 11, 16, 0), none, none, some (.iconst 3, 0, 0, 0), some (.aload_n 0, 0, 0, 0), some (.getfield 81, 11, 15, 0), none],
  [none, some (.getfield 461, 5, 4, 0), none, none, some (.iastore, 0, 0, 0), some (.aload_n 0, 0, 0, 0), some (.getfield 85, 11, 16, 0), none],
  [none, some (.iconst 4, 0, 0, 0), some (.aload_n 0, 0, 0, 0), some (.getfield 81, 11, 15, 0), none, none, some (.getfield 464, 5, 5, 0), none],
  [none, some (.ifCond .eq 7, 120, 0, 0), none, none, some (.iconst 1, 0, 0, 0), some (.goto 4, 121, 0, 0), none, none],
  [some (.iconst 0, 0, 0, 0), some (.iastore, 0, 0, 0), some (.aload_n 0, 0, 0, 0), some (.iconst 1, 0, 0, 0), some (.putfield 88, 11, 17, 0), none, none, some (.aload_n 0, 0, 0, 0)],
  [some (.aload_n 0, 0, 0, 0), some (.getfield 81, 11, 15, 0), none, none, some (.getfield 467, 5, 0, 0), none, none, some (.invokevirtual 116, 121, 2, 11)],
  [none, none, some (.ireturn, 0, 0, 0)]]
/-- LaterPrints.lived(I)I -/
def xt_195 : xT := [[some (.iload_n 1, 0, 0, 0), some (.iconst 0, 0, 0, 0), some (.iconst 4, 0, 0, 0), some (.invokestatic 128, 127, 3, 0), none, none, some (.ifCond .ne 9, 15, 0, 0), none],
  [none, some (.aload_n 0, 0, 0, 0), some (.iconst 1, 0, 0, 0), some (.invokevirtual 112, 122, 2, 11), none, none, some (.ireturn, 0, 0, 0), some (.aload_n 0, 0, 0, 0)],
  [some (.getfield 88, 11, 17, 0), none, none, some (.ifCond .eq 16, 35, 0, 0), none, none, some (.aload_n 0, 0, 0, 0), some (.aload_n 0, 0, 0, 0)],
  [some (.getfield 85, 11, 16, 0), none, none, some (.iload_n 1, 0, 0, 0), some (.iaload, 0, 0, 0), some (.invokevirtual 116, 121, 2, 11), none, none],
  [some (.goto 9, 41, 0, 0), none, none, some (.aload_n 0, 0, 0, 0), some (.bipush 6, 0, 0, 0), none, some (.invokevirtual 112, 122, 2, 11), none],
  [none, some (.ireturn, 0, 0, 0)]]
/-- LaterPrints.mean(II)Z -/
def xt_196 : xT := [[some (.iload_n 2, 0, 0, 0), some (.iconst 1, 0, 0, 0), some (.bipush 20, 0, 0, 0), none, some (.invokestatic 128, 127, 3, 0), none, none, some (.ifCond .eq 18, 25, 0, 0)],
  [none, none, some (.iload_n 1, 0, 0, 0), some (.iconst 0, 0, 0, 0), some (.sipush 9999, 0, 0, 0), none, none, some (.iload_n 2, 0, 0, 0)],
  [some (.isub, 0, 0, 0), some (.iconst 1, 0, 0, 0), some (.iadd, 0, 0, 0), some (.invokestatic 128, 127, 3, 0), none, none, some (.ifCond .ne 9, 31, 0, 0), none],
  [none, some (.aload_n 0, 0, 0, 0), some (.iconst 1, 0, 0, 0), some (.invokevirtual 149, 124, 2, 11), none, none, some (.ireturn, 0, 0, 0), some (.aload_n 0, 0, 0, 0)],
  [some (.getfield 51, 11, 10, 0), none, none, some (.getfield 202, 10, 3, 0), none, none, some (.getfield 446, 6, 0, 0), none],
  [none, some (.ifCond .ne 10, 51, 0, 0), none, none, some (.aload_n 0, 0, 0, 0), some (.bipush 6, 0, 0, 0), none, some (.invokevirtual 149, 124, 2, 11)],
  [none, none, some (.ireturn, 0, 0, 0), some (.lconst 0, 0, 0, 0), some (.lstore_n 3, 0, 0, 0), some (.iconst 0, 0, 0, 0), some (.istore 5, 0, 0, 0), none],
  [some (.iload 5, 0, 0, 0), none, some (.iload_n 2, 0, 0, 0), some (.if_icmp .ge 55, 114, 0, 0), none, none, some (.aload_n 0, 0, 0, 0), some (.getfield 81, 11, 15, 0)],
  [none, none, some (.getfield 468, 5, 6, 0), none, none, some (.aload_n 0, 0, 0, 0), some (.getfield 51, 11, 10, 0), none],
  [none, some (.invokevirtual 190, 105, 2, 10), none, none, some (.aload_n 0, 0, 0, 0), some (.getfield 81, 11, 15, 0), none, none],
  [some (.aload_n 0, 0, 0, 0), some (.getfield 81, 11, 15, 0), none, none, some (.getfield 468, 5, 6, 0), none, none, some (.iload_n 1, 0, 0, 0)],
  [some (.iload 5, 0, 0, 0), none, some (.iadd, 0, 0, 0), some (.invokevirtual 449, 62, 3, 5), none, none, some (.lload_n 3, 0, 0, 0), some (.aload_n 0, 0, 0, 0)],
  [some (.getfield 81, 11, 15, 0), none, none, some (.getfield 468, 5, 6, 0), none, none, some (.invokevirtual 252, 116, 1, 10), none],
  [none, some (.i2l, 0, 0, 0), some (.ladd, 0, 0, 0), some (.lstore_n 3, 0, 0, 0), some (.iinc 5 1, 0, 0, 0), none, none, some (.goto (-55), 56, 0, 0)],
  [none, none, some (.aload_n 0, 0, 0, 0), some (.lload_n 3, 0, 0, 0), some (.iload_n 2, 0, 0, 0), some (.i2l, 0, 0, 0), some (.invokevirtual 414, 126, 3, 11), none],
  [none, some (.aload_n 0, 0, 0, 0), some (.invokevirtual 155, 123, 1, 11), none, none, some (.ireturn, 0, 0, 0)]]
/-- LaterPrints.mark()I -/
def xt_197 : xT := [[some (.aload_n 0, 0, 0, 0), some (.getfield 59, 11, 12, 0), none, none, some (.iconst 3, 0, 0, 0), some (.if_icmp .lt 9, 14, 0, 0), none, none],
  [some (.aload_n 0, 0, 0, 0), some (.iconst 4, 0, 0, 0), some (.invokevirtual 112, 122, 2, 11), none, none, some (.ireturn, 0, 0, 0), some (.aload_n 0, 0, 0, 0), some (.getfield 55, 11, 11, 0)],
  [none, none, some (.aload_n 0, 0, 0, 0), some (.getfield 59, 11, 12, 0), none, none, some (.aaload, 0, 0, 0), some (.aload_n 0, 0, 0, 0)],
  [some (.getfield 51, 11, 10, 0), none, none, some (.invokevirtual 190, 105, 2, 10), none, none, some (.aload_n 0, 0, 0, 0), some (.dup, 0, 0, 0)],
  [some (.getfield 59, 11, 12, 0), none, none, some (.iconst 1, 0, 0, 0), some (.iadd, 0, 0, 0), some (.putfield 59, 11, 12, 0), none, none],
  [some (.aload_n 0, 0, 0, 0), some (.aload_n 0, 0, 0, 0), some (.getfield 59, 11, 12, 0), none, none, some (.invokevirtual 116, 121, 2, 11), none, none],
  [some (.ireturn, 0, 0, 0)]]
/-- LaterPrints.undo()I -/
def xt_198 : xT := [[some (.aload_n 0, 0, 0, 0), some (.getfield 59, 11, 12, 0), none, none, some (.iconst 1, 0, 0, 0), some (.if_icmp .ge 10, 15, 0, 0), none, none],
  [some (.aload_n 0, 0, 0, 0), some (.bipush 6, 0, 0, 0), none, some (.invokevirtual 112, 122, 2, 11), none, none, some (.ireturn, 0, 0, 0), some (.aload_n 0, 0, 0, 0)],
  [some (.dup, 0, 0, 0), some (.getfield 59, 11, 12, 0), none, none, some (.iconst 1, 0, 0, 0), some (.isub, 0, 0, 0), some (.putfield 59, 11, 12, 0), none],
  [none, some (.aload_n 0, 0, 0, 0), some (.getfield 51, 11, 10, 0), none, none, some (.aload_n 0, 0, 0, 0), some (.getfield 55, 11, 11, 0), none],
  [none, some (.aload_n 0, 0, 0, 0), some (.getfield 59, 11, 12, 0), none, none, some (.aaload, 0, 0, 0), some (.invokevirtual 190, 105, 2, 10), none],
  [none, some (.aload_n 0, 0, 0, 0), some (.aload_n 0, 0, 0, 0), some (.getfield 59, 11, 12, 0), none, none, some (.invokevirtual 116, 121, 2, 11), none],
  [none, some (.ireturn, 0, 0, 0)]]
/-- LaterPrintsModel.<init>()V -/
def xt_199 : xT := [[some (.aload_n 0, 0, 0, 0), some (.invokespecial 1, 5000, 1, 0), none, none, some (.aload_n 0, 0, 0, 0), some (.sipush 3972, 0, 0, 0), none, none],
  [some (.newarray .int, 0, 0, 0), none, some (.putfield 7, 12, 0, 0), none, none, some (.aload_n 0, 0, 0, 0), some (.bipush 90, 0, 0, 0), none],
  [some (.newarray .long, 0, 0, 0), none, some (.putfield 13, 12, 1, 0), none, none, some (.aload_n 0, 0, 0, 0), some (.lconst 1, 0, 0, 0), some (.putfield 17, 12, 4, 0)],
  [none, none, some (.aload_n 0, 0, 0, 0), some (.iconst 4, 0, 0, 0), some (.newarray .int, 0, 0, 0), none, some (.putfield 21, 12, 5, 0), none],
  [none, some (.aload_n 0, 0, 0, 0), some (.iconst 4, 0, 0, 0), some (.newarray .int, 0, 0, 0), none, some (.dup, 0, 0, 0), some (.iconst 0, 0, 0, 0), some (.iconst (-1), 0, 0, 0)],
  [some (.iastore, 0, 0, 0), some (.dup, 0, 0, 0), some (.iconst 1, 0, 0, 0), some (.iconst (-1), 0, 0, 0), some (.iastore, 0, 0, 0), some (.dup, 0, 0, 0), some (.iconst 2, 0, 0, 0), some (.iconst (-1), 0, 0, 0)],
  [some (.iastore, 0, 0, 0), some (.dup, 0, 0, 0), some (.iconst 3, 0, 0, 0), some (.iconst (-1), 0, 0, 0), some (.iastore, 0, 0, 0), some (.putfield 24, 12, 6, 0), none, none],
  [some (.aload_n 0, 0, 0, 0), some (.sipush 240, 0, 0, 0), none, none, some (.newarray .long, 0, 0, 0), none, some (.putfield 27, 12, 7, 0), none],
  [none, some (.aload_n 0, 0, 0, 0), some (.sipush 900, 0, 0, 0), none, none, some (.newarray .byte, 0, 0, 0), none, some (.putfield 30, 12, 8, 0)],
  [none, none, some (.aload_n 0, 0, 0, 0), some (.sipush 900, 0, 0, 0), none, none, some (.newarray .byte, 0, 0, 0), none],
  [some (.putfield 34, 12, 9, 0), none, none, some (.aload_n 0, 0, 0, 0), some (.iconst (-1), 0, 0, 0), some (.putfield 37, 12, 16, 0), none, none],
  [some (.aload_n 0, 0, 0, 0), some (.iconst (-1), 0, 0, 0), some (.putfield 41, 12, 17, 0), none, none, some (.aload_n 0, 0, 0, 0), some (.iconst 3, 0, 0, 0), some (.newarray .int, 0, 0, 0)],
  [none, some (.putfield 44, 12, 21, 0), none, none, some (.aload_n 0, 0, 0, 0), some (.sipush 201, 0, 0, 0), none, none],
  [some (.newarray .int, 0, 0, 0), none, some (.putfield 47, 12, 24, 0), none, none, some (.aload_n 0, 0, 0, 0), some (.bipush 20, 0, 0, 0), none],
  [some (.newarray .int, 0, 0, 0), none, some (.putfield 50, 12, 25, 0), none, none, some (.aload_n 0, 0, 0, 0), some (.iconst 4, 0, 0, 0), some (.newarray .int, 0, 0, 0)],
  [none, some (.putfield 53, 12, 26, 0), none, none, some (.aload_n 0, 0, 0, 0), some (.iconst 4, 0, 0, 0), some (.newarray .int, 0, 0, 0), none],
  [some (.putfield 56, 12, 27, 0), none, none, some (.aload_n 0, 0, 0, 0), some (.bipush 30, 0, 0, 0), none, some (.newarray .long, 0, 0, 0), none],
  [some (.putfield 59, 12, 28, 0), none, none, some (.aload_n 0, 0, 0, 0), some (.bipush 30, 0, 0, 0), none, some (.newarray .long, 0, 0, 0), none],
  [some (.putfield 62, 12, 29, 0), none, none, some (.aload_n 0, 0, 0, 0), some (.bipush 80, 0, 0, 0), none, some (.newarray .int, 0, 0, 0), none],
  [some (.putfield 65, 12, 32, 0), none, none, some (.aload_n 0, 0, 0, 0), some (.iconst 5, 0, 0, 0), some (.newarray .int, 0, 0, 0), none, some (.putfield 68, 12, 33, 0)],
  [none, none, some (.aload_n 0, 0, 0, 0), some (.iconst 5, 0, 0, 0), some (.newarray .int, 0, 0, 0), none, some (.putfield 71, 12, 34, 0), none],
  [none, some (.aload_n 0, 0, 0, 0), some (.iconst 0, 0, 0, 0), some (.invokevirtual 74, 200, 2, 12), none, none, some (.return_, 0, 0, 0)]]
/-- LaterPrintsModel.plain(I)V -/
def xt_200 : xT := [[some (.iconst 0, 0, 0, 0), some (.istore_n 2, 0, 0, 0), some (.iload_n 2, 0, 0, 0), some (.sipush 620, 0, 0, 0), none, none, some (.if_icmp .ge 18, 24, 0, 0), none],
  [none, some (.aload_n 0, 0, 0, 0), some (.getfield 7, 12, 0, 0), none, none, some (.iload_n 1, 0, 0, 0), some (.iload_n 2, 0, 0, 0), some (.iadd, 0, 0, 0)],
  [some (.iconst 0, 0, 0, 0), some (.iastore, 0, 0, 0), some (.iinc 2 1, 0, 0, 0), none, none, some (.goto (-19), 2, 0, 0), none, none],
  [some (.iconst 0, 0, 0, 0), some (.istore_n 2, 0, 0, 0), some (.iload_n 2, 0, 0, 0), some (.bipush 120, 0, 0, 0), none, some (.if_icmp .ge 22, 51, 0, 0), none, none],
  [some (.aload_n 0, 0, 0, 0), some (.getfield 7, 12, 0, 0), none, none, some (.iload_n 1, 0, 0, 0), some (.sipush 132, 0, 0, 0), none, none],
  [some (.iadd, 0, 0, 0), some (.iload_n 2, 0, 0, 0), some (.iadd, 0, 0, 0), some (.iconst (-1), 0, 0, 0), some (.iastore, 0, 0, 0), some (.iinc 2 1, 0, 0, 0), none, none],
  [some (.goto (-22), 26, 0, 0), none, none, some (.aload_n 0, 0, 0, 0), some (.getfield 7, 12, 0, 0), none, none, some (.iload_n 1, 0, 0, 0)],
  [some (.bipush 6, 0, 0, 0), none, some (.iadd, 0, 0, 0), some (.iconst 5, 0, 0, 0), some (.iastore, 0, 0, 0), some (.aload_n 0, 0, 0, 0), some (.getfield 7, 12, 0, 0), none],
  [none, some (.iload_n 1, 0, 0, 0), some (.bipush 7, 0, 0, 0), none, some (.iadd, 0, 0, 0), some (.iconst 1, 0, 0, 0), some (.iastore, 0, 0, 0), some (.aload_n 0, 0, 0, 0)],
  [some (.getfield 7, 12, 0, 0), none, none, some (.iload_n 1, 0, 0, 0), some (.bipush 8, 0, 0, 0), none, some (.iadd, 0, 0, 0), some (.iconst (-1), 0, 0, 0)],
  [some (.iastore, 0, 0, 0), some (.return_, 0, 0, 0)]]
/-- LaterPrintsModel.status()I -/
def xt_201 : xT := [[some (.aload_n 0, 0, 0, 0), some (.getfield 78, 12, 2, 0), none, none, some (.ireturn, 0, 0, 0)]]
/-- LaterPrintsModel.top()J -/
def xt_202 : xT := [[some (.aload_n 0, 0, 0, 0), some (.getfield 81, 12, 3, 0), none, none, some (.lreturn, 0, 0, 0)]]
/-- LaterPrintsModel.bottom()J -/
def xt_203 : xT := [[some (.aload_n 0, 0, 0, 0), some (.getfield 17, 12, 4, 0), none, none, some (.lreturn, 0, 0, 0)]]
/-- LaterPrintsModel.is(I)Z -/
def xt_204 : xT := [[some (.aload_n 0, 0, 0, 0), some (.iload_n 1, 0, 0, 0), some (.putfield 78, 12, 2, 0), none, none, some (.iload_n 1, 0, 0, 0), some (.ifCond .ne 7, 13, 0, 0), none],
  [none, some (.iconst 1, 0, 0, 0), some (.goto 4, 14, 0, 0), none, none, some (.iconst 0, 0, 0, 0), some (.ireturn, 0, 0, 0)]]
/-- LaterPrintsModel.refuse(I)I -/
def xt_205 : xT := [[some (.aload_n 0, 0, 0, 0), some (.iload_n 1, 0, 0, 0), some (.putfield 78, 12, 2, 0), none, none, some (.iconst (-1), 0, 0, 0), some (.ireturn, 0, 0, 0)]]
/-- LaterPrintsModel.gives(I)I -/
def xt_206 : xT := [[some (.aload_n 0, 0, 0, 0), some (.iconst 0, 0, 0, 0), some (.putfield 78, 12, 2, 0), none, none, some (.iload_n 1, 0, 0, 0), some (.ireturn, 0, 0, 0)]]
/-- LaterPrintsModel.orNone(I)I -/
def xt_207 : xT := [[some (.iload_n 1, 0, 0, 0), some (.iconst (-1), 0, 0, 0), some (.if_icmp .ne 12, 14, 0, 0), none, none, some (.aload_n 0, 0, 0, 0), some (.bipush 6, 0, 0, 0), none],
  [some (.invokevirtual 84, 205, 2, 12), none, none, some (.goto 8, 19, 0, 0), none, none, some (.aload_n 0, 0, 0, 0), some (.iload_n 1, 0, 0, 0)],
  [some (.invokevirtual 88, 206, 2, 12), none, none, some (.ireturn, 0, 0, 0)]]
/-- LaterPrintsModel.tellsBy(JJ)Z -/
def xt_208 : xT := [[some (.lload_n 1, 0, 0, 0), some (.lstore 5, 0, 0, 0), none, some (.lload_n 3, 0, 0, 0), some (.lstore 7, 0, 0, 0), none, some (.lload 7, 0, 0, 0), none],
  [some (.lconst 0, 0, 0, 0), some (.lcmp, 0, 0, 0), some (.ifCond .eq 21, 31, 0, 0), none, none, some (.lload 5, 0, 0, 0), none, some (.lload 7, 0, 0, 0)],
  [none, some (.lrem, 0, 0, 0), some (.lstore 9, 0, 0, 0), none, some (.lload 7, 0, 0, 0), none, some (.lstore 5, 0, 0, 0), none],
  [some (.lload 9, 0, 0, 0), none, some (.lstore 7, 0, 0, 0), none, some (.goto (-22), 6, 0, 0), none, none, some (.aload_n 0, 0, 0, 0)],
  [some (.lload_n 1, 0, 0, 0), some (.lload 5, 0, 0, 0), none, some (.ldiv, 0, 0, 0), some (.putfield 81, 12, 3, 0), none, none, some (.aload_n 0, 0, 0, 0)],
  [some (.lload_n 3, 0, 0, 0), some (.lload 5, 0, 0, 0), none, some (.ldiv, 0, 0, 0), some (.putfield 17, 12, 4, 0), none, none, some (.aload_n 0, 0, 0, 0)],
  [some (.iconst 0, 0, 0, 0), some (.invokevirtual 91, 204, 2, 12), none, none, some (.ireturn, 0, 0, 0)]]
/-- LaterPrintsModel.isTray(I)Z -/
def xt_209 : xT := [[some (.iload_n 0, 0, 0, 0), some (.ifCond .lt 12, 13, 0, 0), none, none, some (.iload_n 0, 0, 0, 0), some (.iconst 4, 0, 0, 0), some (.if_icmp .ge 7, 13, 0, 0), none],
  [none, some (.iconst 1, 0, 0, 0), some (.goto 4, 14, 0, 0), none, none, some (.iconst 0, 0, 0, 0), some (.ireturn, 0, 0, 0)]]
/-- LaterPrintsModel.cut(JI)J -/
def xt_210 : xT := [[some (.iload_n 2, 0, 0, 0), some (.ifCond .ne 10, 11, 0, 0), none, none, some (.lload_n 0, 0, 0, 0), some (.l2i, 0, 0, 0), some (.i2b, 0, 0, 0), some (.i2l, 0, 0, 0)],
  [some (.goto 27, 35, 0, 0), none, none, some (.iload_n 2, 0, 0, 0), some (.iconst 1, 0, 0, 0), some (.if_icmp .ne 10, 23, 0, 0), none, none],
  [some (.lload_n 0, 0, 0, 0), some (.l2i, 0, 0, 0), some (.i2s, 0, 0, 0), some (.i2l, 0, 0, 0), some (.goto 15, 35, 0, 0), none, none, some (.iload_n 2, 0, 0, 0)],
  [some (.iconst 2, 0, 0, 0), some (.if_icmp .ne 9, 34, 0, 0), none, none, some (.lload_n 0, 0, 0, 0), some (.l2i, 0, 0, 0), some (.i2l, 0, 0, 0), some (.goto 4, 35, 0, 0)],
  [none, none, some (.lload_n 0, 0, 0, 0), some (.lreturn, 0, 0, 0)]]
/-- LaterPrintsModel.tray(III)Z -/
def xt_211 : xT := [[some (.iload_n 1, 0, 0, 0), some (.invokestatic 95, 209, 1, 0), none, none, some (.ifCond .eq 22, 26, 0, 0), none, none, some (.iload_n 2, 0, 0, 0)],
  [some (.ifCond .lt 18, 26, 0, 0), none, none, some (.iload_n 2, 0, 0, 0), some (.iconst 3, 0, 0, 0), some (.if_icmp .gt 13, 26, 0, 0), none, none],
  [some (.iload_n 3, 0, 0, 0), some (.ifCond .lt 9, 26, 0, 0), none, none, some (.iload_n 3, 0, 0, 0), some (.bipush 60, 0, 0, 0), none, some (.if_icmp .le 9, 32, 0, 0)],
  [none, none, some (.aload_n 0, 0, 0, 0), some (.iconst 1, 0, 0, 0), some (.invokevirtual 91, 204, 2, 12), none, none, some (.ireturn, 0, 0, 0)],
  [some (.aload_n 0, 0, 0, 0), some (.getfield 21, 12, 5, 0), none, none, some (.iload_n 1, 0, 0, 0), some (.iload_n 2, 0, 0, 0), some (.iastore, 0, 0, 0), some (.aload_n 0, 0, 0, 0)],
  [some (.getfield 24, 12, 6, 0), none, none, some (.iload_n 1, 0, 0, 0), some (.iload_n 3, 0, 0, 0), some (.iastore, 0, 0, 0), some (.iconst 0, 0, 0, 0), some (.istore 4, 0, 0, 0)],
  [none, some (.iload 4, 0, 0, 0), none, some (.iload_n 3, 0, 0, 0), some (.if_icmp .ge 22, 74, 0, 0), none, none, some (.aload_n 0, 0, 0, 0)],
  [some (.getfield 27, 12, 7, 0), none, none, some (.bipush 60, 0, 0, 0), none, some (.iload_n 1, 0, 0, 0), some (.imul, 0, 0, 0), some (.iload 4, 0, 0, 0)],
  [none, some (.iadd, 0, 0, 0), some (.lconst 0, 0, 0, 0), some (.lastore, 0, 0, 0), some (.iinc 4 1, 0, 0, 0), none, none, some (.goto (-22), 49, 0, 0)],
  [none, none, some (.aload_n 0, 0, 0, 0), some (.iconst 0, 0, 0, 0), some (.invokevirtual 91, 204, 2, 12), none, none, some (.ireturn, 0, 0, 0)]]
/-- LaterPrintsModel.wrongPlace(II)I -/
def xt_212 : xT := [[some (.iload_n 1, 0, 0, 0), some (.invokestatic 95, 209, 1, 0), none, none, some (.ifCond .ne 7, 11, 0, 0), none, none, some (.iconst 1, 0, 0, 0)],
  [some (.goto 36, 44, 0, 0), none, none, some (.aload_n 0, 0, 0, 0), some (.getfield 24, 12, 6, 0), none, none, some (.iload_n 1, 0, 0, 0)],
  [some (.iaload, 0, 0, 0), some (.iconst (-1), 0, 0, 0), some (.if_icmp .ne 7, 25, 0, 0), none, none, some (.iconst 2, 0, 0, 0), some (.goto 22, 44, 0, 0), none],
  [none, some (.iload_n 2, 0, 0, 0), some (.ifCond .lt 13, 39, 0, 0), none, none, some (.iload_n 2, 0, 0, 0), some (.aload_n 0, 0, 0, 0), some (.getfield 24, 12, 6, 0)],
  [none, none, some (.iload_n 1, 0, 0, 0), some (.iaload, 0, 0, 0), some (.if_icmp .lt 7, 43, 0, 0), none, none, some (.iconst 3, 0, 0, 0)],
  [some (.goto 4, 44, 0, 0), none, none, some (.iconst 0, 0, 0, 0), some (.ireturn, 0, 0, 0)]]
/-- LaterPrintsModel.write(IIJ)Z -/
def xt_213 : xT := [[some (.aload_n 0, 0, 0, 0), some (.iload_n 1, 0, 0, 0), some (.iload_n 2, 0, 0, 0), some (.invokevirtual 98, 212, 3, 12), none, none, some (.istore 5, 0, 0, 0), none],
  [some (.iload 5, 0, 0, 0), none, some (.ifCond .ne 24, 34, 0, 0), none, none, some (.aload_n 0, 0, 0, 0), some (.getfield 27, 12, 7, 0), none],
  [none, some (.bipush 60, 0, 0, 0), none, some (.iload_n 1, 0, 0, 0), some (.imul, 0, 0, 0), some (.iload_n 2, 0, 0, 0), some (.iadd, 0, 0, 0), some (.lload_n 3, 0, 0, 0)],
  [some (.aload_n 0, 0, 0, 0), some (.getfield 21, 12, 5, 0), none, none, some (.iload_n 1, 0, 0, 0), some (.iaload, 0, 0, 0), some (.invokestatic 102, 210, 2, 0), none],
  [none, some (.lastore, 0, 0, 0), some (.aload_n 0, 0, 0, 0), some (.iload 5, 0, 0, 0), none, some (.invokevirtual 91, 204, 2, 12), none, none],
  [some (.ireturn, 0, 0, 0)]]
/-- LaterPrintsModel.read(II)J -/
def xt_214 : xT := [[some (.aload_n 0, 0, 0, 0), some (.aload_n 0, 0, 0, 0), some (.iload_n 1, 0, 0, 0), some (.iload_n 2, 0, 0, 0), some (.invokevirtual 98, 212, 3, 12), none, none, some (.putfield 78, 12, 2, 0)],
  [none, none, some (.aload_n 0, 0, 0, 0), some (.getfield 78, 12, 2, 0), none, none, some (.ifCond .le 9, 23, 0, 0), none],
  [none, some (.ldc2_w 106, 0, 0, (-1)), none, none, some (.goto 14, 34, 0, 0), none, none, some (.aload_n 0, 0, 0, 0)],
  [some (.getfield 27, 12, 7, 0), none, none, some (.bipush 60, 0, 0, 0), none, some (.iload_n 1, 0, 0, 0), some (.imul, 0, 0, 0), some (.iload_n 2, 0, 0, 0)],
  [some (.iadd, 0, 0, 0), some (.laload, 0, 0, 0), some (.lreturn, 0, 0, 0)]]
/-- LaterPrintsModel.pour(IIIII)Z -/
def xt_215 : xT := [[some (.iload_n 1, 0, 0, 0), some (.invokestatic 95, 209, 1, 0), none, none, some (.ifCond .eq 24, 28, 0, 0), none, none, some (.iload_n 3, 0, 0, 0)],
  [some (.invokestatic 95, 209, 1, 0), none, none, some (.ifCond .eq 17, 28, 0, 0), none, none, some (.iload_n 2, 0, 0, 0), some (.ifCond .lt 13, 28, 0, 0)],
  [none, none, some (.iload 4, 0, 0, 0), none, some (.ifCond .lt 8, 28, 0, 0), none, none, some (.iload 5, 0, 0, 0)],
  [none, some (.ifCond .ge 9, 34, 0, 0), none, none, some (.aload_n 0, 0, 0, 0), some (.iconst 1, 0, 0, 0), some (.invokevirtual 91, 204, 2, 12), none],
  [none, some (.ireturn, 0, 0, 0), some (.aload_n 0, 0, 0, 0), some (.getfield 24, 12, 6, 0), none, none, some (.iload_n 1, 0, 0, 0), some (.iaload, 0, 0, 0)],
  [some (.iconst (-1), 0, 0, 0), some (.if_icmp .eq 13, 54, 0, 0), none, none, some (.aload_n 0, 0, 0, 0), some (.getfield 24, 12, 6, 0), none, none],
  [some (.iload_n 3, 0, 0, 0), some (.iaload, 0, 0, 0), some (.iconst (-1), 0, 0, 0), some (.if_icmp .ne 9, 60, 0, 0), none, none, some (.aload_n 0, 0, 0, 0), some (.iconst 2, 0, 0, 0)],
  [some (.invokevirtual 91, 204, 2, 12), none, none, some (.ireturn, 0, 0, 0), some (.aload_n 0, 0, 0, 0), some (.getfield 21, 12, 5, 0), none, none],
  [some (.iload_n 1, 0, 0, 0), some (.iaload, 0, 0, 0), some (.aload_n 0, 0, 0, 0), some (.getfield 21, 12, 5, 0), none, none, some (.iload_n 3, 0, 0, 0), some (.iaload, 0, 0, 0)],
  [some (.if_icmp .eq 10, 82, 0, 0), none, none, some (.aload_n 0, 0, 0, 0), some (.bipush 8, 0, 0, 0), none, some (.invokevirtual 91, 204, 2, 12), none],
  [none, some (.ireturn, 0, 0, 0), some (.iload 5, 0, 0, 0), none, some (.aload_n 0, 0, 0, 0), some (.getfield 24, 12, 6, 0), none, none],
  [some (.iload_n 1, 0, 0, 0), some (.iaload, 0, 0, 0), some (.iload_n 2, 0, 0, 0), some (.isub, 0, 0, 0), some (.if_icmp .gt 17, 109, 0, 0), none, none, some (.iload 5, 0, 0, 0)],
  [none, some (.aload_n 0, 0, 0, 0), some (.getfield 24, 12, 6, 0), none, none, some (.iload_n 3, 0, 0, 0), some (.iaload, 0, 0, 0), some (.iload 4, 0, 0, 0)],
  [none, some (.isub, 0, 0, 0), some (.if_icmp .le 9, 115, 0, 0), none, none, some (.aload_n 0, 0, 0, 0), some (.iconst 3, 0, 0, 0), some (.invokevirtual 91, 204, 2, 12)],
  [none, none, some (.ireturn, 0, 0, 0), some (.iconst 0, 0, 0, 0), some (.istore 6, 0, 0, 0), none, some (.iload 6, 0, 0, 0), none],
  [some (.iload 5, 0, 0, 0), none, some (.if_icmp .ge 58, 180, 0, 0), none, none, some (.iload_n 2, 0, 0, 0), some (.iload 4, 0, 0, 0), none],
  [some (.if_icmp .ge 13, 141, 0, 0), none, none, some (.iload 5, 0, 0, 0), none, some (.iconst 1, 0, 0, 0), some (.isub, 0, 0, 0), some (.iload 6, 0, 0, 0)],
  [none, some (.isub, 0, 0, 0), some (.goto 5, 143, 0, 0), none, none, some (.iload 6, 0, 0, 0), none, some (.istore 7, 0, 0, 0)],
  [none, some (.aload_n 0, 0, 0, 0), some (.getfield 27, 12, 7, 0), none, none, some (.bipush 60, 0, 0, 0), none, some (.iload_n 3, 0, 0, 0)],
  [some (.imul, 0, 0, 0), some (.iload 4, 0, 0, 0), none, some (.iadd, 0, 0, 0), some (.iload 7, 0, 0, 0), none, some (.iadd, 0, 0, 0), some (.aload_n 0, 0, 0, 0)],
  [some (.getfield 27, 12, 7, 0), none, none, some (.bipush 60, 0, 0, 0), none, some (.iload_n 1, 0, 0, 0), some (.imul, 0, 0, 0), some (.iload_n 2, 0, 0, 0)],
  [some (.iadd, 0, 0, 0), some (.iload 7, 0, 0, 0), none, some (.iadd, 0, 0, 0), some (.laload, 0, 0, 0), some (.lastore, 0, 0, 0), some (.iinc 6 1, 0, 0, 0), none],
  [none, some (.goto (-59), 118, 0, 0), none, none, some (.aload_n 0, 0, 0, 0), some (.iconst 0, 0, 0, 0), some (.invokevirtual 91, 204, 2, 12), none],
  [none, some (.ireturn, 0, 0, 0)]]
/-- LaterPrintsModel.isFrom(JJJ)Z -/
def xt_216 : xT := [[some (.lload_n 0, 0, 0, 0), some (.lload_n 2, 0, 0, 0), some (.lcmp, 0, 0, 0), some (.ifCond .lt 14, 17, 0, 0), none, none, some (.lload_n 0, 0, 0, 0), some (.lload 4, 0, 0, 0)],
  [none, some (.lcmp, 0, 0, 0), some (.ifCond .gt 7, 17, 0, 0), none, none, some (.iconst 1, 0, 0, 0), some (.goto 4, 18, 0, 0), none],
  [none, some (.iconst 0, 0, 0, 0), some (.ireturn, 0, 0, 0)]]
/-- LaterPrintsModel.feed(IIIII)I -/
def xt_217 : xT := [[some (.aload_n 0, 0, 0, 0), some (.getfield 108, 12, 10, 0), none, none, some (.bipush 20, 0, 0, 0), none, some (.iadd, 0, 0, 0), some (.sipush 900, 0, 0, 0)],
  [none, none, some (.if_icmp .le 5, 15, 0, 0), none, none, some (.iconst (-1), 0, 0, 0), some (.ireturn, 0, 0, 0), some (.aload_n 0, 0, 0, 0)],
  [some (.iload_n 1, 0, 0, 0), some (.invokevirtual 111, 218, 2, 12), none, none, some (.aload_n 0, 0, 0, 0), some (.iload_n 2, 0, 0, 0), some (.invokevirtual 111, 218, 2, 12), none],
  [none, some (.aload_n 0, 0, 0, 0), some (.iload_n 3, 0, 0, 0), some (.invokevirtual 111, 218, 2, 12), none, none, some (.aload_n 0, 0, 0, 0), some (.iload 4, 0, 0, 0)],
  [none, some (.invokevirtual 111, 218, 2, 12), none, none, some (.aload_n 0, 0, 0, 0), some (.iload 5, 0, 0, 0), none, some (.invokevirtual 111, 218, 2, 12)],
  [none, none, some (.aload_n 0, 0, 0, 0), some (.getfield 108, 12, 10, 0), none, none, some (.ireturn, 0, 0, 0)]]
/-- LaterPrintsModel.four(I)V -/
def xt_218 : xT := [[some (.bipush 24, 0, 0, 0), none, some (.istore_n 2, 0, 0, 0), some (.iload_n 2, 0, 0, 0), some (.ifCond .lt 32, 36, 0, 0), none, none, some (.aload_n 0, 0, 0, 0)],
  [some (.getfield 30, 12, 8, 0), none, none, some (.aload_n 0, 0, 0, 0), some (.getfield 108, 12, 10, 0), none, none, some (.iload_n 1, 0, 0, 0)],
  [some (.iload_n 2, 0, 0, 0), some (.ishr, 0, 0, 0), some (.i2b, 0, 0, 0), some (.bastore, 0, 0, 0), some (.aload_n 0, 0, 0, 0), some (.dup, 0, 0, 0), some (.getfield 108, 12, 10, 0), none],
  [none, some (.iconst 1, 0, 0, 0), some (.iadd, 0, 0, 0), some (.putfield 108, 12, 10, 0), none, none, some (.iinc 2 (-8), 0, 0, 0), none],
  [none, some (.goto (-30), 3, 0, 0), none, none, some (.return_, 0, 0, 0)]]
/-- LaterPrintsModel.byteAt(I)I -/
def xt_219 : xT := [[some (.iload_n 1, 0, 0, 0), some (.aload_n 0, 0, 0, 0), some (.getfield 114, 12, 11, 0), none, none, some (.if_icmp .ge 16, 21, 0, 0), none, none],
  [some (.aload_n 0, 0, 0, 0), some (.getfield 34, 12, 9, 0), none, none, some (.iload_n 1, 0, 0, 0), some (.baload, 0, 0, 0), some (.sipush 255, 0, 0, 0), none],
  [none, some (.iand, 0, 0, 0), some (.goto 4, 22, 0, 0), none, none, some (.iconst (-1), 0, 0, 0), some (.ireturn, 0, 0, 0)]]
/-- LaterPrintsModel.isSmall(I)Z -/
def xt_220 : xT := [[some (.iload_n 0, 0, 0, 0), some (.bipush 97, 0, 0, 0), none, some (.if_icmp .lt 13, 16, 0, 0), none, none, some (.iload_n 0, 0, 0, 0), some (.bipush 122, 0, 0, 0)],
  [none, some (.if_icmp .gt 7, 16, 0, 0), none, none, some (.iconst 1, 0, 0, 0), some (.goto 4, 17, 0, 0), none, none],
  [some (.iconst 0, 0, 0, 0), some (.ireturn, 0, 0, 0)]]
/-- LaterPrintsModel.isDigit(I)Z -/
def xt_221 : xT := [[some (.iload_n 0, 0, 0, 0), some (.bipush 48, 0, 0, 0), none, some (.if_icmp .lt 13, 16, 0, 0), none, none, some (.iload_n 0, 0, 0, 0), some (.bipush 57, 0, 0, 0)],
  [none, some (.if_icmp .gt 7, 16, 0, 0), none, none, some (.iconst 1, 0, 0, 0), some (.goto 4, 17, 0, 0), none, none],
  [some (.iconst 0, 0, 0, 0), some (.ireturn, 0, 0, 0)]]
/-- LaterPrintsModel.ahead()V -/
def xt_222 : xT := [[some (.aload_n 0, 0, 0, 0), some (.aload_n 0, 0, 0, 0), some (.getfield 117, 12, 14, 0), none, none, some (.invokevirtual 120, 219, 2, 12), none, none],
  [some (.bipush 32, 0, 0, 0), none, some (.if_icmp .eq 16, 26, 0, 0), none, none, some (.aload_n 0, 0, 0, 0), some (.aload_n 0, 0, 0, 0), some (.getfield 117, 12, 14, 0)],
  [none, none, some (.invokevirtual 120, 219, 2, 12), none, none, some (.bipush 10, 0, 0, 0), none, some (.if_icmp .ne 16, 39, 0, 0)],
  [none, none, some (.aload_n 0, 0, 0, 0), some (.dup, 0, 0, 0), some (.getfield 117, 12, 14, 0), none, none, some (.iconst 1, 0, 0, 0)],
  [some (.iadd, 0, 0, 0), some (.putfield 117, 12, 14, 0), none, none, some (.goto (-36), 0, 0, 0), none, none, some (.aload_n 0, 0, 0, 0)],
  [some (.aload_n 0, 0, 0, 0), some (.getfield 117, 12, 14, 0), none, none, some (.putfield 123, 12, 13, 0), none, none, some (.aload_n 0, 0, 0, 0)],
  [some (.aload_n 0, 0, 0, 0), some (.getfield 117, 12, 14, 0), none, none, some (.invokevirtual 120, 219, 2, 12), none, none, some (.istore_n 1, 0, 0, 0)],
  [some (.aload_n 0, 0, 0, 0), some (.iload_n 1, 0, 0, 0), some (.putfield 126, 12, 15, 0), none, none, some (.iload_n 1, 0, 0, 0), some (.iconst (-1), 0, 0, 0), some (.if_icmp .ne 11, 74, 0, 0)],
  [none, none, some (.aload_n 0, 0, 0, 0), some (.iconst 0, 0, 0, 0), some (.putfield 129, 12, 12, 0), none, none, some (.goto 180, 251, 0, 0)],
  [none, none, some (.iload_n 1, 0, 0, 0), some (.invokestatic 132, 220, 1, 0), none, none, some (.ifCond .eq 38, 116, 0, 0), none],
  [none, some (.aload_n 0, 0, 0, 0), some (.aload_n 0, 0, 0, 0), some (.getfield 117, 12, 14, 0), none, none, some (.invokevirtual 120, 219, 2, 12), none],
  [none, some (.invokestatic 132, 220, 1, 0), none, none, some (.ifCond .eq 16, 108, 0, 0), none, none, some (.aload_n 0, 0, 0, 0)],
  [some (.dup, 0, 0, 0), some (.getfield 117, 12, 14, 0), none, none, some (.iconst 1, 0, 0, 0), some (.iadd, 0, 0, 0), some (.putfield 117, 12, 14, 0), none],
  [none, some (.goto (-24), 81, 0, 0), none, none, some (.aload_n 0, 0, 0, 0), some (.iconst 2, 0, 0, 0), some (.putfield 129, 12, 12, 0), none],
  [none, some (.goto 138, 251, 0, 0), none, none, some (.iload_n 1, 0, 0, 0), some (.invokestatic 135, 221, 1, 0), none, none],
  [some (.ifCond .eq 88, 208, 0, 0), none, none, some (.aload_n 0, 0, 0, 0), some (.iconst 0, 0, 0, 0), some (.putfield 126, 12, 15, 0), none, none],
  [some (.aload_n 0, 0, 0, 0), some (.aload_n 0, 0, 0, 0), some (.getfield 117, 12, 14, 0), none, none, some (.invokevirtual 120, 219, 2, 12), none, none],
  [some (.invokestatic 135, 221, 1, 0), none, none, some (.ifCond .eq 44, 183, 0, 0), none, none, some (.aload_n 0, 0, 0, 0), some (.ldc 138, 0, 0, 100000)],
  [none, some (.bipush 10, 0, 0, 0), none, some (.aload_n 0, 0, 0, 0), some (.getfield 126, 12, 15, 0), none, none, some (.imul, 0, 0, 0)],
  [some (.aload_n 0, 0, 0, 0), some (.aload_n 0, 0, 0, 0), some (.getfield 117, 12, 14, 0), none, none, some (.invokevirtual 120, 219, 2, 12), none, none],
  [some (.iadd, 0, 0, 0), some (.bipush 48, 0, 0, 0), none, some (.isub, 0, 0, 0), some (.invokestatic 139, 5003, 2, 0), none, none, some (.putfield 126, 12, 15, 0)],
  [none, none, some (.aload_n 0, 0, 0, 0), some (.dup, 0, 0, 0), some (.getfield 117, 12, 14, 0), none, none, some (.iconst 1, 0, 0, 0)],
  [some (.iadd, 0, 0, 0), some (.putfield 117, 12, 14, 0), none, none, some (.goto (-52), 128, 0, 0), none, none, some (.aload_n 0, 0, 0, 0)],
  [some (.aload_n 0, 0, 0, 0), some (.getfield 117, 12, 14, 0), none, none, some (.aload_n 0, 0, 0, 0), some (.getfield 123, 12, 13, 0), none, none],
  [some (.isub, 0, 0, 0), some (.iconst 4, 0, 0, 0), some (.if_icmp .le 7, 201, 0, 0), none, none, some (.iconst 1, 0, 0, 0), some (.goto 4, 202, 0, 0), none],
  [none, some (.iconst 3, 0, 0, 0), some (.putfield 129, 12, 12, 0), none, none, some (.goto 46, 251, 0, 0), none, none],
  [some (.aload_n 0, 0, 0, 0), some (.dup, 0, 0, 0), some (.getfield 117, 12, 14, 0), none, none, some (.iconst 1, 0, 0, 0), some (.iadd, 0, 0, 0), some (.putfield 117, 12, 14, 0)],
  [none, none, some (.aload_n 0, 0, 0, 0), some (.iload_n 1, 0, 0, 0), some (.bipush 59, 0, 0, 0), none, some (.if_icmp .eq 21, 243, 0, 0), none],
  [none, some (.iload_n 1, 0, 0, 0), some (.bipush 60, 0, 0, 0), none, some (.if_icmp .eq 15, 243, 0, 0), none, none, some (.iload_n 1, 0, 0, 0)],
  [some (.bipush 62, 0, 0, 0), none, some (.if_icmp .eq 9, 243, 0, 0), none, none, some (.iload_n 1, 0, 0, 0), some (.bipush 61, 0, 0, 0), none],
  [some (.if_icmp .ne 7, 247, 0, 0), none, none, some (.iconst 4, 0, 0, 0), some (.goto 4, 248, 0, 0), none, none, some (.iconst 1, 0, 0, 0)],
  [some (.putfield 129, 12, 12, 0), none, none, some (.return_, 0, 0, 0)]]
/-- LaterPrintsModel.isSign(I)Z -/
def xt_223 : xT := [[some (.aload_n 0, 0, 0, 0), some (.getfield 129, 12, 12, 0), none, none, some (.iconst 4, 0, 0, 0), some (.if_icmp .ne 15, 20, 0, 0), none, none],
  [some (.aload_n 0, 0, 0, 0), some (.getfield 126, 12, 15, 0), none, none, some (.iload_n 1, 0, 0, 0), some (.if_icmp .ne 7, 20, 0, 0), none, none],
  [some (.iconst 1, 0, 0, 0), some (.goto 4, 21, 0, 0), none, none, some (.iconst 0, 0, 0, 0), some (.ireturn, 0, 0, 0)]]
/-- LaterPrintsModel.inWords(Ljava/lang/String;)I -/
def xt_224 : xT := [[some (.aload_n 0, 0, 0, 0), some (.getfield 129, 12, 12, 0), none, none, some (.iconst 2, 0, 0, 0), some (.if_icmp .eq 5, 10, 0, 0), none, none],
  [some (.iconst (-1), 0, 0, 0), some (.ireturn, 0, 0, 0), some (.iconst 0, 0, 0, 0), some (.istore_n 2, 0, 0, 0), some (.iconst 1, 0, 0, 0), some (.istore_n 3, 0, 0, 0), some (.iload_n 3, 0, 0, 0), some (.aload_n 1, 0, 0, 0)],
  [some (.invokevirtual 144, 5005, 1, 0), none, none, some (.if_icmp .ge 114, 133, 0, 0), none, none, some (.iload_n 3, 0, 0, 0), some (.istore 4, 0, 0, 0)],
  [none, some (.aload_n 1, 0, 0, 0), some (.iload 4, 0, 0, 0), none, some (.invokevirtual 150, 5006, 2, 0), none, none, some (.bipush 32, 0, 0, 0)],
  [none, some (.if_icmp .eq 9, 42, 0, 0), none, none, some (.iinc 4 1, 0, 0, 0), none, none, some (.goto (-14), 25, 0, 0)],
  [none, none, some (.iload 4, 0, 0, 0), none, some (.iload_n 3, 0, 0, 0), some (.isub, 0, 0, 0), some (.aload_n 0, 0, 0, 0), some (.getfield 117, 12, 14, 0)],
  [none, none, some (.aload_n 0, 0, 0, 0), some (.getfield 123, 12, 13, 0), none, none, some (.isub, 0, 0, 0), some (.if_icmp .ne 7, 62, 0, 0)],
  [none, none, some (.iconst 1, 0, 0, 0), some (.goto 4, 63, 0, 0), none, none, some (.iconst 0, 0, 0, 0), some (.istore 5, 0, 0, 0)],
  [none, some (.iload_n 3, 0, 0, 0), some (.istore 6, 0, 0, 0), none, some (.iload 6, 0, 0, 0), none, some (.iload 4, 0, 0, 0), none],
  [some (.if_icmp .ge 43, 115, 0, 0), none, none, some (.iload 5, 0, 0, 0), none, some (.ifCond .eq 38, 115, 0, 0), none, none],
  [some (.aload_n 1, 0, 0, 0), some (.iload 6, 0, 0, 0), none, some (.invokevirtual 150, 5006, 2, 0), none, none, some (.aload_n 0, 0, 0, 0), some (.aload_n 0, 0, 0, 0)],
  [some (.getfield 123, 12, 13, 0), none, none, some (.iload 6, 0, 0, 0), none, some (.iadd, 0, 0, 0), some (.iload_n 3, 0, 0, 0), some (.isub, 0, 0, 0)],
  [some (.invokevirtual 120, 219, 2, 12), none, none, some (.if_icmp .ne 7, 106, 0, 0), none, none, some (.iconst 1, 0, 0, 0), some (.goto 4, 107, 0, 0)],
  [none, none, some (.iconst 0, 0, 0, 0), some (.istore 5, 0, 0, 0), none, some (.iinc 6 1, 0, 0, 0), none, none],
  [some (.goto (-44), 68, 0, 0), none, none, some (.iload 5, 0, 0, 0), none, some (.ifCond .eq 5, 122, 0, 0), none, none],
  [some (.iload_n 2, 0, 0, 0), some (.ireturn, 0, 0, 0), some (.iinc 2 1, 0, 0, 0), none, none, some (.iload 4, 0, 0, 0), none, some (.iconst 1, 0, 0, 0)],
  [some (.iadd, 0, 0, 0), some (.istore_n 3, 0, 0, 0), some (.goto (-116), 14, 0, 0), none, none, some (.iconst (-1), 0, 0, 0), some (.ireturn, 0, 0, 0)]]
/-- LaterPrintsModel.fails(I)Z -/
def xt_225 : xT := [[some (.aload_n 0, 0, 0, 0), some (.getfield 154, 12, 18, 0), none, none, some (.ifCond .ne 28, 32, 0, 0), none, none, some (.aload_n 0, 0, 0, 0)],
  [some (.aload_n 0, 0, 0, 0), some (.getfield 129, 12, 12, 0), none, none, some (.iconst 1, 0, 0, 0), some (.if_icmp .ne 7, 20, 0, 0), none, none],
  [some (.iconst 1, 0, 0, 0), some (.goto 4, 21, 0, 0), none, none, some (.iload_n 1, 0, 0, 0), some (.putfield 154, 12, 18, 0), none, none],
  [some (.aload_n 0, 0, 0, 0), some (.aload_n 0, 0, 0, 0), some (.getfield 123, 12, 13, 0), none, none, some (.putfield 41, 12, 17, 0), none, none],
  [some (.iconst 0, 0, 0, 0), some (.ireturn, 0, 0, 0)]]
/-- LaterPrintsModel.begins(II)Z -/
def xt_226 : xT := [[some (.iload_n 1, 0, 0, 0), some (.ifCond .lt 16, 17, 0, 0), none, none, some (.iload_n 1, 0, 0, 0), some (.aload_n 0, 0, 0, 0), some (.getfield 108, 12, 10, 0), none],
  [none, some (.if_icmp .gt 8, 17, 0, 0), none, none, some (.iload_n 1, 0, 0, 0), some (.iload_n 2, 0, 0, 0), some (.if_icmp .le 5, 19, 0, 0), none],
  [none, some (.iconst 0, 0, 0, 0), some (.ireturn, 0, 0, 0), some (.aload_n 0, 0, 0, 0), some (.iload_n 1, 0, 0, 0), some (.putfield 114, 12, 11, 0), none, none],
  [some (.iconst 0, 0, 0, 0), some (.istore_n 3, 0, 0, 0), some (.iload_n 3, 0, 0, 0), some (.iload_n 1, 0, 0, 0), some (.if_icmp .ge 21, 49, 0, 0), none, none, some (.aload_n 0, 0, 0, 0)],
  [some (.getfield 34, 12, 9, 0), none, none, some (.iload_n 3, 0, 0, 0), some (.aload_n 0, 0, 0, 0), some (.getfield 30, 12, 8, 0), none, none],
  [some (.iload_n 3, 0, 0, 0), some (.baload, 0, 0, 0), some (.bastore, 0, 0, 0), some (.iinc 3 1, 0, 0, 0), none, none, some (.goto (-20), 26, 0, 0), none],
  [none, some (.aload_n 0, 0, 0, 0), some (.iconst 0, 0, 0, 0), some (.putfield 108, 12, 10, 0), none, none, some (.aload_n 0, 0, 0, 0), some (.iconst 0, 0, 0, 0)],
  [some (.putfield 154, 12, 18, 0), none, none, some (.aload_n 0, 0, 0, 0), some (.iconst (-1), 0, 0, 0), some (.putfield 41, 12, 17, 0), none, none],
  [some (.aload_n 0, 0, 0, 0), some (.iconst 0, 0, 0, 0), some (.putfield 117, 12, 14, 0), none, none, some (.aload_n 0, 0, 0, 0), some (.iconst 0, 0, 0, 0), some (.putfield 157, 12, 19, 0)],
  [none, none, some (.aload_n 0, 0, 0, 0), some (.invokevirtual 160, 222, 1, 12), none, none, some (.iconst 1, 0, 0, 0), some (.ireturn, 0, 0, 0)]]
/-- LaterPrintsModel.wantSign(I)Z -/
def xt_227 : xT := [[some (.aload_n 0, 0, 0, 0), some (.iload_n 1, 0, 0, 0), some (.invokevirtual 163, 223, 2, 12), none, none, some (.ifCond .ne 9, 14, 0, 0), none, none],
  [some (.aload_n 0, 0, 0, 0), some (.iconst 2, 0, 0, 0), some (.invokevirtual 166, 225, 2, 12), none, none, some (.ireturn, 0, 0, 0), some (.aload_n 0, 0, 0, 0), some (.invokevirtual 160, 222, 1, 12)],
  [none, none, some (.iconst 1, 0, 0, 0), some (.ireturn, 0, 0, 0)]]
/-- LaterPrintsModel.wantWord(Ljava/lang/String;I)Z -/
def xt_228 : xT := [[some (.aload_n 0, 0, 0, 0), some (.aload_n 1, 0, 0, 0), some (.invokevirtual 169, 224, 2, 12), none, none, some (.iload_n 2, 0, 0, 0), some (.if_icmp .eq 9, 15, 0, 0), none],
  [none, some (.aload_n 0, 0, 0, 0), some (.iconst 2, 0, 0, 0), some (.invokevirtual 166, 225, 2, 12), none, none, some (.ireturn, 0, 0, 0), some (.aload_n 0, 0, 0, 0)],
  [some (.invokevirtual 160, 222, 1, 12), none, none, some (.iconst 1, 0, 0, 0), some (.ireturn, 0, 0, 0)]]
/-- LaterPrintsModel.number(III)Z -/
def xt_229 : xT := [[some (.aload_n 0, 0, 0, 0), some (.getfield 129, 12, 12, 0), none, none, some (.iconst 3, 0, 0, 0), some (.if_icmp .eq 9, 14, 0, 0), none, none],
  [some (.aload_n 0, 0, 0, 0), some (.iconst 2, 0, 0, 0), some (.invokevirtual 166, 225, 2, 12), none, none, some (.ireturn, 0, 0, 0), some (.aload_n 0, 0, 0, 0), some (.getfield 126, 12, 15, 0)],
  [none, none, some (.iload_n 2, 0, 0, 0), some (.if_icmp .lt 11, 30, 0, 0), none, none, some (.aload_n 0, 0, 0, 0), some (.getfield 126, 12, 15, 0)],
  [none, none, some (.iload_n 3, 0, 0, 0), some (.if_icmp .le 9, 36, 0, 0), none, none, some (.aload_n 0, 0, 0, 0), some (.iconst 4, 0, 0, 0)],
  [some (.invokevirtual 166, 225, 2, 12), none, none, some (.ireturn, 0, 0, 0), some (.aload_n 0, 0, 0, 0), some (.getfield 7, 12, 0, 0), none, none],
  [some (.iload_n 1, 0, 0, 0), some (.aload_n 0, 0, 0, 0), some (.getfield 126, 12, 15, 0), none, none, some (.iastore, 0, 0, 0), some (.aload_n 0, 0, 0, 0), some (.invokevirtual 160, 222, 1, 12)],
  [none, none, some (.iconst 1, 0, 0, 0), some (.ireturn, 0, 0, 0)]]
/-- LaterPrintsModel.isName(Ljava/lang/String;)Z -/
def xt_230 : xT := [[some (.aload_n 0, 0, 0, 0), some (.getfield 129, 12, 12, 0), none, none, some (.iconst 2, 0, 0, 0), some (.if_icmp .ne 30, 35, 0, 0), none, none],
  [some (.aload_n 0, 0, 0, 0), some (.getfield 117, 12, 14, 0), none, none, some (.aload_n 0, 0, 0, 0), some (.getfield 123, 12, 13, 0), none, none],
  [some (.isub, 0, 0, 0), some (.bipush 8, 0, 0, 0), none, some (.if_icmp .gt 16, 35, 0, 0), none, none, some (.aload_n 0, 0, 0, 0), some (.aload_n 1, 0, 0, 0)],
  [some (.invokevirtual 169, 224, 2, 12), none, none, some (.iconst (-1), 0, 0, 0), some (.if_icmp .ne 7, 35, 0, 0), none, none, some (.iconst 1, 0, 0, 0)],
  [some (.goto 4, 36, 0, 0), none, none, some (.iconst 0, 0, 0, 0), some (.ireturn, 0, 0, 0)]]
/-- LaterPrintsModel.nameHere()J -/
def xt_231 : xT := [[some (.lconst 0, 0, 0, 0), some (.lstore_n 1, 0, 0, 0), some (.aload_n 0, 0, 0, 0), some (.getfield 123, 12, 13, 0), none, none, some (.istore_n 3, 0, 0, 0), some (.iload_n 3, 0, 0, 0)],
  [some (.aload_n 0, 0, 0, 0), some (.getfield 117, 12, 14, 0), none, none, some (.if_icmp .ge 21, 33, 0, 0), none, none, some (.lload_n 1, 0, 0, 0)],
  [some (.bipush 8, 0, 0, 0), none, some (.lshl, 0, 0, 0), some (.aload_n 0, 0, 0, 0), some (.iload_n 3, 0, 0, 0), some (.invokevirtual 120, 219, 2, 12), none, none],
  [some (.i2l, 0, 0, 0), some (.lor, 0, 0, 0), some (.lstore_n 1, 0, 0, 0), some (.iinc 3 1, 0, 0, 0), none, none, some (.goto (-23), 7, 0, 0), none],
  [none, some (.lload_n 1, 0, 0, 0), some (.lreturn, 0, 0, 0)]]
/-- LaterPrintsModel.findHere(II)I -/
def xt_232 : xT := [[some (.iconst 0, 0, 0, 0), some (.istore_n 3, 0, 0, 0), some (.iload_n 3, 0, 0, 0), some (.iload_n 2, 0, 0, 0), some (.if_icmp .ge 27, 31, 0, 0), none, none, some (.aload_n 0, 0, 0, 0)],
  [some (.getfield 13, 12, 1, 0), none, none, some (.iload_n 1, 0, 0, 0), some (.iload_n 3, 0, 0, 0), some (.iadd, 0, 0, 0), some (.laload, 0, 0, 0), some (.aload_n 0, 0, 0, 0)],
  [some (.invokevirtual 173, 231, 1, 12), none, none, some (.lcmp, 0, 0, 0), some (.ifCond .ne 5, 25, 0, 0), none, none, some (.iload_n 3, 0, 0, 0)],
  [some (.ireturn, 0, 0, 0), some (.iinc 3 1, 0, 0, 0), none, none, some (.goto (-26), 2, 0, 0), none, none, some (.iconst (-1), 0, 0, 0)],
  [some (.ireturn, 0, 0, 0)]]
/-- LaterPrintsModel.fault(I)I -/
def xt_233 : xT := [[some (.iload_n 1, 0, 0, 0), some (.ifCond .ne 10, 11, 0, 0), none, none, some (.aload_n 0, 0, 0, 0), some (.getfield 37, 12, 16, 0), none, none],
  [some (.goto 16, 24, 0, 0), none, none, some (.iload_n 1, 0, 0, 0), some (.iconst 1, 0, 0, 0), some (.if_icmp .ne 10, 23, 0, 0), none, none],
  [some (.aload_n 0, 0, 0, 0), some (.getfield 41, 12, 17, 0), none, none, some (.goto 4, 24, 0, 0), none, none, some (.iconst (-1), 0, 0, 0)],
  [some (.ireturn, 0, 0, 0)]]
/-- LaterPrintsModel.taken(I)I -/
def xt_234 : xT := [[some (.aload_n 0, 0, 0, 0), some (.aload_n 0, 0, 0, 0), some (.getfield 154, 12, 18, 0), none, none, some (.putfield 37, 12, 16, 0), none, none],
  [some (.aload_n 0, 0, 0, 0), some (.getfield 154, 12, 18, 0), none, none, some (.ifCond .le 12, 24, 0, 0), none, none, some (.aload_n 0, 0, 0, 0)],
  [some (.bipush 9, 0, 0, 0), none, some (.invokevirtual 84, 205, 2, 12), none, none, some (.goto 8, 29, 0, 0), none, none],
  [some (.aload_n 0, 0, 0, 0), some (.iload_n 1, 0, 0, 0), some (.invokevirtual 88, 206, 2, 12), none, none, some (.ireturn, 0, 0, 0)]]
/-- LaterPrintsModel.isThere(I)Z -/
def xt_235 : xT := [[some (.aload_n 0, 0, 0, 0), some (.ldc 177, 1, 1, 0), none, some (.invokevirtual 169, 224, 2, 12), none, none, some (.iload_n 1, 0, 0, 0), some (.if_icmp .eq 5, 12, 0, 0)],
  [none, none, some (.iconst 0, 0, 0, 0), some (.ireturn, 0, 0, 0), some (.aload_n 0, 0, 0, 0), some (.invokevirtual 160, 222, 1, 12), none, none],
  [some (.iconst 1, 0, 0, 0), some (.ireturn, 0, 0, 0)]]
/-- LaterPrintsModel.newOne(III)Z -/
def xt_236 : xT := [[some (.aload_n 0, 0, 0, 0), some (.getfield 7, 12, 0, 0), none, none, some (.sipush 2480, 0, 0, 0), none, none, some (.iload_n 1, 0, 0, 0)],
  [some (.iadd, 0, 0, 0), some (.iaload, 0, 0, 0), some (.iload_n 2, 0, 0, 0), some (.if_icmp .ne 10, 21, 0, 0), none, none, some (.aload_n 0, 0, 0, 0), some (.bipush 6, 0, 0, 0)],
  [none, some (.invokevirtual 166, 225, 2, 12), none, none, some (.ireturn, 0, 0, 0), some (.aload_n 0, 0, 0, 0), some (.invokevirtual 160, 222, 1, 12), none],
  [none, some (.aload_n 0, 0, 0, 0), some (.ldc 177, 1, 1, 0), none, some (.invokevirtual 179, 230, 2, 12), none, none, some (.ifCond .ne 9, 40, 0, 0)],
  [none, none, some (.aload_n 0, 0, 0, 0), some (.iconst 2, 0, 0, 0), some (.invokevirtual 166, 225, 2, 12), none, none, some (.ireturn, 0, 0, 0)],
  [some (.aload_n 0, 0, 0, 0), some (.bipush 60, 0, 0, 0), none, some (.aload_n 0, 0, 0, 0), some (.getfield 7, 12, 0, 0), none, none, some (.sipush 2482, 0, 0, 0)],
  [none, none, some (.iaload, 0, 0, 0), some (.invokevirtual 183, 232, 3, 12), none, none, some (.iconst (-1), 0, 0, 0), some (.if_icmp .ne 39, 94, 0, 0)],
  [none, none, some (.aload_n 0, 0, 0, 0), some (.bipush 65, 0, 0, 0), none, some (.aload_n 0, 0, 0, 0), some (.getfield 7, 12, 0, 0), none],
  [none, some (.sipush 2483, 0, 0, 0), none, none, some (.iaload, 0, 0, 0), some (.invokevirtual 183, 232, 3, 12), none, none],
  [some (.iconst (-1), 0, 0, 0), some (.if_icmp .ne 21, 94, 0, 0), none, none, some (.aload_n 0, 0, 0, 0), some (.bipush 71, 0, 0, 0), none, some (.aload_n 0, 0, 0, 0)],
  [some (.getfield 7, 12, 0, 0), none, none, some (.sipush 2484, 0, 0, 0), none, none, some (.iaload, 0, 0, 0), some (.invokevirtual 183, 232, 3, 12)],
  [none, none, some (.iconst (-1), 0, 0, 0), some (.if_icmp .eq 9, 100, 0, 0), none, none, some (.aload_n 0, 0, 0, 0), some (.iconst 3, 0, 0, 0)],
  [some (.invokevirtual 166, 225, 2, 12), none, none, some (.ireturn, 0, 0, 0), some (.aload_n 0, 0, 0, 0), some (.getfield 13, 12, 1, 0), none, none],
  [some (.bipush 60, 0, 0, 0), none, some (.iload_n 3, 0, 0, 0), some (.iadd, 0, 0, 0), some (.aload_n 0, 0, 0, 0), some (.getfield 7, 12, 0, 0), none, none],
  [some (.sipush 2480, 0, 0, 0), none, none, some (.iload_n 1, 0, 0, 0), some (.iadd, 0, 0, 0), some (.iaload, 0, 0, 0), some (.iadd, 0, 0, 0), some (.aload_n 0, 0, 0, 0)],
  [some (.invokevirtual 173, 231, 1, 12), none, none, some (.lastore, 0, 0, 0), some (.aload_n 0, 0, 0, 0), some (.invokevirtual 160, 222, 1, 12), none, none],
  [some (.iconst 1, 0, 0, 0), some (.ireturn, 0, 0, 0)]]
/-- LaterPrintsModel.personTo(I)Z -/
def xt_237 : xT := [[some (.aload_n 0, 0, 0, 0), some (.ldc 177, 1, 1, 0), none, some (.invokevirtual 179, 230, 2, 12), none, none, some (.ifCond .ne 9, 15, 0, 0), none],
  [none, some (.aload_n 0, 0, 0, 0), some (.iconst 2, 0, 0, 0), some (.invokevirtual 166, 225, 2, 12), none, none, some (.ireturn, 0, 0, 0), some (.aload_n 0, 0, 0, 0)],
  [some (.getfield 7, 12, 0, 0), none, none, some (.iload_n 1, 0, 0, 0), some (.aload_n 0, 0, 0, 0), some (.bipush 60, 0, 0, 0), none, some (.aload_n 0, 0, 0, 0)],
  [some (.getfield 7, 12, 0, 0), none, none, some (.sipush 2482, 0, 0, 0), none, none, some (.iaload, 0, 0, 0), some (.invokevirtual 183, 232, 3, 12)],
  [none, none, some (.iastore, 0, 0, 0), some (.aload_n 0, 0, 0, 0), some (.getfield 7, 12, 0, 0), none, none, some (.iload_n 1, 0, 0, 0)],
  [some (.iaload, 0, 0, 0), some (.iconst (-1), 0, 0, 0), some (.if_icmp .ne 9, 51, 0, 0), none, none, some (.aload_n 0, 0, 0, 0), some (.iconst 3, 0, 0, 0), some (.invokevirtual 166, 225, 2, 12)],
  [none, none, some (.ireturn, 0, 0, 0), some (.aload_n 0, 0, 0, 0), some (.invokevirtual 160, 222, 1, 12), none, none, some (.iconst 1, 0, 0, 0)],
  [some (.ireturn, 0, 0, 0)]]
/-- LaterPrintsModel.cellTo(IZ)Z -/
def xt_238 : xT := [[some (.sipush 3092, 0, 0, 0), none, none, some (.istore_n 3, 0, 0, 0), some (.aload_n 0, 0, 0, 0), some (.iload_n 3, 0, 0, 0), some (.iconst 0, 0, 0, 0), some (.aload_n 0, 0, 0, 0)],
  [some (.getfield 7, 12, 0, 0), none, none, some (.sipush 2480, 0, 0, 0), none, none, some (.iaload, 0, 0, 0), some (.iconst 1, 0, 0, 0)],
  [some (.isub, 0, 0, 0), some (.invokevirtual 186, 229, 4, 12), none, none, some (.ifCond .ne 5, 25, 0, 0), none, none, some (.iconst 0, 0, 0, 0)],
  [some (.ireturn, 0, 0, 0), some (.aload_n 0, 0, 0, 0), some (.getfield 129, 12, 12, 0), none, none, some (.iconst 3, 0, 0, 0), some (.if_icmp .ne 56, 86, 0, 0), none],
  [none, some (.aload_n 0, 0, 0, 0), some (.getfield 126, 12, 15, 0), none, none, some (.ifCond .lt 49, 86, 0, 0), none, none],
  [some (.aload_n 0, 0, 0, 0), some (.getfield 126, 12, 15, 0), none, none, some (.aload_n 0, 0, 0, 0), some (.getfield 7, 12, 0, 0), none, none],
  [some (.sipush 2481, 0, 0, 0), none, none, some (.iaload, 0, 0, 0), some (.if_icmp .ge 34, 86, 0, 0), none, none, some (.iload_n 2, 0, 0, 0)],
  [some (.ifCond .eq 30, 86, 0, 0), none, none, some (.aload_n 0, 0, 0, 0), some (.bipush 6, 0, 0, 0), none, some (.aload_n 0, 0, 0, 0), some (.getfield 126, 12, 15, 0)],
  [none, none, some (.imul, 0, 0, 0), some (.aload_n 0, 0, 0, 0), some (.getfield 7, 12, 0, 0), none, none, some (.iload_n 3, 0, 0, 0)],
  [some (.iaload, 0, 0, 0), some (.iadd, 0, 0, 0), some (.invokevirtual 190, 239, 2, 12), none, none, some (.ifCond .eq 9, 86, 0, 0), none, none],
  [some (.aload_n 0, 0, 0, 0), some (.iconst 5, 0, 0, 0), some (.invokevirtual 166, 225, 2, 12), none, none, some (.ireturn, 0, 0, 0), some (.aload_n 0, 0, 0, 0), some (.iload_n 3, 0, 0, 0)],
  [some (.iconst 1, 0, 0, 0), some (.iadd, 0, 0, 0), some (.iconst 0, 0, 0, 0), some (.aload_n 0, 0, 0, 0), some (.getfield 7, 12, 0, 0), none, none, some (.sipush 2481, 0, 0, 0)],
  [none, none, some (.iaload, 0, 0, 0), some (.iconst 1, 0, 0, 0), some (.isub, 0, 0, 0), some (.invokevirtual 186, 229, 4, 12), none, none],
  [some (.ifCond .ne 5, 109, 0, 0), none, none, some (.iconst 0, 0, 0, 0), some (.ireturn, 0, 0, 0), some (.aload_n 0, 0, 0, 0), some (.getfield 7, 12, 0, 0), none],
  [none, some (.iload_n 1, 0, 0, 0), some (.bipush 6, 0, 0, 0), none, some (.aload_n 0, 0, 0, 0), some (.getfield 7, 12, 0, 0), none, none],
  [some (.iload_n 3, 0, 0, 0), some (.iconst 1, 0, 0, 0), some (.iadd, 0, 0, 0), some (.iaload, 0, 0, 0), some (.imul, 0, 0, 0), some (.aload_n 0, 0, 0, 0), some (.getfield 7, 12, 0, 0), none],
  [none, some (.iload_n 3, 0, 0, 0), some (.iaload, 0, 0, 0), some (.iadd, 0, 0, 0), some (.iastore, 0, 0, 0), some (.iconst 1, 0, 0, 0), some (.ireturn, 0, 0, 0)]]
/-- LaterPrintsModel.isToldCell(I)Z -/
def xt_239 : xT := [[some (.aload_n 0, 0, 0, 0), some (.getfield 7, 12, 0, 0), none, none, some (.sipush 2490, 0, 0, 0), none, none, some (.iload_n 1, 0, 0, 0)],
  [some (.iadd, 0, 0, 0), some (.iaload, 0, 0, 0), some (.iconst 1, 0, 0, 0), some (.if_icmp .ne 7, 18, 0, 0), none, none, some (.iconst 1, 0, 0, 0), some (.goto 4, 19, 0, 0)],
  [none, none, some (.iconst 0, 0, 0, 0), some (.istore_n 2, 0, 0, 0), some (.iconst 0, 0, 0, 0), some (.istore_n 3, 0, 0, 0), some (.iload_n 3, 0, 0, 0), some (.aload_n 0, 0, 0, 0)],
  [some (.getfield 7, 12, 0, 0), none, none, some (.sipush 2482, 0, 0, 0), none, none, some (.iaload, 0, 0, 0), some (.if_icmp .ge 36, 67, 0, 0)],
  [none, none, some (.iload_n 2, 0, 0, 0), some (.ifCond .ne 20, 55, 0, 0), none, none, some (.aload_n 0, 0, 0, 0), some (.getfield 7, 12, 0, 0)],
  [none, none, some (.sipush 2520, 0, 0, 0), none, none, some (.bipush 14, 0, 0, 0), none, some (.iload_n 3, 0, 0, 0)],
  [some (.imul, 0, 0, 0), some (.iadd, 0, 0, 0), some (.iaload, 0, 0, 0), some (.iload_n 1, 0, 0, 0), some (.if_icmp .ne 7, 59, 0, 0), none, none, some (.iconst 1, 0, 0, 0)],
  [some (.goto 4, 60, 0, 0), none, none, some (.iconst 0, 0, 0, 0), some (.istore_n 2, 0, 0, 0), some (.iinc 3 1, 0, 0, 0), none, none],
  [some (.goto (-42), 22, 0, 0), none, none, some (.iload_n 2, 0, 0, 0), some (.ireturn, 0, 0, 0)]]
