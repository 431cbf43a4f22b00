/-- LaterPrintsModel.aPerson()Z -/
def xt_240 : xT := [[some (.sipush 2520, 0, 0, 0), none, none, some (.bipush 14, 0, 0, 0), none, some (.aload_n 0, 0, 0, 0), some (.getfield 7, 12, 0, 0), none],
  [none, some (.sipush 2482, 0, 0, 0), none, none, some (.iaload, 0, 0, 0), some (.imul, 0, 0, 0), some (.iadd, 0, 0, 0), some (.istore_n 1, 0, 0, 0)],
  [some (.aload_n 0, 0, 0, 0), some (.iconst 2, 0, 0, 0), some (.iconst 5, 0, 0, 0), some (.iconst 0, 0, 0, 0), some (.invokevirtual 193, 236, 4, 12), none, none, some (.ifCond .eq 23, 46, 0, 0)],
  [none, none, some (.aload_n 0, 0, 0, 0), some (.ldc 177, 1, 1, 0), none, some (.bipush 13, 0, 0, 0), none, some (.invokevirtual 196, 228, 3, 12)],
  [none, none, some (.ifCond .eq 12, 46, 0, 0), none, none, some (.aload_n 0, 0, 0, 0), some (.iload_n 1, 0, 0, 0), some (.iconst 1, 0, 0, 0)],
  [some (.invokevirtual 200, 238, 3, 12), none, none, some (.ifCond .ne 5, 48, 0, 0), none, none, some (.iconst 0, 0, 0, 0), some (.ireturn, 0, 0, 0)],
  [some (.aload_n 0, 0, 0, 0), some (.getfield 7, 12, 0, 0), none, none, some (.iload_n 1, 0, 0, 0), some (.iconst 2, 0, 0, 0), some (.iadd, 0, 0, 0), some (.iconst (-1), 0, 0, 0)],
  [some (.iastore, 0, 0, 0), some (.aload_n 0, 0, 0, 0), some (.bipush 14, 0, 0, 0), none, some (.invokevirtual 204, 235, 2, 12), none, none, some (.ifCond .eq 16, 79, 0, 0)],
  [none, none, some (.aload_n 0, 0, 0, 0), some (.iload_n 1, 0, 0, 0), some (.iconst 1, 0, 0, 0), some (.iadd, 0, 0, 0), some (.iconst 0, 0, 0, 0), some (.bipush 99, 0, 0, 0)],
  [none, some (.invokevirtual 186, 229, 4, 12), none, none, some (.ifCond .eq 37, 113, 0, 0), none, none, some (.aload_n 0, 0, 0, 0)],
  [some (.bipush 15, 0, 0, 0), none, some (.invokevirtual 204, 235, 2, 12), none, none, some (.ifCond .eq 17, 102, 0, 0), none, none],
  [some (.aload_n 0, 0, 0, 0), some (.iload_n 1, 0, 0, 0), some (.iconst 2, 0, 0, 0), some (.iadd, 0, 0, 0), some (.iconst 1, 0, 0, 0), some (.sipush 999, 0, 0, 0), none, none],
  [some (.invokevirtual 186, 229, 4, 12), none, none, some (.ifCond .eq 14, 113, 0, 0), none, none, some (.aload_n 0, 0, 0, 0), some (.ldc 177, 1, 1, 0)],
  [none, some (.bipush 16, 0, 0, 0), none, some (.invokevirtual 196, 228, 3, 12), none, none, some (.ifCond .ne 5, 115, 0, 0), none],
  [none, some (.iconst 0, 0, 0, 0), some (.ireturn, 0, 0, 0), some (.aload_n 0, 0, 0, 0), some (.ldc 177, 1, 1, 0), none, some (.invokevirtual 169, 224, 2, 12), none],
  [none, some (.iconst 4, 0, 0, 0), some (.if_icmp .gt 12, 134, 0, 0), none, none, some (.aload_n 0, 0, 0, 0), some (.ldc 177, 1, 1, 0), none],
  [some (.invokevirtual 169, 224, 2, 12), none, none, some (.ifCond .ge 9, 140, 0, 0), none, none, some (.aload_n 0, 0, 0, 0), some (.iconst 2, 0, 0, 0)],
  [some (.invokevirtual 166, 225, 2, 12), none, none, some (.ireturn, 0, 0, 0), some (.aload_n 0, 0, 0, 0), some (.ldc 177, 1, 1, 0), none, some (.invokevirtual 169, 224, 2, 12)],
  [none, none, some (.ifCond .lt 76, 222, 0, 0), none, none, some (.aload_n 0, 0, 0, 0), some (.ldc 177, 1, 1, 0), none],
  [some (.invokevirtual 169, 224, 2, 12), none, none, some (.iconst 4, 0, 0, 0), some (.if_icmp .gt 66, 222, 0, 0), none, none, some (.aload_n 0, 0, 0, 0)],
  [some (.getfield 7, 12, 0, 0), none, none, some (.iload_n 1, 0, 0, 0), some (.iconst 3, 0, 0, 0), some (.iadd, 0, 0, 0), some (.iaload, 0, 0, 0), some (.bipush 8, 0, 0, 0)],
  [none, some (.if_icmp .ne 10, 179, 0, 0), none, none, some (.aload_n 0, 0, 0, 0), some (.bipush 6, 0, 0, 0), none, some (.invokevirtual 166, 225, 2, 12)],
  [none, none, some (.ireturn, 0, 0, 0), some (.aload_n 0, 0, 0, 0), some (.getfield 7, 12, 0, 0), none, none, some (.iload_n 1, 0, 0, 0)],
  [some (.bipush 6, 0, 0, 0), none, some (.iadd, 0, 0, 0), some (.aload_n 0, 0, 0, 0), some (.getfield 7, 12, 0, 0), none, none, some (.iload_n 1, 0, 0, 0)],
  [some (.iconst 3, 0, 0, 0), some (.iadd, 0, 0, 0), some (.iaload, 0, 0, 0), some (.iadd, 0, 0, 0), some (.aload_n 0, 0, 0, 0), some (.ldc 177, 1, 1, 0), none, some (.invokevirtual 169, 224, 2, 12)],
  [none, none, some (.iastore, 0, 0, 0), some (.aload_n 0, 0, 0, 0), some (.getfield 7, 12, 0, 0), none, none, some (.iload_n 1, 0, 0, 0)],
  [some (.iconst 3, 0, 0, 0), some (.iadd, 0, 0, 0), some (.dup2, 0, 0, 0), some (.iaload, 0, 0, 0), some (.iconst 1, 0, 0, 0), some (.iadd, 0, 0, 0), some (.iastore, 0, 0, 0), some (.aload_n 0, 0, 0, 0)],
  [some (.invokevirtual 160, 222, 1, 12), none, none, some (.goto (-79), 140, 0, 0), none, none, some (.aload_n 0, 0, 0, 0), some (.getfield 7, 12, 0, 0)],
  [none, none, some (.iload_n 1, 0, 0, 0), some (.iconst 5, 0, 0, 0), some (.iadd, 0, 0, 0), some (.aload_n 0, 0, 0, 0), some (.getfield 7, 12, 0, 0), none],
  [none, some (.iload_n 1, 0, 0, 0), some (.iaload, 0, 0, 0), some (.iastore, 0, 0, 0), some (.aload_n 0, 0, 0, 0), some (.getfield 7, 12, 0, 0), none, none],
  [some (.iload_n 1, 0, 0, 0), some (.iconst 4, 0, 0, 0), some (.iadd, 0, 0, 0), some (.aload_n 0, 0, 0, 0), some (.getfield 7, 12, 0, 0), none, none, some (.iload_n 1, 0, 0, 0)],
  [some (.iconst 1, 0, 0, 0), some (.iadd, 0, 0, 0), some (.iaload, 0, 0, 0), some (.ifCond .ne 7, 258, 0, 0), none, none, some (.iconst 1, 0, 0, 0), some (.goto 4, 259, 0, 0)],
  [none, none, some (.iconst 0, 0, 0, 0), some (.iastore, 0, 0, 0), some (.aload_n 0, 0, 0, 0), some (.getfield 7, 12, 0, 0), none, none],
  [some (.sipush 2482, 0, 0, 0), none, none, some (.dup2, 0, 0, 0), some (.iaload, 0, 0, 0), some (.iconst 1, 0, 0, 0), some (.iadd, 0, 0, 0), some (.iastore, 0, 0, 0)],
  [some (.iconst 1, 0, 0, 0), some (.ireturn, 0, 0, 0)]]
/-- LaterPrintsModel.aSight()Z -/
def xt_241 : xT := [[some (.sipush 2590, 0, 0, 0), none, none, some (.iconst 3, 0, 0, 0), some (.aload_n 0, 0, 0, 0), some (.getfield 7, 12, 0, 0), none, none],
  [some (.sipush 2483, 0, 0, 0), none, none, some (.iaload, 0, 0, 0), some (.imul, 0, 0, 0), some (.iadd, 0, 0, 0), some (.istore_n 1, 0, 0, 0), some (.aload_n 0, 0, 0, 0)],
  [some (.iconst 3, 0, 0, 0), some (.bipush 6, 0, 0, 0), none, some (.iconst 5, 0, 0, 0), some (.invokevirtual 193, 236, 4, 12), none, none, some (.ifCond .ne 5, 28, 0, 0)],
  [none, none, some (.iconst 0, 0, 0, 0), some (.ireturn, 0, 0, 0), some (.aload_n 0, 0, 0, 0), some (.getfield 7, 12, 0, 0), none, none],
  [some (.iload_n 1, 0, 0, 0), some (.iconst 2, 0, 0, 0), some (.iastore, 0, 0, 0), some (.aload_n 0, 0, 0, 0), some (.bipush 19, 0, 0, 0), none, some (.invokevirtual 204, 235, 2, 12), none],
  [none, some (.ifCond .ne 135, 176, 0, 0), none, none, some (.aload_n 0, 0, 0, 0), some (.ldc 177, 1, 1, 0), none, some (.bipush 17, 0, 0, 0)],
  [none, some (.invokevirtual 196, 228, 3, 12), none, none, some (.ifCond .eq 13, 65, 0, 0), none, none, some (.aload_n 0, 0, 0, 0)],
  [some (.iload_n 1, 0, 0, 0), some (.iconst 1, 0, 0, 0), some (.iadd, 0, 0, 0), some (.invokevirtual 207, 237, 2, 12), none, none, some (.ifCond .ne 5, 67, 0, 0), none],
  [none, some (.iconst 0, 0, 0, 0), some (.ireturn, 0, 0, 0), some (.aload_n 0, 0, 0, 0), some (.getfield 7, 12, 0, 0), none, none, some (.iload_n 1, 0, 0, 0)],
  [some (.aload_n 0, 0, 0, 0), some (.ldc 177, 1, 1, 0), none, some (.invokevirtual 169, 224, 2, 12), none, none, some (.bipush 13, 0, 0, 0), none],
  [some (.if_icmp .ne 7, 87, 0, 0), none, none, some (.iconst 0, 0, 0, 0), some (.goto 4, 88, 0, 0), none, none, some (.iconst 1, 0, 0, 0)],
  [some (.iastore, 0, 0, 0), some (.aload_n 0, 0, 0, 0), some (.bipush 13, 0, 0, 0), none, some (.invokevirtual 204, 235, 2, 12), none, none, some (.ifCond .eq 16, 111, 0, 0)],
  [none, none, some (.aload_n 0, 0, 0, 0), some (.iload_n 1, 0, 0, 0), some (.iconst 2, 0, 0, 0), some (.iadd, 0, 0, 0), some (.iconst 0, 0, 0, 0), some (.invokevirtual 200, 238, 3, 12)],
  [none, none, some (.ifCond .ne 70, 176, 0, 0), none, none, some (.iconst 0, 0, 0, 0), some (.ireturn, 0, 0, 0), some (.aload_n 0, 0, 0, 0)],
  [some (.ldc 177, 1, 1, 0), none, some (.bipush 18, 0, 0, 0), none, some (.invokevirtual 196, 228, 3, 12), none, none, some (.ifCond .ne 5, 124, 0, 0)],
  [none, none, some (.iconst 0, 0, 0, 0), some (.ireturn, 0, 0, 0), some (.aload_n 0, 0, 0, 0), some (.ldc 177, 1, 1, 0), none, some (.invokevirtual 179, 230, 2, 12)],
  [none, none, some (.ifCond .eq 34, 164, 0, 0), none, none, some (.aload_n 0, 0, 0, 0), some (.bipush 60, 0, 0, 0), none],
  [some (.aload_n 0, 0, 0, 0), some (.getfield 7, 12, 0, 0), none, none, some (.sipush 2482, 0, 0, 0), none, none, some (.iaload, 0, 0, 0)],
  [some (.invokevirtual 183, 232, 3, 12), none, none, some (.aload_n 0, 0, 0, 0), some (.getfield 7, 12, 0, 0), none, none, some (.iload_n 1, 0, 0, 0)],
  [some (.iconst 1, 0, 0, 0), some (.iadd, 0, 0, 0), some (.iaload, 0, 0, 0), some (.if_icmp .ne 9, 164, 0, 0), none, none, some (.aload_n 0, 0, 0, 0), some (.iconst 5, 0, 0, 0)],
  [some (.invokevirtual 166, 225, 2, 12), none, none, some (.ireturn, 0, 0, 0), some (.aload_n 0, 0, 0, 0), some (.iload_n 1, 0, 0, 0), some (.iconst 2, 0, 0, 0), some (.iadd, 0, 0, 0)],
  [some (.invokevirtual 207, 237, 2, 12), none, none, some (.ifCond .ne 5, 176, 0, 0), none, none, some (.iconst 0, 0, 0, 0), some (.ireturn, 0, 0, 0)],
  [some (.aload_n 0, 0, 0, 0), some (.getfield 7, 12, 0, 0), none, none, some (.sipush 2483, 0, 0, 0), none, none, some (.dup2, 0, 0, 0)],
  [some (.iaload, 0, 0, 0), some (.iconst 1, 0, 0, 0), some (.iadd, 0, 0, 0), some (.iastore, 0, 0, 0), some (.iconst 1, 0, 0, 0), some (.ireturn, 0, 0, 0)]]
/-- LaterPrintsModel.aBuyer()Z -/
def xt_242 : xT := [[some (.sipush 2608, 0, 0, 0), none, none, some (.aload_n 0, 0, 0, 0), some (.getfield 7, 12, 0, 0), none, none, some (.sipush 2484, 0, 0, 0)],
  [none, none, some (.iaload, 0, 0, 0), some (.iadd, 0, 0, 0), some (.istore_n 1, 0, 0, 0), some (.aload_n 0, 0, 0, 0), some (.iconst 4, 0, 0, 0), some (.iconst 4, 0, 0, 0)],
  [some (.bipush 11, 0, 0, 0), none, some (.invokevirtual 193, 236, 4, 12), none, none, some (.ifCond .ne 5, 26, 0, 0), none, none],
  [some (.iconst 0, 0, 0, 0), some (.ireturn, 0, 0, 0), some (.aload_n 0, 0, 0, 0), some (.getfield 7, 12, 0, 0), none, none, some (.iload_n 1, 0, 0, 0), some (.bipush 100, 0, 0, 0)],
  [none, some (.iastore, 0, 0, 0), some (.aload_n 0, 0, 0, 0), some (.bipush 20, 0, 0, 0), none, some (.invokevirtual 204, 235, 2, 12), none, none],
  [some (.ifCond .eq 17, 57, 0, 0), none, none, some (.aload_n 0, 0, 0, 0), some (.iload_n 1, 0, 0, 0), some (.iconst 0, 0, 0, 0), some (.sipush 9999, 0, 0, 0), none],
  [none, some (.invokevirtual 186, 229, 4, 12), none, none, some (.ifCond .ne 5, 57, 0, 0), none, none, some (.iconst 0, 0, 0, 0)],
  [some (.ireturn, 0, 0, 0), some (.aload_n 0, 0, 0, 0), some (.getfield 7, 12, 0, 0), none, none, some (.sipush 2484, 0, 0, 0), none, none],
  [some (.dup2, 0, 0, 0), some (.iaload, 0, 0, 0), some (.iconst 1, 0, 0, 0), some (.iadd, 0, 0, 0), some (.iastore, 0, 0, 0), some (.iconst 1, 0, 0, 0), some (.ireturn, 0, 0, 0)]]
/-- LaterPrintsModel.scenePart()Z -/
def xt_243 : xT := [[some (.aload_n 0, 0, 0, 0), some (.ldc 177, 1, 1, 0), none, some (.invokevirtual 169, 224, 2, 12), none, none, some (.istore_n 1, 0, 0, 0), some (.iload_n 1, 0, 0, 0)],
  [some (.iconst 5, 0, 0, 0), some (.if_icmp .lt 32, 41, 0, 0), none, none, some (.iload_n 1, 0, 0, 0), some (.bipush 10, 0, 0, 0), none, some (.if_icmp .gt 26, 41, 0, 0)],
  [none, none, some (.iload_n 1, 0, 0, 0), some (.bipush 7, 0, 0, 0), none, some (.if_icmp .lt 26, 47, 0, 0), none, none],
  [some (.iload_n 1, 0, 0, 0), some (.bipush 9, 0, 0, 0), none, some (.if_icmp .gt 20, 47, 0, 0), none, none, some (.aload_n 0, 0, 0, 0), some (.getfield 7, 12, 0, 0)],
  [none, none, some (.sipush 2480, 0, 0, 0), none, none, some (.iaload, 0, 0, 0), some (.ifCond .ne 9, 47, 0, 0), none],
  [none, some (.aload_n 0, 0, 0, 0), some (.iconst 2, 0, 0, 0), some (.invokevirtual 166, 225, 2, 12), none, none, some (.ireturn, 0, 0, 0), some (.iload_n 1, 0, 0, 0)],
  [some (.bipush 6, 0, 0, 0), none, some (.if_icmp .gt 21, 71, 0, 0), none, none, some (.aload_n 0, 0, 0, 0), some (.getfield 210, 12, 20, 0), none],
  [none, some (.iload_n 1, 0, 0, 0), some (.ishr, 0, 0, 0), some (.iconst 1, 0, 0, 0), some (.iand, 0, 0, 0), some (.iconst 1, 0, 0, 0), some (.if_icmp .ne 9, 71, 0, 0), none],
  [none, some (.aload_n 0, 0, 0, 0), some (.iconst 5, 0, 0, 0), some (.invokevirtual 166, 225, 2, 12), none, none, some (.ireturn, 0, 0, 0), some (.aload_n 0, 0, 0, 0)],
  [some (.dup, 0, 0, 0), some (.getfield 210, 12, 20, 0), none, none, some (.iconst 1, 0, 0, 0), some (.iload_n 1, 0, 0, 0), some (.ishl, 0, 0, 0), some (.ior, 0, 0, 0)],
  [some (.putfield 210, 12, 20, 0), none, none, some (.iload_n 1, 0, 0, 0), some (.tableswitch 189 5 9 #[36, 85, 135, 173, 181], 0, 36, 0), none, none, none],
  [none, none, none, none, none, none, none, none],
  [none, none, none, none, none, none, none, none],
  [none, none, none, none, none, none, none, none],
  [none, none, none, none, none, none, none, none],
  [some (.aload_n 0, 0, 0, 0), some (.invokevirtual 160, 222, 1, 12), none, none, some (.aload_n 0, 0, 0, 0), some (.sipush 2480, 0, 0, 0), none, none],
  [some (.iconst 1, 0, 0, 0), some (.bipush 6, 0, 0, 0), none, some (.invokevirtual 186, 229, 4, 12), none, none, some (.ifCond .eq 30, 164, 0, 0), none],
  [none, some (.aload_n 0, 0, 0, 0), some (.ldc 177, 1, 1, 0), none, some (.bipush 11, 0, 0, 0), none, some (.invokevirtual 196, 228, 3, 12), none],
  [none, some (.ifCond .eq 19, 164, 0, 0), none, none, some (.aload_n 0, 0, 0, 0), some (.sipush 2481, 0, 0, 0), none, none],
  [some (.iconst 1, 0, 0, 0), some (.iconst 5, 0, 0, 0), some (.invokevirtual 186, 229, 4, 12), none, none, some (.ifCond .eq 7, 164, 0, 0), none, none],
  [some (.iconst 1, 0, 0, 0), some (.goto 4, 165, 0, 0), none, none, some (.iconst 0, 0, 0, 0), some (.istore_n 2, 0, 0, 0), some (.goto 112, 278, 0, 0), none],
  [none, some (.aload_n 0, 0, 0, 0), some (.invokevirtual 160, 222, 1, 12), none, none, some (.aload_n 0, 0, 0, 0), some (.sipush 2486, 0, 0, 0), none],
  [none, some (.iconst 0, 0, 0, 0), some (.bipush 99, 0, 0, 0), none, some (.invokevirtual 186, 229, 4, 12), none, none, some (.ifCond .eq 31, 214, 0, 0)],
  [none, none, some (.aload_n 0, 0, 0, 0), some (.ldc 177, 1, 1, 0), none, some (.bipush 12, 0, 0, 0), none, some (.invokevirtual 196, 228, 3, 12)],
  [none, none, some (.ifCond .eq 20, 214, 0, 0), none, none, some (.aload_n 0, 0, 0, 0), some (.sipush 2487, 0, 0, 0), none],
  [none, some (.iconst 0, 0, 0, 0), some (.bipush 20, 0, 0, 0), none, some (.invokevirtual 186, 229, 4, 12), none, none, some (.ifCond .eq 7, 214, 0, 0)],
  [none, none, some (.iconst 1, 0, 0, 0), some (.goto 4, 215, 0, 0), none, none, some (.iconst 0, 0, 0, 0), some (.istore_n 2, 0, 0, 0)],
  [some (.goto 62, 278, 0, 0), none, none, some (.aload_n 0, 0, 0, 0), some (.invokevirtual 160, 222, 1, 12), none, none, some (.aload_n 0, 0, 0, 0)],
  [some (.sipush 3094, 0, 0, 0), none, none, some (.iconst 1, 0, 0, 0), some (.invokevirtual 200, 238, 3, 12), none, none, some (.istore_n 2, 0, 0, 0)],
  [some (.iload_n 2, 0, 0, 0), some (.ifCond .eq 45, 278, 0, 0), none, none, some (.aload_n 0, 0, 0, 0), some (.getfield 7, 12, 0, 0), none, none],
  [some (.sipush 2490, 0, 0, 0), none, none, some (.aload_n 0, 0, 0, 0), some (.getfield 7, 12, 0, 0), none, none, some (.sipush 3094, 0, 0, 0)],
  [none, none, some (.iaload, 0, 0, 0), some (.iadd, 0, 0, 0), some (.iconst 1, 0, 0, 0), some (.iastore, 0, 0, 0), some (.goto 24, 278, 0, 0), none],
  [none, some (.aload_n 0, 0, 0, 0), some (.invokevirtual 213, 240, 1, 12), none, none, some (.istore_n 2, 0, 0, 0), some (.goto 16, 278, 0, 0), none],
  [none, some (.aload_n 0, 0, 0, 0), some (.invokevirtual 217, 241, 1, 12), none, none, some (.istore_n 2, 0, 0, 0), some (.goto 8, 278, 0, 0), none],
  [none, some (.aload_n 0, 0, 0, 0), some (.invokevirtual 220, 242, 1, 12), none, none, some (.istore_n 2, 0, 0, 0), some (.iload_n 2, 0, 0, 0), some (.ifCond .eq 16, 295, 0, 0)],
  [none, none, some (.aload_n 0, 0, 0, 0), some (.bipush 59, 0, 0, 0), none, some (.invokevirtual 223, 227, 2, 12), none, none],
  [some (.ifCond .eq 7, 295, 0, 0), none, none, some (.iconst 1, 0, 0, 0), some (.goto 4, 296, 0, 0), none, none, some (.iconst 0, 0, 0, 0)],
  [some (.ireturn, 0, 0, 0)]]
/-- LaterPrintsModel.scene(I)I -/
def xt_244 : xT := [[some (.aload_n 0, 0, 0, 0), some (.iload_n 1, 0, 0, 0), some (.sipush 900, 0, 0, 0), none, none, some (.invokevirtual 226, 226, 3, 12), none, none],
  [some (.ifCond .ne 9, 17, 0, 0), none, none, some (.aload_n 0, 0, 0, 0), some (.iconst 1, 0, 0, 0), some (.invokevirtual 84, 205, 2, 12), none, none],
  [some (.ireturn, 0, 0, 0), some (.aload_n 0, 0, 0, 0), some (.sipush 2480, 0, 0, 0), none, none, some (.invokevirtual 74, 200, 2, 12), none, none],
  [some (.aload_n 0, 0, 0, 0), some (.iconst 0, 0, 0, 0), some (.putfield 210, 12, 20, 0), none, none, some (.iconst 1, 0, 0, 0), some (.istore_n 2, 0, 0, 0), some (.iload_n 2, 0, 0, 0)],
  [some (.ifCond .eq 18, 50, 0, 0), none, none, some (.aload_n 0, 0, 0, 0), some (.getfield 129, 12, 12, 0), none, none, some (.ifCond .eq 11, 50, 0, 0)],
  [none, none, some (.aload_n 0, 0, 0, 0), some (.invokevirtual 230, 243, 1, 12), none, none, some (.istore_n 2, 0, 0, 0), some (.goto (-16), 31, 0, 0)],
  [none, none, some (.aload_n 0, 0, 0, 0), some (.getfield 154, 12, 18, 0), none, none, some (.ifCond .ne 63, 117, 0, 0), none],
  [none, some (.iconst 0, 0, 0, 0), some (.istore_n 3, 0, 0, 0), some (.iload_n 3, 0, 0, 0), some (.sipush 620, 0, 0, 0), none, none, some (.if_icmp .ge 25, 88, 0, 0)],
  [none, none, some (.aload_n 0, 0, 0, 0), some (.getfield 7, 12, 0, 0), none, none, some (.iload_n 3, 0, 0, 0), some (.aload_n 0, 0, 0, 0)],
  [some (.getfield 7, 12, 0, 0), none, none, some (.sipush 2480, 0, 0, 0), none, none, some (.iload_n 3, 0, 0, 0), some (.iadd, 0, 0, 0)],
  [some (.iaload, 0, 0, 0), some (.iastore, 0, 0, 0), some (.iinc 3 1, 0, 0, 0), none, none, some (.goto (-26), 59, 0, 0), none, none],
  [some (.iconst 0, 0, 0, 0), some (.istore_n 3, 0, 0, 0), some (.iload_n 3, 0, 0, 0), some (.bipush 15, 0, 0, 0), none, some (.if_icmp .ge 24, 117, 0, 0), none, none],
  [some (.aload_n 0, 0, 0, 0), some (.getfield 13, 12, 1, 0), none, none, some (.iload_n 3, 0, 0, 0), some (.aload_n 0, 0, 0, 0), some (.getfield 13, 12, 1, 0), none],
  [none, some (.bipush 60, 0, 0, 0), none, some (.iload_n 3, 0, 0, 0), some (.iadd, 0, 0, 0), some (.laload, 0, 0, 0), some (.lastore, 0, 0, 0), some (.iinc 3 1, 0, 0, 0)],
  [none, none, some (.goto (-24), 90, 0, 0), none, none, some (.aload_n 0, 0, 0, 0), some (.aload_n 0, 0, 0, 0), some (.getfield 7, 12, 0, 0)],
  [none, none, some (.iconst 3, 0, 0, 0), some (.iaload, 0, 0, 0), some (.invokevirtual 233, 234, 2, 12), none, none, some (.ireturn, 0, 0, 0)]]
/-- LaterPrintsModel.oldOne(III)Z -/
def xt_245 : xT := [[some (.aload_n 0, 0, 0, 0), some (.ldc 177, 1, 1, 0), none, some (.invokevirtual 179, 230, 2, 12), none, none, some (.ifCond .ne 9, 15, 0, 0), none],
  [none, some (.aload_n 0, 0, 0, 0), some (.iconst 2, 0, 0, 0), some (.invokevirtual 166, 225, 2, 12), none, none, some (.ireturn, 0, 0, 0), some (.aload_n 0, 0, 0, 0)],
  [some (.getfield 7, 12, 0, 0), none, none, some (.iload_n 3, 0, 0, 0), some (.aload_n 0, 0, 0, 0), some (.iload_n 1, 0, 0, 0), some (.iload_n 2, 0, 0, 0), some (.invokevirtual 183, 232, 3, 12)],
  [none, none, some (.iastore, 0, 0, 0), some (.aload_n 0, 0, 0, 0), some (.getfield 7, 12, 0, 0), none, none, some (.iload_n 3, 0, 0, 0)],
  [some (.iaload, 0, 0, 0), some (.iconst (-1), 0, 0, 0), some (.if_icmp .ne 9, 43, 0, 0), none, none, some (.aload_n 0, 0, 0, 0), some (.iconst 3, 0, 0, 0), some (.invokevirtual 166, 225, 2, 12)],
  [none, none, some (.ireturn, 0, 0, 0), some (.aload_n 0, 0, 0, 0), some (.invokevirtual 160, 222, 1, 12), none, none, some (.iconst 1, 0, 0, 0)],
  [some (.ireturn, 0, 0, 0)]]
/-- LaterPrintsModel.buyerTo(I)Z -/
def xt_246 : xT := [[some (.aload_n 0, 0, 0, 0), some (.bipush 11, 0, 0, 0), none, some (.aload_n 0, 0, 0, 0), some (.getfield 7, 12, 0, 0), none, none, some (.iconst 4, 0, 0, 0)],
  [some (.iaload, 0, 0, 0), some (.iload_n 1, 0, 0, 0), some (.invokevirtual 236, 245, 4, 12), none, none, some (.ireturn, 0, 0, 0)]]
/-- LaterPrintsModel.test(I)Z -/
def xt_247 : xT := [[some (.aload_n 0, 0, 0, 0), some (.ldc 177, 1, 1, 0), none, some (.invokevirtual 169, 224, 2, 12), none, none, some (.istore_n 2, 0, 0, 0), some (.iload_n 2, 0, 0, 0)],
  [some (.bipush 29, 0, 0, 0), none, some (.if_icmp .eq 21, 31, 0, 0), none, none, some (.iload_n 2, 0, 0, 0), some (.bipush 30, 0, 0, 0), none],
  [some (.if_icmp .eq 15, 31, 0, 0), none, none, some (.iload_n 2, 0, 0, 0), some (.bipush 20, 0, 0, 0), none, some (.if_icmp .eq 9, 31, 0, 0), none],
  [none, some (.aload_n 0, 0, 0, 0), some (.iconst 2, 0, 0, 0), some (.invokevirtual 166, 225, 2, 12), none, none, some (.ireturn, 0, 0, 0), some (.aload_n 0, 0, 0, 0)],
  [some (.getfield 7, 12, 0, 0), none, none, some (.iload_n 1, 0, 0, 0), some (.sipush 2500, 0, 0, 0), none, none, some (.iload_n 2, 0, 0, 0)],
  [some (.iadd, 0, 0, 0), some (.iastore, 0, 0, 0), some (.aload_n 0, 0, 0, 0), some (.invokevirtual 160, 222, 1, 12), none, none, some (.iload_n 2, 0, 0, 0), some (.bipush 29, 0, 0, 0)],
  [none, some (.if_icmp .ne 18, 67, 0, 0), none, none, some (.aload_n 0, 0, 0, 0), some (.iconst 5, 0, 0, 0), some (.aload_n 0, 0, 0, 0), some (.getfield 7, 12, 0, 0)],
  [none, none, some (.iconst 3, 0, 0, 0), some (.iaload, 0, 0, 0), some (.iload_n 1, 0, 0, 0), some (.iconst 1, 0, 0, 0), some (.iadd, 0, 0, 0), some (.invokevirtual 236, 245, 4, 12)],
  [none, none, some (.ireturn, 0, 0, 0), some (.iload_n 2, 0, 0, 0), some (.bipush 30, 0, 0, 0), none, some (.if_icmp .ne 18, 88, 0, 0), none],
  [none, some (.aload_n 0, 0, 0, 0), some (.iconst 0, 0, 0, 0), some (.aload_n 0, 0, 0, 0), some (.getfield 7, 12, 0, 0), none, none, some (.iconst 2, 0, 0, 0)],
  [some (.iaload, 0, 0, 0), some (.iload_n 1, 0, 0, 0), some (.iconst 1, 0, 0, 0), some (.iadd, 0, 0, 0), some (.invokevirtual 236, 245, 4, 12), none, none, some (.ireturn, 0, 0, 0)],
  [some (.aload_n 0, 0, 0, 0), some (.iload_n 1, 0, 0, 0), some (.iconst 1, 0, 0, 0), some (.iadd, 0, 0, 0), some (.invokevirtual 239, 246, 2, 12), none, none, some (.ifCond .ne 5, 100, 0, 0)],
  [none, none, some (.iconst 0, 0, 0, 0), some (.ireturn, 0, 0, 0), some (.aload_n 0, 0, 0, 0), some (.bipush 60, 0, 0, 0), none, some (.invokevirtual 163, 223, 2, 12)],
  [none, none, some (.ifCond .ne 27, 133, 0, 0), none, none, some (.aload_n 0, 0, 0, 0), some (.bipush 62, 0, 0, 0), none],
  [some (.invokevirtual 163, 223, 2, 12), none, none, some (.ifCond .ne 18, 133, 0, 0), none, none, some (.aload_n 0, 0, 0, 0), some (.bipush 61, 0, 0, 0)],
  [none, some (.invokevirtual 163, 223, 2, 12), none, none, some (.ifCond .ne 9, 133, 0, 0), none, none, some (.aload_n 0, 0, 0, 0)],
  [some (.iconst 2, 0, 0, 0), some (.invokevirtual 166, 225, 2, 12), none, none, some (.ireturn, 0, 0, 0), some (.aload_n 0, 0, 0, 0), some (.getfield 7, 12, 0, 0), none],
  [none, some (.iload_n 1, 0, 0, 0), some (.iconst 5, 0, 0, 0), some (.iadd, 0, 0, 0), some (.aload_n 0, 0, 0, 0), some (.getfield 126, 12, 15, 0), none, none],
  [some (.iastore, 0, 0, 0), some (.aload_n 0, 0, 0, 0), some (.invokevirtual 160, 222, 1, 12), none, none, some (.aload_n 0, 0, 0, 0), some (.iload_n 1, 0, 0, 0), some (.iconst 2, 0, 0, 0)],
  [some (.iadd, 0, 0, 0), some (.iconst 0, 0, 0, 0), some (.sipush 9999, 0, 0, 0), none, none, some (.invokevirtual 186, 229, 4, 12), none, none],
  [some (.ireturn, 0, 0, 0)]]
/-- LaterPrintsModel.runOrder(II)Z -/
def xt_248 : xT := [[some (.iload_n 1, 0, 0, 0), some (.tableswitch 122 21 26 #[39, 68, 79, 122, 116, 105], 0, 39, 0), none, none, none, none, none, none],
  [none, none, none, none, none, none, none, none],
  [none, none, none, none, none, none, none, none],
  [none, none, none, none, none, none, none, none],
  [none, none, none, none, none, none, none, none],
  [some (.aload_n 0, 0, 0, 0), some (.iload_n 2, 0, 0, 0), some (.iconst 1, 0, 0, 0), some (.iadd, 0, 0, 0), some (.invokevirtual 239, 246, 2, 12), none, none, some (.ifCond .eq 20, 67, 0, 0)],
  [none, none, some (.aload_n 0, 0, 0, 0), some (.iload_n 2, 0, 0, 0), some (.iconst 2, 0, 0, 0), some (.iadd, 0, 0, 0), some (.iconst 1, 0, 0, 0), some (.bipush 20, 0, 0, 0)],
  [none, some (.invokevirtual 186, 229, 4, 12), none, none, some (.ifCond .eq 7, 67, 0, 0), none, none, some (.iconst 1, 0, 0, 0)],
  [some (.goto 4, 68, 0, 0), none, none, some (.iconst 0, 0, 0, 0), some (.ireturn, 0, 0, 0), some (.aload_n 0, 0, 0, 0), some (.iload_n 2, 0, 0, 0), some (.iconst 1, 0, 0, 0)],
  [some (.iadd, 0, 0, 0), some (.iconst 1, 0, 0, 0), some (.bipush 20, 0, 0, 0), none, some (.invokevirtual 186, 229, 4, 12), none, none, some (.ireturn, 0, 0, 0)],
  [some (.aload_n 0, 0, 0, 0), some (.iload_n 2, 0, 0, 0), some (.iconst 1, 0, 0, 0), some (.iadd, 0, 0, 0), some (.invokevirtual 239, 246, 2, 12), none, none, some (.ifCond .eq 17, 104, 0, 0)],
  [none, none, some (.aload_n 0, 0, 0, 0), some (.iload_n 2, 0, 0, 0), some (.iconst 2, 0, 0, 0), some (.iadd, 0, 0, 0), some (.invokevirtual 239, 246, 2, 12), none],
  [none, some (.ifCond .eq 7, 104, 0, 0), none, none, some (.iconst 1, 0, 0, 0), some (.goto 4, 105, 0, 0), none, none],
  [some (.iconst 0, 0, 0, 0), some (.ireturn, 0, 0, 0), some (.aload_n 0, 0, 0, 0), some (.iload_n 2, 0, 0, 0), some (.iconst 1, 0, 0, 0), some (.iadd, 0, 0, 0), some (.iconst 1, 0, 0, 0), some (.bipush 99, 0, 0, 0)],
  [none, some (.invokevirtual 186, 229, 4, 12), none, none, some (.ireturn, 0, 0, 0), some (.aload_n 0, 0, 0, 0), some (.iload_n 2, 0, 0, 0), some (.invokevirtual 242, 247, 2, 12)],
  [none, none, some (.ireturn, 0, 0, 0), some (.iconst 1, 0, 0, 0), some (.ireturn, 0, 0, 0)]]
/-- LaterPrintsModel.runStep()Z -/
def xt_249 : xT := [[some (.aload_n 0, 0, 0, 0), some (.ldc 177, 1, 1, 0), none, some (.invokevirtual 169, 224, 2, 12), none, none, some (.istore_n 1, 0, 0, 0), some (.aload_n 0, 0, 0, 0)],
  [some (.getfield 7, 12, 0, 0), none, none, some (.sipush 2488, 0, 0, 0), none, none, some (.iaload, 0, 0, 0), some (.istore_n 2, 0, 0, 0)],
  [some (.sipush 2732, 0, 0, 0), none, none, some (.bipush 6, 0, 0, 0), none, some (.iload_n 2, 0, 0, 0), some (.imul, 0, 0, 0), some (.iadd, 0, 0, 0)],
  [some (.istore_n 3, 0, 0, 0), some (.iload_n 1, 0, 0, 0), some (.bipush 25, 0, 0, 0), none, some (.if_icmp .eq 9, 37, 0, 0), none, none, some (.iload_n 1, 0, 0, 0)],
  [some (.bipush 26, 0, 0, 0), none, some (.if_icmp .ne 7, 41, 0, 0), none, none, some (.iconst 1, 0, 0, 0), some (.goto 4, 42, 0, 0), none],
  [none, some (.iconst 0, 0, 0, 0), some (.istore 4, 0, 0, 0), none, some (.iload_n 1, 0, 0, 0), some (.bipush 21, 0, 0, 0), none, some (.if_icmp .lt 22, 69, 0, 0)],
  [none, none, some (.iload_n 1, 0, 0, 0), some (.bipush 28, 0, 0, 0), none, some (.if_icmp .gt 16, 69, 0, 0), none, none],
  [some (.iload_n 1, 0, 0, 0), some (.bipush 27, 0, 0, 0), none, some (.if_icmp .ne 16, 75, 0, 0), none, none, some (.aload_n 0, 0, 0, 0), some (.getfield 245, 12, 22, 0)],
  [none, none, some (.ifCond .ne 9, 75, 0, 0), none, none, some (.aload_n 0, 0, 0, 0), some (.iconst 2, 0, 0, 0), some (.invokevirtual 166, 225, 2, 12)],
  [none, none, some (.ireturn, 0, 0, 0), some (.iload_n 1, 0, 0, 0), some (.bipush 27, 0, 0, 0), none, some (.if_icmp .eq 19, 97, 0, 0), none],
  [none, some (.aload_n 0, 0, 0, 0), some (.getfield 248, 12, 23, 0), none, none, some (.bipush 30, 0, 0, 0), none, some (.if_icmp .ne 10, 97, 0, 0)],
  [none, none, some (.aload_n 0, 0, 0, 0), some (.bipush 6, 0, 0, 0), none, some (.invokevirtual 166, 225, 2, 12), none, none],
  [some (.ireturn, 0, 0, 0), some (.iload 4, 0, 0, 0), none, some (.ifCond .eq 18, 117, 0, 0), none, none, some (.aload_n 0, 0, 0, 0), some (.getfield 245, 12, 22, 0)],
  [none, none, some (.iconst 3, 0, 0, 0), some (.if_icmp .ne 10, 117, 0, 0), none, none, some (.aload_n 0, 0, 0, 0), some (.bipush 7, 0, 0, 0)],
  [none, some (.invokevirtual 166, 225, 2, 12), none, none, some (.ireturn, 0, 0, 0), some (.aload_n 0, 0, 0, 0), some (.dup, 0, 0, 0), some (.getfield 248, 12, 23, 0)],
  [none, none, some (.iload_n 1, 0, 0, 0), some (.bipush 27, 0, 0, 0), none, some (.if_icmp .ne 7, 132, 0, 0), none, none],
  [some (.iconst 0, 0, 0, 0), some (.goto 4, 133, 0, 0), none, none, some (.iconst 1, 0, 0, 0), some (.iadd, 0, 0, 0), some (.putfield 248, 12, 23, 0), none],
  [none, some (.aload_n 0, 0, 0, 0), some (.getfield 7, 12, 0, 0), none, none, some (.iload_n 3, 0, 0, 0), some (.iload_n 1, 0, 0, 0), some (.iastore, 0, 0, 0)],
  [some (.iconst 1, 0, 0, 0), some (.istore 5, 0, 0, 0), none, some (.iload 5, 0, 0, 0), none, some (.bipush 6, 0, 0, 0), none, some (.if_icmp .ge 19, 170, 0, 0)],
  [none, none, some (.aload_n 0, 0, 0, 0), some (.getfield 7, 12, 0, 0), none, none, some (.iload_n 3, 0, 0, 0), some (.iload 5, 0, 0, 0)],
  [none, some (.iadd, 0, 0, 0), some (.iconst 0, 0, 0, 0), some (.iastore, 0, 0, 0), some (.iinc 5 1, 0, 0, 0), none, none, some (.goto (-20), 147, 0, 0)],
  [none, none, some (.aload_n 0, 0, 0, 0), some (.getfield 7, 12, 0, 0), none, none, some (.sipush 2488, 0, 0, 0), none],
  [none, some (.dup2, 0, 0, 0), some (.iaload, 0, 0, 0), some (.iconst 1, 0, 0, 0), some (.iadd, 0, 0, 0), some (.iastore, 0, 0, 0), some (.aload_n 0, 0, 0, 0), some (.invokevirtual 160, 222, 1, 12)],
  [none, none, some (.aload_n 0, 0, 0, 0), some (.iload_n 1, 0, 0, 0), some (.iload_n 3, 0, 0, 0), some (.invokevirtual 251, 248, 3, 12), none, none],
  [some (.ifCond .ne 5, 197, 0, 0), none, none, some (.iconst 0, 0, 0, 0), some (.ireturn, 0, 0, 0), some (.iload 4, 0, 0, 0), none, some (.ifCond .eq 23, 222, 0, 0)],
  [none, none, some (.aload_n 0, 0, 0, 0), some (.getfield 44, 12, 21, 0), none, none, some (.aload_n 0, 0, 0, 0), some (.getfield 245, 12, 22, 0)],
  [none, none, some (.iload_n 2, 0, 0, 0), some (.iastore, 0, 0, 0), some (.aload_n 0, 0, 0, 0), some (.dup, 0, 0, 0), some (.getfield 245, 12, 22, 0), none],
  [none, some (.iconst 1, 0, 0, 0), some (.iadd, 0, 0, 0), some (.putfield 245, 12, 22, 0), none, none, some (.iload_n 1, 0, 0, 0), some (.bipush 27, 0, 0, 0)],
  [none, some (.if_icmp .ne 54, 279, 0, 0), none, none, some (.aload_n 0, 0, 0, 0), some (.dup, 0, 0, 0), some (.getfield 245, 12, 22, 0), none],
  [none, some (.iconst 1, 0, 0, 0), some (.isub, 0, 0, 0), some (.putfield 245, 12, 22, 0), none, none, some (.aload_n 0, 0, 0, 0), some (.getfield 7, 12, 0, 0)],
  [none, none, some (.iload_n 3, 0, 0, 0), some (.iconst 4, 0, 0, 0), some (.iadd, 0, 0, 0), some (.aload_n 0, 0, 0, 0), some (.getfield 44, 12, 21, 0), none],
  [none, some (.aload_n 0, 0, 0, 0), some (.getfield 245, 12, 22, 0), none, none, some (.iaload, 0, 0, 0), some (.iastore, 0, 0, 0), some (.aload_n 0, 0, 0, 0)],
  [some (.getfield 7, 12, 0, 0), none, none, some (.sipush 2732, 0, 0, 0), none, none, some (.bipush 6, 0, 0, 0), none],
  [some (.aload_n 0, 0, 0, 0), some (.getfield 44, 12, 21, 0), none, none, some (.aload_n 0, 0, 0, 0), some (.getfield 245, 12, 22, 0), none, none],
  [some (.iaload, 0, 0, 0), some (.imul, 0, 0, 0), some (.iadd, 0, 0, 0), some (.iconst 4, 0, 0, 0), some (.iadd, 0, 0, 0), some (.iload_n 2, 0, 0, 0), some (.iastore, 0, 0, 0), some (.aload_n 0, 0, 0, 0)],
  [some (.bipush 59, 0, 0, 0), none, some (.invokevirtual 223, 227, 2, 12), none, none, some (.ireturn, 0, 0, 0)]]
/-- LaterPrintsModel.runs(I)I -/
def xt_250 : xT := [[some (.aload_n 0, 0, 0, 0), some (.iload_n 1, 0, 0, 0), some (.sipush 300, 0, 0, 0), none, none, some (.invokevirtual 226, 226, 3, 12), none, none],
  [some (.ifCond .ne 9, 17, 0, 0), none, none, some (.aload_n 0, 0, 0, 0), some (.iconst 1, 0, 0, 0), some (.invokevirtual 84, 205, 2, 12), none, none],
  [some (.ireturn, 0, 0, 0), some (.aload_n 0, 0, 0, 0), some (.getfield 7, 12, 0, 0), none, none, some (.sipush 2488, 0, 0, 0), none, none],
  [some (.iconst 0, 0, 0, 0), some (.iastore, 0, 0, 0), some (.aload_n 0, 0, 0, 0), some (.iconst 0, 0, 0, 0), some (.putfield 245, 12, 22, 0), none, none, some (.aload_n 0, 0, 0, 0)],
  [some (.iconst 0, 0, 0, 0), some (.putfield 248, 12, 23, 0), none, none, some (.iconst 1, 0, 0, 0), some (.istore_n 2, 0, 0, 0), some (.iload_n 2, 0, 0, 0), some (.ifCond .eq 18, 57, 0, 0)],
  [none, none, some (.aload_n 0, 0, 0, 0), some (.getfield 129, 12, 12, 0), none, none, some (.ifCond .eq 11, 57, 0, 0), none],
  [none, some (.aload_n 0, 0, 0, 0), some (.invokevirtual 254, 249, 1, 12), none, none, some (.istore_n 2, 0, 0, 0), some (.goto (-16), 38, 0, 0), none],
  [none, some (.aload_n 0, 0, 0, 0), some (.getfield 154, 12, 18, 0), none, none, some (.ifCond .ne 16, 77, 0, 0), none, none],
  [some (.aload_n 0, 0, 0, 0), some (.getfield 245, 12, 22, 0), none, none, some (.ifCond .le 9, 77, 0, 0), none, none, some (.aload_n 0, 0, 0, 0)],
  [some (.iconst 2, 0, 0, 0), some (.invokevirtual 166, 225, 2, 12), none, none, some (.pop, 0, 0, 0), some (.aload_n 0, 0, 0, 0), some (.getfield 154, 12, 18, 0), none],
  [none, some (.ifCond .ne 51, 132, 0, 0), none, none, some (.aload_n 0, 0, 0, 0), some (.getfield 7, 12, 0, 0), none, none],
  [some (.bipush 8, 0, 0, 0), none, some (.aload_n 0, 0, 0, 0), some (.getfield 7, 12, 0, 0), none, none, some (.sipush 2488, 0, 0, 0), none],
  [none, some (.iaload, 0, 0, 0), some (.iastore, 0, 0, 0), some (.sipush 252, 0, 0, 0), none, none, some (.istore_n 3, 0, 0, 0), some (.iload_n 3, 0, 0, 0)],
  [some (.sipush 612, 0, 0, 0), none, none, some (.if_icmp .ge 25, 132, 0, 0), none, none, some (.aload_n 0, 0, 0, 0), some (.getfield 7, 12, 0, 0)],
  [none, none, some (.iload_n 3, 0, 0, 0), some (.aload_n 0, 0, 0, 0), some (.getfield 7, 12, 0, 0), none, none, some (.sipush 2480, 0, 0, 0)],
  [none, none, some (.iload_n 3, 0, 0, 0), some (.iadd, 0, 0, 0), some (.iaload, 0, 0, 0), some (.iastore, 0, 0, 0), some (.iinc 3 1, 0, 0, 0), none],
  [none, some (.goto (-26), 103, 0, 0), none, none, some (.aload_n 0, 0, 0, 0), some (.aload_n 0, 0, 0, 0), some (.getfield 248, 12, 23, 0), none],
  [none, some (.invokevirtual 233, 234, 2, 12), none, none, some (.ireturn, 0, 0, 0)]]
/-- LaterPrintsModel.personRow(I)I -/
def xt_251 : xT := [[some (.bipush 40, 0, 0, 0), none, some (.bipush 14, 0, 0, 0), none, some (.iload_n 0, 0, 0, 0), some (.imul, 0, 0, 0), some (.iadd, 0, 0, 0), some (.ireturn, 0, 0, 0)]]
/-- LaterPrintsModel.sightRow(I)I -/
def xt_252 : xT := [[some (.bipush 110, 0, 0, 0), none, some (.iconst 3, 0, 0, 0), some (.iload_n 0, 0, 0, 0), some (.imul, 0, 0, 0), some (.iadd, 0, 0, 0), some (.ireturn, 0, 0, 0)]]
/-- LaterPrintsModel.isCell(II)Z -/
def xt_253 : xT := [[some (.iload_n 1, 0, 0, 0), some (.ifCond .lt 31, 32, 0, 0), none, none, some (.iload_n 1, 0, 0, 0), some (.aload_n 0, 0, 0, 0), some (.getfield 7, 12, 0, 0), none],
  [none, some (.iconst 0, 0, 0, 0), some (.iaload, 0, 0, 0), some (.if_icmp .ge 21, 32, 0, 0), none, none, some (.iload_n 2, 0, 0, 0), some (.ifCond .lt 17, 32, 0, 0)],
  [none, none, some (.iload_n 2, 0, 0, 0), some (.aload_n 0, 0, 0, 0), some (.getfield 7, 12, 0, 0), none, none, some (.iconst 1, 0, 0, 0)],
  [some (.iaload, 0, 0, 0), some (.if_icmp .ge 7, 32, 0, 0), none, none, some (.iconst 1, 0, 0, 0), some (.goto 4, 33, 0, 0), none, none],
  [some (.iconst 0, 0, 0, 0), some (.ireturn, 0, 0, 0)]]
/-- LaterPrintsModel.isPerson(I)Z -/
def xt_254 : xT := [[some (.iload_n 1, 0, 0, 0), some (.ifCond .lt 17, 18, 0, 0), none, none, some (.iload_n 1, 0, 0, 0), some (.aload_n 0, 0, 0, 0), some (.getfield 7, 12, 0, 0), none],
  [none, some (.iconst 2, 0, 0, 0), some (.iaload, 0, 0, 0), some (.if_icmp .ge 7, 18, 0, 0), none, none, some (.iconst 1, 0, 0, 0), some (.goto 4, 19, 0, 0)],
  [none, none, some (.iconst 0, 0, 0, 0), some (.ireturn, 0, 0, 0)]]
/-- LaterPrintsModel.isSight(I)Z -/
def xt_255 : xT := [[some (.iload_n 1, 0, 0, 0), some (.ifCond .lt 17, 18, 0, 0), none, none, some (.iload_n 1, 0, 0, 0), some (.aload_n 0, 0, 0, 0), some (.getfield 7, 12, 0, 0), none],
  [none, some (.iconst 3, 0, 0, 0), some (.iaload, 0, 0, 0), some (.if_icmp .ge 7, 18, 0, 0), none, none, some (.iconst 1, 0, 0, 0), some (.goto 4, 19, 0, 0)],
  [none, none, some (.iconst 0, 0, 0, 0), some (.ireturn, 0, 0, 0)]]
/-- LaterPrintsModel.isBuyer(I)Z -/
def xt_256 : xT := [[some (.iload_n 1, 0, 0, 0), some (.ifCond .lt 17, 18, 0, 0), none, none, some (.iload_n 1, 0, 0, 0), some (.aload_n 0, 0, 0, 0), some (.getfield 7, 12, 0, 0), none],
  [none, some (.iconst 4, 0, 0, 0), some (.iaload, 0, 0, 0), some (.if_icmp .ge 7, 18, 0, 0), none, none, some (.iconst 1, 0, 0, 0), some (.goto 4, 19, 0, 0)],
  [none, none, some (.iconst 0, 0, 0, 0), some (.ireturn, 0, 0, 0)]]
/-- LaterPrintsModel.isMade(I)Z -/
def xt_257 : xT := [[some (.iload_n 1, 0, 0, 0), some (.iconst 1, 0, 0, 0), some (.if_icmp .lt 17, 19, 0, 0), none, none, some (.iload_n 1, 0, 0, 0), some (.aload_n 0, 0, 0, 0), some (.getfield 7, 12, 0, 0)],
  [none, none, some (.iconst 5, 0, 0, 0), some (.iaload, 0, 0, 0), some (.if_icmp .gt 7, 19, 0, 0), none, none, some (.iconst 1, 0, 0, 0)],
  [some (.goto 4, 20, 0, 0), none, none, some (.iconst 0, 0, 0, 0), some (.ireturn, 0, 0, 0)]]
/-- LaterPrintsModel.isIn(II)Z -/
def xt_258 : xT := [[some (.iload_n 1, 0, 0, 0), some (.iload_n 2, 0, 0, 0), some (.ishr, 0, 0, 0), some (.iconst 1, 0, 0, 0), some (.iand, 0, 0, 0), some (.iconst 1, 0, 0, 0), some (.if_icmp .ne 7, 13, 0, 0), none],
  [none, some (.iconst 1, 0, 0, 0), some (.goto 4, 14, 0, 0), none, none, some (.iconst 0, 0, 0, 0), some (.ireturn, 0, 0, 0)]]
/-- LaterPrintsModel.bits(I)I -/
def xt_259 : xT := [[some (.iconst 0, 0, 0, 0), some (.istore_n 1, 0, 0, 0), some (.iload_n 0, 0, 0, 0), some (.istore_n 2, 0, 0, 0), some (.iload_n 2, 0, 0, 0), some (.ifCond .eq 15, 20, 0, 0), none, none],
  [some (.iinc 1 1, 0, 0, 0), none, none, some (.iload_n 2, 0, 0, 0), some (.iload_n 2, 0, 0, 0), some (.iconst 1, 0, 0, 0), some (.isub, 0, 0, 0), some (.iand, 0, 0, 0)],
  [some (.istore_n 2, 0, 0, 0), some (.goto (-13), 4, 0, 0), none, none, some (.iload_n 1, 0, 0, 0), some (.ireturn, 0, 0, 0)]]
/-- LaterPrintsModel.personOf(II)I -/
def xt_260 : xT := [[some (.aload_n 0, 0, 0, 0), some (.getfield 7, 12, 0, 0), none, none, some (.iload_n 1, 0, 0, 0), some (.invokestatic 257, 251, 1, 0), none, none],
  [some (.iload_n 2, 0, 0, 0), some (.iadd, 0, 0, 0), some (.iaload, 0, 0, 0), some (.ireturn, 0, 0, 0)]]
/-- LaterPrintsModel.isHere(I)Z -/
def xt_261 : xT := [[some (.aload_n 0, 0, 0, 0), some (.iload_n 1, 0, 0, 0), some (.iconst 4, 0, 0, 0), some (.invokevirtual 260, 260, 3, 12), none, none, some (.iconst 1, 0, 0, 0), some (.if_icmp .ne 7, 14, 0, 0)],
  [none, none, some (.iconst 1, 0, 0, 0), some (.goto 4, 15, 0, 0), none, none, some (.iconst 0, 0, 0, 0), some (.ireturn, 0, 0, 0)]]
/-- LaterPrintsModel.isWall(I)Z -/
def xt_262 : xT := [[some (.aload_n 0, 0, 0, 0), some (.getfield 7, 12, 0, 0), none, none, some (.bipush 10, 0, 0, 0), none, some (.iload_n 1, 0, 0, 0), some (.iadd, 0, 0, 0)],
  [some (.iaload, 0, 0, 0), some (.iconst 1, 0, 0, 0), some (.if_icmp .ne 7, 17, 0, 0), none, none, some (.iconst 1, 0, 0, 0), some (.goto 4, 18, 0, 0), none],
  [none, some (.iconst 0, 0, 0, 0), some (.ireturn, 0, 0, 0)]]
/-- LaterPrintsModel.told10(I)I -/
def xt_263 : xT := [[some (.bipush 10, 0, 0, 0), none, some (.iload_n 0, 0, 0, 0), some (.bipush 6, 0, 0, 0), none, some (.idiv, 0, 0, 0), some (.imul, 0, 0, 0), some (.iload_n 0, 0, 0, 0)],
  [some (.bipush 6, 0, 0, 0), none, some (.irem, 0, 0, 0), some (.iadd, 0, 0, 0), some (.ireturn, 0, 0, 0)]]
/-- LaterPrintsModel.whoAt(I)I -/
def xt_264 : xT := [[some (.iconst 0, 0, 0, 0), some (.istore_n 2, 0, 0, 0), some (.iload_n 2, 0, 0, 0), some (.aload_n 0, 0, 0, 0), some (.getfield 7, 12, 0, 0), none, none, some (.iconst 2, 0, 0, 0)],
  [some (.iaload, 0, 0, 0), some (.if_icmp .ge 29, 38, 0, 0), none, none, some (.aload_n 0, 0, 0, 0), some (.iload_n 2, 0, 0, 0), some (.invokevirtual 263, 261, 2, 12), none],
  [none, some (.ifCond .eq 15, 32, 0, 0), none, none, some (.aload_n 0, 0, 0, 0), some (.iload_n 2, 0, 0, 0), some (.iconst 5, 0, 0, 0), some (.invokevirtual 260, 260, 3, 12)],
  [none, none, some (.iload_n 1, 0, 0, 0), some (.if_icmp .ne 5, 32, 0, 0), none, none, some (.iload_n 2, 0, 0, 0), some (.ireturn, 0, 0, 0)],
  [some (.iinc 2 1, 0, 0, 0), none, none, some (.goto (-33), 2, 0, 0), none, none, some (.iconst (-1), 0, 0, 0), some (.ireturn, 0, 0, 0)]]
/-- LaterPrintsModel.doesShow(I)Z -/
def xt_265 : xT := [[some (.iload_n 1, 0, 0, 0), some (.invokestatic 266, 252, 1, 0), none, none, some (.istore_n 2, 0, 0, 0), some (.aload_n 0, 0, 0, 0), some (.getfield 7, 12, 0, 0), none],
  [none, some (.iload_n 2, 0, 0, 0), some (.iaload, 0, 0, 0), some (.iconst 2, 0, 0, 0), some (.if_icmp .ne 33, 45, 0, 0), none, none, some (.iconst 0, 0, 0, 0)],
  [some (.istore_n 3, 0, 0, 0), some (.iload_n 3, 0, 0, 0), some (.aload_n 0, 0, 0, 0), some (.getfield 7, 12, 0, 0), none, none, some (.iconst 2, 0, 0, 0), some (.iaload, 0, 0, 0)],
  [some (.if_icmp .ge 19, 43, 0, 0), none, none, some (.aload_n 0, 0, 0, 0), some (.iload_n 3, 0, 0, 0), some (.invokevirtual 263, 261, 2, 12), none, none],
  [some (.ifCond .eq 5, 37, 0, 0), none, none, some (.iconst 0, 0, 0, 0), some (.ireturn, 0, 0, 0), some (.iinc 3 1, 0, 0, 0), none, none],
  [some (.goto (-23), 17, 0, 0), none, none, some (.iconst 1, 0, 0, 0), some (.ireturn, 0, 0, 0), some (.aload_n 0, 0, 0, 0), some (.aload_n 0, 0, 0, 0), some (.getfield 7, 12, 0, 0)],
  [none, none, some (.iload_n 2, 0, 0, 0), some (.iconst 1, 0, 0, 0), some (.iadd, 0, 0, 0), some (.iaload, 0, 0, 0), some (.invokevirtual 263, 261, 2, 12), none],
  [none, some (.ifCond .ne 5, 62, 0, 0), none, none, some (.iconst 0, 0, 0, 0), some (.ireturn, 0, 0, 0), some (.aload_n 0, 0, 0, 0), some (.aload_n 0, 0, 0, 0)],
  [some (.getfield 7, 12, 0, 0), none, none, some (.iload_n 2, 0, 0, 0), some (.iconst 1, 0, 0, 0), some (.iadd, 0, 0, 0), some (.iaload, 0, 0, 0), some (.iconst 5, 0, 0, 0)],
  [some (.invokevirtual 260, 260, 3, 12), none, none, some (.istore_n 3, 0, 0, 0), some (.aload_n 0, 0, 0, 0), some (.getfield 7, 12, 0, 0), none, none],
  [some (.iload_n 2, 0, 0, 0), some (.iaload, 0, 0, 0), some (.ifCond .ne 21, 103, 0, 0), none, none, some (.iload_n 3, 0, 0, 0), some (.aload_n 0, 0, 0, 0), some (.getfield 7, 12, 0, 0)],
  [none, none, some (.iload_n 2, 0, 0, 0), some (.iconst 2, 0, 0, 0), some (.iadd, 0, 0, 0), some (.iaload, 0, 0, 0), some (.if_icmp .ne 7, 101, 0, 0), none],
  [none, some (.iconst 1, 0, 0, 0), some (.goto 4, 102, 0, 0), none, none, some (.iconst 0, 0, 0, 0), some (.ireturn, 0, 0, 0), some (.aload_n 0, 0, 0, 0)],
  [some (.aload_n 0, 0, 0, 0), some (.getfield 7, 12, 0, 0), none, none, some (.iload_n 2, 0, 0, 0), some (.iconst 2, 0, 0, 0), some (.iadd, 0, 0, 0), some (.iaload, 0, 0, 0)],
  [some (.iconst 5, 0, 0, 0), some (.invokevirtual 260, 260, 3, 12), none, none, some (.istore 4, 0, 0, 0), none, some (.aload_n 0, 0, 0, 0), some (.aload_n 0, 0, 0, 0)],
  [some (.getfield 7, 12, 0, 0), none, none, some (.iload_n 2, 0, 0, 0), some (.iconst 2, 0, 0, 0), some (.iadd, 0, 0, 0), some (.iaload, 0, 0, 0), some (.invokevirtual 263, 261, 2, 12)],
  [none, none, some (.ifCond .eq 38, 168, 0, 0), none, none, some (.iload_n 3, 0, 0, 0), some (.bipush 6, 0, 0, 0), none],
  [some (.irem, 0, 0, 0), some (.iload 4, 0, 0, 0), none, some (.bipush 6, 0, 0, 0), none, some (.irem, 0, 0, 0), some (.isub, 0, 0, 0), some (.invokestatic 269, 5004, 1, 0)],
  [none, none, some (.iload_n 3, 0, 0, 0), some (.bipush 6, 0, 0, 0), none, some (.idiv, 0, 0, 0), some (.iload 4, 0, 0, 0), none],
  [some (.bipush 6, 0, 0, 0), none, some (.idiv, 0, 0, 0), some (.isub, 0, 0, 0), some (.invokestatic 269, 5004, 1, 0), none, none, some (.iadd, 0, 0, 0)],
  [some (.iconst 1, 0, 0, 0), some (.if_icmp .ne 7, 168, 0, 0), none, none, some (.iconst 1, 0, 0, 0), some (.goto 4, 169, 0, 0), none, none],
  [some (.iconst 0, 0, 0, 0), some (.ireturn, 0, 0, 0)]]
/-- LaterPrintsModel.shown()I -/
def xt_266 : xT := [[some (.iconst 0, 0, 0, 0), some (.istore_n 1, 0, 0, 0), some (.iconst 0, 0, 0, 0), some (.istore_n 2, 0, 0, 0), some (.iload_n 2, 0, 0, 0), some (.aload_n 0, 0, 0, 0), some (.getfield 7, 12, 0, 0), none],
  [none, some (.iconst 3, 0, 0, 0), some (.iaload, 0, 0, 0), some (.if_icmp .ge 27, 38, 0, 0), none, none, some (.iload_n 1, 0, 0, 0), some (.aload_n 0, 0, 0, 0)],
  [some (.iload_n 2, 0, 0, 0), some (.invokevirtual 272, 265, 2, 12), none, none, some (.ifCond .eq 9, 29, 0, 0), none, none, some (.iconst 1, 0, 0, 0)],
  [some (.iload_n 2, 0, 0, 0), some (.ishl, 0, 0, 0), some (.goto 4, 30, 0, 0), none, none, some (.iconst 0, 0, 0, 0), some (.ior, 0, 0, 0), some (.istore_n 1, 0, 0, 0)],
  [some (.iinc 2 1, 0, 0, 0), none, none, some (.goto (-31), 4, 0, 0), none, none, some (.iload_n 1, 0, 0, 0), some (.ireturn, 0, 0, 0)]]
/-- LaterPrintsModel.inState(I)I -/
def xt_267 : xT := [[some (.iconst 0, 0, 0, 0), some (.istore_n 2, 0, 0, 0), some (.iconst 0, 0, 0, 0), some (.istore_n 3, 0, 0, 0), some (.iload_n 3, 0, 0, 0), some (.aload_n 0, 0, 0, 0), some (.getfield 7, 12, 0, 0), none],
  [none, some (.iconst 2, 0, 0, 0), some (.iaload, 0, 0, 0), some (.if_icmp .ge 29, 40, 0, 0), none, none, some (.iload_n 2, 0, 0, 0), some (.aload_n 0, 0, 0, 0)],
  [some (.iload_n 3, 0, 0, 0), some (.iconst 4, 0, 0, 0), some (.invokevirtual 260, 260, 3, 12), none, none, some (.iload_n 1, 0, 0, 0), some (.if_icmp .ne 9, 31, 0, 0), none],
  [none, some (.iconst 1, 0, 0, 0), some (.iload_n 3, 0, 0, 0), some (.ishl, 0, 0, 0), some (.goto 4, 32, 0, 0), none, none, some (.iconst 0, 0, 0, 0)],
  [some (.ior, 0, 0, 0), some (.istore_n 2, 0, 0, 0), some (.iinc 3 1, 0, 0, 0), none, none, some (.goto (-33), 4, 0, 0), none, none],
  [some (.iload_n 2, 0, 0, 0), some (.ireturn, 0, 0, 0)]]
/-- LaterPrintsModel.sumOf(II)I -/
def xt_268 : xT := [[some (.iconst 0, 0, 0, 0), some (.istore_n 3, 0, 0, 0), some (.iconst 0, 0, 0, 0), some (.istore 4, 0, 0, 0), none, some (.iload 4, 0, 0, 0), none, some (.iload_n 2, 0, 0, 0)],
  [some (.if_icmp .ge 21, 29, 0, 0), none, none, some (.iload_n 3, 0, 0, 0), some (.aload_n 0, 0, 0, 0), some (.getfield 7, 12, 0, 0), none, none],
  [some (.iload_n 1, 0, 0, 0), some (.iload 4, 0, 0, 0), none, some (.iadd, 0, 0, 0), some (.iaload, 0, 0, 0), some (.iadd, 0, 0, 0), some (.istore_n 3, 0, 0, 0), some (.iinc 4 1, 0, 0, 0)],
  [none, none, some (.goto (-21), 5, 0, 0), none, none, some (.iload_n 3, 0, 0, 0), some (.ireturn, 0, 0, 0)]]
/-- LaterPrintsModel.printsOf(I)I -/
def xt_269 : xT := [[some (.iconst 0, 0, 0, 0), some (.istore_n 2, 0, 0, 0), some (.iconst 0, 0, 0, 0), some (.istore_n 3, 0, 0, 0), some (.iload_n 3, 0, 0, 0), some (.bipush 120, 0, 0, 0), none, some (.if_icmp .ge 58, 65, 0, 0)],
  [none, none, some (.iload_n 2, 0, 0, 0), some (.iload_n 1, 0, 0, 0), some (.iconst (-1), 0, 0, 0), some (.if_icmp .ne 25, 38, 0, 0), none, none],
  [some (.aload_n 0, 0, 0, 0), some (.getfield 7, 12, 0, 0), none, none, some (.sipush 132, 0, 0, 0), none, none, some (.iload_n 3, 0, 0, 0)],
  [some (.iadd, 0, 0, 0), some (.iaload, 0, 0, 0), some (.iconst (-1), 0, 0, 0), some (.if_icmp .ne 7, 34, 0, 0), none, none, some (.iconst 0, 0, 0, 0), some (.goto 26, 57, 0, 0)],
  [none, none, some (.iconst 1, 0, 0, 0), some (.goto 22, 57, 0, 0), none, none, some (.aload_n 0, 0, 0, 0), some (.getfield 7, 12, 0, 0)],
  [none, none, some (.sipush 132, 0, 0, 0), none, none, some (.iload_n 3, 0, 0, 0), some (.iadd, 0, 0, 0), some (.iaload, 0, 0, 0)],
  [some (.iload_n 1, 0, 0, 0), some (.if_icmp .ne 7, 56, 0, 0), none, none, some (.iconst 1, 0, 0, 0), some (.goto 4, 57, 0, 0), none, none],
  [some (.iconst 0, 0, 0, 0), some (.iadd, 0, 0, 0), some (.istore_n 2, 0, 0, 0), some (.iinc 3 1, 0, 0, 0), none, none, some (.goto (-58), 4, 0, 0), none],
  [none, some (.iload_n 2, 0, 0, 0), some (.ireturn, 0, 0, 0)]]
/-- LaterPrintsModel.priceBy(I)I -/
def xt_270 : xT := [[some (.aload_n 0, 0, 0, 0), some (.getfield 7, 12, 0, 0), none, none, some (.bipush 6, 0, 0, 0), none, some (.iaload, 0, 0, 0), some (.iload_n 1, 0, 0, 0)],
  [some (.iconst 1, 0, 0, 0), some (.isub, 0, 0, 0), some (.aload_n 0, 0, 0, 0), some (.getfield 7, 12, 0, 0), none, none, some (.bipush 7, 0, 0, 0), none],
  [some (.iaload, 0, 0, 0), some (.imul, 0, 0, 0), some (.iadd, 0, 0, 0), some (.ireturn, 0, 0, 0)]]
/-- LaterPrintsModel.nextPrice()I -/
def xt_271 : xT := [[some (.aload_n 0, 0, 0, 0), some (.aload_n 0, 0, 0, 0), some (.getfield 7, 12, 0, 0), none, none, some (.iconst 5, 0, 0, 0), some (.iaload, 0, 0, 0), some (.iconst 1, 0, 0, 0)],
  [some (.iadd, 0, 0, 0), some (.invokevirtual 275, 270, 2, 12), none, none, some (.ireturn, 0, 0, 0)]]
/-- LaterPrintsModel.told(I)I -/
def xt_272 : xT := [[some (.iload_n 1, 0, 0, 0), some (.ifCond .lt 9, 10, 0, 0), none, none, some (.iload_n 1, 0, 0, 0), some (.bipush 13, 0, 0, 0), none, some (.if_icmp .le 9, 16, 0, 0)],
  [none, none, some (.aload_n 0, 0, 0, 0), some (.iconst 1, 0, 0, 0), some (.invokevirtual 84, 205, 2, 12), none, none, some (.ireturn, 0, 0, 0)],
  [some (.iload_n 1, 0, 0, 0), some (.tableswitch 131 6 13 #[47, 56, 68, 68, 81, 90, 103, 121], 0, 47, 0), none, none, none, none, none, none],
  [none, none, none, none, none, none, none, none],
  [none, none, none, none, none, none, none, none],
  [none, none, none, none, none, none, none, none],
  [none, none, none, none, none, none, none, none],
  [none, none, none, none, none, none, none, none],
  [some (.aload_n 0, 0, 0, 0), some (.aload_n 0, 0, 0, 0), some (.invokevirtual 278, 271, 1, 12), none, none, some (.invokevirtual 88, 206, 2, 12), none, none],
  [some (.ireturn, 0, 0, 0), some (.aload_n 0, 0, 0, 0), some (.aload_n 0, 0, 0, 0), some (.getfield 7, 12, 0, 0), none, none, some (.bipush 7, 0, 0, 0), none],
  [some (.iaload, 0, 0, 0), some (.invokevirtual 88, 206, 2, 12), none, none, some (.ireturn, 0, 0, 0), some (.aload_n 0, 0, 0, 0), some (.aload_n 0, 0, 0, 0), some (.iload_n 1, 0, 0, 0)],
  [some (.bipush 7, 0, 0, 0), none, some (.isub, 0, 0, 0), some (.invokevirtual 281, 267, 2, 12), none, none, some (.invokevirtual 88, 206, 2, 12), none],
  [none, some (.ireturn, 0, 0, 0), some (.aload_n 0, 0, 0, 0), some (.aload_n 0, 0, 0, 0), some (.invokevirtual 284, 266, 1, 12), none, none, some (.invokevirtual 88, 206, 2, 12)],
  [none, none, some (.ireturn, 0, 0, 0), some (.aload_n 0, 0, 0, 0), some (.aload_n 0, 0, 0, 0), some (.bipush 10, 0, 0, 0), none, some (.bipush 30, 0, 0, 0)],
  [none, some (.invokevirtual 287, 268, 3, 12), none, none, some (.invokevirtual 88, 206, 2, 12), none, none, some (.ireturn, 0, 0, 0)],
  [some (.aload_n 0, 0, 0, 0), some (.aload_n 0, 0, 0, 0), some (.sipush 128, 0, 0, 0), none, none, some (.aload_n 0, 0, 0, 0), some (.getfield 7, 12, 0, 0), none],
  [none, some (.iconst 4, 0, 0, 0), some (.iaload, 0, 0, 0), some (.invokevirtual 287, 268, 3, 12), none, none, some (.invokevirtual 88, 206, 2, 12), none],
  [none, some (.ireturn, 0, 0, 0), some (.aload_n 0, 0, 0, 0), some (.aload_n 0, 0, 0, 0), some (.iconst (-1), 0, 0, 0), some (.invokevirtual 290, 269, 2, 12), none, none],
  [some (.invokevirtual 88, 206, 2, 12), none, none, some (.ireturn, 0, 0, 0), some (.aload_n 0, 0, 0, 0), some (.aload_n 0, 0, 0, 0), some (.getfield 7, 12, 0, 0), none],
  [none, some (.iload_n 1, 0, 0, 0), some (.iaload, 0, 0, 0), some (.invokevirtual 88, 206, 2, 12), none, none, some (.ireturn, 0, 0, 0)]]
/-- LaterPrintsModel.who(II)I -/
def xt_273 : xT := [[some (.aload_n 0, 0, 0, 0), some (.iload_n 1, 0, 0, 0), some (.iload_n 2, 0, 0, 0), some (.invokevirtual 293, 253, 3, 12), none, none, some (.ifCond .eq 20, 26, 0, 0), none],
  [none, some (.aload_n 0, 0, 0, 0), some (.aload_n 0, 0, 0, 0), some (.bipush 6, 0, 0, 0), none, some (.iload_n 2, 0, 0, 0), some (.imul, 0, 0, 0), some (.iload_n 1, 0, 0, 0)],
  [some (.iadd, 0, 0, 0), some (.invokevirtual 296, 264, 2, 12), none, none, some (.invokevirtual 299, 207, 2, 12), none, none, some (.goto 8, 31, 0, 0)],
  [none, none, some (.aload_n 0, 0, 0, 0), some (.iconst 1, 0, 0, 0), some (.invokevirtual 84, 205, 2, 12), none, none, some (.ireturn, 0, 0, 0)]]
/-- LaterPrintsModel.wall(II)I -/
def xt_274 : xT := [[some (.aload_n 0, 0, 0, 0), some (.iload_n 1, 0, 0, 0), some (.iload_n 2, 0, 0, 0), some (.invokevirtual 293, 253, 3, 12), none, none, some (.ifCond .eq 24, 30, 0, 0), none],
  [none, some (.aload_n 0, 0, 0, 0), some (.aload_n 0, 0, 0, 0), some (.getfield 7, 12, 0, 0), none, none, some (.bipush 10, 0, 0, 0), none],
  [some (.bipush 6, 0, 0, 0), none, some (.iload_n 2, 0, 0, 0), some (.imul, 0, 0, 0), some (.iadd, 0, 0, 0), some (.iload_n 1, 0, 0, 0), some (.iadd, 0, 0, 0), some (.iaload, 0, 0, 0)],
  [some (.invokevirtual 88, 206, 2, 12), none, none, some (.goto 8, 35, 0, 0), none, none, some (.aload_n 0, 0, 0, 0), some (.iconst 1, 0, 0, 0)],
  [some (.invokevirtual 84, 205, 2, 12), none, none, some (.ireturn, 0, 0, 0)]]
/-- LaterPrintsModel.person(II)I -/
def xt_275 : xT := [[some (.aload_n 0, 0, 0, 0), some (.iload_n 1, 0, 0, 0), some (.invokevirtual 302, 254, 2, 12), none, none, some (.ifCond .eq 12, 17, 0, 0), none, none],
  [some (.iload_n 2, 0, 0, 0), some (.ifCond .lt 8, 17, 0, 0), none, none, some (.iload_n 2, 0, 0, 0), some (.iconst 4, 0, 0, 0), some (.if_icmp .le 9, 23, 0, 0), none],
  [none, some (.aload_n 0, 0, 0, 0), some (.iconst 1, 0, 0, 0), some (.invokevirtual 84, 205, 2, 12), none, none, some (.ireturn, 0, 0, 0), some (.aload_n 0, 0, 0, 0)],
  [some (.iload_n 1, 0, 0, 0), some (.invokevirtual 263, 261, 2, 12), none, none, some (.ifCond .eq 12, 40, 0, 0), none, none, some (.aload_n 0, 0, 0, 0)],
  [some (.iload_n 1, 0, 0, 0), some (.iconst 5, 0, 0, 0), some (.invokevirtual 260, 260, 3, 12), none, none, some (.goto 4, 41, 0, 0), none, none],
  [some (.iconst (-1), 0, 0, 0), some (.istore_n 3, 0, 0, 0), some (.iload_n 2, 0, 0, 0), some (.iconst 2, 0, 0, 0), some (.if_icmp .ge 37, 81, 0, 0), none, none, some (.iload_n 3, 0, 0, 0)],
  [some (.iconst (-1), 0, 0, 0), some (.if_icmp .ne 12, 61, 0, 0), none, none, some (.aload_n 0, 0, 0, 0), some (.bipush 6, 0, 0, 0), none, some (.invokevirtual 84, 205, 2, 12)],
  [none, none, some (.goto 22, 80, 0, 0), none, none, some (.aload_n 0, 0, 0, 0), some (.iload_n 2, 0, 0, 0), some (.ifCond .ne 10, 73, 0, 0)],
  [none, none, some (.iload_n 3, 0, 0, 0), some (.bipush 6, 0, 0, 0), none, some (.irem, 0, 0, 0), some (.goto 7, 77, 0, 0), none],
  [none, some (.iload_n 3, 0, 0, 0), some (.bipush 6, 0, 0, 0), none, some (.idiv, 0, 0, 0), some (.invokevirtual 88, 206, 2, 12), none, none],
  [some (.ireturn, 0, 0, 0), some (.iload_n 2, 0, 0, 0), some (.iconst 3, 0, 0, 0), some (.if_icmp .ne 16, 99, 0, 0), none, none, some (.aload_n 0, 0, 0, 0), some (.aload_n 0, 0, 0, 0)],
  [some (.iload_n 1, 0, 0, 0), some (.iconst 2, 0, 0, 0), some (.invokevirtual 260, 260, 3, 12), none, none, some (.invokevirtual 299, 207, 2, 12), none, none],
  [some (.goto 22, 118, 0, 0), none, none, some (.aload_n 0, 0, 0, 0), some (.aload_n 0, 0, 0, 0), some (.iload_n 1, 0, 0, 0), some (.iload_n 2, 0, 0, 0), some (.iconst 2, 0, 0, 0)],
  [some (.if_icmp .ne 7, 111, 0, 0), none, none, some (.iconst 1, 0, 0, 0), some (.goto 4, 112, 0, 0), none, none, some (.iconst 3, 0, 0, 0)],
  [some (.invokevirtual 260, 260, 3, 12), none, none, some (.invokevirtual 88, 206, 2, 12), none, none, some (.ireturn, 0, 0, 0)]]
/-- LaterPrintsModel.stepOf(II)I -/
def xt_276 : xT := [[some (.aload_n 0, 0, 0, 0), some (.iload_n 1, 0, 0, 0), some (.invokevirtual 302, 254, 2, 12), none, none, some (.ifCond .ne 11, 16, 0, 0), none, none],
  [some (.aload_n 0, 0, 0, 0), some (.iconst 1, 0, 0, 0), some (.invokevirtual 84, 205, 2, 12), none, none, some (.goto 39, 52, 0, 0), none, none],
  [some (.iload_n 2, 0, 0, 0), some (.ifCond .lt 13, 30, 0, 0), none, none, some (.iload_n 2, 0, 0, 0), some (.aload_n 0, 0, 0, 0), some (.iload_n 1, 0, 0, 0), some (.iconst 3, 0, 0, 0)],
  [some (.invokevirtual 260, 260, 3, 12), none, none, some (.if_icmp .lt 12, 39, 0, 0), none, none, some (.aload_n 0, 0, 0, 0), some (.bipush 6, 0, 0, 0)],
  [none, some (.invokevirtual 84, 205, 2, 12), none, none, some (.goto 16, 52, 0, 0), none, none, some (.aload_n 0, 0, 0, 0)],
  [some (.aload_n 0, 0, 0, 0), some (.iload_n 1, 0, 0, 0), some (.bipush 6, 0, 0, 0), none, some (.iload_n 2, 0, 0, 0), some (.iadd, 0, 0, 0), some (.invokevirtual 260, 260, 3, 12), none],
  [none, some (.invokevirtual 88, 206, 2, 12), none, none, some (.ireturn, 0, 0, 0)]]
/-- LaterPrintsModel.sight(II)I -/
def xt_277 : xT := [[some (.aload_n 0, 0, 0, 0), some (.iload_n 1, 0, 0, 0), some (.invokevirtual 305, 255, 2, 12), none, none, some (.ifCond .eq 12, 17, 0, 0), none, none],
  [some (.iload_n 2, 0, 0, 0), some (.ifCond .lt 8, 17, 0, 0), none, none, some (.iload_n 2, 0, 0, 0), some (.iconst 2, 0, 0, 0), some (.if_icmp .le 9, 23, 0, 0), none],
  [none, some (.aload_n 0, 0, 0, 0), some (.iconst 1, 0, 0, 0), some (.invokevirtual 84, 205, 2, 12), none, none, some (.ireturn, 0, 0, 0), some (.iload_n 1, 0, 0, 0)],
  [some (.invokestatic 266, 252, 1, 0), none, none, some (.istore_n 3, 0, 0, 0), some (.iload_n 2, 0, 0, 0), some (.ifCond .ne 14, 43, 0, 0), none, none],
  [some (.aload_n 0, 0, 0, 0), some (.aload_n 0, 0, 0, 0), some (.getfield 7, 12, 0, 0), none, none, some (.iload_n 3, 0, 0, 0), some (.iaload, 0, 0, 0), some (.invokevirtual 88, 206, 2, 12)],
  [none, none, some (.ireturn, 0, 0, 0), some (.aload_n 0, 0, 0, 0), some (.getfield 7, 12, 0, 0), none, none, some (.iload_n 3, 0, 0, 0)],
  [some (.iaload, 0, 0, 0), some (.iconst 2, 0, 0, 0), some (.if_icmp .ne 12, 62, 0, 0), none, none, some (.aload_n 0, 0, 0, 0), some (.bipush 6, 0, 0, 0), none],
  [some (.invokevirtual 84, 205, 2, 12), none, none, some (.goto 43, 102, 0, 0), none, none, some (.aload_n 0, 0, 0, 0), some (.iload_n 2, 0, 0, 0)],
  [some (.iconst 2, 0, 0, 0), some (.if_icmp .ne 26, 91, 0, 0), none, none, some (.aload_n 0, 0, 0, 0), some (.getfield 7, 12, 0, 0), none, none],
  [some (.iload_n 3, 0, 0, 0), some (.iaload, 0, 0, 0), some (.ifCond .ne 17, 91, 0, 0), none, none, some (.aload_n 0, 0, 0, 0), some (.getfield 7, 12, 0, 0), none],
  [none, some (.iload_n 3, 0, 0, 0), some (.iconst 2, 0, 0, 0), some (.iadd, 0, 0, 0), some (.iaload, 0, 0, 0), some (.invokestatic 308, 263, 1, 0), none, none],
  [some (.goto 11, 99, 0, 0), none, none, some (.aload_n 0, 0, 0, 0), some (.getfield 7, 12, 0, 0), none, none, some (.iload_n 3, 0, 0, 0)],
  [some (.iload_n 2, 0, 0, 0), some (.iadd, 0, 0, 0), some (.iaload, 0, 0, 0), some (.invokevirtual 88, 206, 2, 12), none, none, some (.ireturn, 0, 0, 0)]]
/-- LaterPrintsModel.coins(I)I -/
def xt_278 : xT := [[some (.aload_n 0, 0, 0, 0), some (.iload_n 1, 0, 0, 0), some (.invokevirtual 311, 256, 2, 12), none, none, some (.ifCond .eq 20, 25, 0, 0), none, none],
  [some (.aload_n 0, 0, 0, 0), some (.aload_n 0, 0, 0, 0), some (.getfield 7, 12, 0, 0), none, none, some (.sipush 128, 0, 0, 0), none, none],
  [some (.iload_n 1, 0, 0, 0), some (.iadd, 0, 0, 0), some (.iaload, 0, 0, 0), some (.invokevirtual 88, 206, 2, 12), none, none, some (.goto 8, 30, 0, 0), none],
  [none, some (.aload_n 0, 0, 0, 0), some (.iconst 1, 0, 0, 0), some (.invokevirtual 84, 205, 2, 12), none, none, some (.ireturn, 0, 0, 0)]]
/-- LaterPrintsModel.ownerOf(I)I -/
def xt_279 : xT := [[some (.iload_n 1, 0, 0, 0), some (.bipush 120, 0, 0, 0), none, some (.if_icmp .le 7, 10, 0, 0), none, none, some (.iconst (-1), 0, 0, 0), some (.goto 15, 22, 0, 0)],
  [none, none, some (.aload_n 0, 0, 0, 0), some (.getfield 7, 12, 0, 0), none, none, some (.sipush 132, 0, 0, 0), none],
  [none, some (.iload_n 1, 0, 0, 0), some (.iadd, 0, 0, 0), some (.iconst 1, 0, 0, 0), some (.isub, 0, 0, 0), some (.iaload, 0, 0, 0), some (.ireturn, 0, 0, 0)]]
/-- LaterPrintsModel.owner(I)I -/
def xt_280 : xT := [[some (.aload_n 0, 0, 0, 0), some (.iload_n 1, 0, 0, 0), some (.invokevirtual 314, 257, 2, 12), none, none, some (.ifCond .eq 15, 20, 0, 0), none, none],
  [some (.aload_n 0, 0, 0, 0), some (.aload_n 0, 0, 0, 0), some (.iload_n 1, 0, 0, 0), some (.invokevirtual 317, 279, 2, 12), none, none, some (.invokevirtual 299, 207, 2, 12), none],
  [none, some (.goto 8, 25, 0, 0), none, none, some (.aload_n 0, 0, 0, 0), some (.iconst 1, 0, 0, 0), some (.invokevirtual 84, 205, 2, 12), none],
  [none, some (.ireturn, 0, 0, 0)]]
/-- LaterPrintsModel.prints(I)I -/
def xt_281 : xT := [[some (.aload_n 0, 0, 0, 0), some (.iload_n 1, 0, 0, 0), some (.invokevirtual 311, 256, 2, 12), none, none, some (.ifCond .eq 15, 20, 0, 0), none, none],
  [some (.aload_n 0, 0, 0, 0), some (.aload_n 0, 0, 0, 0), some (.iload_n 1, 0, 0, 0), some (.invokevirtual 290, 269, 2, 12), none, none, some (.invokevirtual 88, 206, 2, 12), none],
  [none, some (.goto 8, 25, 0, 0), none, none, some (.aload_n 0, 0, 0, 0), some (.iconst 1, 0, 0, 0), some (.invokevirtual 84, 205, 2, 12), none],
  [none, some (.ireturn, 0, 0, 0)]]
/-- LaterPrintsModel.stepFrom(II)I -/
def xt_282 : xT := [[some (.iload_n 1, 0, 0, 0), some (.bipush 6, 0, 0, 0), none, some (.irem, 0, 0, 0), some (.iload_n 2, 0, 0, 0), some (.ifCond .ne 7, 12, 0, 0), none, none],
  [some (.iconst 1, 0, 0, 0), some (.goto 13, 22, 0, 0), none, none, some (.iload_n 2, 0, 0, 0), some (.iconst 2, 0, 0, 0), some (.if_icmp .ne 7, 21, 0, 0), none],
  [none, some (.iconst (-1), 0, 0, 0), some (.goto 4, 22, 0, 0), none, none, some (.iconst 0, 0, 0, 0), some (.iadd, 0, 0, 0), some (.istore_n 3, 0, 0, 0)],
  [some (.iload_n 1, 0, 0, 0), some (.bipush 6, 0, 0, 0), none, some (.idiv, 0, 0, 0), some (.iload_n 2, 0, 0, 0), some (.iconst 1, 0, 0, 0), some (.if_icmp .ne 7, 37, 0, 0), none],
  [none, some (.iconst 1, 0, 0, 0), some (.goto 13, 47, 0, 0), none, none, some (.iload_n 2, 0, 0, 0), some (.iconst 3, 0, 0, 0), some (.if_icmp .ne 7, 46, 0, 0)],
  [none, none, some (.iconst (-1), 0, 0, 0), some (.goto 4, 47, 0, 0), none, none, some (.iconst 0, 0, 0, 0), some (.iadd, 0, 0, 0)],
  [some (.istore 4, 0, 0, 0), none, some (.aload_n 0, 0, 0, 0), some (.iload_n 3, 0, 0, 0), some (.iload 4, 0, 0, 0), none, some (.invokevirtual 293, 253, 3, 12), none],
  [none, some (.ifCond .eq 27, 84, 0, 0), none, none, some (.aload_n 0, 0, 0, 0), some (.bipush 6, 0, 0, 0), none, some (.iload 4, 0, 0, 0)],
  [none, some (.imul, 0, 0, 0), some (.iload_n 3, 0, 0, 0), some (.iadd, 0, 0, 0), some (.invokevirtual 320, 262, 2, 12), none, none, some (.ifCond .ne 13, 84, 0, 0)],
  [none, none, some (.bipush 6, 0, 0, 0), none, some (.iload 4, 0, 0, 0), none, some (.imul, 0, 0, 0), some (.iload_n 3, 0, 0, 0)],
  [some (.iadd, 0, 0, 0), some (.goto 4, 85, 0, 0), none, none, some (.iload_n 1, 0, 0, 0), some (.ireturn, 0, 0, 0)]]
/-- LaterPrintsModel.livesOn(I)V -/
def xt_283 : xT := [[some (.iload_n 1, 0, 0, 0), some (.invokestatic 257, 251, 1, 0), none, none, some (.istore_n 2, 0, 0, 0), some (.aload_n 0, 0, 0, 0), some (.getfield 7, 12, 0, 0), none],
  [none, some (.iconst 5, 0, 0, 0), some (.iaload, 0, 0, 0), some (.istore_n 3, 0, 0, 0), some (.aload_n 0, 0, 0, 0), some (.getfield 7, 12, 0, 0), none, none],
  [some (.iload_n 2, 0, 0, 0), some (.iconst 4, 0, 0, 0), some (.iadd, 0, 0, 0), some (.iaload, 0, 0, 0), some (.iconst 2, 0, 0, 0), some (.if_icmp .ne 4, 25, 0, 0), none, none],
  [some (.return_, 0, 0, 0), some (.aload_n 0, 0, 0, 0), some (.getfield 7, 12, 0, 0), none, none, some (.iload_n 2, 0, 0, 0), some (.iconst 2, 0, 0, 0), some (.iadd, 0, 0, 0)],
  [some (.iaload, 0, 0, 0), some (.iconst (-1), 0, 0, 0), some (.if_icmp .eq 27, 61, 0, 0), none, none, some (.aload_n 0, 0, 0, 0), some (.getfield 7, 12, 0, 0), none],
  [none, some (.iload_n 2, 0, 0, 0), some (.iconst 2, 0, 0, 0), some (.iadd, 0, 0, 0), some (.iaload, 0, 0, 0), some (.iload_n 3, 0, 0, 0), some (.iconst 1, 0, 0, 0), some (.iadd, 0, 0, 0)],
  [some (.if_icmp .gt 13, 61, 0, 0), none, none, some (.aload_n 0, 0, 0, 0), some (.getfield 7, 12, 0, 0), none, none, some (.iload_n 2, 0, 0, 0)],
  [some (.iconst 4, 0, 0, 0), some (.iadd, 0, 0, 0), some (.iconst 2, 0, 0, 0), some (.iastore, 0, 0, 0), some (.return_, 0, 0, 0), some (.aload_n 0, 0, 0, 0), some (.getfield 7, 12, 0, 0), none],
  [none, some (.iload_n 2, 0, 0, 0), some (.iconst 4, 0, 0, 0), some (.iadd, 0, 0, 0), some (.iaload, 0, 0, 0), some (.ifCond .ne 69, 138, 0, 0), none, none],
  [some (.aload_n 0, 0, 0, 0), some (.getfield 7, 12, 0, 0), none, none, some (.iload_n 2, 0, 0, 0), some (.iconst 1, 0, 0, 0), some (.iadd, 0, 0, 0), some (.iaload, 0, 0, 0)],
  [some (.iload_n 3, 0, 0, 0), some (.iconst 1, 0, 0, 0), some (.iadd, 0, 0, 0), some (.if_icmp .gt 30, 113, 0, 0), none, none, some (.aload_n 0, 0, 0, 0), some (.aload_n 0, 0, 0, 0)],
  [some (.getfield 7, 12, 0, 0), none, none, some (.iload_n 2, 0, 0, 0), some (.iaload, 0, 0, 0), some (.invokevirtual 320, 262, 2, 12), none, none],
  [some (.ifCond .ne 17, 113, 0, 0), none, none, some (.aload_n 0, 0, 0, 0), some (.aload_n 0, 0, 0, 0), some (.getfield 7, 12, 0, 0), none, none],
  [some (.iload_n 2, 0, 0, 0), some (.iaload, 0, 0, 0), some (.invokevirtual 296, 264, 2, 12), none, none, some (.iconst (-1), 0, 0, 0), some (.if_icmp .eq 4, 114, 0, 0), none],
  [none, some (.return_, 0, 0, 0), some (.aload_n 0, 0, 0, 0), some (.getfield 7, 12, 0, 0), none, none, some (.iload_n 2, 0, 0, 0), some (.iconst 4, 0, 0, 0)],
  [some (.iadd, 0, 0, 0), some (.iconst 1, 0, 0, 0), some (.iastore, 0, 0, 0), some (.aload_n 0, 0, 0, 0), some (.getfield 7, 12, 0, 0), none, none, some (.iload_n 2, 0, 0, 0)],
  [some (.iconst 5, 0, 0, 0), some (.iadd, 0, 0, 0), some (.aload_n 0, 0, 0, 0), some (.getfield 7, 12, 0, 0), none, none, some (.iload_n 2, 0, 0, 0), some (.iaload, 0, 0, 0)],
  [some (.iastore, 0, 0, 0), some (.return_, 0, 0, 0), some (.aload_n 0, 0, 0, 0), some (.aload_n 0, 0, 0, 0), some (.getfield 7, 12, 0, 0), none, none, some (.iload_n 2, 0, 0, 0)],
  [some (.iconst 5, 0, 0, 0), some (.iadd, 0, 0, 0), some (.iaload, 0, 0, 0), some (.aload_n 0, 0, 0, 0), some (.getfield 7, 12, 0, 0), none, none, some (.iload_n 2, 0, 0, 0)],
  [some (.bipush 6, 0, 0, 0), none, some (.iadd, 0, 0, 0), some (.iload_n 3, 0, 0, 0), some (.aload_n 0, 0, 0, 0), some (.getfield 7, 12, 0, 0), none, none],
  [some (.iload_n 2, 0, 0, 0), some (.iconst 3, 0, 0, 0), some (.iadd, 0, 0, 0), some (.iaload, 0, 0, 0), some (.irem, 0, 0, 0), some (.iadd, 0, 0, 0), some (.iaload, 0, 0, 0), some (.invokevirtual 323, 282, 3, 12)],
  [none, none, some (.istore 4, 0, 0, 0), none, some (.aload_n 0, 0, 0, 0), some (.iload 4, 0, 0, 0), none, some (.invokevirtual 296, 264, 2, 12)],
  [none, none, some (.iconst (-1), 0, 0, 0), some (.if_icmp .ne 13, 192, 0, 0), none, none, some (.aload_n 0, 0, 0, 0), some (.getfield 7, 12, 0, 0)],
  [none, none, some (.iload_n 2, 0, 0, 0), some (.iconst 5, 0, 0, 0), some (.iadd, 0, 0, 0), some (.iload 4, 0, 0, 0), none, some (.iastore, 0, 0, 0)],
  [some (.return_, 0, 0, 0)]]
/-- LaterPrintsModel.second()V -/
def xt_284 : xT := [[some (.iconst 0, 0, 0, 0), some (.istore_n 1, 0, 0, 0), some (.iload_n 1, 0, 0, 0), some (.aload_n 0, 0, 0, 0), some (.getfield 7, 12, 0, 0), none, none, some (.iconst 2, 0, 0, 0)],
  [some (.iaload, 0, 0, 0), some (.if_icmp .ge 14, 23, 0, 0), none, none, some (.aload_n 0, 0, 0, 0), some (.iload_n 1, 0, 0, 0), some (.invokevirtual 326, 283, 2, 12), none],
  [none, some (.iinc 1 1, 0, 0, 0), none, none, some (.goto (-18), 2, 0, 0), none, none, some (.aload_n 0, 0, 0, 0)],
  [some (.getfield 7, 12, 0, 0), none, none, some (.iconst 5, 0, 0, 0), some (.dup2, 0, 0, 0), some (.iaload, 0, 0, 0), some (.iconst 1, 0, 0, 0), some (.iadd, 0, 0, 0)],
  [some (.iastore, 0, 0, 0), some (.return_, 0, 0, 0)]]
/-- LaterPrintsModel.seconds(I)V -/
def xt_285 : xT := [[some (.iconst 0, 0, 0, 0), some (.istore_n 2, 0, 0, 0), some (.iload_n 2, 0, 0, 0), some (.iload_n 1, 0, 0, 0), some (.if_icmp .ge 13, 17, 0, 0), none, none, some (.aload_n 0, 0, 0, 0)],
  [some (.invokevirtual 329, 284, 1, 12), none, none, some (.iinc 2 1, 0, 0, 0), none, none, some (.goto (-12), 2, 0, 0), none],
  [none, some (.return_, 0, 0, 0)]]
/-- LaterPrintsModel.buysOne(I)Z -/
def xt_286 : xT := [[some (.aload_n 0, 0, 0, 0), some (.invokevirtual 278, 271, 1, 12), none, none, some (.istore_n 2, 0, 0, 0), some (.aload_n 0, 0, 0, 0), some (.getfield 7, 12, 0, 0), none],
  [none, some (.iconst 5, 0, 0, 0), some (.iaload, 0, 0, 0), some (.sipush 999, 0, 0, 0), none, none, some (.if_icmp .eq 17, 31, 0, 0), none],
  [none, some (.aload_n 0, 0, 0, 0), some (.getfield 7, 12, 0, 0), none, none, some (.sipush 128, 0, 0, 0), none, none],
  [some (.iload_n 1, 0, 0, 0), some (.iadd, 0, 0, 0), some (.iaload, 0, 0, 0), some (.iload_n 2, 0, 0, 0), some (.if_icmp .ge 5, 33, 0, 0), none, none, some (.iconst 0, 0, 0, 0)],
  [some (.ireturn, 0, 0, 0), some (.aload_n 0, 0, 0, 0), some (.getfield 7, 12, 0, 0), none, none, some (.sipush 128, 0, 0, 0), none, none],
  [some (.iload_n 1, 0, 0, 0), some (.iadd, 0, 0, 0), some (.dup2, 0, 0, 0), some (.iaload, 0, 0, 0), some (.iload_n 2, 0, 0, 0), some (.isub, 0, 0, 0), some (.iastore, 0, 0, 0), some (.aload_n 0, 0, 0, 0)],
  [some (.invokevirtual 329, 284, 1, 12), none, none, some (.aload_n 0, 0, 0, 0), some (.getfield 7, 12, 0, 0), none, none, some (.iconst 5, 0, 0, 0)],
  [some (.iaload, 0, 0, 0), some (.bipush 120, 0, 0, 0), none, some (.if_icmp .gt 21, 80, 0, 0), none, none, some (.aload_n 0, 0, 0, 0), some (.getfield 7, 12, 0, 0)],
  [none, none, some (.sipush 132, 0, 0, 0), none, none, some (.aload_n 0, 0, 0, 0), some (.getfield 7, 12, 0, 0), none],
  [none, some (.iconst 5, 0, 0, 0), some (.iaload, 0, 0, 0), some (.iadd, 0, 0, 0), some (.iconst 1, 0, 0, 0), some (.isub, 0, 0, 0), some (.iload_n 1, 0, 0, 0), some (.iastore, 0, 0, 0)],
  [some (.iconst 1, 0, 0, 0), some (.ireturn, 0, 0, 0)]]
/-- LaterPrintsModel.buy(II)I -/
def xt_287 : xT := [[some (.aload_n 0, 0, 0, 0), some (.iload_n 1, 0, 0, 0), some (.invokevirtual 311, 256, 2, 12), none, none, some (.ifCond .eq 15, 20, 0, 0), none, none],
  [some (.iload_n 2, 0, 0, 0), some (.i2l, 0, 0, 0), some (.lconst 1, 0, 0, 0), some (.ldc2_w 332, 0, 0, 99), none, none, some (.invokestatic 334, 216, 3, 0), none],
  [none, some (.ifCond .ne 9, 26, 0, 0), none, none, some (.aload_n 0, 0, 0, 0), some (.iconst 1, 0, 0, 0), some (.invokevirtual 84, 205, 2, 12), none],
  [none, some (.ireturn, 0, 0, 0), some (.iconst 0, 0, 0, 0), some (.istore_n 3, 0, 0, 0), some (.iload_n 3, 0, 0, 0), some (.iload_n 2, 0, 0, 0), some (.if_icmp .ge 17, 47, 0, 0), none],
  [none, some (.aload_n 0, 0, 0, 0), some (.iload_n 1, 0, 0, 0), some (.invokevirtual 338, 286, 2, 12), none, none, some (.ifCond .eq 9, 47, 0, 0), none],
  [none, some (.iinc 3 1, 0, 0, 0), none, none, some (.goto (-16), 28, 0, 0), none, none, some (.iload_n 3, 0, 0, 0)],
  [some (.ifCond .ne 12, 60, 0, 0), none, none, some (.aload_n 0, 0, 0, 0), some (.bipush 7, 0, 0, 0), none, some (.invokevirtual 84, 205, 2, 12), none],
  [none, some (.goto 8, 65, 0, 0), none, none, some (.aload_n 0, 0, 0, 0), some (.iload_n 3, 0, 0, 0), some (.invokevirtual 88, 206, 2, 12), none],
  [none, some (.ireturn, 0, 0, 0)]]
/-- LaterPrintsModel.skip(I)I -/
def xt_288 : xT := [[some (.iload_n 1, 0, 0, 0), some (.i2l, 0, 0, 0), some (.lconst 1, 0, 0, 0), some (.ldc2_w 332, 0, 0, 99), none, none, some (.invokestatic 334, 216, 3, 0), none],
  [none, some (.ifCond .ne 9, 18, 0, 0), none, none, some (.aload_n 0, 0, 0, 0), some (.iconst 1, 0, 0, 0), some (.invokevirtual 84, 205, 2, 12), none],
  [none, some (.ireturn, 0, 0, 0), some (.aload_n 0, 0, 0, 0), some (.getfield 7, 12, 0, 0), none, none, some (.iconst 5, 0, 0, 0), some (.iaload, 0, 0, 0)],
  [some (.iload_n 1, 0, 0, 0), some (.iadd, 0, 0, 0), some (.sipush 999, 0, 0, 0), none, none, some (.if_icmp .le 9, 38, 0, 0), none, none],
  [some (.aload_n 0, 0, 0, 0), some (.iconst 4, 0, 0, 0), some (.invokevirtual 84, 205, 2, 12), none, none, some (.ireturn, 0, 0, 0), some (.aload_n 0, 0, 0, 0), some (.iload_n 1, 0, 0, 0)],
  [some (.invokevirtual 341, 285, 2, 12), none, none, some (.aload_n 0, 0, 0, 0), some (.aload_n 0, 0, 0, 0), some (.getfield 7, 12, 0, 0), none, none],
  [some (.iconst 5, 0, 0, 0), some (.iaload, 0, 0, 0), some (.invokevirtual 88, 206, 2, 12), none, none, some (.ireturn, 0, 0, 0)]]
/-- LaterPrintsModel.give(II)I -/
def xt_289 : xT := [[some (.aload_n 0, 0, 0, 0), some (.iload_n 1, 0, 0, 0), some (.invokevirtual 314, 257, 2, 12), none, none, some (.ifCond .eq 11, 16, 0, 0), none, none],
  [some (.aload_n 0, 0, 0, 0), some (.iload_n 2, 0, 0, 0), some (.invokevirtual 311, 256, 2, 12), none, none, some (.ifCond .ne 9, 22, 0, 0), none, none],
  [some (.aload_n 0, 0, 0, 0), some (.iconst 1, 0, 0, 0), some (.invokevirtual 84, 205, 2, 12), none, none, some (.ireturn, 0, 0, 0), some (.aload_n 0, 0, 0, 0), some (.iload_n 1, 0, 0, 0)],
  [some (.invokevirtual 317, 279, 2, 12), none, none, some (.istore_n 3, 0, 0, 0), some (.iload_n 3, 0, 0, 0), some (.iconst (-1), 0, 0, 0), some (.if_icmp .eq 8, 38, 0, 0), none],
  [none, some (.iload_n 3, 0, 0, 0), some (.iload_n 2, 0, 0, 0), some (.if_icmp .ne 10, 45, 0, 0), none, none, some (.aload_n 0, 0, 0, 0), some (.bipush 7, 0, 0, 0)],
  [none, some (.invokevirtual 84, 205, 2, 12), none, none, some (.ireturn, 0, 0, 0), some (.aload_n 0, 0, 0, 0), some (.getfield 7, 12, 0, 0), none],
  [none, some (.sipush 132, 0, 0, 0), none, none, some (.iload_n 1, 0, 0, 0), some (.iadd, 0, 0, 0), some (.iconst 1, 0, 0, 0), some (.isub, 0, 0, 0)],
  [some (.iload_n 2, 0, 0, 0), some (.iastore, 0, 0, 0), some (.aload_n 0, 0, 0, 0), some (.iload_n 3, 0, 0, 0), some (.invokevirtual 88, 206, 2, 12), none, none, some (.ireturn, 0, 0, 0)]]
/-- LaterPrintsModel.back(II)I -/
def xt_290 : xT := [[some (.aload_n 0, 0, 0, 0), some (.iload_n 1, 0, 0, 0), some (.invokevirtual 311, 256, 2, 12), none, none, some (.ifCond .eq 11, 16, 0, 0), none, none],
  [some (.aload_n 0, 0, 0, 0), some (.iload_n 2, 0, 0, 0), some (.invokevirtual 314, 257, 2, 12), none, none, some (.ifCond .ne 9, 22, 0, 0), none, none],
  [some (.aload_n 0, 0, 0, 0), some (.iconst 1, 0, 0, 0), some (.invokevirtual 84, 205, 2, 12), none, none, some (.ireturn, 0, 0, 0), some (.aload_n 0, 0, 0, 0), some (.iload_n 2, 0, 0, 0)],
  [some (.invokevirtual 317, 279, 2, 12), none, none, some (.iload_n 1, 0, 0, 0), some (.if_icmp .eq 10, 38, 0, 0), none, none, some (.aload_n 0, 0, 0, 0)],
  [some (.bipush 7, 0, 0, 0), none, some (.invokevirtual 84, 205, 2, 12), none, none, some (.ireturn, 0, 0, 0), some (.aload_n 0, 0, 0, 0), some (.getfield 7, 12, 0, 0)],
  [none, none, some (.sipush 132, 0, 0, 0), none, none, some (.iload_n 2, 0, 0, 0), some (.iadd, 0, 0, 0), some (.iconst 1, 0, 0, 0)],
  [some (.isub, 0, 0, 0), some (.iconst (-1), 0, 0, 0), some (.iastore, 0, 0, 0), some (.aload_n 0, 0, 0, 0), some (.getfield 7, 12, 0, 0), none, none, some (.sipush 128, 0, 0, 0)],
  [none, none, some (.iload_n 1, 0, 0, 0), some (.iadd, 0, 0, 0), some (.sipush 9999, 0, 0, 0), none, none, some (.aload_n 0, 0, 0, 0)],
  [some (.getfield 7, 12, 0, 0), none, none, some (.sipush 128, 0, 0, 0), none, none, some (.iload_n 1, 0, 0, 0), some (.iadd, 0, 0, 0)],
  [some (.iaload, 0, 0, 0), some (.aload_n 0, 0, 0, 0), some (.iload_n 2, 0, 0, 0), some (.invokevirtual 275, 270, 2, 12), none, none, some (.iconst 2, 0, 0, 0), some (.idiv, 0, 0, 0)],
  [some (.iadd, 0, 0, 0), some (.invokestatic 139, 5003, 2, 0), none, none, some (.iastore, 0, 0, 0), some (.aload_n 0, 0, 0, 0), some (.aload_n 0, 0, 0, 0), some (.getfield 7, 12, 0, 0)],
  [none, none, some (.sipush 128, 0, 0, 0), none, none, some (.iload_n 1, 0, 0, 0), some (.iadd, 0, 0, 0), some (.iaload, 0, 0, 0)],
  [some (.invokevirtual 88, 206, 2, 12), none, none, some (.ireturn, 0, 0, 0)]]
/-- LaterPrintsModel.earn(II)I -/
def xt_291 : xT := [[some (.aload_n 0, 0, 0, 0), some (.iload_n 1, 0, 0, 0), some (.invokevirtual 311, 256, 2, 12), none, none, some (.ifCond .eq 15, 20, 0, 0), none, none],
  [some (.iload_n 2, 0, 0, 0), some (.i2l, 0, 0, 0), some (.lconst 1, 0, 0, 0), some (.ldc2_w 344, 0, 0, 999), none, none, some (.invokestatic 334, 216, 3, 0), none],
  [none, some (.ifCond .ne 9, 26, 0, 0), none, none, some (.aload_n 0, 0, 0, 0), some (.iconst 1, 0, 0, 0), some (.invokevirtual 84, 205, 2, 12), none],
  [none, some (.ireturn, 0, 0, 0), some (.aload_n 0, 0, 0, 0), some (.getfield 7, 12, 0, 0), none, none, some (.sipush 128, 0, 0, 0), none],
  [none, some (.iload_n 1, 0, 0, 0), some (.iadd, 0, 0, 0), some (.iaload, 0, 0, 0), some (.iload_n 2, 0, 0, 0), some (.iadd, 0, 0, 0), some (.sipush 9999, 0, 0, 0), none],
  [none, some (.if_icmp .le 10, 51, 0, 0), none, none, some (.aload_n 0, 0, 0, 0), some (.bipush 7, 0, 0, 0), none, some (.invokevirtual 84, 205, 2, 12)],
  [none, none, some (.ireturn, 0, 0, 0), some (.aload_n 0, 0, 0, 0), some (.getfield 7, 12, 0, 0), none, none, some (.sipush 128, 0, 0, 0)],
  [none, none, some (.iload_n 1, 0, 0, 0), some (.iadd, 0, 0, 0), some (.dup2, 0, 0, 0), some (.iaload, 0, 0, 0), some (.iload_n 2, 0, 0, 0), some (.iadd, 0, 0, 0)],
  [some (.iastore, 0, 0, 0), some (.aload_n 0, 0, 0, 0), some (.aload_n 0, 0, 0, 0), some (.getfield 7, 12, 0, 0), none, none, some (.sipush 128, 0, 0, 0), none],
  [none, some (.iload_n 1, 0, 0, 0), some (.iadd, 0, 0, 0), some (.iaload, 0, 0, 0), some (.invokevirtual 88, 206, 2, 12), none, none, some (.ireturn, 0, 0, 0)]]
/-- LaterPrintsModel.price(II)Z -/
def xt_292 : xT := [[some (.iload_n 1, 0, 0, 0), some (.i2l, 0, 0, 0), some (.lconst 0, 0, 0, 0), some (.ldc2_w 332, 0, 0, 99), none, none, some (.invokestatic 334, 216, 3, 0), none],
  [none, some (.ifCond .eq 15, 24, 0, 0), none, none, some (.iload_n 2, 0, 0, 0), some (.i2l, 0, 0, 0), some (.lconst 0, 0, 0, 0), some (.ldc2_w 346, 0, 0, 20)],
  [none, none, some (.invokestatic 334, 216, 3, 0), none, none, some (.ifCond .ne 9, 30, 0, 0), none, none],
  [some (.aload_n 0, 0, 0, 0), some (.iconst 1, 0, 0, 0), some (.invokevirtual 91, 204, 2, 12), none, none, some (.ireturn, 0, 0, 0), some (.aload_n 0, 0, 0, 0), some (.getfield 7, 12, 0, 0)],
  [none, none, some (.bipush 6, 0, 0, 0), none, some (.iload_n 1, 0, 0, 0), some (.iastore, 0, 0, 0), some (.aload_n 0, 0, 0, 0), some (.getfield 7, 12, 0, 0)],
  [none, none, some (.bipush 7, 0, 0, 0), none, some (.iload_n 2, 0, 0, 0), some (.iastore, 0, 0, 0), some (.aload_n 0, 0, 0, 0), some (.iconst 0, 0, 0, 0)],
  [some (.invokevirtual 91, 204, 2, 12), none, none, some (.ireturn, 0, 0, 0)]]
/-- LaterPrintsModel.build(IIZ)Z -/
def xt_293 : xT := [[some (.aload_n 0, 0, 0, 0), some (.iload_n 1, 0, 0, 0), some (.iload_n 2, 0, 0, 0), some (.invokevirtual 293, 253, 3, 12), none, none, some (.ifCond .ne 9, 15, 0, 0), none],
  [none, some (.aload_n 0, 0, 0, 0), some (.iconst 1, 0, 0, 0), some (.invokevirtual 91, 204, 2, 12), none, none, some (.ireturn, 0, 0, 0), some (.bipush 6, 0, 0, 0)],
  [none, some (.iload_n 2, 0, 0, 0), some (.imul, 0, 0, 0), some (.iload_n 1, 0, 0, 0), some (.iadd, 0, 0, 0), some (.istore 4, 0, 0, 0), none, some (.aload_n 0, 0, 0, 0)],
  [some (.iload 4, 0, 0, 0), none, some (.invokevirtual 296, 264, 2, 12), none, none, some (.iconst (-1), 0, 0, 0), some (.if_icmp .ne 13, 43, 0, 0), none],
  [none, some (.aload_n 0, 0, 0, 0), some (.iload 4, 0, 0, 0), none, some (.invokevirtual 320, 262, 2, 12), none, none, some (.iload_n 3, 0, 0, 0)],
  [some (.if_icmp .ne 10, 50, 0, 0), none, none, some (.aload_n 0, 0, 0, 0), some (.bipush 7, 0, 0, 0), none, some (.invokevirtual 91, 204, 2, 12), none],
  [none, some (.ireturn, 0, 0, 0), some (.aload_n 0, 0, 0, 0), some (.getfield 7, 12, 0, 0), none, none, some (.bipush 10, 0, 0, 0), none],
  [some (.iload 4, 0, 0, 0), none, some (.iadd, 0, 0, 0), some (.iload_n 3, 0, 0, 0), some (.ifCond .eq 7, 67, 0, 0), none, none, some (.iconst 1, 0, 0, 0)],
  [some (.goto 4, 68, 0, 0), none, none, some (.iconst 0, 0, 0, 0), some (.iastore, 0, 0, 0), some (.aload_n 0, 0, 0, 0), some (.iconst 0, 0, 0, 0), some (.invokevirtual 91, 204, 2, 12)],
  [none, none, some (.ireturn, 0, 0, 0)]]
/-- LaterPrintsModel.teach(III)Z -/
def xt_294 : xT := [[some (.aload_n 0, 0, 0, 0), some (.iload_n 1, 0, 0, 0), some (.invokevirtual 302, 254, 2, 12), none, none, some (.ifCond .eq 33, 38, 0, 0), none, none],
  [some (.iload_n 2, 0, 0, 0), some (.i2l, 0, 0, 0), some (.lconst 0, 0, 0, 0), some (.aload_n 0, 0, 0, 0), some (.iload_n 1, 0, 0, 0), some (.iconst 3, 0, 0, 0), some (.invokevirtual 260, 260, 3, 12), none],
  [none, some (.i2l, 0, 0, 0), some (.lconst 1, 0, 0, 0), some (.lsub, 0, 0, 0), some (.invokestatic 334, 216, 3, 0), none, none, some (.ifCond .eq 15, 38, 0, 0)],
  [none, none, some (.iload_n 3, 0, 0, 0), some (.i2l, 0, 0, 0), some (.lconst 0, 0, 0, 0), some (.ldc2_w 348, 0, 0, 4), none, none],
  [some (.invokestatic 334, 216, 3, 0), none, none, some (.ifCond .ne 9, 44, 0, 0), none, none, some (.aload_n 0, 0, 0, 0), some (.iconst 1, 0, 0, 0)],
  [some (.invokevirtual 91, 204, 2, 12), none, none, some (.ireturn, 0, 0, 0), some (.aload_n 0, 0, 0, 0), some (.getfield 7, 12, 0, 0), none, none],
  [some (.iload_n 1, 0, 0, 0), some (.invokestatic 257, 251, 1, 0), none, none, some (.bipush 6, 0, 0, 0), none, some (.iadd, 0, 0, 0), some (.iload_n 2, 0, 0, 0)],
  [some (.iadd, 0, 0, 0), some (.iload_n 3, 0, 0, 0), some (.iastore, 0, 0, 0), some (.aload_n 0, 0, 0, 0), some (.iconst 0, 0, 0, 0), some (.invokevirtual 91, 204, 2, 12), none, none],
  [some (.ireturn, 0, 0, 0)]]
/-- LaterPrintsModel.place(III)Z -/
def xt_295 : xT := [[some (.aload_n 0, 0, 0, 0), some (.iload_n 1, 0, 0, 0), some (.invokevirtual 302, 254, 2, 12), none, none, some (.ifCond .eq 12, 17, 0, 0), none, none],
  [some (.aload_n 0, 0, 0, 0), some (.iload_n 2, 0, 0, 0), some (.iload_n 3, 0, 0, 0), some (.invokevirtual 293, 253, 3, 12), none, none, some (.ifCond .ne 9, 23, 0, 0), none],
  [none, some (.aload_n 0, 0, 0, 0), some (.iconst 1, 0, 0, 0), some (.invokevirtual 91, 204, 2, 12), none, none, some (.ireturn, 0, 0, 0), some (.bipush 6, 0, 0, 0)],
  [none, some (.iload_n 3, 0, 0, 0), some (.imul, 0, 0, 0), some (.iload_n 2, 0, 0, 0), some (.iadd, 0, 0, 0), some (.istore 4, 0, 0, 0), none, some (.aload_n 0, 0, 0, 0)],
  [some (.iload_n 1, 0, 0, 0), some (.invokevirtual 263, 261, 2, 12), none, none, some (.ifCond .eq 22, 58, 0, 0), none, none, some (.aload_n 0, 0, 0, 0)],
  [some (.iload 4, 0, 0, 0), none, some (.invokevirtual 320, 262, 2, 12), none, none, some (.ifCond .ne 13, 58, 0, 0), none, none],
  [some (.aload_n 0, 0, 0, 0), some (.iload 4, 0, 0, 0), none, some (.invokevirtual 296, 264, 2, 12), none, none, some (.iconst (-1), 0, 0, 0), some (.if_icmp .eq 10, 65, 0, 0)],
  [none, none, some (.aload_n 0, 0, 0, 0), some (.bipush 7, 0, 0, 0), none, some (.invokevirtual 91, 204, 2, 12), none, none],
  [some (.ireturn, 0, 0, 0), some (.aload_n 0, 0, 0, 0), some (.getfield 7, 12, 0, 0), none, none, some (.iload_n 1, 0, 0, 0), some (.invokestatic 257, 251, 1, 0), none],
  [none, some (.iconst 5, 0, 0, 0), some (.iadd, 0, 0, 0), some (.iload 4, 0, 0, 0), none, some (.iastore, 0, 0, 0), some (.aload_n 0, 0, 0, 0), some (.iconst 0, 0, 0, 0)],
  [some (.invokevirtual 91, 204, 2, 12), none, none, some (.ireturn, 0, 0, 0)]]
/-- LaterPrintsModel.keeps(I)V -/
def xt_296 : xT := [[some (.iconst 0, 0, 0, 0), some (.istore_n 2, 0, 0, 0), some (.iload_n 2, 0, 0, 0), some (.sipush 252, 0, 0, 0), none, none, some (.if_icmp .ge 23, 29, 0, 0), none],
  [none, some (.aload_n 0, 0, 0, 0), some (.getfield 7, 12, 0, 0), none, none, some (.iload_n 1, 0, 0, 0), some (.iload_n 2, 0, 0, 0), some (.iadd, 0, 0, 0)],
  [some (.aload_n 0, 0, 0, 0), some (.getfield 7, 12, 0, 0), none, none, some (.iload_n 2, 0, 0, 0), some (.iaload, 0, 0, 0), some (.iastore, 0, 0, 0), some (.iinc 2 1, 0, 0, 0)],
  [none, none, some (.goto (-24), 2, 0, 0), none, none, some (.return_, 0, 0, 0)]]
/-- LaterPrintsModel.restores(I)V -/
def xt_297 : xT := [[some (.iconst 0, 0, 0, 0), some (.istore_n 2, 0, 0, 0), some (.iload_n 2, 0, 0, 0), some (.sipush 252, 0, 0, 0), none, none, some (.if_icmp .ge 23, 29, 0, 0), none],
  [none, some (.aload_n 0, 0, 0, 0), some (.getfield 7, 12, 0, 0), none, none, some (.iload_n 2, 0, 0, 0), some (.aload_n 0, 0, 0, 0), some (.getfield 7, 12, 0, 0)],
  [none, none, some (.iload_n 1, 0, 0, 0), some (.iload_n 2, 0, 0, 0), some (.iadd, 0, 0, 0), some (.iaload, 0, 0, 0), some (.iastore, 0, 0, 0), some (.iinc 2 1, 0, 0, 0)],
  [none, none, some (.goto (-24), 2, 0, 0), none, none, some (.return_, 0, 0, 0)]]
/-- LaterPrintsModel.isSpan(II)Z -/
def xt_298 : xT := [[some (.iload_n 0, 0, 0, 0), some (.i2l, 0, 0, 0), some (.iload_n 1, 0, 0, 0), some (.i2l, 0, 0, 0), some (.ldc2_w 350, 0, 0, 200), none, none, some (.invokestatic 334, 216, 3, 0)],
  [none, none, some (.ireturn, 0, 0, 0)]]
/-- LaterPrintsModel.priceOf(I)I -/
def xt_299 : xT := [[some (.iload_n 1, 0, 0, 0), some (.i2l, 0, 0, 0), some (.lconst 1, 0, 0, 0), some (.ldc2_w 344, 0, 0, 999), none, none, some (.invokestatic 334, 216, 3, 0), none],
  [none, some (.ifCond .eq 15, 24, 0, 0), none, none, some (.aload_n 0, 0, 0, 0), some (.aload_n 0, 0, 0, 0), some (.iload_n 1, 0, 0, 0), some (.invokevirtual 275, 270, 2, 12)],
  [none, none, some (.invokevirtual 88, 206, 2, 12), none, none, some (.goto 8, 29, 0, 0), none, none],
  [some (.aload_n 0, 0, 0, 0), some (.iconst 1, 0, 0, 0), some (.invokevirtual 84, 205, 2, 12), none, none, some (.ireturn, 0, 0, 0)]]
