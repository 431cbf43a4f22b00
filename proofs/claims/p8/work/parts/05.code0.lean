/-- LaterPrints$Ahead.<init>()V -/
def xt_0 : xT := [[some (.aload_n 0, 0, 0, 0), some (.invokespecial 5, 5000, 1, 0), none, none, some (.aload_n 0, 0, 0, 0), some (.new 11, 1, 10, 0), none, none],
  [some (.dup, 0, 0, 0), some (.invokespecial 13, 9, 1, 1), none, none, some (.putfield 14, 0, 0, 0), none, none, some (.aload_n 0, 0, 0, 0)],
  [some (.sipush 201, 0, 0, 0), none, none, some (.newarray .int, 0, 0, 0), none, some (.putfield 18, 0, 1, 0), none, none],
  [some (.aload_n 0, 0, 0, 0), some (.sipush 201, 0, 0, 0), none, none, some (.newarray .int, 0, 0, 0), none, some (.putfield 22, 0, 2, 0), none],
  [none, some (.aload_n 0, 0, 0, 0), some (.bipush 64, 0, 0, 0), none, some (.newarray .long, 0, 0, 0), none, some (.putfield 25, 0, 3, 0), none],
  [none, some (.return_, 0, 0, 0)]]
/-- LaterPrints$Ahead.goTo(LLaterPrints$World;I)V -/
def xt_1 : xT := [[some (.aload_n 0, 0, 0, 0), some (.getfield 14, 0, 0, 0), none, none, some (.aload_n 1, 0, 0, 0), some (.getfield 29, 10, 1, 0), none, none],
  [some (.invokevirtual 34, 10, 2, 1), none, none, some (.iconst 0, 0, 0, 0), some (.istore_n 3, 0, 0, 0), some (.iload_n 3, 0, 0, 0), some (.iload_n 2, 0, 0, 0), some (.if_icmp .ge 20, 35, 0, 0)],
  [none, none, some (.aload_n 0, 0, 0, 0), some (.getfield 14, 0, 0, 0), none, none, some (.aload_n 1, 0, 0, 0), some (.getfield 38, 10, 0, 0)],
  [none, none, some (.invokevirtual 42, 18, 2, 1), none, none, some (.iinc 3 1, 0, 0, 0), none, none],
  [some (.goto (-19), 13, 0, 0), none, none, some (.return_, 0, 0, 0)]]
/-- LaterPrints$Ahead.lookAtSights(LLaterPrints$World;I)V -/
def xt_2 : xT := [[some (.aload_n 0, 0, 0, 0), some (.getfield 14, 0, 0, 0), none, none, some (.aload_n 1, 0, 0, 0), some (.getfield 29, 10, 1, 0), none, none],
  [some (.invokevirtual 34, 10, 2, 1), none, none, some (.aload_n 0, 0, 0, 0), some (.getfield 18, 0, 1, 0), none, none, some (.iconst 0, 0, 0, 0)],
  [some (.aload_n 1, 0, 0, 0), some (.getfield 46, 10, 2, 0), none, none, some (.aload_n 0, 0, 0, 0), some (.getfield 14, 0, 0, 0), none, none],
  [some (.invokevirtual 50, 92, 2, 8), none, none, some (.iastore, 0, 0, 0), some (.iconst 1, 0, 0, 0), some (.istore_n 3, 0, 0, 0), some (.iload_n 3, 0, 0, 0), some (.iload_n 2, 0, 0, 0)],
  [some (.if_icmp .gt 44, 76, 0, 0), none, none, some (.iload_n 3, 0, 0, 0), some (.sipush 200, 0, 0, 0), none, none, some (.if_icmp .gt 37, 76, 0, 0)],
  [none, none, some (.aload_n 0, 0, 0, 0), some (.getfield 14, 0, 0, 0), none, none, some (.aload_n 1, 0, 0, 0), some (.getfield 38, 10, 0, 0)],
  [none, none, some (.invokevirtual 42, 18, 2, 1), none, none, some (.aload_n 0, 0, 0, 0), some (.getfield 18, 0, 1, 0), none],
  [none, some (.iload_n 3, 0, 0, 0), some (.aload_n 1, 0, 0, 0), some (.getfield 46, 10, 2, 0), none, none, some (.aload_n 0, 0, 0, 0), some (.getfield 14, 0, 0, 0)],
  [none, none, some (.invokevirtual 50, 92, 2, 8), none, none, some (.iastore, 0, 0, 0), some (.iinc 3 1, 0, 0, 0), none],
  [none, some (.goto (-43), 30, 0, 0), none, none, some (.return_, 0, 0, 0)]]
/-- LaterPrints$Ahead.lookAtPerson(LLaterPrints$World;II)V -/
def xt_3 : xT := [[some (.aload_n 0, 0, 0, 0), some (.getfield 14, 0, 0, 0), none, none, some (.aload_n 1, 0, 0, 0), some (.getfield 29, 10, 1, 0), none, none],
  [some (.invokevirtual 34, 10, 2, 1), none, none, some (.aload_n 0, 0, 0, 0), some (.getfield 22, 0, 2, 0), none, none, some (.iconst 0, 0, 0, 0)],
  [some (.aload_n 0, 0, 0, 0), some (.getfield 14, 0, 0, 0), none, none, some (.iload_n 2, 0, 0, 0), some (.invokevirtual 56, 12, 2, 1), none, none],
  [some (.iastore, 0, 0, 0), some (.iconst 1, 0, 0, 0), some (.istore 4, 0, 0, 0), none, some (.iload 4, 0, 0, 0), none, some (.iload_n 3, 0, 0, 0), some (.if_icmp .gt 43, 74, 0, 0)],
  [none, none, some (.iload 4, 0, 0, 0), none, some (.sipush 200, 0, 0, 0), none, none, some (.if_icmp .gt 35, 74, 0, 0)],
  [none, none, some (.aload_n 0, 0, 0, 0), some (.getfield 14, 0, 0, 0), none, none, some (.aload_n 1, 0, 0, 0), some (.getfield 38, 10, 0, 0)],
  [none, none, some (.invokevirtual 42, 18, 2, 1), none, none, some (.aload_n 0, 0, 0, 0), some (.getfield 22, 0, 2, 0), none],
  [none, some (.iload 4, 0, 0, 0), none, some (.aload_n 0, 0, 0, 0), some (.getfield 14, 0, 0, 0), none, none, some (.iload_n 2, 0, 0, 0)],
  [some (.invokevirtual 56, 12, 2, 1), none, none, some (.iastore, 0, 0, 0), some (.iinc 4 1, 0, 0, 0), none, none, some (.goto (-43), 28, 0, 0)],
  [none, none, some (.return_, 0, 0, 0)]]
/-- LaterPrints$Ahead.firstShowing(LLaterPrints$World;I)I -/
def xt_4 : xT := [[some (.aload_n 0, 0, 0, 0), some (.getfield 14, 0, 0, 0), none, none, some (.aload_n 1, 0, 0, 0), some (.getfield 29, 10, 1, 0), none, none],
  [some (.invokevirtual 34, 10, 2, 1), none, none, some (.iconst 1, 0, 0, 0), some (.istore_n 3, 0, 0, 0), some (.iload_n 3, 0, 0, 0), some (.sipush 200, 0, 0, 0), none],
  [none, some (.if_icmp .gt 37, 54, 0, 0), none, none, some (.aload_n 0, 0, 0, 0), some (.getfield 14, 0, 0, 0), none, none],
  [some (.aload_n 1, 0, 0, 0), some (.getfield 38, 10, 0, 0), none, none, some (.invokevirtual 42, 18, 2, 1), none, none, some (.aload_n 1, 0, 0, 0)],
  [some (.getfield 46, 10, 2, 0), none, none, some (.iload_n 2, 0, 0, 0), some (.aload_n 0, 0, 0, 0), some (.getfield 14, 0, 0, 0), none, none],
  [some (.invokevirtual 60, 93, 3, 8), none, none, some (.ifCond .eq 5, 48, 0, 0), none, none, some (.iload_n 3, 0, 0, 0), some (.ireturn, 0, 0, 0)],
  [some (.iinc 3 1, 0, 0, 0), none, none, some (.goto (-38), 13, 0, 0), none, none, some (.iconst (-1), 0, 0, 0), some (.ireturn, 0, 0, 0)]]
/-- LaterPrints$Ahead.bestCover(LLaterPrints$World;II)J -/
def xt_5 : xT := [[some (.aload_n 0, 0, 0, 0), some (.aload_n 1, 0, 0, 0), some (.iload_n 3, 0, 0, 0), some (.invokevirtual 64, 2, 3, 0), none, none, some (.aload_n 0, 0, 0, 0), some (.getfield 25, 0, 3, 0)],
  [none, none, some (.ldc2_w 68, 0, 0, (-1)), none, none, some (.invokestatic 70, 354, 2, 0), none, none],
  [some (.aload_n 0, 0, 0, 0), some (.getfield 25, 0, 3, 0), none, none, some (.iconst 0, 0, 0, 0), some (.lconst 0, 0, 0, 0), some (.lastore, 0, 0, 0), some (.iconst 1, 0, 0, 0)],
  [some (.istore 4, 0, 0, 0), none, some (.iload 4, 0, 0, 0), none, some (.iload_n 3, 0, 0, 0), some (.if_icmp .gt 62, 91, 0, 0), none, none],
  [some (.iload 4, 0, 0, 0), none, some (.bipush 12, 0, 0, 0), none, some (.if_icmp .gt 55, 91, 0, 0), none, none, some (.aload_n 1, 0, 0, 0)],
  [some (.aload_n 1, 0, 0, 0), some (.getfield 29, 10, 1, 0), none, none, some (.getfield 76, 1, 1, 0), none, none, some (.iload 4, 0, 0, 0)],
  [none, some (.iadd, 0, 0, 0), some (.invokevirtual 80, 106, 2, 10), none, none, some (.i2l, 0, 0, 0), some (.bipush 16, 0, 0, 0), none],
  [some (.lshl, 0, 0, 0), some (.ldc2_w 83, 0, 0, 4096), none, none, some (.lor, 0, 0, 0), some (.lconst 1, 0, 0, 0), some (.iload 4, 0, 0, 0), none],
  [some (.iconst 1, 0, 0, 0), some (.isub, 0, 0, 0), some (.lshl, 0, 0, 0), some (.lor, 0, 0, 0), some (.lstore 5, 0, 0, 0), none, some (.aload_n 0, 0, 0, 0), some (.aload_n 0, 0, 0, 0)],
  [some (.getfield 18, 0, 1, 0), none, none, some (.iload 4, 0, 0, 0), none, some (.iaload, 0, 0, 0), some (.iload_n 2, 0, 0, 0), some (.iand, 0, 0, 0)],
  [some (.lload 5, 0, 0, 0), none, some (.invokevirtual 85, 6, 3, 0), none, none, some (.iinc 4 1, 0, 0, 0), none, none],
  [some (.goto (-62), 26, 0, 0), none, none, some (.aload_n 0, 0, 0, 0), some (.getfield 25, 0, 3, 0), none, none, some (.iload_n 2, 0, 0, 0)],
  [some (.laload, 0, 0, 0), some (.lreturn, 0, 0, 0)]]
/-- LaterPrints$Ahead.addPrint(IJ)V -/
def xt_6 : xT := [[some (.bipush 63, 0, 0, 0), none, some (.istore 4, 0, 0, 0), none, some (.iload 4, 0, 0, 0), none, some (.ifCond .lt 91, 97, 0, 0), none],
  [none, some (.iload 4, 0, 0, 0), none, some (.iload_n 1, 0, 0, 0), some (.ior, 0, 0, 0), some (.istore 5, 0, 0, 0), none, some (.aload_n 0, 0, 0, 0)],
  [some (.getfield 25, 0, 3, 0), none, none, some (.iload 4, 0, 0, 0), none, some (.laload, 0, 0, 0), some (.ldc2_w 68, 0, 0, (-1)), none],
  [none, some (.lcmp, 0, 0, 0), some (.ifCond .eq 41, 67, 0, 0), none, none, some (.aload_n 0, 0, 0, 0), some (.getfield 25, 0, 3, 0), none],
  [none, some (.iload 5, 0, 0, 0), none, some (.laload, 0, 0, 0), some (.ldc2_w 68, 0, 0, (-1)), none, none, some (.lcmp, 0, 0, 0)],
  [some (.ifCond .eq 23, 63, 0, 0), none, none, some (.aload_n 0, 0, 0, 0), some (.getfield 25, 0, 3, 0), none, none, some (.iload 4, 0, 0, 0)],
  [none, some (.laload, 0, 0, 0), some (.lload_n 2, 0, 0, 0), some (.ladd, 0, 0, 0), some (.aload_n 0, 0, 0, 0), some (.getfield 25, 0, 3, 0), none, none],
  [some (.iload 5, 0, 0, 0), none, some (.laload, 0, 0, 0), some (.lcmp, 0, 0, 0), some (.ifCond .ge 7, 67, 0, 0), none, none, some (.iconst 1, 0, 0, 0)],
  [some (.goto 4, 68, 0, 0), none, none, some (.iconst 0, 0, 0, 0), some (.istore 6, 0, 0, 0), none, some (.iload 6, 0, 0, 0), none],
  [some (.ifCond .eq 19, 91, 0, 0), none, none, some (.aload_n 0, 0, 0, 0), some (.getfield 25, 0, 3, 0), none, none, some (.iload 5, 0, 0, 0)],
  [none, some (.aload_n 0, 0, 0, 0), some (.getfield 25, 0, 3, 0), none, none, some (.iload 4, 0, 0, 0), none, some (.laload, 0, 0, 0)],
  [some (.lload_n 2, 0, 0, 0), some (.ladd, 0, 0, 0), some (.lastore, 0, 0, 0), some (.iinc 4 (-1), 0, 0, 0), none, none, some (.goto (-90), 4, 0, 0), none],
  [none, some (.return_, 0, 0, 0)]]
/-- LaterPrints$Ahead.costIn(J)I -/
def xt_7 : xT := [[some (.lload_n 0, 0, 0, 0), some (.bipush 16, 0, 0, 0), none, some (.lshr, 0, 0, 0), some (.l2i, 0, 0, 0), some (.ireturn, 0, 0, 0)]]
/-- LaterPrints$Ahead.printsIn(J)I -/
def xt_8 : xT := [[some (.lload_n 0, 0, 0, 0), some (.ldc2_w 89, 0, 0, 4095), none, none, some (.land, 0, 0, 0), some (.l2i, 0, 0, 0), some (.ireturn, 0, 0, 0)]]
/-- LaterPrints$Folk.<init>()V -/
def xt_9 : xT := [[some (.aload_n 0, 0, 0, 0), some (.invokespecial 3, 5000, 1, 0), none, none, some (.aload_n 0, 0, 0, 0), some (.iconst 0, 0, 0, 0), some (.putfield 9, 1, 0, 0), none],
  [none, some (.aload_n 0, 0, 0, 0), some (.iconst 0, 0, 0, 0), some (.putfield 15, 1, 1, 0), none, none, some (.aload_n 0, 0, 0, 0), some (.iconst 5, 0, 0, 0)],
  [some (.newarray .long, 0, 0, 0), none, some (.putfield 18, 1, 2, 0), none, none, some (.aload_n 0, 0, 0, 0), some (.iconst 5, 0, 0, 0), some (.newarray .int, 0, 0, 0)],
  [none, some (.putfield 22, 1, 3, 0), none, none, some (.aload_n 0, 0, 0, 0), some (.iconst 5, 0, 0, 0), some (.newarray .int, 0, 0, 0), none],
  [some (.putfield 26, 1, 4, 0), none, none, some (.aload_n 0, 0, 0, 0), some (.iconst 5, 0, 0, 0), some (.newarray .int, 0, 0, 0), none, some (.putfield 29, 1, 5, 0)],
  [none, none, some (.aload_n 0, 0, 0, 0), some (.iconst 5, 0, 0, 0), some (.newarray .int, 0, 0, 0), none, some (.putfield 32, 1, 6, 0), none],
  [none, some (.aload_n 0, 0, 0, 0), some (.bipush 40, 0, 0, 0), none, some (.newarray .int, 0, 0, 0), none, some (.putfield 35, 1, 7, 0), none],
  [none, some (.aload_n 0, 0, 0, 0), some (.iconst 5, 0, 0, 0), some (.newarray .int, 0, 0, 0), none, some (.putfield 38, 1, 8, 0), none, none],
  [some (.aload_n 0, 0, 0, 0), some (.iconst 5, 0, 0, 0), some (.newarray .int, 0, 0, 0), none, some (.putfield 41, 1, 9, 0), none, none, some (.return_, 0, 0, 0)]]
/-- LaterPrints$Folk.takeOver(LLaterPrints$Folk;)V -/
def xt_10 : xT := [[some (.aload_n 0, 0, 0, 0), some (.aload_n 1, 0, 0, 0), some (.getfield 9, 1, 0, 0), none, none, some (.putfield 9, 1, 0, 0), none, none],
  [some (.aload_n 0, 0, 0, 0), some (.aload_n 1, 0, 0, 0), some (.getfield 15, 1, 1, 0), none, none, some (.putfield 15, 1, 1, 0), none, none],
  [some (.aload_n 1, 0, 0, 0), some (.getfield 18, 1, 2, 0), none, none, some (.iconst 0, 0, 0, 0), some (.aload_n 0, 0, 0, 0), some (.getfield 18, 1, 2, 0), none],
  [none, some (.iconst 0, 0, 0, 0), some (.iconst 5, 0, 0, 0), some (.invokestatic 44, 5001, 5, 0), none, none, some (.aload_n 1, 0, 0, 0), some (.getfield 22, 1, 3, 0)],
  [none, none, some (.iconst 0, 0, 0, 0), some (.aload_n 0, 0, 0, 0), some (.getfield 22, 1, 3, 0), none, none, some (.iconst 0, 0, 0, 0)],
  [some (.iconst 5, 0, 0, 0), some (.invokestatic 44, 5001, 5, 0), none, none, some (.aload_n 1, 0, 0, 0), some (.getfield 26, 1, 4, 0), none, none],
  [some (.iconst 0, 0, 0, 0), some (.aload_n 0, 0, 0, 0), some (.getfield 26, 1, 4, 0), none, none, some (.iconst 0, 0, 0, 0), some (.iconst 5, 0, 0, 0), some (.invokestatic 44, 5001, 5, 0)],
  [none, none, some (.aload_n 1, 0, 0, 0), some (.getfield 29, 1, 5, 0), none, none, some (.iconst 0, 0, 0, 0), some (.aload_n 0, 0, 0, 0)],
  [some (.getfield 29, 1, 5, 0), none, none, some (.iconst 0, 0, 0, 0), some (.iconst 5, 0, 0, 0), some (.invokestatic 44, 5001, 5, 0), none, none],
  [some (.aload_n 1, 0, 0, 0), some (.getfield 32, 1, 6, 0), none, none, some (.iconst 0, 0, 0, 0), some (.aload_n 0, 0, 0, 0), some (.getfield 32, 1, 6, 0), none],
  [none, some (.iconst 0, 0, 0, 0), some (.iconst 5, 0, 0, 0), some (.invokestatic 44, 5001, 5, 0), none, none, some (.aload_n 1, 0, 0, 0), some (.getfield 35, 1, 7, 0)],
  [none, none, some (.iconst 0, 0, 0, 0), some (.aload_n 0, 0, 0, 0), some (.getfield 35, 1, 7, 0), none, none, some (.iconst 0, 0, 0, 0)],
  [some (.bipush 40, 0, 0, 0), none, some (.invokestatic 44, 5001, 5, 0), none, none, some (.aload_n 1, 0, 0, 0), some (.getfield 38, 1, 8, 0), none],
  [none, some (.iconst 0, 0, 0, 0), some (.aload_n 0, 0, 0, 0), some (.getfield 38, 1, 8, 0), none, none, some (.iconst 0, 0, 0, 0), some (.iconst 5, 0, 0, 0)],
  [some (.invokestatic 44, 5001, 5, 0), none, none, some (.aload_n 1, 0, 0, 0), some (.getfield 41, 1, 9, 0), none, none, some (.iconst 0, 0, 0, 0)],
  [some (.aload_n 0, 0, 0, 0), some (.getfield 41, 1, 9, 0), none, none, some (.iconst 0, 0, 0, 0), some (.iconst 5, 0, 0, 0), some (.invokestatic 44, 5001, 5, 0), none],
  [none, some (.return_, 0, 0, 0)]]
/-- LaterPrints$Folk.begin()V -/
def xt_11 : xT := [[some (.aload_n 0, 0, 0, 0), some (.iconst 0, 0, 0, 0), some (.putfield 15, 1, 1, 0), none, none, some (.iconst 0, 0, 0, 0), some (.istore_n 1, 0, 0, 0), some (.iload_n 1, 0, 0, 0)],
  [some (.aload_n 0, 0, 0, 0), some (.getfield 9, 1, 0, 0), none, none, some (.if_icmp .ge 41, 53, 0, 0), none, none, some (.aload_n 0, 0, 0, 0)],
  [some (.getfield 38, 1, 8, 0), none, none, some (.iload_n 1, 0, 0, 0), some (.aload_n 0, 0, 0, 0), some (.getfield 26, 1, 4, 0), none, none],
  [some (.iload_n 1, 0, 0, 0), some (.iaload, 0, 0, 0), some (.ifCond .ne 7, 33, 0, 0), none, none, some (.iconst 1, 0, 0, 0), some (.goto 4, 34, 0, 0), none],
  [none, some (.iconst 0, 0, 0, 0), some (.iastore, 0, 0, 0), some (.aload_n 0, 0, 0, 0), some (.getfield 41, 1, 9, 0), none, none, some (.iload_n 1, 0, 0, 0)],
  [some (.aload_n 0, 0, 0, 0), some (.getfield 22, 1, 3, 0), none, none, some (.iload_n 1, 0, 0, 0), some (.iaload, 0, 0, 0), some (.iastore, 0, 0, 0), some (.iinc 1 1, 0, 0, 0)],
  [none, none, some (.goto (-43), 7, 0, 0), none, none, some (.return_, 0, 0, 0)]]
/-- LaterPrints$Folk.cellNow(I)I -/
def xt_12 : xT := [[some (.aload_n 0, 0, 0, 0), some (.getfield 38, 1, 8, 0), none, none, some (.iload_n 1, 0, 0, 0), some (.iaload, 0, 0, 0), some (.iconst 1, 0, 0, 0), some (.if_icmp .ne 12, 19, 0, 0)],
  [none, none, some (.aload_n 0, 0, 0, 0), some (.getfield 41, 1, 9, 0), none, none, some (.iload_n 1, 0, 0, 0), some (.iaload, 0, 0, 0)],
  [some (.goto 4, 20, 0, 0), none, none, some (.iconst (-1), 0, 0, 0), some (.ireturn, 0, 0, 0)]]
/-- LaterPrints$Folk.standing(I)I -/
def xt_13 : xT := [[some (.iconst 0, 0, 0, 0), some (.istore_n 2, 0, 0, 0), some (.iload_n 2, 0, 0, 0), some (.aload_n 0, 0, 0, 0), some (.getfield 9, 1, 0, 0), none, none, some (.if_icmp .ge 20, 27, 0, 0)],
  [none, none, some (.aload_n 0, 0, 0, 0), some (.iload_n 2, 0, 0, 0), some (.invokevirtual 50, 12, 2, 1), none, none, some (.iload_n 1, 0, 0, 0)],
  [some (.if_icmp .ne 5, 21, 0, 0), none, none, some (.iload_n 2, 0, 0, 0), some (.ireturn, 0, 0, 0), some (.iinc 2 1, 0, 0, 0), none, none],
  [some (.goto (-22), 2, 0, 0), none, none, some (.iconst (-1), 0, 0, 0), some (.ireturn, 0, 0, 0)]]
/-- LaterPrints$Folk.isFree(ILLaterPrints$Room;)Z -/
def xt_14 : xT := [[some (.aload_n 2, 0, 0, 0), some (.getfield 54, 3, 2, 0), none, none, some (.iload_n 1, 0, 0, 0), some (.lushr, 0, 0, 0), some (.lconst 1, 0, 0, 0), some (.land, 0, 0, 0)],
  [some (.lconst 0, 0, 0, 0), some (.lcmp, 0, 0, 0), some (.ifCond .eq 5, 15, 0, 0), none, none, some (.iconst 0, 0, 0, 0), some (.ireturn, 0, 0, 0), some (.iconst 0, 0, 0, 0)],
  [some (.istore_n 3, 0, 0, 0), some (.iload_n 3, 0, 0, 0), some (.aload_n 0, 0, 0, 0), some (.getfield 9, 1, 0, 0), none, none, some (.if_icmp .ge 31, 53, 0, 0), none],
  [none, some (.aload_n 0, 0, 0, 0), some (.getfield 38, 1, 8, 0), none, none, some (.iload_n 3, 0, 0, 0), some (.iaload, 0, 0, 0), some (.iconst 1, 0, 0, 0)],
  [some (.if_icmp .ne 15, 47, 0, 0), none, none, some (.aload_n 0, 0, 0, 0), some (.getfield 41, 1, 9, 0), none, none, some (.iload_n 3, 0, 0, 0)],
  [some (.iaload, 0, 0, 0), some (.iload_n 1, 0, 0, 0), some (.if_icmp .ne 5, 47, 0, 0), none, none, some (.iconst 0, 0, 0, 0), some (.ireturn, 0, 0, 0), some (.iinc 3 1, 0, 0, 0)],
  [none, none, some (.goto (-33), 17, 0, 0), none, none, some (.iconst 1, 0, 0, 0), some (.ireturn, 0, 0, 0)]]
/-- LaterPrints$Folk.isHome(I)Z -/
def xt_15 : xT := [[some (.iconst 0, 0, 0, 0), some (.istore_n 2, 0, 0, 0), some (.iload_n 2, 0, 0, 0), some (.aload_n 0, 0, 0, 0), some (.getfield 9, 1, 0, 0), none, none, some (.if_icmp .ge 21, 28, 0, 0)],
  [none, none, some (.aload_n 0, 0, 0, 0), some (.getfield 22, 1, 3, 0), none, none, some (.iload_n 2, 0, 0, 0), some (.iaload, 0, 0, 0)],
  [some (.iload_n 1, 0, 0, 0), some (.if_icmp .ne 5, 22, 0, 0), none, none, some (.iconst 1, 0, 0, 0), some (.ireturn, 0, 0, 0), some (.iinc 2 1, 0, 0, 0), none],
  [none, some (.goto (-23), 2, 0, 0), none, none, some (.iconst 0, 0, 0, 0), some (.ireturn, 0, 0, 0)]]
/-- LaterPrints$Folk.setIn(I)I -/
def xt_16 : xT := [[some (.iconst 0, 0, 0, 0), some (.istore_n 2, 0, 0, 0), some (.iconst 0, 0, 0, 0), some (.istore_n 3, 0, 0, 0), some (.iload_n 3, 0, 0, 0), some (.aload_n 0, 0, 0, 0), some (.getfield 9, 1, 0, 0), none],
  [none, some (.if_icmp .ge 25, 34, 0, 0), none, none, some (.aload_n 0, 0, 0, 0), some (.getfield 38, 1, 8, 0), none, none],
  [some (.iload_n 3, 0, 0, 0), some (.iaload, 0, 0, 0), some (.iload_n 1, 0, 0, 0), some (.if_icmp .ne 9, 28, 0, 0), none, none, some (.iload_n 2, 0, 0, 0), some (.iconst 1, 0, 0, 0)],
  [some (.iload_n 3, 0, 0, 0), some (.ishl, 0, 0, 0), some (.ior, 0, 0, 0), some (.istore_n 2, 0, 0, 0), some (.iinc 3 1, 0, 0, 0), none, none, some (.goto (-27), 4, 0, 0)],
  [none, none, some (.iload_n 2, 0, 0, 0), some (.ireturn, 0, 0, 0)]]
/-- LaterPrints$Folk.isAs(LLaterPrints$Folk;)Z -/
def xt_17 : xT := [[some (.iconst 0, 0, 0, 0), some (.istore_n 2, 0, 0, 0), some (.iload_n 2, 0, 0, 0), some (.aload_n 0, 0, 0, 0), some (.getfield 9, 1, 0, 0), none, none, some (.if_icmp .ge 39, 46, 0, 0)],
  [none, none, some (.aload_n 0, 0, 0, 0), some (.getfield 38, 1, 8, 0), none, none, some (.iload_n 2, 0, 0, 0), some (.iaload, 0, 0, 0)],
  [some (.aload_n 1, 0, 0, 0), some (.getfield 38, 1, 8, 0), none, none, some (.iload_n 2, 0, 0, 0), some (.iaload, 0, 0, 0), some (.if_icmp .ne 16, 38, 0, 0), none],
  [none, some (.aload_n 0, 0, 0, 0), some (.iload_n 2, 0, 0, 0), some (.invokevirtual 50, 12, 2, 1), none, none, some (.aload_n 1, 0, 0, 0), some (.iload_n 2, 0, 0, 0)],
  [some (.invokevirtual 50, 12, 2, 1), none, none, some (.if_icmp .eq 5, 40, 0, 0), none, none, some (.iconst 0, 0, 0, 0), some (.ireturn, 0, 0, 0)],
  [some (.iinc 2 1, 0, 0, 0), none, none, some (.goto (-41), 2, 0, 0), none, none, some (.iconst 1, 0, 0, 0), some (.ireturn, 0, 0, 0)]]
/-- LaterPrints$Folk.goOn(LLaterPrints$Room;)V -/
def xt_18 : xT := [[some (.iconst 0, 0, 0, 0), some (.istore_n 2, 0, 0, 0), some (.iload_n 2, 0, 0, 0), some (.aload_n 0, 0, 0, 0), some (.getfield 9, 1, 0, 0), none, none, some (.if_icmp .ge 43, 50, 0, 0)],
  [none, none, some (.aload_n 0, 0, 0, 0), some (.getfield 38, 1, 8, 0), none, none, some (.iload_n 2, 0, 0, 0), some (.iaload, 0, 0, 0)],
  [some (.ifCond .ne 12, 28, 0, 0), none, none, some (.aload_n 0, 0, 0, 0), some (.iload_n 2, 0, 0, 0), some (.aload_n 1, 0, 0, 0), some (.invokevirtual 60, 19, 3, 1), none],
  [none, some (.goto 19, 44, 0, 0), none, none, some (.aload_n 0, 0, 0, 0), some (.getfield 38, 1, 8, 0), none, none],
  [some (.iload_n 2, 0, 0, 0), some (.iaload, 0, 0, 0), some (.iconst 1, 0, 0, 0), some (.if_icmp .ne 9, 44, 0, 0), none, none, some (.aload_n 0, 0, 0, 0), some (.iload_n 2, 0, 0, 0)],
  [some (.aload_n 1, 0, 0, 0), some (.invokevirtual 64, 20, 3, 1), none, none, some (.iinc 2 1, 0, 0, 0), none, none, some (.goto (-45), 2, 0, 0)],
  [none, none, some (.aload_n 0, 0, 0, 0), some (.dup, 0, 0, 0), some (.getfield 15, 1, 1, 0), none, none, some (.iconst 1, 0, 0, 0)],
  [some (.iadd, 0, 0, 0), some (.putfield 15, 1, 1, 0), none, none, some (.return_, 0, 0, 0)]]
/-- LaterPrints$Folk.enter(ILLaterPrints$Room;)V -/
def xt_19 : xT := [[some (.aload_n 0, 0, 0, 0), some (.getfield 26, 1, 4, 0), none, none, some (.iload_n 1, 0, 0, 0), some (.iaload, 0, 0, 0), some (.aload_n 0, 0, 0, 0), some (.getfield 15, 1, 1, 0)],
  [none, none, some (.iconst 1, 0, 0, 0), some (.iadd, 0, 0, 0), some (.if_icmp .le 4, 16, 0, 0), none, none, some (.return_, 0, 0, 0)],
  [some (.aload_n 0, 0, 0, 0), some (.iload_n 1, 0, 0, 0), some (.invokevirtual 67, 21, 2, 1), none, none, some (.ifCond .eq 13, 34, 0, 0), none, none],
  [some (.aload_n 0, 0, 0, 0), some (.getfield 38, 1, 8, 0), none, none, some (.iload_n 1, 0, 0, 0), some (.iconst 2, 0, 0, 0), some (.iastore, 0, 0, 0), some (.goto 36, 67, 0, 0)],
  [none, none, some (.aload_n 0, 0, 0, 0), some (.aload_n 0, 0, 0, 0), some (.getfield 22, 1, 3, 0), none, none, some (.iload_n 1, 0, 0, 0)],
  [some (.iaload, 0, 0, 0), some (.aload_n 2, 0, 0, 0), some (.invokevirtual 71, 14, 3, 1), none, none, some (.ifCond .eq 22, 67, 0, 0), none, none],
  [some (.aload_n 0, 0, 0, 0), some (.getfield 38, 1, 8, 0), none, none, some (.iload_n 1, 0, 0, 0), some (.iconst 1, 0, 0, 0), some (.iastore, 0, 0, 0), some (.aload_n 0, 0, 0, 0)],
  [some (.getfield 41, 1, 9, 0), none, none, some (.iload_n 1, 0, 0, 0), some (.aload_n 0, 0, 0, 0), some (.getfield 22, 1, 3, 0), none, none],
  [some (.iload_n 1, 0, 0, 0), some (.iaload, 0, 0, 0), some (.iastore, 0, 0, 0), some (.return_, 0, 0, 0)]]
/-- LaterPrints$Folk.walk(ILLaterPrints$Room;)V -/
def xt_20 : xT := [[some (.aload_n 0, 0, 0, 0), some (.iload_n 1, 0, 0, 0), some (.invokevirtual 67, 21, 2, 1), none, none, some (.ifCond .eq 11, 16, 0, 0), none, none],
  [some (.aload_n 0, 0, 0, 0), some (.getfield 38, 1, 8, 0), none, none, some (.iload_n 1, 0, 0, 0), some (.iconst 2, 0, 0, 0), some (.iastore, 0, 0, 0), some (.return_, 0, 0, 0)],
  [some (.aload_n 2, 0, 0, 0), some (.aload_n 0, 0, 0, 0), some (.getfield 41, 1, 9, 0), none, none, some (.iload_n 1, 0, 0, 0), some (.iaload, 0, 0, 0), some (.aload_n 0, 0, 0, 0)],
  [some (.iload_n 1, 0, 0, 0), some (.invokevirtual 75, 22, 2, 1), none, none, some (.invokevirtual 78, 48, 3, 3), none, none, some (.istore_n 3, 0, 0, 0)],
  [some (.iload_n 3, 0, 0, 0), some (.iconst (-1), 0, 0, 0), some (.if_icmp .eq 19, 53, 0, 0), none, none, some (.aload_n 0, 0, 0, 0), some (.iload_n 3, 0, 0, 0), some (.aload_n 2, 0, 0, 0)],
  [some (.invokevirtual 71, 14, 3, 1), none, none, some (.ifCond .eq 10, 53, 0, 0), none, none, some (.aload_n 0, 0, 0, 0), some (.getfield 41, 1, 9, 0)],
  [none, none, some (.iload_n 1, 0, 0, 0), some (.iload_n 3, 0, 0, 0), some (.iastore, 0, 0, 0), some (.return_, 0, 0, 0)]]
/-- LaterPrints$Folk.mustLeave(I)Z -/
def xt_21 : xT := [[some (.aload_n 0, 0, 0, 0), some (.getfield 29, 1, 5, 0), none, none, some (.iload_n 1, 0, 0, 0), some (.iaload, 0, 0, 0), some (.iconst (-1), 0, 0, 0), some (.if_icmp .eq 22, 29, 0, 0)],
  [none, none, some (.aload_n 0, 0, 0, 0), some (.getfield 29, 1, 5, 0), none, none, some (.iload_n 1, 0, 0, 0), some (.iaload, 0, 0, 0)],
  [some (.aload_n 0, 0, 0, 0), some (.getfield 15, 1, 1, 0), none, none, some (.iconst 1, 0, 0, 0), some (.iadd, 0, 0, 0), some (.if_icmp .gt 7, 29, 0, 0), none],
  [none, some (.iconst 1, 0, 0, 0), some (.goto 4, 30, 0, 0), none, none, some (.iconst 0, 0, 0, 0), some (.ireturn, 0, 0, 0)]]
/-- LaterPrints$Folk.stepNow(I)I -/
def xt_22 : xT := [[some (.aload_n 0, 0, 0, 0), some (.getfield 32, 1, 6, 0), none, none, some (.iload_n 1, 0, 0, 0), some (.iaload, 0, 0, 0), some (.istore_n 2, 0, 0, 0), some (.iload_n 2, 0, 0, 0)],
  [some (.iconst 1, 0, 0, 0), some (.if_icmp .ge 7, 16, 0, 0), none, none, some (.iconst 4, 0, 0, 0), some (.goto 19, 32, 0, 0), none, none],
  [some (.aload_n 0, 0, 0, 0), some (.getfield 35, 1, 7, 0), none, none, some (.iload_n 1, 0, 0, 0), some (.bipush 8, 0, 0, 0), none, some (.imul, 0, 0, 0)],
  [some (.aload_n 0, 0, 0, 0), some (.getfield 15, 1, 1, 0), none, none, some (.iload_n 2, 0, 0, 0), some (.irem, 0, 0, 0), some (.iadd, 0, 0, 0), some (.iaload, 0, 0, 0)],
  [some (.ireturn, 0, 0, 0)]]
/-- LaterPrints$Reader.<init>()V -/
def xt_23 : xT := [[some (.aload_n 0, 0, 0, 0), some (.invokespecial 3, 5000, 1, 0), none, none, some (.aload_n 0, 0, 0, 0), some (.sipush 900, 0, 0, 0), none, none],
  [some (.newarray .byte, 0, 0, 0), none, some (.putfield 9, 2, 0, 0), none, none, some (.aload_n 0, 0, 0, 0), some (.iconst 0, 0, 0, 0), some (.putfield 15, 2, 1, 0)],
  [none, none, some (.aload_n 0, 0, 0, 0), some (.iconst 0, 0, 0, 0), some (.putfield 19, 2, 2, 0), none, none, some (.aload_n 0, 0, 0, 0)],
  [some (.iconst 0, 0, 0, 0), some (.putfield 22, 2, 3, 0), none, none, some (.aload_n 0, 0, 0, 0), some (.iconst 0, 0, 0, 0), some (.putfield 25, 2, 4, 0), none],
  [none, some (.aload_n 0, 0, 0, 0), some (.iconst (-1), 0, 0, 0), some (.putfield 28, 2, 5, 0), none, none, some (.aload_n 0, 0, 0, 0), some (.lconst 0, 0, 0, 0)],
  [some (.putfield 31, 2, 6, 0), none, none, some (.aload_n 0, 0, 0, 0), some (.iconst 0, 0, 0, 0), some (.putfield 35, 2, 7, 0), none, none],
  [some (.aload_n 0, 0, 0, 0), some (.iconst (-1), 0, 0, 0), some (.putfield 38, 2, 8, 0), none, none, some (.aload_n 0, 0, 0, 0), some (.iconst 0, 0, 0, 0), some (.putfield 41, 2, 9, 0)],
  [none, none, some (.aload_n 0, 0, 0, 0), some (.iconst (-1), 0, 0, 0), some (.putfield 44, 2, 10, 0), none, none, some (.return_, 0, 0, 0)]]
/-- LaterPrints$Reader.open(I)V -/
def xt_24 : xT := [[some (.aload_n 0, 0, 0, 0), some (.iload_n 1, 0, 0, 0), some (.sipush 900, 0, 0, 0), none, none, some (.invokestatic 47, 5003, 2, 0), none, none],
  [some (.putfield 15, 2, 1, 0), none, none, some (.aload_n 0, 0, 0, 0), some (.iconst 0, 0, 0, 0), some (.putfield 25, 2, 4, 0), none, none],
  [some (.aload_n 0, 0, 0, 0), some (.iconst 0, 0, 0, 0), some (.putfield 41, 2, 9, 0), none, none, some (.aload_n 0, 0, 0, 0), some (.iconst (-1), 0, 0, 0), some (.putfield 44, 2, 10, 0)],
  [none, none, some (.aload_n 0, 0, 0, 0), some (.invokevirtual 53, 25, 1, 2), none, none, some (.return_, 0, 0, 0)]]
/-- LaterPrints$Reader.advance()V -/
def xt_25 : xT := [[some (.aload_n 0, 0, 0, 0), some (.aload_n 0, 0, 0, 0), some (.getfield 25, 2, 4, 0), none, none, some (.putfield 22, 2, 3, 0), none, none],
  [some (.aload_n 0, 0, 0, 0), some (.getfield 22, 2, 3, 0), none, none, some (.aload_n 0, 0, 0, 0), some (.getfield 15, 2, 1, 0), none, none],
  [some (.if_icmp .ge 44, 60, 0, 0), none, none, some (.aload_n 0, 0, 0, 0), some (.getfield 9, 2, 0, 0), none, none, some (.aload_n 0, 0, 0, 0)],
  [some (.getfield 22, 2, 3, 0), none, none, some (.baload, 0, 0, 0), some (.bipush 32, 0, 0, 0), none, some (.if_icmp .eq 17, 47, 0, 0), none],
  [none, some (.aload_n 0, 0, 0, 0), some (.getfield 9, 2, 0, 0), none, none, some (.aload_n 0, 0, 0, 0), some (.getfield 22, 2, 3, 0), none],
  [none, some (.baload, 0, 0, 0), some (.bipush 10, 0, 0, 0), none, some (.if_icmp .ne 16, 60, 0, 0), none, none, some (.aload_n 0, 0, 0, 0)],
  [some (.dup, 0, 0, 0), some (.getfield 22, 2, 3, 0), none, none, some (.iconst 1, 0, 0, 0), some (.iadd, 0, 0, 0), some (.putfield 22, 2, 3, 0), none],
  [none, some (.goto (-49), 8, 0, 0), none, none, some (.aload_n 0, 0, 0, 0), some (.aload_n 0, 0, 0, 0), some (.getfield 22, 2, 3, 0), none],
  [none, some (.putfield 25, 2, 4, 0), none, none, some (.aload_n 0, 0, 0, 0), some (.iconst (-1), 0, 0, 0), some (.putfield 28, 2, 5, 0), none],
  [none, some (.aload_n 0, 0, 0, 0), some (.lconst 0, 0, 0, 0), some (.putfield 31, 2, 6, 0), none, none, some (.aload_n 0, 0, 0, 0), some (.iconst 0, 0, 0, 0)],
  [some (.putfield 35, 2, 7, 0), none, none, some (.aload_n 0, 0, 0, 0), some (.getfield 22, 2, 3, 0), none, none, some (.aload_n 0, 0, 0, 0)],
  [some (.getfield 15, 2, 1, 0), none, none, some (.if_icmp .lt 11, 102, 0, 0), none, none, some (.aload_n 0, 0, 0, 0), some (.iconst 0, 0, 0, 0)],
  [some (.putfield 19, 2, 2, 0), none, none, some (.goto 51, 150, 0, 0), none, none, some (.aload_n 0, 0, 0, 0), some (.aload_n 0, 0, 0, 0)],
  [some (.getfield 22, 2, 3, 0), none, none, some (.invokevirtual 56, 26, 2, 2), none, none, some (.ifCond .eq 18, 128, 0, 0), none],
  [none, some (.aload_n 0, 0, 0, 0), some (.invokevirtual 60, 28, 1, 2), none, none, some (.aload_n 0, 0, 0, 0), some (.aload_n 0, 0, 0, 0), some (.invokevirtual 63, 31, 1, 2)],
  [none, none, some (.putfield 28, 2, 5, 0), none, none, some (.goto 25, 150, 0, 0), none, none],
  [some (.aload_n 0, 0, 0, 0), some (.aload_n 0, 0, 0, 0), some (.getfield 22, 2, 3, 0), none, none, some (.invokevirtual 67, 27, 2, 2), none, none],
  [some (.ifCond .eq 10, 146, 0, 0), none, none, some (.aload_n 0, 0, 0, 0), some (.invokevirtual 70, 29, 1, 2), none, none, some (.goto 7, 150, 0, 0)],
  [none, none, some (.aload_n 0, 0, 0, 0), some (.invokevirtual 73, 30, 1, 2), none, none, some (.return_, 0, 0, 0)]]
/-- LaterPrints$Reader.isLetter(I)Z -/
def xt_26 : xT := [[some (.iload_n 1, 0, 0, 0), some (.aload_n 0, 0, 0, 0), some (.getfield 15, 2, 1, 0), none, none, some (.if_icmp .ge 29, 34, 0, 0), none, none],
  [some (.aload_n 0, 0, 0, 0), some (.getfield 9, 2, 0, 0), none, none, some (.iload_n 1, 0, 0, 0), some (.baload, 0, 0, 0), some (.bipush 97, 0, 0, 0), none],
  [some (.if_icmp .lt 18, 34, 0, 0), none, none, some (.aload_n 0, 0, 0, 0), some (.getfield 9, 2, 0, 0), none, none, some (.iload_n 1, 0, 0, 0)],
  [some (.baload, 0, 0, 0), some (.bipush 122, 0, 0, 0), none, some (.if_icmp .gt 7, 34, 0, 0), none, none, some (.iconst 1, 0, 0, 0), some (.goto 4, 35, 0, 0)],
  [none, none, some (.iconst 0, 0, 0, 0), some (.ireturn, 0, 0, 0)]]
/-- LaterPrints$Reader.isDigit(I)Z -/
def xt_27 : xT := [[some (.iload_n 1, 0, 0, 0), some (.aload_n 0, 0, 0, 0), some (.getfield 15, 2, 1, 0), none, none, some (.if_icmp .ge 29, 34, 0, 0), none, none],
  [some (.aload_n 0, 0, 0, 0), some (.getfield 9, 2, 0, 0), none, none, some (.iload_n 1, 0, 0, 0), some (.baload, 0, 0, 0), some (.bipush 48, 0, 0, 0), none],
  [some (.if_icmp .lt 18, 34, 0, 0), none, none, some (.aload_n 0, 0, 0, 0), some (.getfield 9, 2, 0, 0), none, none, some (.iload_n 1, 0, 0, 0)],
  [some (.baload, 0, 0, 0), some (.bipush 57, 0, 0, 0), none, some (.if_icmp .gt 7, 34, 0, 0), none, none, some (.iconst 1, 0, 0, 0), some (.goto 4, 35, 0, 0)],
  [none, none, some (.iconst 0, 0, 0, 0), some (.ireturn, 0, 0, 0)]]
/-- LaterPrints$Reader.scanWord()V -/
def xt_28 : xT := [[some (.aload_n 0, 0, 0, 0), some (.iconst 1, 0, 0, 0), some (.putfield 19, 2, 2, 0), none, none, some (.aload_n 0, 0, 0, 0), some (.getfield 25, 2, 4, 0), none],
  [none, some (.aload_n 0, 0, 0, 0), some (.getfield 15, 2, 1, 0), none, none, some (.if_icmp .ge 69, 82, 0, 0), none, none],
  [some (.aload_n 0, 0, 0, 0), some (.aload_n 0, 0, 0, 0), some (.getfield 25, 2, 4, 0), none, none, some (.invokevirtual 56, 26, 2, 2), none, none],
  [some (.ifCond .eq 58, 82, 0, 0), none, none, some (.aload_n 0, 0, 0, 0), some (.getfield 25, 2, 4, 0), none, none, some (.aload_n 0, 0, 0, 0)],
  [some (.getfield 22, 2, 3, 0), none, none, some (.isub, 0, 0, 0), some (.bipush 8, 0, 0, 0), none, some (.if_icmp .ge 31, 69, 0, 0), none],
  [none, some (.aload_n 0, 0, 0, 0), some (.aload_n 0, 0, 0, 0), some (.getfield 31, 2, 6, 0), none, none, some (.ldc2_w 76, 0, 0, 32), none],
  [none, some (.lmul, 0, 0, 0), some (.aload_n 0, 0, 0, 0), some (.getfield 9, 2, 0, 0), none, none, some (.aload_n 0, 0, 0, 0), some (.getfield 25, 2, 4, 0)],
  [none, none, some (.baload, 0, 0, 0), some (.bipush 97, 0, 0, 0), none, some (.isub, 0, 0, 0), some (.iconst 1, 0, 0, 0), some (.iadd, 0, 0, 0)],
  [some (.i2l, 0, 0, 0), some (.ladd, 0, 0, 0), some (.putfield 31, 2, 6, 0), none, none, some (.aload_n 0, 0, 0, 0), some (.dup, 0, 0, 0), some (.getfield 25, 2, 4, 0)],
  [none, none, some (.iconst 1, 0, 0, 0), some (.iadd, 0, 0, 0), some (.putfield 25, 2, 4, 0), none, none, some (.goto (-74), 5, 0, 0)],
  [none, none, some (.return_, 0, 0, 0)]]
/-- LaterPrints$Reader.scanNumber()V -/
def xt_29 : xT := [[some (.aload_n 0, 0, 0, 0), some (.getfield 25, 2, 4, 0), none, none, some (.aload_n 0, 0, 0, 0), some (.getfield 15, 2, 1, 0), none, none],
  [some (.if_icmp .ge 64, 72, 0, 0), none, none, some (.aload_n 0, 0, 0, 0), some (.aload_n 0, 0, 0, 0), some (.getfield 25, 2, 4, 0), none, none],
  [some (.invokevirtual 67, 27, 2, 2), none, none, some (.ifCond .eq 53, 72, 0, 0), none, none, some (.aload_n 0, 0, 0, 0), some (.getfield 25, 2, 4, 0)],
  [none, none, some (.aload_n 0, 0, 0, 0), some (.getfield 22, 2, 3, 0), none, none, some (.isub, 0, 0, 0), some (.iconst 4, 0, 0, 0)],
  [some (.if_icmp .ge 27, 59, 0, 0), none, none, some (.aload_n 0, 0, 0, 0), some (.aload_n 0, 0, 0, 0), some (.getfield 35, 2, 7, 0), none, none],
  [some (.bipush 10, 0, 0, 0), none, some (.imul, 0, 0, 0), some (.aload_n 0, 0, 0, 0), some (.getfield 9, 2, 0, 0), none, none, some (.aload_n 0, 0, 0, 0)],
  [some (.getfield 25, 2, 4, 0), none, none, some (.baload, 0, 0, 0), some (.bipush 48, 0, 0, 0), none, some (.isub, 0, 0, 0), some (.iadd, 0, 0, 0)],
  [some (.putfield 35, 2, 7, 0), none, none, some (.aload_n 0, 0, 0, 0), some (.dup, 0, 0, 0), some (.getfield 25, 2, 4, 0), none, none],
  [some (.iconst 1, 0, 0, 0), some (.iadd, 0, 0, 0), some (.putfield 25, 2, 4, 0), none, none, some (.goto (-69), 0, 0, 0), none, none],
  [some (.aload_n 0, 0, 0, 0), some (.aload_n 0, 0, 0, 0), some (.getfield 25, 2, 4, 0), none, none, some (.aload_n 0, 0, 0, 0), some (.getfield 22, 2, 3, 0), none],
  [none, some (.isub, 0, 0, 0), some (.iconst 4, 0, 0, 0), some (.if_icmp .le 7, 90, 0, 0), none, none, some (.iconst 4, 0, 0, 0), some (.goto 4, 91, 0, 0)],
  [none, none, some (.iconst 2, 0, 0, 0), some (.putfield 19, 2, 2, 0), none, none, some (.return_, 0, 0, 0)]]
/-- LaterPrints$Reader.scanSign()V -/
def xt_30 : xT := [[some (.aload_n 0, 0, 0, 0), some (.aload_n 0, 0, 0, 0), some (.getfield 9, 2, 0, 0), none, none, some (.aload_n 0, 0, 0, 0), some (.getfield 22, 2, 3, 0), none],
  [none, some (.baload, 0, 0, 0), some (.putfield 35, 2, 7, 0), none, none, some (.aload_n 0, 0, 0, 0), some (.aload_n 0, 0, 0, 0), some (.getfield 35, 2, 7, 0)],
  [none, none, some (.bipush 59, 0, 0, 0), none, some (.if_icmp .eq 30, 50, 0, 0), none, none, some (.aload_n 0, 0, 0, 0)],
  [some (.getfield 35, 2, 7, 0), none, none, some (.bipush 60, 0, 0, 0), none, some (.if_icmp .eq 21, 50, 0, 0), none, none],
  [some (.aload_n 0, 0, 0, 0), some (.getfield 35, 2, 7, 0), none, none, some (.bipush 62, 0, 0, 0), none, some (.if_icmp .eq 12, 50, 0, 0), none],
  [none, some (.aload_n 0, 0, 0, 0), some (.getfield 35, 2, 7, 0), none, none, some (.bipush 61, 0, 0, 0), none, some (.if_icmp .ne 7, 54, 0, 0)],
  [none, none, some (.iconst 3, 0, 0, 0), some (.goto 4, 55, 0, 0), none, none, some (.iconst 4, 0, 0, 0), some (.putfield 19, 2, 2, 0)],
  [none, none, some (.aload_n 0, 0, 0, 0), some (.aload_n 0, 0, 0, 0), some (.getfield 22, 2, 3, 0), none, none, some (.iconst 1, 0, 0, 0)],
  [some (.iadd, 0, 0, 0), some (.putfield 25, 2, 4, 0), none, none, some (.return_, 0, 0, 0)]]
/-- LaterPrints$Reader.wordNumber()I -/
def xt_31 : xT := [[some (.iconst 0, 0, 0, 0), some (.istore_n 1, 0, 0, 0), some (.aload_n 0, 0, 0, 0), some (.getfield 22, 2, 3, 0), none, none, some (.istore_n 2, 0, 0, 0), some (.iconst 1, 0, 0, 0)],
  [some (.istore_n 3, 0, 0, 0), some (.iconst 0, 0, 0, 0), some (.istore 4, 0, 0, 0), none, some (.iload 4, 0, 0, 0), none, some (.ldc 78, 1, 0, 0), none],
  [some (.invokevirtual 80, 5005, 1, 0), none, none, some (.if_icmp .ge 84, 103, 0, 0), none, none, some (.ldc 78, 1, 0, 0), none],
  [some (.iload 4, 0, 0, 0), none, some (.invokevirtual 85, 5006, 2, 0), none, none, some (.istore 5, 0, 0, 0), none, some (.iload 5, 0, 0, 0)],
  [none, some (.bipush 32, 0, 0, 0), none, some (.if_icmp .eq 38, 73, 0, 0), none, none, some (.iload_n 3, 0, 0, 0), some (.ifCond .eq 26, 65, 0, 0)],
  [none, none, some (.iload_n 2, 0, 0, 0), some (.aload_n 0, 0, 0, 0), some (.getfield 25, 2, 4, 0), none, none, some (.if_icmp .ge 18, 65, 0, 0)],
  [none, none, some (.aload_n 0, 0, 0, 0), some (.getfield 9, 2, 0, 0), none, none, some (.iload_n 2, 0, 0, 0), some (.baload, 0, 0, 0)],
  [some (.iload 5, 0, 0, 0), none, some (.if_icmp .ne 7, 65, 0, 0), none, none, some (.iconst 1, 0, 0, 0), some (.goto 4, 66, 0, 0), none],
  [none, some (.iconst 0, 0, 0, 0), some (.istore_n 3, 0, 0, 0), some (.iinc 2 1, 0, 0, 0), none, none, some (.goto 27, 97, 0, 0), none],
  [none, some (.iload_n 3, 0, 0, 0), some (.ifCond .eq 13, 87, 0, 0), none, none, some (.iload_n 2, 0, 0, 0), some (.aload_n 0, 0, 0, 0), some (.getfield 25, 2, 4, 0)],
  [none, none, some (.if_icmp .ne 5, 87, 0, 0), none, none, some (.iload_n 1, 0, 0, 0), some (.ireturn, 0, 0, 0), some (.iinc 1 1, 0, 0, 0)],
  [none, none, some (.aload_n 0, 0, 0, 0), some (.getfield 22, 2, 3, 0), none, none, some (.istore_n 2, 0, 0, 0), some (.iconst 1, 0, 0, 0)],
  [some (.istore_n 3, 0, 0, 0), some (.iinc 4 1, 0, 0, 0), none, none, some (.goto (-88), 12, 0, 0), none, none, some (.iconst (-1), 0, 0, 0)],
  [some (.ireturn, 0, 0, 0)]]
/-- LaterPrints$Reader.isAtEnd()Z -/
def xt_32 : xT := [[some (.aload_n 0, 0, 0, 0), some (.getfield 19, 2, 2, 0), none, none, some (.ifCond .ne 7, 11, 0, 0), none, none, some (.iconst 1, 0, 0, 0)],
  [some (.goto 4, 12, 0, 0), none, none, some (.iconst 0, 0, 0, 0), some (.ireturn, 0, 0, 0)]]
/-- LaterPrints$Reader.wrong(I)Z -/
def xt_33 : xT := [[some (.aload_n 0, 0, 0, 0), some (.aload_n 0, 0, 0, 0), some (.getfield 19, 2, 2, 0), none, none, some (.iconst 4, 0, 0, 0), some (.if_icmp .ne 7, 13, 0, 0), none],
  [none, some (.iconst 1, 0, 0, 0), some (.goto 4, 14, 0, 0), none, none, some (.iload_n 1, 0, 0, 0), some (.putfield 41, 2, 9, 0), none],
  [none, some (.aload_n 0, 0, 0, 0), some (.aload_n 0, 0, 0, 0), some (.getfield 22, 2, 3, 0), none, none, some (.putfield 44, 2, 10, 0), none],
  [none, some (.iconst 0, 0, 0, 0), some (.ireturn, 0, 0, 0)]]
/-- LaterPrints$Reader.passWord(I)Z -/
def xt_34 : xT := [[some (.aload_n 0, 0, 0, 0), some (.getfield 28, 2, 5, 0), none, none, some (.iload_n 1, 0, 0, 0), some (.if_icmp .eq 9, 14, 0, 0), none, none],
  [some (.aload_n 0, 0, 0, 0), some (.iconst 2, 0, 0, 0), some (.invokevirtual 89, 33, 2, 2), none, none, some (.ireturn, 0, 0, 0), some (.aload_n 0, 0, 0, 0), some (.invokevirtual 53, 25, 1, 2)],
  [none, none, some (.iconst 1, 0, 0, 0), some (.ireturn, 0, 0, 0)]]
/-- LaterPrints$Reader.passClose()Z -/
def xt_35 : xT := [[some (.aload_n 0, 0, 0, 0), some (.getfield 19, 2, 2, 0), none, none, some (.iconst 3, 0, 0, 0), some (.if_icmp .ne 12, 17, 0, 0), none, none],
  [some (.aload_n 0, 0, 0, 0), some (.getfield 35, 2, 7, 0), none, none, some (.bipush 59, 0, 0, 0), none, some (.if_icmp .eq 9, 23, 0, 0), none],
  [none, some (.aload_n 0, 0, 0, 0), some (.iconst 2, 0, 0, 0), some (.invokevirtual 89, 33, 2, 2), none, none, some (.ireturn, 0, 0, 0), some (.aload_n 0, 0, 0, 0)],
  [some (.invokevirtual 53, 25, 1, 2), none, none, some (.iconst 1, 0, 0, 0), some (.ireturn, 0, 0, 0)]]
/-- LaterPrints$Reader.isCompare()Z -/
def xt_36 : xT := [[some (.aload_n 0, 0, 0, 0), some (.getfield 19, 2, 2, 0), none, none, some (.iconst 3, 0, 0, 0), some (.if_icmp .ne 12, 17, 0, 0), none, none],
  [some (.aload_n 0, 0, 0, 0), some (.getfield 35, 2, 7, 0), none, none, some (.bipush 59, 0, 0, 0), none, some (.if_icmp .ne 11, 25, 0, 0), none],
  [none, some (.aload_n 0, 0, 0, 0), some (.iconst 2, 0, 0, 0), some (.invokevirtual 89, 33, 2, 2), none, none, some (.ifCond .eq 7, 29, 0, 0), none],
  [none, some (.iconst 1, 0, 0, 0), some (.goto 4, 30, 0, 0), none, none, some (.iconst 0, 0, 0, 0), some (.ireturn, 0, 0, 0)]]
/-- LaterPrints$Reader.isNumber(II)Z -/
def xt_37 : xT := [[some (.aload_n 0, 0, 0, 0), some (.getfield 19, 2, 2, 0), none, none, some (.iconst 2, 0, 0, 0), some (.if_icmp .eq 9, 14, 0, 0), none, none],
  [some (.aload_n 0, 0, 0, 0), some (.iconst 2, 0, 0, 0), some (.invokevirtual 89, 33, 2, 2), none, none, some (.ireturn, 0, 0, 0), some (.aload_n 0, 0, 0, 0), some (.getfield 35, 2, 7, 0)],
  [none, none, some (.iload_n 1, 0, 0, 0), some (.iload_n 2, 0, 0, 0), some (.invokestatic 92, 127, 3, 1), none, none, some (.ifCond .ne 11, 34, 0, 0)],
  [none, none, some (.aload_n 0, 0, 0, 0), some (.iconst 4, 0, 0, 0), some (.invokevirtual 89, 33, 2, 2), none, none, some (.ifCond .eq 7, 38, 0, 0)],
  [none, none, some (.iconst 1, 0, 0, 0), some (.goto 4, 39, 0, 0), none, none, some (.iconst 0, 0, 0, 0), some (.ireturn, 0, 0, 0)]]
/-- LaterPrints$Reader.isName()Z -/
def xt_38 : xT := [[some (.aload_n 0, 0, 0, 0), some (.getfield 19, 2, 2, 0), none, none, some (.iconst 1, 0, 0, 0), some (.if_icmp .ne 25, 30, 0, 0), none, none],
  [some (.aload_n 0, 0, 0, 0), some (.getfield 28, 2, 5, 0), none, none, some (.iconst (-1), 0, 0, 0), some (.if_icmp .ne 17, 30, 0, 0), none, none],
  [some (.aload_n 0, 0, 0, 0), some (.getfield 25, 2, 4, 0), none, none, some (.aload_n 0, 0, 0, 0), some (.getfield 22, 2, 3, 0), none, none],
  [some (.isub, 0, 0, 0), some (.bipush 8, 0, 0, 0), none, some (.if_icmp .le 11, 38, 0, 0), none, none, some (.aload_n 0, 0, 0, 0), some (.iconst 2, 0, 0, 0)],
  [some (.invokevirtual 89, 33, 2, 2), none, none, some (.ifCond .eq 7, 42, 0, 0), none, none, some (.iconst 1, 0, 0, 0), some (.goto 4, 43, 0, 0)],
  [none, none, some (.iconst 0, 0, 0, 0), some (.ireturn, 0, 0, 0)]]
/-- LaterPrints$Reader.isNameOf([JI)Z -/
def xt_39 : xT := [[some (.aload_n 0, 0, 0, 0), some (.invokevirtual 96, 38, 1, 2), none, none, some (.ifCond .ne 5, 9, 0, 0), none, none, some (.iconst 0, 0, 0, 0)],
  [some (.ireturn, 0, 0, 0), some (.aload_n 0, 0, 0, 0), some (.aload_n 1, 0, 0, 0), some (.iload_n 2, 0, 0, 0), some (.aload_n 0, 0, 0, 0), some (.getfield 31, 2, 6, 0), none, none],
  [some (.invokestatic 100, 40, 3, 0), none, none, some (.putfield 38, 2, 8, 0), none, none, some (.aload_n 0, 0, 0, 0), some (.getfield 38, 2, 8, 0)],
  [none, none, some (.iconst (-1), 0, 0, 0), some (.if_icmp .ne 11, 38, 0, 0), none, none, some (.aload_n 0, 0, 0, 0), some (.iconst 3, 0, 0, 0)],
  [some (.invokevirtual 89, 33, 2, 2), none, none, some (.ifCond .eq 7, 42, 0, 0), none, none, some (.iconst 1, 0, 0, 0), some (.goto 4, 43, 0, 0)],
  [none, none, some (.iconst 0, 0, 0, 0), some (.ireturn, 0, 0, 0)]]
/-- LaterPrints$Reader.indexOf([JIJ)I -/
def xt_40 : xT := [[some (.iconst 0, 0, 0, 0), some (.istore 4, 0, 0, 0), none, some (.iload 4, 0, 0, 0), none, some (.iload_n 1, 0, 0, 0), some (.if_icmp .ge 28, 34, 0, 0), none],
  [none, some (.iload 4, 0, 0, 0), none, some (.aload_n 0, 0, 0, 0), some (.arraylength, 0, 0, 0), some (.if_icmp .ge 21, 34, 0, 0), none, none],
  [some (.aload_n 0, 0, 0, 0), some (.iload 4, 0, 0, 0), none, some (.laload, 0, 0, 0), some (.lload_n 2, 0, 0, 0), some (.lcmp, 0, 0, 0), some (.ifCond .ne 6, 28, 0, 0), none],
  [none, some (.iload 4, 0, 0, 0), none, some (.ireturn, 0, 0, 0), some (.iinc 4 1, 0, 0, 0), none, none, some (.goto (-28), 3, 0, 0)],
  [none, none, some (.iconst (-1), 0, 0, 0), some (.ireturn, 0, 0, 0)]]
/-- LaterPrints$Room.<init>()V -/
def xt_41 : xT := [[some (.aload_n 0, 0, 0, 0), some (.invokespecial 5, 5000, 1, 0), none, none, some (.aload_n 0, 0, 0, 0), some (.iconst 0, 0, 0, 0), some (.putfield 11, 3, 0, 0), none],
  [none, some (.aload_n 0, 0, 0, 0), some (.iconst 0, 0, 0, 0), some (.putfield 15, 3, 1, 0), none, none, some (.aload_n 0, 0, 0, 0), some (.lconst 0, 0, 0, 0)],
  [some (.putfield 18, 3, 2, 0), none, none, some (.return_, 0, 0, 0)]]
/-- LaterPrints$Room.takeOver(LLaterPrints$Room;)V -/
def xt_42 : xT := [[some (.aload_n 0, 0, 0, 0), some (.aload_n 1, 0, 0, 0), some (.getfield 11, 3, 0, 0), none, none, some (.putfield 11, 3, 0, 0), none, none],
  [some (.aload_n 0, 0, 0, 0), some (.aload_n 1, 0, 0, 0), some (.getfield 15, 3, 1, 0), none, none, some (.putfield 15, 3, 1, 0), none, none],
  [some (.aload_n 0, 0, 0, 0), some (.aload_n 1, 0, 0, 0), some (.getfield 18, 3, 2, 0), none, none, some (.putfield 18, 3, 2, 0), none, none],
  [some (.return_, 0, 0, 0)]]
/-- LaterPrints$Room.cellOf(II)I -/
def xt_43 : xT := [[some (.bipush 10, 0, 0, 0), none, some (.iload_n 1, 0, 0, 0), some (.imul, 0, 0, 0), some (.iload_n 0, 0, 0, 0), some (.iadd, 0, 0, 0), some (.ireturn, 0, 0, 0)]]
/-- LaterPrints$Room.columnOf(I)I -/
def xt_44 : xT := [[some (.iload_n 0, 0, 0, 0), some (.bipush 10, 0, 0, 0), none, some (.irem, 0, 0, 0), some (.ireturn, 0, 0, 0)]]
/-- LaterPrints$Room.rowOf(I)I -/
def xt_45 : xT := [[some (.iload_n 0, 0, 0, 0), some (.bipush 10, 0, 0, 0), none, some (.idiv, 0, 0, 0), some (.ireturn, 0, 0, 0)]]
/-- LaterPrints$Room.hasCell(II)Z -/
def xt_46 : xT := [[some (.iload_n 1, 0, 0, 0), some (.ifCond .lt 27, 28, 0, 0), none, none, some (.iload_n 1, 0, 0, 0), some (.aload_n 0, 0, 0, 0), some (.getfield 11, 3, 0, 0), none],
  [none, some (.if_icmp .ge 19, 28, 0, 0), none, none, some (.iload_n 2, 0, 0, 0), some (.ifCond .lt 15, 28, 0, 0), none, none],
  [some (.iload_n 2, 0, 0, 0), some (.aload_n 0, 0, 0, 0), some (.getfield 15, 3, 1, 0), none, none, some (.if_icmp .ge 7, 28, 0, 0), none, none],
  [some (.iconst 1, 0, 0, 0), some (.goto 4, 29, 0, 0), none, none, some (.iconst 0, 0, 0, 0), some (.ireturn, 0, 0, 0)]]
/-- LaterPrints$Room.isWall(I)Z -/
def xt_47 : xT := [[some (.aload_n 0, 0, 0, 0), some (.getfield 18, 3, 2, 0), none, none, some (.iload_n 1, 0, 0, 0), some (.lushr, 0, 0, 0), some (.lconst 1, 0, 0, 0), some (.land, 0, 0, 0)],
  [some (.lconst 0, 0, 0, 0), some (.lcmp, 0, 0, 0), some (.ifCond .eq 7, 17, 0, 0), none, none, some (.iconst 1, 0, 0, 0), some (.goto 4, 18, 0, 0), none],
  [none, some (.iconst 0, 0, 0, 0), some (.ireturn, 0, 0, 0)]]
/-- LaterPrints$Room.beside(II)I -/
def xt_48 : xT := [[some (.iload_n 1, 0, 0, 0), some (.bipush 10, 0, 0, 0), none, some (.irem, 0, 0, 0), some (.istore_n 3, 0, 0, 0), some (.iload_n 1, 0, 0, 0), some (.bipush 10, 0, 0, 0), none],
  [some (.idiv, 0, 0, 0), some (.istore 4, 0, 0, 0), none, some (.iload_n 2, 0, 0, 0), some (.tableswitch 96 0 3 #[32, 50, 70, 82], 0, 32, 0), none, none, none],
  [none, none, none, none, none, none, none, none],
  [none, none, none, none, none, none, none, none],
  [none, none, none, none, none, none, none, none],
  [none, none, none, none, some (.iload_n 3, 0, 0, 0), some (.iconst 1, 0, 0, 0), some (.iadd, 0, 0, 0), some (.aload_n 0, 0, 0, 0)],
  [some (.getfield 11, 3, 0, 0), none, none, some (.if_icmp .ge 9, 60, 0, 0), none, none, some (.iload_n 1, 0, 0, 0), some (.iconst 1, 0, 0, 0)],
  [some (.iadd, 0, 0, 0), some (.goto 4, 61, 0, 0), none, none, some (.iconst (-1), 0, 0, 0), some (.ireturn, 0, 0, 0), some (.iload 4, 0, 0, 0), none],
  [some (.iconst 1, 0, 0, 0), some (.iadd, 0, 0, 0), some (.aload_n 0, 0, 0, 0), some (.getfield 15, 3, 1, 0), none, none, some (.if_icmp .ge 10, 80, 0, 0), none],
  [none, some (.iload_n 1, 0, 0, 0), some (.bipush 10, 0, 0, 0), none, some (.iadd, 0, 0, 0), some (.goto 4, 81, 0, 0), none, none],
  [some (.iconst (-1), 0, 0, 0), some (.ireturn, 0, 0, 0), some (.iload_n 3, 0, 0, 0), some (.ifCond .le 9, 92, 0, 0), none, none, some (.iload_n 1, 0, 0, 0), some (.iconst 1, 0, 0, 0)],
  [some (.isub, 0, 0, 0), some (.goto 4, 93, 0, 0), none, none, some (.iconst (-1), 0, 0, 0), some (.ireturn, 0, 0, 0), some (.iload 4, 0, 0, 0), none],
  [some (.ifCond .le 10, 106, 0, 0), none, none, some (.iload_n 1, 0, 0, 0), some (.bipush 10, 0, 0, 0), none, some (.isub, 0, 0, 0), some (.goto 4, 107, 0, 0)],
  [none, none, some (.iconst (-1), 0, 0, 0), some (.ireturn, 0, 0, 0), some (.iconst (-1), 0, 0, 0), some (.ireturn, 0, 0, 0)]]
/-- LaterPrints$Room.goneAlone(II)I -/
def xt_49 : xT := [[some (.aload_n 0, 0, 0, 0), some (.iload_n 1, 0, 0, 0), some (.iload_n 2, 0, 0, 0), some (.invokevirtual 22, 48, 3, 3), none, none, some (.istore_n 3, 0, 0, 0), some (.iload_n 3, 0, 0, 0)],
  [some (.iconst (-1), 0, 0, 0), some (.if_icmp .eq 11, 20, 0, 0), none, none, some (.aload_n 0, 0, 0, 0), some (.iload_n 3, 0, 0, 0), some (.invokevirtual 26, 47, 2, 3), none],
  [none, some (.ifCond .eq 7, 24, 0, 0), none, none, some (.iload_n 1, 0, 0, 0), some (.goto 4, 25, 0, 0), none, none],
  [some (.iload_n 3, 0, 0, 0), some (.ireturn, 0, 0, 0)]]
/-- LaterPrints$RunReader.<init>(LLaterPrints$Reader;)V -/
def xt_50 : xT := [[some (.aload_n 0, 0, 0, 0), some (.invokespecial 3, 5000, 1, 0), none, none, some (.aload_n 0, 0, 0, 0), some (.new 9, 6, 7, 0), none, none],
  [some (.dup, 0, 0, 0), some (.invokespecial 11, 70, 1, 1), none, none, some (.putfield 12, 4, 0, 0), none, none, some (.aload_n 0, 0, 0, 0)],
  [some (.iconst 3, 0, 0, 0), some (.newarray .int, 0, 0, 0), none, some (.putfield 18, 4, 2, 0), none, none, some (.aload_n 0, 0, 0, 0), some (.iconst 0, 0, 0, 0)],
  [some (.putfield 22, 4, 3, 0), none, none, some (.aload_n 0, 0, 0, 0), some (.aload_n 1, 0, 0, 0), some (.putfield 26, 4, 1, 0), none, none],
  [some (.return_, 0, 0, 0)]]
/-- LaterPrints$RunReader.reads(LLaterPrints$World;I)Z -/
def xt_51 : xT := [[some (.aload_n 0, 0, 0, 0), some (.getfield 12, 4, 0, 0), none, none, some (.invokevirtual 30, 71, 1, 6), none, none, some (.aload_n 0, 0, 0, 0)],
  [some (.iconst 0, 0, 0, 0), some (.putfield 22, 4, 3, 0), none, none, some (.aload_n 0, 0, 0, 0), some (.getfield 26, 4, 1, 0), none, none],
  [some (.iload_n 2, 0, 0, 0), some (.invokevirtual 33, 24, 2, 2), none, none, some (.iconst 1, 0, 0, 0), some (.istore_n 3, 0, 0, 0), some (.iconst 0, 0, 0, 0), some (.istore 4, 0, 0, 0)],
  [none, some (.iload 4, 0, 0, 0), none, some (.sipush 300, 0, 0, 0), none, none, some (.if_icmp .ge 83, 113, 0, 0), none],
  [none, some (.iload_n 3, 0, 0, 0), some (.ifCond .eq 79, 113, 0, 0), none, none, some (.aload_n 0, 0, 0, 0), some (.getfield 26, 4, 1, 0), none],
  [none, some (.invokevirtual 38, 32, 1, 2), none, none, some (.ifCond .ne 69, 113, 0, 0), none, none, some (.aload_n 0, 0, 0, 0)],
  [some (.getfield 26, 4, 1, 0), none, none, some (.getfield 42, 2, 5, 0), none, none, some (.bipush 29, 0, 0, 0), none],
  [some (.if_icmp .ne 10, 66, 0, 0), none, none, some (.aload_n 0, 0, 0, 0), some (.invokevirtual 45, 53, 1, 4), none, none, some (.goto 23, 86, 0, 0)],
  [none, none, some (.aload_n 0, 0, 0, 0), some (.invokevirtual 48, 52, 1, 4), none, none, some (.ifCond .eq 15, 85, 0, 0), none],
  [none, some (.aload_n 0, 0, 0, 0), some (.aload_n 1, 0, 0, 0), some (.invokevirtual 51, 54, 2, 4), none, none, some (.ifCond .eq 7, 85, 0, 0), none],
  [none, some (.iconst 1, 0, 0, 0), some (.goto 4, 86, 0, 0), none, none, some (.iconst 0, 0, 0, 0), some (.istore_n 3, 0, 0, 0), some (.iload_n 3, 0, 0, 0)],
  [some (.ifCond .eq 17, 105, 0, 0), none, none, some (.aload_n 0, 0, 0, 0), some (.getfield 26, 4, 1, 0), none, none, some (.invokevirtual 55, 35, 1, 2)],
  [none, none, some (.ifCond .eq 7, 105, 0, 0), none, none, some (.iconst 1, 0, 0, 0), some (.goto 4, 106, 0, 0), none],
  [none, some (.iconst 0, 0, 0, 0), some (.istore_n 3, 0, 0, 0), some (.iinc 4 1, 0, 0, 0), none, none, some (.goto (-85), 25, 0, 0), none],
  [none, some (.aload_n 0, 0, 0, 0), some (.getfield 12, 4, 0, 0), none, none, some (.iconst 1, 0, 0, 0), some (.putfield 58, 6, 0, 0), none],
  [none, some (.iload_n 3, 0, 0, 0), some (.ifCond .eq 25, 147, 0, 0), none, none, some (.aload_n 0, 0, 0, 0), some (.getfield 22, 4, 3, 0), none],
  [none, some (.ifCond .eq 14, 143, 0, 0), none, none, some (.aload_n 0, 0, 0, 0), some (.getfield 26, 4, 1, 0), none, none],
  [some (.iconst 2, 0, 0, 0), some (.invokevirtual 62, 33, 2, 2), none, none, some (.ifCond .eq 7, 147, 0, 0), none, none, some (.iconst 1, 0, 0, 0)],
  [some (.goto 4, 148, 0, 0), none, none, some (.iconst 0, 0, 0, 0), some (.ireturn, 0, 0, 0)]]
/-- LaterPrints$RunReader.mayBegin()Z -/
def xt_52 : xT := [[some (.aload_n 0, 0, 0, 0), some (.getfield 26, 4, 1, 0), none, none, some (.getfield 42, 2, 5, 0), none, none, some (.bipush 25, 0, 0, 0)],
  [none, some (.if_icmp .eq 15, 24, 0, 0), none, none, some (.aload_n 0, 0, 0, 0), some (.getfield 26, 4, 1, 0), none, none],
  [some (.getfield 42, 2, 5, 0), none, none, some (.bipush 28, 0, 0, 0), none, some (.if_icmp .ne 7, 28, 0, 0), none, none],
  [some (.iconst 1, 0, 0, 0), some (.goto 4, 29, 0, 0), none, none, some (.iconst 0, 0, 0, 0), some (.istore_n 1, 0, 0, 0), some (.iload_n 1, 0, 0, 0), some (.ifCond .ne 41, 72, 0, 0)],
  [none, none, some (.aload_n 0, 0, 0, 0), some (.getfield 26, 4, 1, 0), none, none, some (.getfield 42, 2, 5, 0), none],
  [none, some (.bipush 30, 0, 0, 0), none, some (.if_icmp .eq 29, 72, 0, 0), none, none, some (.aload_n 0, 0, 0, 0), some (.getfield 26, 4, 1, 0)],
  [none, none, some (.getfield 42, 2, 5, 0), none, none, some (.bipush 21, 0, 0, 0), none, some (.bipush 24, 0, 0, 0)],
  [none, some (.invokestatic 66, 127, 3, 1), none, none, some (.ifCond .ne 12, 72, 0, 0), none, none, some (.aload_n 0, 0, 0, 0)],
  [some (.getfield 26, 4, 1, 0), none, none, some (.iconst 2, 0, 0, 0), some (.invokevirtual 62, 33, 2, 2), none, none, some (.ireturn, 0, 0, 0)],
  [some (.aload_n 0, 0, 0, 0), some (.getfield 12, 4, 0, 0), none, none, some (.getfield 70, 6, 1, 0), none, none, some (.bipush 30, 0, 0, 0)],
  [none, some (.if_icmp .lt 13, 94, 0, 0), none, none, some (.aload_n 0, 0, 0, 0), some (.getfield 26, 4, 1, 0), none, none],
  [some (.bipush 6, 0, 0, 0), none, some (.invokevirtual 62, 33, 2, 2), none, none, some (.ireturn, 0, 0, 0), some (.iload_n 1, 0, 0, 0), some (.ifCond .eq 23, 118, 0, 0)],
  [none, none, some (.aload_n 0, 0, 0, 0), some (.getfield 22, 4, 3, 0), none, none, some (.iconst 3, 0, 0, 0), some (.if_icmp .lt 15, 118, 0, 0)],
  [none, none, some (.aload_n 0, 0, 0, 0), some (.getfield 26, 4, 1, 0), none, none, some (.bipush 7, 0, 0, 0), none],
  [some (.invokevirtual 62, 33, 2, 2), none, none, some (.ifCond .eq 7, 122, 0, 0), none, none, some (.iconst 1, 0, 0, 0), some (.goto 4, 123, 0, 0)],
  [none, none, some (.iconst 0, 0, 0, 0), some (.ireturn, 0, 0, 0)]]
/-- LaterPrints$RunReader.readEnd()Z -/
def xt_53 : xT := [[some (.aload_n 0, 0, 0, 0), some (.getfield 22, 4, 3, 0), none, none, some (.iconst 1, 0, 0, 0), some (.if_icmp .ge 12, 17, 0, 0), none, none],
  [some (.aload_n 0, 0, 0, 0), some (.getfield 26, 4, 1, 0), none, none, some (.iconst 2, 0, 0, 0), some (.invokevirtual 62, 33, 2, 2), none, none],
  [some (.ireturn, 0, 0, 0), some (.aload_n 0, 0, 0, 0), some (.dup, 0, 0, 0), some (.getfield 22, 4, 3, 0), none, none, some (.iconst 1, 0, 0, 0), some (.isub, 0, 0, 0)],
  [some (.putfield 22, 4, 3, 0), none, none, some (.aload_n 0, 0, 0, 0), some (.getfield 18, 4, 2, 0), none, none, some (.aload_n 0, 0, 0, 0)],
  [some (.getfield 22, 4, 3, 0), none, none, some (.iaload, 0, 0, 0), some (.istore_n 1, 0, 0, 0), some (.aload_n 0, 0, 0, 0), some (.getfield 12, 4, 0, 0), none],
  [none, some (.getfield 73, 6, 6, 0), none, none, some (.iload_n 1, 0, 0, 0), some (.aload_n 0, 0, 0, 0), some (.getfield 12, 4, 0, 0), none],
  [none, some (.getfield 76, 6, 2, 0), none, none, some (.iastore, 0, 0, 0), some (.aload_n 0, 0, 0, 0), some (.getfield 12, 4, 0, 0), none],
  [none, some (.bipush 11, 0, 0, 0), none, some (.iconst 0, 0, 0, 0), some (.iconst 0, 0, 0, 0), some (.invokevirtual 79, 73, 4, 6), none, none],
  [some (.aload_n 0, 0, 0, 0), some (.getfield 12, 4, 0, 0), none, none, some (.getfield 73, 6, 6, 0), none, none, some (.aload_n 0, 0, 0, 0)],
  [some (.getfield 12, 4, 0, 0), none, none, some (.getfield 76, 6, 2, 0), none, none, some (.iconst 1, 0, 0, 0), some (.isub, 0, 0, 0)],
  [some (.iload_n 1, 0, 0, 0), some (.iastore, 0, 0, 0), some (.aload_n 0, 0, 0, 0), some (.getfield 26, 4, 1, 0), none, none, some (.invokevirtual 83, 25, 1, 2), none],
  [none, some (.iconst 1, 0, 0, 0), some (.ireturn, 0, 0, 0)]]
/-- LaterPrints$RunReader.readAct(LLaterPrints$World;)Z -/
def xt_54 : xT := [[some (.aload_n 0, 0, 0, 0), some (.getfield 26, 4, 1, 0), none, none, some (.getfield 42, 2, 5, 0), none, none, some (.istore_n 2, 0, 0, 0)],
  [some (.aload_n 0, 0, 0, 0), some (.getfield 12, 4, 0, 0), none, none, some (.dup, 0, 0, 0), some (.getfield 70, 6, 1, 0), none, none],
  [some (.iconst 1, 0, 0, 0), some (.iadd, 0, 0, 0), some (.putfield 70, 6, 1, 0), none, none, some (.aload_n 0, 0, 0, 0), some (.getfield 26, 4, 1, 0), none],
  [none, some (.invokevirtual 83, 25, 1, 2), none, none, some (.iload_n 2, 0, 0, 0), some (.tableswitch 101 21 28 #[47, 53, 61, 89, 67, 101, 101, 77], 0, 47, 0), none, none],
  [none, none, none, none, none, none, none, none],
  [none, none, none, none, none, none, none, none],
  [none, none, none, none, none, none, none, none],
  [none, none, none, none, none, none, none, none],
  [none, none, none, none, none, none, none, none],
  [none, none, none, none, some (.aload_n 0, 0, 0, 0), some (.aload_n 1, 0, 0, 0), some (.invokevirtual 86, 56, 2, 4), none],
  [none, some (.ireturn, 0, 0, 0), some (.aload_n 0, 0, 0, 0), some (.iconst 1, 0, 0, 0), some (.bipush 20, 0, 0, 0), none, some (.invokevirtual 89, 57, 3, 4), none],
  [none, some (.ireturn, 0, 0, 0), some (.aload_n 0, 0, 0, 0), some (.aload_n 1, 0, 0, 0), some (.invokevirtual 93, 58, 2, 4), none, none, some (.ireturn, 0, 0, 0)],
  [some (.aload_n 0, 0, 0, 0), some (.invokevirtual 96, 55, 1, 4), none, none, some (.aload_n 0, 0, 0, 0), some (.aload_n 1, 0, 0, 0), some (.invokevirtual 99, 59, 2, 4), none],
  [none, some (.ireturn, 0, 0, 0), some (.aload_n 0, 0, 0, 0), some (.invokevirtual 96, 55, 1, 4), none, none, some (.aload_n 0, 0, 0, 0), some (.iconst 5, 0, 0, 0)],
  [some (.bipush 99, 0, 0, 0), none, some (.invokevirtual 89, 57, 3, 4), none, none, some (.ireturn, 0, 0, 0), some (.aload_n 0, 0, 0, 0), some (.getfield 12, 4, 0, 0)],
  [none, none, some (.iconst 3, 0, 0, 0), some (.iconst 0, 0, 0, 0), some (.iconst 0, 0, 0, 0), some (.invokevirtual 79, 73, 4, 6), none, none],
  [some (.iconst 1, 0, 0, 0), some (.ireturn, 0, 0, 0), some (.aload_n 0, 0, 0, 0), some (.getfield 12, 4, 0, 0), none, none, some (.iconst 4, 0, 0, 0), some (.iconst 0, 0, 0, 0)],
  [some (.iconst 0, 0, 0, 0), some (.invokevirtual 79, 73, 4, 6), none, none, some (.iconst 1, 0, 0, 0), some (.ireturn, 0, 0, 0)]]
/-- LaterPrints$RunReader.openEntry()V -/
def xt_55 : xT := [[some (.aload_n 0, 0, 0, 0), some (.getfield 22, 4, 3, 0), none, none, some (.iconst 3, 0, 0, 0), some (.if_icmp .ge 29, 34, 0, 0), none, none],
  [some (.aload_n 0, 0, 0, 0), some (.getfield 18, 4, 2, 0), none, none, some (.aload_n 0, 0, 0, 0), some (.getfield 22, 4, 3, 0), none, none],
  [some (.aload_n 0, 0, 0, 0), some (.getfield 12, 4, 0, 0), none, none, some (.getfield 76, 6, 2, 0), none, none, some (.iastore, 0, 0, 0)],
  [some (.aload_n 0, 0, 0, 0), some (.dup, 0, 0, 0), some (.getfield 22, 4, 3, 0), none, none, some (.iconst 1, 0, 0, 0), some (.iadd, 0, 0, 0), some (.putfield 22, 4, 3, 0)],
  [none, none, some (.return_, 0, 0, 0)]]
/-- LaterPrints$RunReader.readBuy(LLaterPrints$World;)Z -/
def xt_56 : xT := [[some (.aload_n 0, 0, 0, 0), some (.getfield 26, 4, 1, 0), none, none, some (.aload_n 1, 0, 0, 0), some (.getfield 102, 10, 7, 0), none, none],
  [some (.aload_n 1, 0, 0, 0), some (.getfield 108, 10, 6, 0), none, none, some (.invokevirtual 111, 39, 3, 2), none, none, some (.ifCond .ne 5, 20, 0, 0)],
  [none, none, some (.iconst 0, 0, 0, 0), some (.ireturn, 0, 0, 0), some (.aload_n 0, 0, 0, 0), some (.getfield 26, 4, 1, 0), none, none],
  [some (.getfield 115, 2, 8, 0), none, none, some (.istore_n 2, 0, 0, 0), some (.aload_n 0, 0, 0, 0), some (.getfield 26, 4, 1, 0), none, none],
  [some (.invokevirtual 83, 25, 1, 2), none, none, some (.aload_n 0, 0, 0, 0), some (.getfield 26, 4, 1, 0), none, none, some (.iconst 1, 0, 0, 0)],
  [some (.bipush 20, 0, 0, 0), none, some (.invokevirtual 118, 37, 3, 2), none, none, some (.ifCond .ne 5, 50, 0, 0), none, none],
  [some (.iconst 0, 0, 0, 0), some (.ireturn, 0, 0, 0), some (.aload_n 0, 0, 0, 0), some (.getfield 12, 4, 0, 0), none, none, some (.iconst 0, 0, 0, 0), some (.iload_n 2, 0, 0, 0)],
  [some (.aload_n 0, 0, 0, 0), some (.getfield 26, 4, 1, 0), none, none, some (.getfield 121, 2, 7, 0), none, none, some (.invokevirtual 79, 73, 4, 6)],
  [none, none, some (.aload_n 0, 0, 0, 0), some (.getfield 26, 4, 1, 0), none, none, some (.invokevirtual 83, 25, 1, 2), none],
  [none, some (.iconst 1, 0, 0, 0), some (.ireturn, 0, 0, 0)]]
/-- LaterPrints$RunReader.readCounted(II)Z -/
def xt_57 : xT := [[some (.aload_n 0, 0, 0, 0), some (.getfield 26, 4, 1, 0), none, none, some (.iconst 1, 0, 0, 0), some (.iload_n 2, 0, 0, 0), some (.invokevirtual 118, 37, 3, 2), none],
  [none, some (.ifCond .ne 5, 14, 0, 0), none, none, some (.iconst 0, 0, 0, 0), some (.ireturn, 0, 0, 0), some (.aload_n 0, 0, 0, 0), some (.getfield 12, 4, 0, 0)],
  [none, none, some (.iload_n 1, 0, 0, 0), some (.aload_n 0, 0, 0, 0), some (.getfield 26, 4, 1, 0), none, none, some (.getfield 121, 2, 7, 0)],
  [none, none, some (.iconst 0, 0, 0, 0), some (.invokevirtual 79, 73, 4, 6), none, none, some (.aload_n 0, 0, 0, 0), some (.getfield 26, 4, 1, 0)],
  [none, none, some (.invokevirtual 83, 25, 1, 2), none, none, some (.iconst 1, 0, 0, 0), some (.ireturn, 0, 0, 0)]]
/-- LaterPrints$RunReader.readGive(LLaterPrints$World;)Z -/
def xt_58 : xT := [[some (.aload_n 0, 0, 0, 0), some (.getfield 26, 4, 1, 0), none, none, some (.aload_n 1, 0, 0, 0), some (.getfield 102, 10, 7, 0), none, none],
  [some (.aload_n 1, 0, 0, 0), some (.getfield 108, 10, 6, 0), none, none, some (.invokevirtual 111, 39, 3, 2), none, none, some (.ifCond .ne 5, 20, 0, 0)],
  [none, none, some (.iconst 0, 0, 0, 0), some (.ireturn, 0, 0, 0), some (.aload_n 0, 0, 0, 0), some (.getfield 26, 4, 1, 0), none, none],
  [some (.getfield 115, 2, 8, 0), none, none, some (.istore_n 2, 0, 0, 0), some (.aload_n 0, 0, 0, 0), some (.getfield 26, 4, 1, 0), none, none],
  [some (.invokevirtual 83, 25, 1, 2), none, none, some (.aload_n 0, 0, 0, 0), some (.getfield 26, 4, 1, 0), none, none, some (.aload_n 1, 0, 0, 0)],
  [some (.getfield 102, 10, 7, 0), none, none, some (.aload_n 1, 0, 0, 0), some (.getfield 108, 10, 6, 0), none, none, some (.invokevirtual 111, 39, 3, 2)],
  [none, none, some (.ifCond .ne 5, 55, 0, 0), none, none, some (.iconst 0, 0, 0, 0), some (.ireturn, 0, 0, 0), some (.aload_n 0, 0, 0, 0)],
  [some (.getfield 12, 4, 0, 0), none, none, some (.iconst 2, 0, 0, 0), some (.iload_n 2, 0, 0, 0), some (.aload_n 0, 0, 0, 0), some (.getfield 26, 4, 1, 0), none],
  [none, some (.getfield 115, 2, 8, 0), none, none, some (.invokevirtual 79, 73, 4, 6), none, none, some (.aload_n 0, 0, 0, 0)],
  [some (.getfield 26, 4, 1, 0), none, none, some (.invokevirtual 83, 25, 1, 2), none, none, some (.iconst 1, 0, 0, 0), some (.ireturn, 0, 0, 0)]]
/-- LaterPrints$RunReader.readTest(LLaterPrints$World;)Z -/
def xt_59 : xT := [[some (.aload_n 0, 0, 0, 0), some (.getfield 26, 4, 1, 0), none, none, some (.getfield 42, 2, 5, 0), none, none, some (.istore_n 2, 0, 0, 0)],
  [some (.iload_n 2, 0, 0, 0), some (.bipush 15, 0, 0, 0), none, some (.if_icmp .ne 9, 20, 0, 0), none, none, some (.aload_n 0, 0, 0, 0), some (.aload_n 1, 0, 0, 0)],
  [some (.invokevirtual 124, 60, 2, 4), none, none, some (.ireturn, 0, 0, 0), some (.iload_n 2, 0, 0, 0), some (.bipush 26, 0, 0, 0), none, some (.if_icmp .ne 7, 30, 0, 0)],
  [none, none, some (.iconst 1, 0, 0, 0), some (.goto 4, 31, 0, 0), none, none, some (.iconst 0, 0, 0, 0), some (.istore_n 3, 0, 0, 0)],
  [some (.iload_n 3, 0, 0, 0), some (.ifCond .ne 18, 51, 0, 0), none, none, some (.iload_n 2, 0, 0, 0), some (.bipush 27, 0, 0, 0), none, some (.if_icmp .eq 12, 51, 0, 0)],
  [none, none, some (.aload_n 0, 0, 0, 0), some (.getfield 26, 4, 1, 0), none, none, some (.iconst 2, 0, 0, 0), some (.invokevirtual 62, 33, 2, 2)],
  [none, none, some (.ireturn, 0, 0, 0), some (.aload_n 0, 0, 0, 0), some (.getfield 26, 4, 1, 0), none, none, some (.invokevirtual 83, 25, 1, 2)],
  [none, none, some (.iload_n 3, 0, 0, 0), some (.ifCond .eq 27, 86, 0, 0), none, none, some (.aload_n 0, 0, 0, 0), some (.getfield 26, 4, 1, 0)],
  [none, none, some (.aload_n 1, 0, 0, 0), some (.getfield 127, 10, 2, 0), none, none, some (.getfield 131, 8, 1, 0), none],
  [none, some (.aload_n 1, 0, 0, 0), some (.getfield 127, 10, 2, 0), none, none, some (.getfield 136, 8, 0, 0), none, none],
  [some (.invokevirtual 111, 39, 3, 2), none, none, some (.goto 24, 107, 0, 0), none, none, some (.aload_n 0, 0, 0, 0), some (.getfield 26, 4, 1, 0)],
  [none, none, some (.aload_n 1, 0, 0, 0), some (.getfield 139, 10, 1, 0), none, none, some (.getfield 143, 1, 2, 0), none],
  [none, some (.aload_n 1, 0, 0, 0), some (.getfield 139, 10, 1, 0), none, none, some (.getfield 146, 1, 0, 0), none, none],
  [some (.invokevirtual 111, 39, 3, 2), none, none, some (.istore 4, 0, 0, 0), none, some (.iload 4, 0, 0, 0), none, some (.ifCond .ne 5, 116, 0, 0)],
  [none, none, some (.iconst 0, 0, 0, 0), some (.ireturn, 0, 0, 0), some (.aload_n 0, 0, 0, 0), some (.getfield 12, 4, 0, 0), none, none],
  [some (.iload_n 3, 0, 0, 0), some (.ifCond .eq 8, 129, 0, 0), none, none, some (.bipush 6, 0, 0, 0), none, some (.goto 5, 131, 0, 0), none],
  [none, some (.bipush 7, 0, 0, 0), none, some (.aload_n 0, 0, 0, 0), some (.getfield 26, 4, 1, 0), none, none, some (.getfield 115, 2, 8, 0)],
  [none, none, some (.iconst 0, 0, 0, 0), some (.invokevirtual 79, 73, 4, 6), none, none, some (.aload_n 0, 0, 0, 0), some (.getfield 26, 4, 1, 0)],
  [none, none, some (.invokevirtual 83, 25, 1, 2), none, none, some (.iconst 1, 0, 0, 0), some (.ireturn, 0, 0, 0)]]
