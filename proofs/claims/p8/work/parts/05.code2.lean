/-- LaterPrints.bottom()J -/
def xt_120 : xT := [[some (.aload_n 0, 0, 0, 0), some (.getfield 39, 11, 7, 0), none, none, some (.lreturn, 0, 0, 0)]]
/-- LaterPrints.answer(I)I -/
def xt_121 : xT := [[some (.aload_n 0, 0, 0, 0), some (.iconst 0, 0, 0, 0), some (.putfield 32, 11, 5, 0), none, none, some (.iload_n 1, 0, 0, 0), some (.ireturn, 0, 0, 0)]]
/-- LaterPrints.refuse(I)I -/
def xt_122 : xT := [[some (.aload_n 0, 0, 0, 0), some (.iload_n 1, 0, 0, 0), some (.putfield 32, 11, 5, 0), none, none, some (.iconst (-1), 0, 0, 0), some (.ireturn, 0, 0, 0)]]
/-- LaterPrints.accept()Z -/
def xt_123 : xT := [[some (.aload_n 0, 0, 0, 0), some (.iconst 0, 0, 0, 0), some (.putfield 32, 11, 5, 0), none, none, some (.iconst 1, 0, 0, 0), some (.ireturn, 0, 0, 0)]]
/-- LaterPrints.reject(I)Z -/
def xt_124 : xT := [[some (.aload_n 0, 0, 0, 0), some (.iload_n 1, 0, 0, 0), some (.putfield 32, 11, 5, 0), none, none, some (.iconst 0, 0, 0, 0), some (.ireturn, 0, 0, 0)]]
/-- LaterPrints.answerFound(I)I -/
def xt_125 : xT := [[some (.iload_n 1, 0, 0, 0), some (.iconst (-1), 0, 0, 0), some (.if_icmp .ne 12, 14, 0, 0), none, none, some (.aload_n 0, 0, 0, 0), some (.bipush 6, 0, 0, 0), none],
  [some (.invokevirtual 112, 122, 2, 11), none, none, some (.goto 8, 19, 0, 0), none, none, some (.aload_n 0, 0, 0, 0), some (.iload_n 1, 0, 0, 0)],
  [some (.invokevirtual 116, 121, 2, 11), none, none, some (.ireturn, 0, 0, 0)]]
/-- LaterPrints.tellFraction(JJ)V -/
def xt_126 : xT := [[some (.lload_n 1, 0, 0, 0), some (.lstore 5, 0, 0, 0), none, some (.lload_n 3, 0, 0, 0), some (.lstore 7, 0, 0, 0), none, some (.iconst 0, 0, 0, 0), some (.istore 9, 0, 0, 0)],
  [none, some (.iload 9, 0, 0, 0), none, some (.sipush 128, 0, 0, 0), none, none, some (.if_icmp .ge 31, 45, 0, 0), none],
  [none, some (.lload 7, 0, 0, 0), none, some (.lconst 0, 0, 0, 0), some (.lcmp, 0, 0, 0), some (.ifCond .eq 24, 45, 0, 0), none, none],
  [some (.lload 5, 0, 0, 0), none, some (.lload 7, 0, 0, 0), none, some (.lrem, 0, 0, 0), some (.lstore 10, 0, 0, 0), none, some (.lload 7, 0, 0, 0)],
  [none, some (.lstore 5, 0, 0, 0), none, some (.lload 10, 0, 0, 0), none, some (.lstore 7, 0, 0, 0), none, some (.iinc 9 1, 0, 0, 0)],
  [none, none, some (.goto (-33), 9, 0, 0), none, none, some (.lload 5, 0, 0, 0), none, some (.lconst 0, 0, 0, 0)],
  [some (.lcmp, 0, 0, 0), some (.ifCond .le 8, 57, 0, 0), none, none, some (.lload 5, 0, 0, 0), none, some (.goto 4, 58, 0, 0), none],
  [none, some (.lconst 1, 0, 0, 0), some (.lstore 9, 0, 0, 0), none, some (.aload_n 0, 0, 0, 0), some (.lload_n 1, 0, 0, 0), some (.lload 9, 0, 0, 0), none],
  [some (.ldiv, 0, 0, 0), some (.putfield 35, 11, 6, 0), none, none, some (.aload_n 0, 0, 0, 0), some (.lload_n 3, 0, 0, 0), some (.lload 9, 0, 0, 0), none],
  [some (.ldiv, 0, 0, 0), some (.putfield 39, 11, 7, 0), none, none, some (.return_, 0, 0, 0)]]
/-- LaterPrints.isWithin(III)Z -/
def xt_127 : xT := [[some (.iload_n 0, 0, 0, 0), some (.iload_n 1, 0, 0, 0), some (.if_icmp .lt 12, 14, 0, 0), none, none, some (.iload_n 0, 0, 0, 0), some (.iload_n 2, 0, 0, 0), some (.if_icmp .gt 7, 14, 0, 0)],
  [none, none, some (.iconst 1, 0, 0, 0), some (.goto 4, 15, 0, 0), none, none, some (.iconst 0, 0, 0, 0), some (.ireturn, 0, 0, 0)]]
/-- LaterPrints.isPerson(I)Z -/
def xt_128 : xT := [[some (.iload_n 1, 0, 0, 0), some (.iconst 0, 0, 0, 0), some (.aload_n 0, 0, 0, 0), some (.getfield 51, 11, 10, 0), none, none, some (.getfield 119, 10, 1, 0), none],
  [none, some (.getfield 123, 1, 0, 0), none, none, some (.iconst 1, 0, 0, 0), some (.isub, 0, 0, 0), some (.invokestatic 128, 127, 3, 0), none],
  [none, some (.ireturn, 0, 0, 0)]]
/-- LaterPrints.isSight(I)Z -/
def xt_129 : xT := [[some (.iload_n 1, 0, 0, 0), some (.iconst 0, 0, 0, 0), some (.aload_n 0, 0, 0, 0), some (.getfield 51, 11, 10, 0), none, none, some (.getfield 132, 10, 2, 0), none],
  [none, some (.getfield 136, 8, 0, 0), none, none, some (.iconst 1, 0, 0, 0), some (.isub, 0, 0, 0), some (.invokestatic 128, 127, 3, 0), none],
  [none, some (.ireturn, 0, 0, 0)]]
/-- LaterPrints.isSightSet(I)Z -/
def xt_130 : xT := [[some (.iload_n 1, 0, 0, 0), some (.iconst 0, 0, 0, 0), some (.iconst 1, 0, 0, 0), some (.aload_n 0, 0, 0, 0), some (.getfield 51, 11, 10, 0), none, none, some (.getfield 132, 10, 2, 0)],
  [none, none, some (.getfield 136, 8, 0, 0), none, none, some (.ishl, 0, 0, 0), some (.iconst 1, 0, 0, 0), some (.isub, 0, 0, 0)],
  [some (.invokestatic 128, 127, 3, 0), none, none, some (.ireturn, 0, 0, 0)]]
/-- LaterPrints.isBuyer(I)Z -/
def xt_131 : xT := [[some (.iload_n 1, 0, 0, 0), some (.iconst 0, 0, 0, 0), some (.aload_n 0, 0, 0, 0), some (.getfield 51, 11, 10, 0), none, none, some (.getfield 139, 10, 6, 0), none],
  [none, some (.iconst 1, 0, 0, 0), some (.isub, 0, 0, 0), some (.invokestatic 128, 127, 3, 0), none, none, some (.ireturn, 0, 0, 0)]]
/-- LaterPrints.isMade(I)Z -/
def xt_132 : xT := [[some (.iload_n 1, 0, 0, 0), some (.iconst 1, 0, 0, 0), some (.aload_n 0, 0, 0, 0), some (.getfield 51, 11, 10, 0), none, none, some (.getfield 119, 10, 1, 0), none],
  [none, some (.getfield 142, 1, 1, 0), none, none, some (.invokestatic 128, 127, 3, 0), none, none, some (.ireturn, 0, 0, 0)]]
/-- LaterPrints.isTray(I)Z -/
def xt_133 : xT := [[some (.iload_n 0, 0, 0, 0), some (.iconst 0, 0, 0, 0), some (.iconst 3, 0, 0, 0), some (.invokestatic 128, 127, 3, 0), none, none, some (.ireturn, 0, 0, 0)]]
/-- LaterPrints.tray(III)Z -/
def xt_134 : xT := [[some (.iload_n 1, 0, 0, 0), some (.invokestatic 145, 133, 1, 0), none, none, some (.ifCond .eq 22, 26, 0, 0), none, none, some (.iload_n 2, 0, 0, 0)],
  [some (.iconst 0, 0, 0, 0), some (.iconst 3, 0, 0, 0), some (.invokestatic 128, 127, 3, 0), none, none, some (.ifCond .eq 13, 26, 0, 0), none, none],
  [some (.iload_n 3, 0, 0, 0), some (.iconst 0, 0, 0, 0), some (.bipush 60, 0, 0, 0), none, some (.invokestatic 128, 127, 3, 0), none, none, some (.ifCond .ne 9, 32, 0, 0)],
  [none, none, some (.aload_n 0, 0, 0, 0), some (.iconst 1, 0, 0, 0), some (.invokevirtual 149, 124, 2, 11), none, none, some (.ireturn, 0, 0, 0)],
  [some (.aload_n 0, 0, 0, 0), some (.getfield 14, 11, 1, 0), none, none, some (.iload_n 1, 0, 0, 0), some (.iload_n 2, 0, 0, 0), some (.iastore, 0, 0, 0), some (.aload_n 0, 0, 0, 0)],
  [some (.getfield 18, 11, 2, 0), none, none, some (.iload_n 1, 0, 0, 0), some (.iload_n 3, 0, 0, 0), some (.iastore, 0, 0, 0), some (.aload_n 0, 0, 0, 0), some (.getfield 11, 11, 0, 0)],
  [none, none, some (.iload_n 1, 0, 0, 0), some (.aaload, 0, 0, 0), some (.lconst 0, 0, 0, 0), some (.invokestatic 152, 354, 2, 0), none, none],
  [some (.aload_n 0, 0, 0, 0), some (.invokevirtual 155, 123, 1, 11), none, none, some (.ireturn, 0, 0, 0)]]
/-- LaterPrints.write(IIJ)Z -/
def xt_135 : xT := [[some (.aload_n 0, 0, 0, 0), some (.iload_n 1, 0, 0, 0), some (.iload_n 2, 0, 0, 0), some (.invokevirtual 159, 138, 3, 11), none, none, some (.istore 5, 0, 0, 0), none],
  [some (.iload 5, 0, 0, 0), none, some (.ifCond .eq 10, 20, 0, 0), none, none, some (.aload_n 0, 0, 0, 0), some (.iload 5, 0, 0, 0), none],
  [some (.invokevirtual 149, 124, 2, 11), none, none, some (.ireturn, 0, 0, 0), some (.aload_n 0, 0, 0, 0), some (.getfield 11, 11, 0, 0), none, none],
  [some (.iload_n 1, 0, 0, 0), some (.aaload, 0, 0, 0), some (.iload_n 2, 0, 0, 0), some (.aload_n 0, 0, 0, 0), some (.getfield 14, 11, 1, 0), none, none, some (.iload_n 1, 0, 0, 0)],
  [some (.iaload, 0, 0, 0), some (.lload_n 3, 0, 0, 0), some (.invokestatic 163, 140, 2, 0), none, none, some (.lastore, 0, 0, 0), some (.aload_n 0, 0, 0, 0), some (.invokevirtual 155, 123, 1, 11)],
  [none, none, some (.ireturn, 0, 0, 0)]]
/-- LaterPrints.read(II)J -/
def xt_136 : xT := [[some (.aload_n 0, 0, 0, 0), some (.iload_n 1, 0, 0, 0), some (.iload_n 2, 0, 0, 0), some (.invokevirtual 159, 138, 3, 11), none, none, some (.istore_n 3, 0, 0, 0), some (.iload_n 3, 0, 0, 0)],
  [some (.ifCond .eq 10, 18, 0, 0), none, none, some (.aload_n 0, 0, 0, 0), some (.iload_n 3, 0, 0, 0), some (.invokevirtual 112, 122, 2, 11), none, none],
  [some (.i2l, 0, 0, 0), some (.lreturn, 0, 0, 0), some (.aload_n 0, 0, 0, 0), some (.iconst 0, 0, 0, 0), some (.putfield 32, 11, 5, 0), none, none, some (.aload_n 0, 0, 0, 0)],
  [some (.getfield 11, 11, 0, 0), none, none, some (.iload_n 1, 0, 0, 0), some (.aaload, 0, 0, 0), some (.iload_n 2, 0, 0, 0), some (.laload, 0, 0, 0), some (.lreturn, 0, 0, 0)]]
/-- LaterPrints.pour(IIIII)Z -/
def xt_137 : xT := [[some (.iload_n 1, 0, 0, 0), some (.invokestatic 145, 133, 1, 0), none, none, some (.ifCond .eq 24, 28, 0, 0), none, none, some (.iload_n 3, 0, 0, 0)],
  [some (.invokestatic 145, 133, 1, 0), none, none, some (.ifCond .eq 17, 28, 0, 0), none, none, some (.iload_n 2, 0, 0, 0), some (.ifCond .lt 13, 28, 0, 0)],
  [none, none, some (.iload 4, 0, 0, 0), none, some (.ifCond .lt 8, 28, 0, 0), none, none, some (.iload 5, 0, 0, 0)],
  [none, some (.ifCond .ge 9, 34, 0, 0), none, none, some (.aload_n 0, 0, 0, 0), some (.iconst 1, 0, 0, 0), some (.invokevirtual 149, 124, 2, 11), none],
  [none, some (.ireturn, 0, 0, 0), some (.aload_n 0, 0, 0, 0), some (.getfield 14, 11, 1, 0), none, none, some (.iload_n 1, 0, 0, 0), some (.iaload, 0, 0, 0)],
  [some (.iconst (-1), 0, 0, 0), some (.if_icmp .eq 13, 54, 0, 0), none, none, some (.aload_n 0, 0, 0, 0), some (.getfield 14, 11, 1, 0), none, none],
  [some (.iload_n 3, 0, 0, 0), some (.iaload, 0, 0, 0), some (.iconst (-1), 0, 0, 0), some (.if_icmp .ne 9, 60, 0, 0), none, none, some (.aload_n 0, 0, 0, 0), some (.iconst 2, 0, 0, 0)],
  [some (.invokevirtual 149, 124, 2, 11), none, none, some (.ireturn, 0, 0, 0), some (.aload_n 0, 0, 0, 0), some (.getfield 14, 11, 1, 0), none, none],
  [some (.iload_n 1, 0, 0, 0), some (.iaload, 0, 0, 0), some (.aload_n 0, 0, 0, 0), some (.getfield 14, 11, 1, 0), none, none, some (.iload_n 3, 0, 0, 0), some (.iaload, 0, 0, 0)],
  [some (.if_icmp .eq 10, 82, 0, 0), none, none, some (.aload_n 0, 0, 0, 0), some (.bipush 8, 0, 0, 0), none, some (.invokevirtual 149, 124, 2, 11), none],
  [none, some (.ireturn, 0, 0, 0), some (.iload 5, 0, 0, 0), none, some (.aload_n 0, 0, 0, 0), some (.getfield 18, 11, 2, 0), none, none],
  [some (.iload_n 1, 0, 0, 0), some (.iaload, 0, 0, 0), some (.iload_n 2, 0, 0, 0), some (.isub, 0, 0, 0), some (.if_icmp .gt 17, 109, 0, 0), none, none, some (.iload 5, 0, 0, 0)],
  [none, some (.aload_n 0, 0, 0, 0), some (.getfield 18, 11, 2, 0), none, none, some (.iload_n 3, 0, 0, 0), some (.iaload, 0, 0, 0), some (.iload 4, 0, 0, 0)],
  [none, some (.isub, 0, 0, 0), some (.if_icmp .le 9, 115, 0, 0), none, none, some (.aload_n 0, 0, 0, 0), some (.iconst 3, 0, 0, 0), some (.invokevirtual 149, 124, 2, 11)],
  [none, none, some (.ireturn, 0, 0, 0), some (.aload_n 0, 0, 0, 0), some (.getfield 11, 11, 0, 0), none, none, some (.iload_n 1, 0, 0, 0)],
  [some (.aaload, 0, 0, 0), some (.iload_n 2, 0, 0, 0), some (.aload_n 0, 0, 0, 0), some (.getfield 11, 11, 0, 0), none, none, some (.iload_n 3, 0, 0, 0), some (.aaload, 0, 0, 0)],
  [some (.iload 4, 0, 0, 0), none, some (.iload 5, 0, 0, 0), none, some (.invokestatic 167, 5001, 5, 0), none, none, some (.aload_n 0, 0, 0, 0)],
  [some (.invokevirtual 155, 123, 1, 11), none, none, some (.ireturn, 0, 0, 0)]]
/-- LaterPrints.whyNoPlace(II)I -/
def xt_138 : xT := [[some (.iload_n 1, 0, 0, 0), some (.invokestatic 145, 133, 1, 0), none, none, some (.ifCond .ne 5, 9, 0, 0), none, none, some (.iconst 1, 0, 0, 0)],
  [some (.ireturn, 0, 0, 0), some (.aload_n 0, 0, 0, 0), some (.getfield 14, 11, 1, 0), none, none, some (.iload_n 1, 0, 0, 0), some (.iaload, 0, 0, 0), some (.iconst (-1), 0, 0, 0)],
  [some (.if_icmp .ne 5, 21, 0, 0), none, none, some (.iconst 2, 0, 0, 0), some (.ireturn, 0, 0, 0), some (.iload_n 2, 0, 0, 0), some (.iconst 0, 0, 0, 0), some (.aload_n 0, 0, 0, 0)],
  [some (.getfield 18, 11, 2, 0), none, none, some (.iload_n 1, 0, 0, 0), some (.iaload, 0, 0, 0), some (.iconst 1, 0, 0, 0), some (.isub, 0, 0, 0), some (.invokestatic 128, 127, 3, 0)],
  [none, none, some (.ifCond .eq 7, 41, 0, 0), none, none, some (.iconst 0, 0, 0, 0), some (.goto 4, 42, 0, 0), none],
  [none, some (.iconst 3, 0, 0, 0), some (.ireturn, 0, 0, 0)]]
/-- LaterPrints.whyTooFew(II)I -/
def xt_139 : xT := [[some (.aload_n 0, 0, 0, 0), some (.getfield 14, 11, 1, 0), none, none, some (.iload_n 1, 0, 0, 0), some (.iaload, 0, 0, 0), some (.iconst (-1), 0, 0, 0), some (.if_icmp .ne 5, 12, 0, 0)],
  [none, none, some (.iconst 2, 0, 0, 0), some (.ireturn, 0, 0, 0), some (.aload_n 0, 0, 0, 0), some (.getfield 18, 11, 2, 0), none, none],
  [some (.iload_n 1, 0, 0, 0), some (.iaload, 0, 0, 0), some (.iload_n 2, 0, 0, 0), some (.if_icmp .ge 7, 26, 0, 0), none, none, some (.iconst 3, 0, 0, 0), some (.goto 4, 27, 0, 0)],
  [none, none, some (.iconst 0, 0, 0, 0), some (.ireturn, 0, 0, 0)]]
/-- LaterPrints.cutTo(IJ)J -/
def xt_140 : xT := [[some (.iload_n 0, 0, 0, 0), some (.tableswitch 41 0 2 #[27, 32, 37], 0, 27, 0), none, none, none, none, none, none],
  [none, none, none, none, none, none, none, none],
  [none, none, none, none, none, none, none, none],
  [none, none, none, none, some (.lload_n 1, 0, 0, 0), some (.l2i, 0, 0, 0), some (.i2b, 0, 0, 0), some (.i2l, 0, 0, 0)],
  [some (.lreturn, 0, 0, 0), some (.lload_n 1, 0, 0, 0), some (.l2i, 0, 0, 0), some (.i2s, 0, 0, 0), some (.i2l, 0, 0, 0), some (.lreturn, 0, 0, 0), some (.lload_n 1, 0, 0, 0), some (.l2i, 0, 0, 0)],
  [some (.i2l, 0, 0, 0), some (.lreturn, 0, 0, 0), some (.lload_n 1, 0, 0, 0), some (.lreturn, 0, 0, 0)]]
/-- LaterPrints.feed(IIIII)I -/
def xt_141 : xT := [[some (.aload_n 0, 0, 0, 0), some (.getfield 28, 11, 4, 0), none, none, some (.bipush 20, 0, 0, 0), none, some (.iadd, 0, 0, 0), some (.sipush 900, 0, 0, 0)],
  [none, none, some (.if_icmp .le 5, 15, 0, 0), none, none, some (.iconst (-1), 0, 0, 0), some (.ireturn, 0, 0, 0), some (.aload_n 0, 0, 0, 0)],
  [some (.iload_n 1, 0, 0, 0), some (.invokevirtual 173, 142, 2, 11), none, none, some (.aload_n 0, 0, 0, 0), some (.iload_n 2, 0, 0, 0), some (.invokevirtual 173, 142, 2, 11), none],
  [none, some (.aload_n 0, 0, 0, 0), some (.iload_n 3, 0, 0, 0), some (.invokevirtual 173, 142, 2, 11), none, none, some (.aload_n 0, 0, 0, 0), some (.iload 4, 0, 0, 0)],
  [none, some (.invokevirtual 173, 142, 2, 11), none, none, some (.aload_n 0, 0, 0, 0), some (.iload 5, 0, 0, 0), none, some (.invokevirtual 173, 142, 2, 11)],
  [none, none, some (.aload_n 0, 0, 0, 0), some (.getfield 28, 11, 4, 0), none, none, some (.ireturn, 0, 0, 0)]]
/-- LaterPrints.putOnTape(I)V -/
def xt_142 : xT := [[some (.bipush 24, 0, 0, 0), none, some (.istore_n 2, 0, 0, 0), some (.iload_n 2, 0, 0, 0), some (.ifCond .lt 45, 49, 0, 0), none, none, some (.aload_n 0, 0, 0, 0)],
  [some (.getfield 28, 11, 4, 0), none, none, some (.sipush 900, 0, 0, 0), none, none, some (.if_icmp .ge 29, 43, 0, 0), none],
  [none, some (.aload_n 0, 0, 0, 0), some (.getfield 24, 11, 3, 0), none, none, some (.getfield 177, 2, 0, 0), none, none],
  [some (.aload_n 0, 0, 0, 0), some (.getfield 28, 11, 4, 0), none, none, some (.iload_n 1, 0, 0, 0), some (.iload_n 2, 0, 0, 0), some (.iushr, 0, 0, 0), some (.i2b, 0, 0, 0)],
  [some (.bastore, 0, 0, 0), some (.aload_n 0, 0, 0, 0), some (.dup, 0, 0, 0), some (.getfield 28, 11, 4, 0), none, none, some (.iconst 1, 0, 0, 0), some (.iadd, 0, 0, 0)],
  [some (.putfield 28, 11, 4, 0), none, none, some (.iinc 2 (-8), 0, 0, 0), none, none, some (.goto (-43), 3, 0, 0), none],
  [none, some (.return_, 0, 0, 0)]]
/-- LaterPrints.scene(I)I -/
def xt_143 : xT := [[some (.iload_n 1, 0, 0, 0), some (.iconst 0, 0, 0, 0), some (.aload_n 0, 0, 0, 0), some (.getfield 28, 11, 4, 0), none, none, some (.invokestatic 128, 127, 3, 0), none],
  [none, some (.ifCond .ne 9, 18, 0, 0), none, none, some (.aload_n 0, 0, 0, 0), some (.iconst 1, 0, 0, 0), some (.invokevirtual 112, 122, 2, 11), none],
  [none, some (.ireturn, 0, 0, 0), some (.aload_n 0, 0, 0, 0), some (.iconst 0, 0, 0, 0), some (.putfield 28, 11, 4, 0), none, none, some (.aload_n 0, 0, 0, 0)],
  [some (.getfield 67, 11, 13, 0), none, none, some (.iload_n 1, 0, 0, 0), some (.invokevirtual 181, 75, 2, 7), none, none, some (.istore_n 2, 0, 0, 0)],
  [some (.aload_n 0, 0, 0, 0), some (.invokevirtual 184, 145, 1, 11), none, none, some (.iload_n 2, 0, 0, 0), some (.ifCond .ne 10, 47, 0, 0), none, none],
  [some (.aload_n 0, 0, 0, 0), some (.bipush 9, 0, 0, 0), none, some (.invokevirtual 112, 122, 2, 11), none, none, some (.ireturn, 0, 0, 0), some (.aload_n 0, 0, 0, 0)],
  [some (.getfield 51, 11, 10, 0), none, none, some (.aload_n 0, 0, 0, 0), some (.getfield 67, 11, 13, 0), none, none, some (.getfield 187, 7, 0, 0)],
  [none, none, some (.invokevirtual 190, 105, 2, 10), none, none, some (.aload_n 0, 0, 0, 0), some (.aload_n 0, 0, 0, 0), some (.getfield 51, 11, 10, 0)],
  [none, none, some (.getfield 132, 10, 2, 0), none, none, some (.getfield 136, 8, 0, 0), none, none],
  [some (.invokevirtual 116, 121, 2, 11), none, none, some (.ireturn, 0, 0, 0)]]
/-- LaterPrints.runs(I)I -/
def xt_144 : xT := [[some (.iload_n 1, 0, 0, 0), some (.iconst 0, 0, 0, 0), some (.aload_n 0, 0, 0, 0), some (.getfield 28, 11, 4, 0), none, none, some (.sipush 300, 0, 0, 0), none],
  [none, some (.invokestatic 194, 5003, 2, 0), none, none, some (.invokestatic 128, 127, 3, 0), none, none, some (.ifCond .ne 9, 24, 0, 0)],
  [none, none, some (.aload_n 0, 0, 0, 0), some (.iconst 1, 0, 0, 0), some (.invokevirtual 112, 122, 2, 11), none, none, some (.ireturn, 0, 0, 0)],
  [some (.aload_n 0, 0, 0, 0), some (.iconst 0, 0, 0, 0), some (.putfield 28, 11, 4, 0), none, none, some (.aload_n 0, 0, 0, 0), some (.getfield 74, 11, 14, 0), none],
  [none, some (.aload_n 0, 0, 0, 0), some (.getfield 51, 11, 10, 0), none, none, some (.iload_n 1, 0, 0, 0), some (.invokevirtual 199, 51, 3, 4), none],
  [none, some (.istore_n 2, 0, 0, 0), some (.aload_n 0, 0, 0, 0), some (.invokevirtual 184, 145, 1, 11), none, none, some (.iload_n 2, 0, 0, 0), some (.ifCond .ne 10, 57, 0, 0)],
  [none, none, some (.aload_n 0, 0, 0, 0), some (.bipush 9, 0, 0, 0), none, some (.invokevirtual 112, 122, 2, 11), none, none],
  [some (.ireturn, 0, 0, 0), some (.aload_n 0, 0, 0, 0), some (.getfield 51, 11, 10, 0), none, none, some (.getfield 202, 10, 3, 0), none, none],
  [some (.aload_n 0, 0, 0, 0), some (.getfield 74, 11, 14, 0), none, none, some (.getfield 206, 4, 0, 0), none, none, some (.invokevirtual 208, 72, 2, 6)],
  [none, none, some (.aload_n 0, 0, 0, 0), some (.aload_n 0, 0, 0, 0), some (.getfield 51, 11, 10, 0), none, none, some (.getfield 202, 10, 3, 0)],
  [none, none, some (.getfield 213, 6, 1, 0), none, none, some (.invokevirtual 116, 121, 2, 11), none, none],
  [some (.ireturn, 0, 0, 0)]]
/-- LaterPrints.keepFault()V -/
def xt_145 : xT := [[some (.aload_n 0, 0, 0, 0), some (.aload_n 0, 0, 0, 0), some (.getfield 24, 11, 3, 0), none, none, some (.getfield 216, 2, 9, 0), none, none],
  [some (.putfield 42, 11, 8, 0), none, none, some (.aload_n 0, 0, 0, 0), some (.aload_n 0, 0, 0, 0), some (.getfield 24, 11, 3, 0), none, none],
  [some (.getfield 217, 2, 10, 0), none, none, some (.putfield 45, 11, 9, 0), none, none, some (.return_, 0, 0, 0)]]
/-- LaterPrints.fault(I)I -/
def xt_146 : xT := [[some (.iload_n 1, 0, 0, 0), some (.ifCond .ne 8, 9, 0, 0), none, none, some (.aload_n 0, 0, 0, 0), some (.getfield 42, 11, 8, 0), none, none],
  [some (.ireturn, 0, 0, 0), some (.iload_n 1, 0, 0, 0), some (.iconst 1, 0, 0, 0), some (.if_icmp .ne 10, 21, 0, 0), none, none, some (.aload_n 0, 0, 0, 0), some (.getfield 45, 11, 9, 0)],
  [none, none, some (.goto 4, 22, 0, 0), none, none, some (.iconst (-1), 0, 0, 0), some (.ireturn, 0, 0, 0)]]
/-- LaterPrints.told(I)I -/
def xt_147 : xT := [[some (.aload_n 0, 0, 0, 0), some (.getfield 51, 11, 10, 0), none, none, some (.getfield 119, 10, 1, 0), none, none, some (.astore_n 2, 0, 0, 0)],
  [some (.iload_n 1, 0, 0, 0), some (.tableswitch 254 0 13 #[71, 86, 101, 110, 125, 137, 146, 164, 176, 186, 196, 212, 230, 242], 0, 71, 0), none, none, none, none, none, none],
  [none, none, none, none, none, none, none, none],
  [none, none, none, none, none, none, none, none],
  [none, none, none, none, none, none, none, none],
  [none, none, none, none, none, none, none, none],
  [none, none, none, none, none, none, none, none],
  [none, none, none, none, none, none, none, none],
  [none, none, none, none, none, none, none, none],
  [none, none, none, none, none, none, none, none],
  [some (.aload_n 0, 0, 0, 0), some (.aload_n 0, 0, 0, 0), some (.getfield 51, 11, 10, 0), none, none, some (.getfield 218, 10, 0, 0), none, none],
  [some (.getfield 222, 3, 0, 0), none, none, some (.invokevirtual 116, 121, 2, 11), none, none, some (.ireturn, 0, 0, 0), some (.aload_n 0, 0, 0, 0)],
  [some (.aload_n 0, 0, 0, 0), some (.getfield 51, 11, 10, 0), none, none, some (.getfield 218, 10, 0, 0), none, none, some (.getfield 227, 3, 1, 0)],
  [none, none, some (.invokevirtual 116, 121, 2, 11), none, none, some (.ireturn, 0, 0, 0), some (.aload_n 0, 0, 0, 0), some (.aload_n 2, 0, 0, 0)],
  [some (.getfield 123, 1, 0, 0), none, none, some (.invokevirtual 116, 121, 2, 11), none, none, some (.ireturn, 0, 0, 0), some (.aload_n 0, 0, 0, 0)],
  [some (.aload_n 0, 0, 0, 0), some (.getfield 51, 11, 10, 0), none, none, some (.getfield 132, 10, 2, 0), none, none, some (.getfield 136, 8, 0, 0)],
  [none, none, some (.invokevirtual 116, 121, 2, 11), none, none, some (.ireturn, 0, 0, 0), some (.aload_n 0, 0, 0, 0), some (.aload_n 0, 0, 0, 0)],
  [some (.getfield 51, 11, 10, 0), none, none, some (.getfield 139, 10, 6, 0), none, none, some (.invokevirtual 116, 121, 2, 11), none],
  [none, some (.ireturn, 0, 0, 0), some (.aload_n 0, 0, 0, 0), some (.aload_n 2, 0, 0, 0), some (.getfield 142, 1, 1, 0), none, none, some (.invokevirtual 116, 121, 2, 11)],
  [none, none, some (.ireturn, 0, 0, 0), some (.aload_n 0, 0, 0, 0), some (.aload_n 0, 0, 0, 0), some (.getfield 51, 11, 10, 0), none, none],
  [some (.aload_n 2, 0, 0, 0), some (.getfield 142, 1, 1, 0), none, none, some (.iconst 1, 0, 0, 0), some (.iadd, 0, 0, 0), some (.invokevirtual 230, 106, 2, 10), none],
  [none, some (.invokevirtual 116, 121, 2, 11), none, none, some (.ireturn, 0, 0, 0), some (.aload_n 0, 0, 0, 0), some (.aload_n 0, 0, 0, 0), some (.getfield 51, 11, 10, 0)],
  [none, none, some (.getfield 233, 10, 5, 0), none, none, some (.invokevirtual 116, 121, 2, 11), none, none],
  [some (.ireturn, 0, 0, 0), some (.aload_n 0, 0, 0, 0), some (.aload_n 2, 0, 0, 0), some (.iconst 1, 0, 0, 0), some (.invokevirtual 236, 16, 2, 1), none, none, some (.invokevirtual 116, 121, 2, 11)],
  [none, none, some (.ireturn, 0, 0, 0), some (.aload_n 0, 0, 0, 0), some (.aload_n 2, 0, 0, 0), some (.iconst 2, 0, 0, 0), some (.invokevirtual 236, 16, 2, 1), none],
  [none, some (.invokevirtual 116, 121, 2, 11), none, none, some (.ireturn, 0, 0, 0), some (.aload_n 0, 0, 0, 0), some (.aload_n 0, 0, 0, 0), some (.getfield 51, 11, 10, 0)],
  [none, none, some (.getfield 132, 10, 2, 0), none, none, some (.aload_n 2, 0, 0, 0), some (.invokevirtual 239, 92, 2, 8), none],
  [none, some (.invokevirtual 116, 121, 2, 11), none, none, some (.ireturn, 0, 0, 0), some (.aload_n 0, 0, 0, 0), some (.aload_n 0, 0, 0, 0), some (.getfield 51, 11, 10, 0)],
  [none, none, some (.getfield 218, 10, 0, 0), none, none, some (.getfield 243, 3, 2, 0), none, none],
  [some (.invokestatic 246, 353, 1, 0), none, none, some (.invokevirtual 116, 121, 2, 11), none, none, some (.ireturn, 0, 0, 0), some (.aload_n 0, 0, 0, 0)],
  [some (.aload_n 0, 0, 0, 0), some (.getfield 51, 11, 10, 0), none, none, some (.invokevirtual 252, 116, 1, 10), none, none, some (.invokevirtual 116, 121, 2, 11)],
  [none, none, some (.ireturn, 0, 0, 0), some (.aload_n 0, 0, 0, 0), some (.aload_n 0, 0, 0, 0), some (.getfield 51, 11, 10, 0), none, none],
  [some (.invokevirtual 256, 114, 1, 10), none, none, some (.invokevirtual 116, 121, 2, 11), none, none, some (.ireturn, 0, 0, 0), some (.aload_n 0, 0, 0, 0)],
  [some (.iconst 1, 0, 0, 0), some (.invokevirtual 112, 122, 2, 11), none, none, some (.ireturn, 0, 0, 0)]]
/-- LaterPrints.who(II)I -/
def xt_148 : xT := [[some (.aload_n 0, 0, 0, 0), some (.getfield 51, 11, 10, 0), none, none, some (.getfield 218, 10, 0, 0), none, none, some (.iload_n 1, 0, 0, 0)],
  [some (.iload_n 2, 0, 0, 0), some (.invokevirtual 259, 46, 3, 3), none, none, some (.ifCond .ne 9, 21, 0, 0), none, none, some (.aload_n 0, 0, 0, 0)],
  [some (.iconst 1, 0, 0, 0), some (.invokevirtual 112, 122, 2, 11), none, none, some (.ireturn, 0, 0, 0), some (.aload_n 0, 0, 0, 0), some (.aload_n 0, 0, 0, 0), some (.getfield 51, 11, 10, 0)],
  [none, none, some (.getfield 119, 10, 1, 0), none, none, some (.iload_n 1, 0, 0, 0), some (.iload_n 2, 0, 0, 0), some (.invokestatic 263, 43, 2, 0)],
  [none, none, some (.invokevirtual 266, 13, 2, 1), none, none, some (.invokevirtual 269, 125, 2, 11), none, none],
  [some (.ireturn, 0, 0, 0)]]
/-- LaterPrints.wall(II)I -/
def xt_149 : xT := [[some (.aload_n 0, 0, 0, 0), some (.getfield 51, 11, 10, 0), none, none, some (.getfield 218, 10, 0, 0), none, none, some (.iload_n 1, 0, 0, 0)],
  [some (.iload_n 2, 0, 0, 0), some (.invokevirtual 259, 46, 3, 3), none, none, some (.ifCond .ne 9, 21, 0, 0), none, none, some (.aload_n 0, 0, 0, 0)],
  [some (.iconst 1, 0, 0, 0), some (.invokevirtual 112, 122, 2, 11), none, none, some (.ireturn, 0, 0, 0), some (.aload_n 0, 0, 0, 0), some (.aload_n 0, 0, 0, 0), some (.getfield 51, 11, 10, 0)],
  [none, none, some (.getfield 218, 10, 0, 0), none, none, some (.iload_n 1, 0, 0, 0), some (.iload_n 2, 0, 0, 0), some (.invokestatic 263, 43, 2, 0)],
  [none, none, some (.invokevirtual 272, 47, 2, 3), none, none, some (.ifCond .eq 7, 44, 0, 0), none, none],
  [some (.iconst 1, 0, 0, 0), some (.goto 4, 45, 0, 0), none, none, some (.iconst 0, 0, 0, 0), some (.invokevirtual 116, 121, 2, 11), none, none],
  [some (.ireturn, 0, 0, 0)]]
/-- LaterPrints.person(II)I -/
def xt_150 : xT := [[some (.aload_n 0, 0, 0, 0), some (.iload_n 1, 0, 0, 0), some (.invokevirtual 275, 128, 2, 11), none, none, some (.ifCond .eq 12, 17, 0, 0), none, none],
  [some (.iload_n 2, 0, 0, 0), some (.iconst 0, 0, 0, 0), some (.iconst 4, 0, 0, 0), some (.invokestatic 128, 127, 3, 0), none, none, some (.ifCond .ne 9, 23, 0, 0), none],
  [none, some (.aload_n 0, 0, 0, 0), some (.iconst 1, 0, 0, 0), some (.invokevirtual 112, 122, 2, 11), none, none, some (.ireturn, 0, 0, 0), some (.aload_n 0, 0, 0, 0)],
  [some (.getfield 51, 11, 10, 0), none, none, some (.getfield 119, 10, 1, 0), none, none, some (.astore_n 3, 0, 0, 0), some (.aload_n 3, 0, 0, 0)],
  [some (.iload_n 1, 0, 0, 0), some (.invokevirtual 278, 12, 2, 1), none, none, some (.istore 4, 0, 0, 0), none, some (.iload_n 2, 0, 0, 0), some (.tableswitch 91 0 3 #[29, 49, 69, 80], 0, 29, 0)],
  [none, none, none, none, none, none, none, none],
  [none, none, none, none, none, none, none, none],
  [none, none, none, none, none, none, none, none],
  [none, none, none, none, some (.aload_n 0, 0, 0, 0), some (.iload 4, 0, 0, 0), none, some (.iconst (-1), 0, 0, 0)],
  [some (.if_icmp .ne 7, 79, 0, 0), none, none, some (.iconst (-1), 0, 0, 0), some (.goto 8, 84, 0, 0), none, none, some (.iload 4, 0, 0, 0)],
  [none, some (.invokestatic 281, 44, 1, 0), none, none, some (.invokevirtual 269, 125, 2, 11), none, none, some (.ireturn, 0, 0, 0)],
  [some (.aload_n 0, 0, 0, 0), some (.iload 4, 0, 0, 0), none, some (.iconst (-1), 0, 0, 0), some (.if_icmp .ne 7, 99, 0, 0), none, none, some (.iconst (-1), 0, 0, 0)],
  [some (.goto 8, 104, 0, 0), none, none, some (.iload 4, 0, 0, 0), none, some (.invokestatic 284, 45, 1, 0), none, none],
  [some (.invokevirtual 269, 125, 2, 11), none, none, some (.ireturn, 0, 0, 0), some (.aload_n 0, 0, 0, 0), some (.aload_n 3, 0, 0, 0), some (.getfield 287, 1, 4, 0), none],
  [none, some (.iload_n 1, 0, 0, 0), some (.iaload, 0, 0, 0), some (.invokevirtual 116, 121, 2, 11), none, none, some (.ireturn, 0, 0, 0), some (.aload_n 0, 0, 0, 0)],
  [some (.aload_n 3, 0, 0, 0), some (.getfield 290, 1, 5, 0), none, none, some (.iload_n 1, 0, 0, 0), some (.iaload, 0, 0, 0), some (.invokevirtual 269, 125, 2, 11), none],
  [none, some (.ireturn, 0, 0, 0), some (.aload_n 0, 0, 0, 0), some (.aload_n 3, 0, 0, 0), some (.getfield 293, 1, 6, 0), none, none, some (.iload_n 1, 0, 0, 0)],
  [some (.iaload, 0, 0, 0), some (.invokevirtual 116, 121, 2, 11), none, none, some (.ireturn, 0, 0, 0)]]
/-- LaterPrints.stepOf(II)I -/
def xt_151 : xT := [[some (.aload_n 0, 0, 0, 0), some (.iload_n 1, 0, 0, 0), some (.invokevirtual 275, 128, 2, 11), none, none, some (.ifCond .ne 9, 14, 0, 0), none, none],
  [some (.aload_n 0, 0, 0, 0), some (.iconst 1, 0, 0, 0), some (.invokevirtual 112, 122, 2, 11), none, none, some (.ireturn, 0, 0, 0), some (.iload_n 2, 0, 0, 0), some (.iconst 0, 0, 0, 0)],
  [some (.aload_n 0, 0, 0, 0), some (.getfield 51, 11, 10, 0), none, none, some (.getfield 119, 10, 1, 0), none, none, some (.getfield 293, 1, 6, 0)],
  [none, none, some (.iload_n 1, 0, 0, 0), some (.iaload, 0, 0, 0), some (.iconst 1, 0, 0, 0), some (.isub, 0, 0, 0), some (.invokestatic 128, 127, 3, 0), none],
  [none, some (.ifCond .ne 10, 43, 0, 0), none, none, some (.aload_n 0, 0, 0, 0), some (.bipush 6, 0, 0, 0), none, some (.invokevirtual 112, 122, 2, 11)],
  [none, none, some (.ireturn, 0, 0, 0), some (.aload_n 0, 0, 0, 0), some (.aload_n 0, 0, 0, 0), some (.getfield 51, 11, 10, 0), none, none],
  [some (.getfield 119, 10, 1, 0), none, none, some (.getfield 296, 1, 7, 0), none, none, some (.iload_n 1, 0, 0, 0), some (.bipush 8, 0, 0, 0)],
  [none, some (.imul, 0, 0, 0), some (.iload_n 2, 0, 0, 0), some (.iadd, 0, 0, 0), some (.iaload, 0, 0, 0), some (.invokevirtual 116, 121, 2, 11), none, none],
  [some (.ireturn, 0, 0, 0)]]
/-- LaterPrints.sight(II)I -/
def xt_152 : xT := [[some (.aload_n 0, 0, 0, 0), some (.iload_n 1, 0, 0, 0), some (.invokevirtual 299, 129, 2, 11), none, none, some (.ifCond .eq 12, 17, 0, 0), none, none],
  [some (.iload_n 2, 0, 0, 0), some (.iconst 0, 0, 0, 0), some (.iconst 2, 0, 0, 0), some (.invokestatic 128, 127, 3, 0), none, none, some (.ifCond .ne 9, 23, 0, 0), none],
  [none, some (.aload_n 0, 0, 0, 0), some (.iconst 1, 0, 0, 0), some (.invokevirtual 112, 122, 2, 11), none, none, some (.ireturn, 0, 0, 0), some (.aload_n 0, 0, 0, 0)],
  [some (.getfield 51, 11, 10, 0), none, none, some (.getfield 132, 10, 2, 0), none, none, some (.astore_n 3, 0, 0, 0), some (.iload_n 2, 0, 0, 0)],
  [some (.ifCond .ne 14, 46, 0, 0), none, none, some (.aload_n 0, 0, 0, 0), some (.aload_n 3, 0, 0, 0), some (.getfield 302, 8, 2, 0), none, none],
  [some (.iload_n 1, 0, 0, 0), some (.iaload, 0, 0, 0), some (.invokevirtual 116, 121, 2, 11), none, none, some (.ireturn, 0, 0, 0), some (.aload_n 0, 0, 0, 0), some (.iload_n 2, 0, 0, 0)],
  [some (.iconst 1, 0, 0, 0), some (.if_icmp .ne 12, 61, 0, 0), none, none, some (.aload_n 3, 0, 0, 0), some (.getfield 305, 8, 3, 0), none, none],
  [some (.iload_n 1, 0, 0, 0), some (.iaload, 0, 0, 0), some (.goto 9, 67, 0, 0), none, none, some (.aload_n 3, 0, 0, 0), some (.getfield 308, 8, 4, 0), none],
  [none, some (.iload_n 1, 0, 0, 0), some (.iaload, 0, 0, 0), some (.invokevirtual 269, 125, 2, 11), none, none, some (.ireturn, 0, 0, 0)]]
/-- LaterPrints.coins(I)I -/
def xt_153 : xT := [[some (.aload_n 0, 0, 0, 0), some (.iload_n 1, 0, 0, 0), some (.invokevirtual 311, 131, 2, 11), none, none, some (.ifCond .eq 19, 24, 0, 0), none, none],
  [some (.aload_n 0, 0, 0, 0), some (.aload_n 0, 0, 0, 0), some (.getfield 51, 11, 10, 0), none, none, some (.getfield 314, 10, 8, 0), none, none],
  [some (.iload_n 1, 0, 0, 0), some (.iaload, 0, 0, 0), some (.invokevirtual 116, 121, 2, 11), none, none, some (.goto 8, 29, 0, 0), none, none],
  [some (.aload_n 0, 0, 0, 0), some (.iconst 1, 0, 0, 0), some (.invokevirtual 112, 122, 2, 11), none, none, some (.ireturn, 0, 0, 0)]]
/-- LaterPrints.owner(I)I -/
def xt_154 : xT := [[some (.aload_n 0, 0, 0, 0), some (.iload_n 1, 0, 0, 0), some (.invokevirtual 317, 132, 2, 11), none, none, some (.ifCond .eq 18, 23, 0, 0), none, none],
  [some (.aload_n 0, 0, 0, 0), some (.aload_n 0, 0, 0, 0), some (.getfield 51, 11, 10, 0), none, none, some (.iload_n 1, 0, 0, 0), some (.invokevirtual 320, 112, 2, 10), none],
  [none, some (.invokevirtual 269, 125, 2, 11), none, none, some (.goto 8, 28, 0, 0), none, none, some (.aload_n 0, 0, 0, 0)],
  [some (.iconst 1, 0, 0, 0), some (.invokevirtual 112, 122, 2, 11), none, none, some (.ireturn, 0, 0, 0)]]
/-- LaterPrints.prints(I)I -/
def xt_155 : xT := [[some (.aload_n 0, 0, 0, 0), some (.iload_n 1, 0, 0, 0), some (.invokevirtual 311, 131, 2, 11), none, none, some (.ifCond .eq 18, 23, 0, 0), none, none],
  [some (.aload_n 0, 0, 0, 0), some (.aload_n 0, 0, 0, 0), some (.getfield 51, 11, 10, 0), none, none, some (.iload_n 1, 0, 0, 0), some (.invokevirtual 323, 113, 2, 10), none],
  [none, some (.invokevirtual 116, 121, 2, 11), none, none, some (.goto 8, 28, 0, 0), none, none, some (.aload_n 0, 0, 0, 0)],
  [some (.iconst 1, 0, 0, 0), some (.invokevirtual 112, 122, 2, 11), none, none, some (.ireturn, 0, 0, 0)]]
/-- LaterPrints.buy(II)I -/
def xt_156 : xT := [[some (.aload_n 0, 0, 0, 0), some (.iload_n 1, 0, 0, 0), some (.invokevirtual 311, 131, 2, 11), none, none, some (.ifCond .eq 13, 18, 0, 0), none, none],
  [some (.iload_n 2, 0, 0, 0), some (.iconst 1, 0, 0, 0), some (.bipush 99, 0, 0, 0), none, some (.invokestatic 128, 127, 3, 0), none, none, some (.ifCond .ne 9, 24, 0, 0)],
  [none, none, some (.aload_n 0, 0, 0, 0), some (.iconst 1, 0, 0, 0), some (.invokevirtual 112, 122, 2, 11), none, none, some (.ireturn, 0, 0, 0)],
  [some (.iconst 0, 0, 0, 0), some (.istore_n 3, 0, 0, 0), some (.iload_n 3, 0, 0, 0), some (.iload_n 2, 0, 0, 0), some (.if_icmp .ge 29, 57, 0, 0), none, none, some (.aload_n 0, 0, 0, 0)],
  [some (.getfield 51, 11, 10, 0), none, none, some (.iload_n 1, 0, 0, 0), some (.iconst 1, 0, 0, 0), some (.invokevirtual 326, 109, 3, 10), none, none],
  [some (.ifCond .eq 17, 57, 0, 0), none, none, some (.aload_n 0, 0, 0, 0), some (.getfield 51, 11, 10, 0), none, none, some (.iload_n 1, 0, 0, 0)],
  [some (.invokevirtual 329, 110, 2, 10), none, none, some (.iinc 3 1, 0, 0, 0), none, none, some (.goto (-28), 26, 0, 0), none],
  [none, some (.iload_n 3, 0, 0, 0), some (.ifCond .ne 12, 70, 0, 0), none, none, some (.aload_n 0, 0, 0, 0), some (.bipush 7, 0, 0, 0), none],
  [some (.invokevirtual 112, 122, 2, 11), none, none, some (.goto 8, 75, 0, 0), none, none, some (.aload_n 0, 0, 0, 0), some (.iload_n 3, 0, 0, 0)],
  [some (.invokevirtual 116, 121, 2, 11), none, none, some (.ireturn, 0, 0, 0)]]
/-- LaterPrints.skip(I)I -/
def xt_157 : xT := [[some (.iload_n 1, 0, 0, 0), some (.iconst 1, 0, 0, 0), some (.bipush 99, 0, 0, 0), none, some (.invokestatic 128, 127, 3, 0), none, none, some (.ifCond .ne 9, 16, 0, 0)],
  [none, none, some (.aload_n 0, 0, 0, 0), some (.iconst 1, 0, 0, 0), some (.invokevirtual 112, 122, 2, 11), none, none, some (.ireturn, 0, 0, 0)],
  [some (.aload_n 0, 0, 0, 0), some (.getfield 51, 11, 10, 0), none, none, some (.iload_n 1, 0, 0, 0), some (.invokevirtual 332, 108, 2, 10), none, none],
  [some (.ifCond .ne 9, 33, 0, 0), none, none, some (.aload_n 0, 0, 0, 0), some (.iconst 4, 0, 0, 0), some (.invokevirtual 112, 122, 2, 11), none, none],
  [some (.ireturn, 0, 0, 0), some (.iconst 0, 0, 0, 0), some (.istore_n 2, 0, 0, 0), some (.iload_n 2, 0, 0, 0), some (.iload_n 1, 0, 0, 0), some (.if_icmp .ge 17, 54, 0, 0), none, none],
  [some (.aload_n 0, 0, 0, 0), some (.getfield 51, 11, 10, 0), none, none, some (.iconst (-1), 0, 0, 0), some (.invokevirtual 329, 110, 2, 10), none, none],
  [some (.iinc 2 1, 0, 0, 0), none, none, some (.goto (-16), 35, 0, 0), none, none, some (.aload_n 0, 0, 0, 0), some (.aload_n 0, 0, 0, 0)],
  [some (.getfield 51, 11, 10, 0), none, none, some (.getfield 119, 10, 1, 0), none, none, some (.getfield 142, 1, 1, 0), none],
  [none, some (.invokevirtual 116, 121, 2, 11), none, none, some (.ireturn, 0, 0, 0)]]
/-- LaterPrints.give(II)I -/
def xt_158 : xT := [[some (.aload_n 0, 0, 0, 0), some (.iload_n 1, 0, 0, 0), some (.invokevirtual 317, 132, 2, 11), none, none, some (.ifCond .eq 11, 16, 0, 0), none, none],
  [some (.aload_n 0, 0, 0, 0), some (.iload_n 2, 0, 0, 0), some (.invokevirtual 311, 131, 2, 11), none, none, some (.ifCond .ne 9, 22, 0, 0), none, none],
  [some (.aload_n 0, 0, 0, 0), some (.iconst 1, 0, 0, 0), some (.invokevirtual 112, 122, 2, 11), none, none, some (.ireturn, 0, 0, 0), some (.aload_n 0, 0, 0, 0), some (.getfield 51, 11, 10, 0)],
  [none, none, some (.iload_n 1, 0, 0, 0), some (.invokevirtual 320, 112, 2, 10), none, none, some (.istore_n 3, 0, 0, 0), some (.iload_n 3, 0, 0, 0)],
  [some (.iconst (-1), 0, 0, 0), some (.if_icmp .eq 8, 41, 0, 0), none, none, some (.iload_n 3, 0, 0, 0), some (.iload_n 2, 0, 0, 0), some (.if_icmp .ne 10, 48, 0, 0), none],
  [none, some (.aload_n 0, 0, 0, 0), some (.bipush 7, 0, 0, 0), none, some (.invokevirtual 112, 122, 2, 11), none, none, some (.ireturn, 0, 0, 0)],
  [some (.aload_n 0, 0, 0, 0), some (.getfield 51, 11, 10, 0), none, none, some (.iload_n 1, 0, 0, 0), some (.iload_n 2, 0, 0, 0), some (.invokevirtual 335, 111, 3, 10), none],
  [none, some (.aload_n 0, 0, 0, 0), some (.iload_n 3, 0, 0, 0), some (.invokevirtual 116, 121, 2, 11), none, none, some (.ireturn, 0, 0, 0)]]
/-- LaterPrints.back(II)I -/
def xt_159 : xT := [[some (.aload_n 0, 0, 0, 0), some (.iload_n 1, 0, 0, 0), some (.invokevirtual 311, 131, 2, 11), none, none, some (.ifCond .eq 11, 16, 0, 0), none, none],
  [some (.aload_n 0, 0, 0, 0), some (.iload_n 2, 0, 0, 0), some (.invokevirtual 317, 132, 2, 11), none, none, some (.ifCond .ne 9, 22, 0, 0), none, none],
  [some (.aload_n 0, 0, 0, 0), some (.iconst 1, 0, 0, 0), some (.invokevirtual 112, 122, 2, 11), none, none, some (.ireturn, 0, 0, 0), some (.aload_n 0, 0, 0, 0), some (.getfield 51, 11, 10, 0)],
  [none, none, some (.iload_n 2, 0, 0, 0), some (.invokevirtual 320, 112, 2, 10), none, none, some (.iload_n 1, 0, 0, 0), some (.if_icmp .eq 10, 41, 0, 0)],
  [none, none, some (.aload_n 0, 0, 0, 0), some (.bipush 7, 0, 0, 0), none, some (.invokevirtual 112, 122, 2, 11), none, none],
  [some (.ireturn, 0, 0, 0), some (.aload_n 0, 0, 0, 0), some (.getfield 51, 11, 10, 0), none, none, some (.iload_n 2, 0, 0, 0), some (.iconst (-1), 0, 0, 0), some (.invokevirtual 335, 111, 3, 10)],
  [none, none, some (.aload_n 0, 0, 0, 0), some (.getfield 51, 11, 10, 0), none, none, some (.getfield 314, 10, 8, 0), none],
  [none, some (.iload_n 1, 0, 0, 0), some (.iaload, 0, 0, 0), some (.aload_n 0, 0, 0, 0), some (.getfield 51, 11, 10, 0), none, none, some (.iload_n 2, 0, 0, 0)],
  [some (.invokevirtual 230, 106, 2, 10), none, none, some (.iconst 2, 0, 0, 0), some (.idiv, 0, 0, 0), some (.iadd, 0, 0, 0), some (.istore_n 3, 0, 0, 0), some (.aload_n 0, 0, 0, 0)],
  [some (.getfield 51, 11, 10, 0), none, none, some (.getfield 314, 10, 8, 0), none, none, some (.iload_n 1, 0, 0, 0), some (.iload_n 3, 0, 0, 0)],
  [some (.sipush 9999, 0, 0, 0), none, none, some (.invokestatic 194, 5003, 2, 0), none, none, some (.iastore, 0, 0, 0), some (.aload_n 0, 0, 0, 0)],
  [some (.aload_n 0, 0, 0, 0), some (.getfield 51, 11, 10, 0), none, none, some (.getfield 314, 10, 8, 0), none, none, some (.iload_n 1, 0, 0, 0)],
  [some (.iaload, 0, 0, 0), some (.invokevirtual 116, 121, 2, 11), none, none, some (.ireturn, 0, 0, 0)]]
/-- LaterPrints.earn(II)I -/
def xt_160 : xT := [[some (.aload_n 0, 0, 0, 0), some (.iload_n 1, 0, 0, 0), some (.invokevirtual 311, 131, 2, 11), none, none, some (.ifCond .eq 14, 19, 0, 0), none, none],
  [some (.iload_n 2, 0, 0, 0), some (.iconst 1, 0, 0, 0), some (.sipush 999, 0, 0, 0), none, none, some (.invokestatic 128, 127, 3, 0), none, none],
  [some (.ifCond .ne 9, 25, 0, 0), none, none, some (.aload_n 0, 0, 0, 0), some (.iconst 1, 0, 0, 0), some (.invokevirtual 112, 122, 2, 11), none, none],
  [some (.ireturn, 0, 0, 0), some (.aload_n 0, 0, 0, 0), some (.getfield 51, 11, 10, 0), none, none, some (.getfield 314, 10, 8, 0), none, none],
  [some (.iload_n 1, 0, 0, 0), some (.iaload, 0, 0, 0), some (.iload_n 2, 0, 0, 0), some (.iadd, 0, 0, 0), some (.sipush 9999, 0, 0, 0), none, none, some (.if_icmp .le 10, 49, 0, 0)],
  [none, none, some (.aload_n 0, 0, 0, 0), some (.bipush 7, 0, 0, 0), none, some (.invokevirtual 112, 122, 2, 11), none, none],
  [some (.ireturn, 0, 0, 0), some (.aload_n 0, 0, 0, 0), some (.getfield 51, 11, 10, 0), none, none, some (.getfield 314, 10, 8, 0), none, none],
  [some (.iload_n 1, 0, 0, 0), some (.dup2, 0, 0, 0), some (.iaload, 0, 0, 0), some (.iload_n 2, 0, 0, 0), some (.iadd, 0, 0, 0), some (.iastore, 0, 0, 0), some (.aload_n 0, 0, 0, 0), some (.aload_n 0, 0, 0, 0)],
  [some (.getfield 51, 11, 10, 0), none, none, some (.getfield 314, 10, 8, 0), none, none, some (.iload_n 1, 0, 0, 0), some (.iaload, 0, 0, 0)],
  [some (.invokevirtual 116, 121, 2, 11), none, none, some (.ireturn, 0, 0, 0)]]
/-- LaterPrints.price(II)Z -/
def xt_161 : xT := [[some (.iload_n 1, 0, 0, 0), some (.iconst 0, 0, 0, 0), some (.bipush 99, 0, 0, 0), none, some (.invokestatic 128, 127, 3, 0), none, none, some (.ifCond .eq 13, 20, 0, 0)],
  [none, none, some (.iload_n 2, 0, 0, 0), some (.iconst 0, 0, 0, 0), some (.bipush 20, 0, 0, 0), none, some (.invokestatic 128, 127, 3, 0), none],
  [none, some (.ifCond .ne 9, 26, 0, 0), none, none, some (.aload_n 0, 0, 0, 0), some (.iconst 1, 0, 0, 0), some (.invokevirtual 149, 124, 2, 11), none],
  [none, some (.ireturn, 0, 0, 0), some (.aload_n 0, 0, 0, 0), some (.getfield 51, 11, 10, 0), none, none, some (.iload_n 1, 0, 0, 0), some (.putfield 339, 10, 4, 0)],
  [none, none, some (.aload_n 0, 0, 0, 0), some (.getfield 51, 11, 10, 0), none, none, some (.iload_n 2, 0, 0, 0), some (.putfield 233, 10, 5, 0)],
  [none, none, some (.aload_n 0, 0, 0, 0), some (.invokevirtual 155, 123, 1, 11), none, none, some (.ireturn, 0, 0, 0)]]
/-- LaterPrints.build(IIZ)Z -/
def xt_162 : xT := [[some (.aload_n 0, 0, 0, 0), some (.getfield 51, 11, 10, 0), none, none, some (.getfield 218, 10, 0, 0), none, none, some (.iload_n 1, 0, 0, 0)],
  [some (.iload_n 2, 0, 0, 0), some (.invokevirtual 259, 46, 3, 3), none, none, some (.ifCond .ne 9, 21, 0, 0), none, none, some (.aload_n 0, 0, 0, 0)],
  [some (.iconst 1, 0, 0, 0), some (.invokevirtual 149, 124, 2, 11), none, none, some (.ireturn, 0, 0, 0), some (.iload_n 1, 0, 0, 0), some (.iload_n 2, 0, 0, 0), some (.invokestatic 263, 43, 2, 0)],
  [none, none, some (.istore 4, 0, 0, 0), none, some (.aload_n 0, 0, 0, 0), some (.getfield 51, 11, 10, 0), none, none],
  [some (.getfield 218, 10, 0, 0), none, none, some (.iload 4, 0, 0, 0), none, some (.invokevirtual 272, 47, 2, 3), none, none],
  [some (.iload_n 3, 0, 0, 0), some (.if_icmp .eq 19, 60, 0, 0), none, none, some (.aload_n 0, 0, 0, 0), some (.getfield 51, 11, 10, 0), none, none],
  [some (.getfield 119, 10, 1, 0), none, none, some (.iload 4, 0, 0, 0), none, some (.invokevirtual 266, 13, 2, 1), none, none],
  [some (.iconst (-1), 0, 0, 0), some (.if_icmp .eq 10, 67, 0, 0), none, none, some (.aload_n 0, 0, 0, 0), some (.bipush 7, 0, 0, 0), none, some (.invokevirtual 149, 124, 2, 11)],
  [none, none, some (.ireturn, 0, 0, 0), some (.aload_n 0, 0, 0, 0), some (.getfield 51, 11, 10, 0), none, none, some (.getfield 218, 10, 0, 0)],
  [none, none, some (.dup, 0, 0, 0), some (.getfield 243, 3, 2, 0), none, none, some (.lconst 1, 0, 0, 0), some (.iload 4, 0, 0, 0)],
  [none, some (.lshl, 0, 0, 0), some (.lxor, 0, 0, 0), some (.putfield 243, 3, 2, 0), none, none, some (.aload_n 0, 0, 0, 0), some (.invokevirtual 155, 123, 1, 11)],
  [none, none, some (.ireturn, 0, 0, 0)]]
/-- LaterPrints.teach(III)Z -/
def xt_163 : xT := [[some (.aload_n 0, 0, 0, 0), some (.iload_n 1, 0, 0, 0), some (.invokevirtual 275, 128, 2, 11), none, none, some (.ifCond .eq 12, 17, 0, 0), none, none],
  [some (.iload_n 3, 0, 0, 0), some (.iconst 0, 0, 0, 0), some (.iconst 4, 0, 0, 0), some (.invokestatic 128, 127, 3, 0), none, none, some (.ifCond .ne 9, 23, 0, 0), none],
  [none, some (.aload_n 0, 0, 0, 0), some (.iconst 1, 0, 0, 0), some (.invokevirtual 149, 124, 2, 11), none, none, some (.ireturn, 0, 0, 0), some (.iload_n 2, 0, 0, 0)],
  [some (.iconst 0, 0, 0, 0), some (.aload_n 0, 0, 0, 0), some (.getfield 51, 11, 10, 0), none, none, some (.getfield 119, 10, 1, 0), none, none],
  [some (.getfield 293, 1, 6, 0), none, none, some (.iload_n 1, 0, 0, 0), some (.iaload, 0, 0, 0), some (.iconst 1, 0, 0, 0), some (.isub, 0, 0, 0), some (.invokestatic 128, 127, 3, 0)],
  [none, none, some (.ifCond .ne 9, 51, 0, 0), none, none, some (.aload_n 0, 0, 0, 0), some (.iconst 1, 0, 0, 0), some (.invokevirtual 149, 124, 2, 11)],
  [none, none, some (.ireturn, 0, 0, 0), some (.aload_n 0, 0, 0, 0), some (.getfield 51, 11, 10, 0), none, none, some (.getfield 119, 10, 1, 0)],
  [none, none, some (.getfield 296, 1, 7, 0), none, none, some (.iload_n 1, 0, 0, 0), some (.bipush 8, 0, 0, 0), none],
  [some (.imul, 0, 0, 0), some (.iload_n 2, 0, 0, 0), some (.iadd, 0, 0, 0), some (.iload_n 3, 0, 0, 0), some (.iastore, 0, 0, 0), some (.aload_n 0, 0, 0, 0), some (.invokevirtual 155, 123, 1, 11), none],
  [none, some (.ireturn, 0, 0, 0)]]
/-- LaterPrints.place(III)Z -/
def xt_164 : xT := [[some (.aload_n 0, 0, 0, 0), some (.iload_n 1, 0, 0, 0), some (.invokevirtual 275, 128, 2, 11), none, none, some (.ifCond .eq 18, 23, 0, 0), none, none],
  [some (.aload_n 0, 0, 0, 0), some (.getfield 51, 11, 10, 0), none, none, some (.getfield 218, 10, 0, 0), none, none, some (.iload_n 2, 0, 0, 0)],
  [some (.iload_n 3, 0, 0, 0), some (.invokevirtual 259, 46, 3, 3), none, none, some (.ifCond .ne 9, 29, 0, 0), none, none, some (.aload_n 0, 0, 0, 0)],
  [some (.iconst 1, 0, 0, 0), some (.invokevirtual 149, 124, 2, 11), none, none, some (.ireturn, 0, 0, 0), some (.iload_n 2, 0, 0, 0), some (.iload_n 3, 0, 0, 0), some (.invokestatic 263, 43, 2, 0)],
  [none, none, some (.istore 4, 0, 0, 0), none, some (.aload_n 0, 0, 0, 0), some (.getfield 51, 11, 10, 0), none, none],
  [some (.getfield 119, 10, 1, 0), none, none, some (.iload_n 1, 0, 0, 0), some (.invokevirtual 278, 12, 2, 1), none, none, some (.iconst (-1), 0, 0, 0)],
  [some (.if_icmp .eq 25, 73, 0, 0), none, none, some (.aload_n 0, 0, 0, 0), some (.getfield 51, 11, 10, 0), none, none, some (.getfield 119, 10, 1, 0)],
  [none, none, some (.iload 4, 0, 0, 0), none, some (.aload_n 0, 0, 0, 0), some (.getfield 51, 11, 10, 0), none, none],
  [some (.getfield 218, 10, 0, 0), none, none, some (.invokevirtual 342, 14, 3, 1), none, none, some (.ifCond .ne 10, 80, 0, 0), none],
  [none, some (.aload_n 0, 0, 0, 0), some (.bipush 7, 0, 0, 0), none, some (.invokevirtual 149, 124, 2, 11), none, none, some (.ireturn, 0, 0, 0)],
  [some (.aload_n 0, 0, 0, 0), some (.getfield 51, 11, 10, 0), none, none, some (.getfield 119, 10, 1, 0), none, none, some (.getfield 346, 1, 9, 0)],
  [none, none, some (.iload_n 1, 0, 0, 0), some (.iload 4, 0, 0, 0), none, some (.iastore, 0, 0, 0), some (.aload_n 0, 0, 0, 0), some (.invokevirtual 155, 123, 1, 11)],
  [none, none, some (.ireturn, 0, 0, 0)]]
/-- LaterPrints.priceOf(I)I -/
def xt_165 : xT := [[some (.iload_n 1, 0, 0, 0), some (.iconst 1, 0, 0, 0), some (.sipush 999, 0, 0, 0), none, none, some (.invokestatic 128, 127, 3, 0), none, none],
  [some (.ifCond .eq 18, 26, 0, 0), none, none, some (.aload_n 0, 0, 0, 0), some (.aload_n 0, 0, 0, 0), some (.getfield 51, 11, 10, 0), none, none],
  [some (.iload_n 1, 0, 0, 0), some (.invokevirtual 230, 106, 2, 10), none, none, some (.invokevirtual 116, 121, 2, 11), none, none, some (.goto 8, 31, 0, 0)],
  [none, none, some (.aload_n 0, 0, 0, 0), some (.iconst 1, 0, 0, 0), some (.invokevirtual 112, 122, 2, 11), none, none, some (.ireturn, 0, 0, 0)]]
/-- LaterPrints.costOf(I)I -/
def xt_166 : xT := [[some (.iload_n 1, 0, 0, 0), some (.iconst 0, 0, 0, 0), some (.sipush 200, 0, 0, 0), none, none, some (.invokestatic 128, 127, 3, 0), none, none],
  [some (.ifCond .eq 18, 26, 0, 0), none, none, some (.aload_n 0, 0, 0, 0), some (.aload_n 0, 0, 0, 0), some (.getfield 51, 11, 10, 0), none, none],
  [some (.iload_n 1, 0, 0, 0), some (.invokevirtual 349, 107, 2, 10), none, none, some (.invokevirtual 116, 121, 2, 11), none, none, some (.goto 8, 31, 0, 0)],
  [none, none, some (.aload_n 0, 0, 0, 0), some (.iconst 1, 0, 0, 0), some (.invokevirtual 112, 122, 2, 11), none, none, some (.ireturn, 0, 0, 0)]]
/-- LaterPrints.placeIn(II)I -/
def xt_167 : xT := [[some (.aload_n 0, 0, 0, 0), some (.iload_n 1, 0, 0, 0), some (.invokevirtual 275, 128, 2, 11), none, none, some (.ifCond .eq 14, 19, 0, 0), none, none],
  [some (.iload_n 2, 0, 0, 0), some (.iconst 0, 0, 0, 0), some (.sipush 200, 0, 0, 0), none, none, some (.invokestatic 128, 127, 3, 0), none, none],
  [some (.ifCond .ne 9, 25, 0, 0), none, none, some (.aload_n 0, 0, 0, 0), some (.iconst 1, 0, 0, 0), some (.invokevirtual 112, 122, 2, 11), none, none],
  [some (.ireturn, 0, 0, 0), some (.aload_n 0, 0, 0, 0), some (.getfield 95, 11, 18, 0), none, none, some (.aload_n 0, 0, 0, 0), some (.getfield 51, 11, 10, 0), none],
  [none, some (.iload_n 2, 0, 0, 0), some (.invokevirtual 352, 1, 3, 0), none, none, some (.aload_n 0, 0, 0, 0), some (.aload_n 0, 0, 0, 0), some (.getfield 95, 11, 18, 0)],
  [none, none, some (.getfield 356, 0, 0, 0), none, none, some (.iload_n 1, 0, 0, 0), some (.invokevirtual 278, 12, 2, 1), none],
  [none, some (.invokevirtual 269, 125, 2, 11), none, none, some (.ireturn, 0, 0, 0)]]
/-- LaterPrints.whoIn(III)I -/
def xt_168 : xT := [[some (.aload_n 0, 0, 0, 0), some (.getfield 51, 11, 10, 0), none, none, some (.getfield 218, 10, 0, 0), none, none, some (.iload_n 1, 0, 0, 0)],
  [some (.iload_n 2, 0, 0, 0), some (.invokevirtual 259, 46, 3, 3), none, none, some (.ifCond .eq 14, 26, 0, 0), none, none, some (.iload_n 3, 0, 0, 0)],
  [some (.iconst 0, 0, 0, 0), some (.sipush 200, 0, 0, 0), none, none, some (.invokestatic 128, 127, 3, 0), none, none, some (.ifCond .ne 9, 32, 0, 0)],
  [none, none, some (.aload_n 0, 0, 0, 0), some (.iconst 1, 0, 0, 0), some (.invokevirtual 112, 122, 2, 11), none, none, some (.ireturn, 0, 0, 0)],
  [some (.aload_n 0, 0, 0, 0), some (.getfield 95, 11, 18, 0), none, none, some (.aload_n 0, 0, 0, 0), some (.getfield 51, 11, 10, 0), none, none],
  [some (.iload_n 3, 0, 0, 0), some (.invokevirtual 352, 1, 3, 0), none, none, some (.aload_n 0, 0, 0, 0), some (.aload_n 0, 0, 0, 0), some (.getfield 95, 11, 18, 0), none],
  [none, some (.getfield 356, 0, 0, 0), none, none, some (.iload_n 1, 0, 0, 0), some (.iload_n 2, 0, 0, 0), some (.invokestatic 263, 43, 2, 0), none],
  [none, some (.invokevirtual 266, 13, 2, 1), none, none, some (.invokevirtual 269, 125, 2, 11), none, none, some (.ireturn, 0, 0, 0)]]
/-- LaterPrints.showsIn(I)I -/
def xt_169 : xT := [[some (.iload_n 1, 0, 0, 0), some (.iconst 0, 0, 0, 0), some (.sipush 200, 0, 0, 0), none, none, some (.invokestatic 128, 127, 3, 0), none, none],
  [some (.ifCond .ne 9, 17, 0, 0), none, none, some (.aload_n 0, 0, 0, 0), some (.iconst 1, 0, 0, 0), some (.invokevirtual 112, 122, 2, 11), none, none],
  [some (.ireturn, 0, 0, 0), some (.aload_n 0, 0, 0, 0), some (.getfield 95, 11, 18, 0), none, none, some (.aload_n 0, 0, 0, 0), some (.getfield 51, 11, 10, 0), none],
  [none, some (.iload_n 1, 0, 0, 0), some (.invokevirtual 352, 1, 3, 0), none, none, some (.aload_n 0, 0, 0, 0), some (.aload_n 0, 0, 0, 0), some (.getfield 51, 11, 10, 0)],
  [none, none, some (.getfield 132, 10, 2, 0), none, none, some (.aload_n 0, 0, 0, 0), some (.getfield 95, 11, 18, 0), none],
  [none, some (.getfield 356, 0, 0, 0), none, none, some (.invokevirtual 239, 92, 2, 8), none, none, some (.invokevirtual 116, 121, 2, 11)],
  [none, none, some (.ireturn, 0, 0, 0)]]
/-- LaterPrints.first(I)I -/
def xt_170 : xT := [[some (.aload_n 0, 0, 0, 0), some (.iload_n 1, 0, 0, 0), some (.invokevirtual 299, 129, 2, 11), none, none, some (.ifCond .eq 22, 27, 0, 0), none, none],
  [some (.aload_n 0, 0, 0, 0), some (.aload_n 0, 0, 0, 0), some (.getfield 95, 11, 18, 0), none, none, some (.aload_n 0, 0, 0, 0), some (.getfield 51, 11, 10, 0), none],
  [none, some (.iload_n 1, 0, 0, 0), some (.invokevirtual 359, 4, 3, 0), none, none, some (.invokevirtual 269, 125, 2, 11), none, none],
  [some (.goto 8, 32, 0, 0), none, none, some (.aload_n 0, 0, 0, 0), some (.iconst 1, 0, 0, 0), some (.invokevirtual 112, 122, 2, 11), none, none],
  [some (.ireturn, 0, 0, 0)]]
/-- LaterPrints.cost(I)I -/
def xt_171 : xT := [[some (.aload_n 0, 0, 0, 0), some (.iload_n 1, 0, 0, 0), some (.invokevirtual 299, 129, 2, 11), none, none, some (.ifCond .ne 9, 14, 0, 0), none, none],
  [some (.aload_n 0, 0, 0, 0), some (.iconst 1, 0, 0, 0), some (.invokevirtual 112, 122, 2, 11), none, none, some (.ireturn, 0, 0, 0), some (.aload_n 0, 0, 0, 0), some (.getfield 95, 11, 18, 0)],
  [none, none, some (.aload_n 0, 0, 0, 0), some (.getfield 51, 11, 10, 0), none, none, some (.iload_n 1, 0, 0, 0), some (.invokevirtual 359, 4, 3, 0)],
  [none, none, some (.istore_n 2, 0, 0, 0), some (.iload_n 2, 0, 0, 0), some (.iconst (-1), 0, 0, 0), some (.if_icmp .ne 12, 41, 0, 0), none, none],
  [some (.aload_n 0, 0, 0, 0), some (.bipush 6, 0, 0, 0), none, some (.invokevirtual 112, 122, 2, 11), none, none, some (.goto 15, 53, 0, 0), none],
  [none, some (.aload_n 0, 0, 0, 0), some (.aload_n 0, 0, 0, 0), some (.getfield 51, 11, 10, 0), none, none, some (.iload_n 2, 0, 0, 0), some (.invokevirtual 349, 107, 2, 10)],
  [none, none, some (.invokevirtual 116, 121, 2, 11), none, none, some (.ireturn, 0, 0, 0)]]
/-- LaterPrints.often(II)I -/
def xt_172 : xT := [[some (.aload_n 0, 0, 0, 0), some (.iload_n 1, 0, 0, 0), some (.invokevirtual 299, 129, 2, 11), none, none, some (.ifCond .eq 14, 19, 0, 0), none, none],
  [some (.iload_n 2, 0, 0, 0), some (.iconst 1, 0, 0, 0), some (.sipush 200, 0, 0, 0), none, none, some (.invokestatic 128, 127, 3, 0), none, none],
  [some (.ifCond .ne 9, 25, 0, 0), none, none, some (.aload_n 0, 0, 0, 0), some (.iconst 1, 0, 0, 0), some (.invokevirtual 112, 122, 2, 11), none, none],
  [some (.ireturn, 0, 0, 0), some (.aload_n 0, 0, 0, 0), some (.getfield 95, 11, 18, 0), none, none, some (.aload_n 0, 0, 0, 0), some (.getfield 51, 11, 10, 0), none],
  [none, some (.iload_n 2, 0, 0, 0), some (.invokevirtual 363, 2, 3, 0), none, none, some (.iconst 0, 0, 0, 0), some (.istore_n 3, 0, 0, 0), some (.iconst 1, 0, 0, 0)],
  [some (.istore 4, 0, 0, 0), none, some (.iload 4, 0, 0, 0), none, some (.iload_n 2, 0, 0, 0), some (.if_icmp .gt 26, 71, 0, 0), none, none],
  [some (.iload_n 3, 0, 0, 0), some (.aload_n 0, 0, 0, 0), some (.getfield 95, 11, 18, 0), none, none, some (.getfield 366, 0, 1, 0), none, none],
  [some (.iload 4, 0, 0, 0), none, some (.iaload, 0, 0, 0), some (.iload_n 1, 0, 0, 0), some (.ishr, 0, 0, 0), some (.iconst 1, 0, 0, 0), some (.iand, 0, 0, 0), some (.iadd, 0, 0, 0)],
  [some (.istore_n 3, 0, 0, 0), some (.iinc 4 1, 0, 0, 0), none, none, some (.goto (-26), 42, 0, 0), none, none, some (.aload_n 0, 0, 0, 0)],
  [some (.iload_n 3, 0, 0, 0), some (.invokevirtual 116, 121, 2, 11), none, none, some (.ireturn, 0, 0, 0)]]
/-- LaterPrints.longest(II)I -/
def xt_173 : xT := [[some (.aload_n 0, 0, 0, 0), some (.iload_n 1, 0, 0, 0), some (.invokevirtual 299, 129, 2, 11), none, none, some (.ifCond .eq 14, 19, 0, 0), none, none],
  [some (.iload_n 2, 0, 0, 0), some (.iconst 1, 0, 0, 0), some (.sipush 200, 0, 0, 0), none, none, some (.invokestatic 128, 127, 3, 0), none, none],
  [some (.ifCond .ne 9, 25, 0, 0), none, none, some (.aload_n 0, 0, 0, 0), some (.iconst 1, 0, 0, 0), some (.invokevirtual 112, 122, 2, 11), none, none],
  [some (.ireturn, 0, 0, 0), some (.aload_n 0, 0, 0, 0), some (.getfield 95, 11, 18, 0), none, none, some (.aload_n 0, 0, 0, 0), some (.getfield 51, 11, 10, 0), none],
  [none, some (.iload_n 2, 0, 0, 0), some (.invokevirtual 363, 2, 3, 0), none, none, some (.iconst 0, 0, 0, 0), some (.istore_n 3, 0, 0, 0), some (.iconst 0, 0, 0, 0)],
  [some (.istore 4, 0, 0, 0), none, some (.iconst 1, 0, 0, 0), some (.istore 5, 0, 0, 0), none, some (.iload 5, 0, 0, 0), none, some (.iload_n 2, 0, 0, 0)],
  [some (.if_icmp .gt 44, 92, 0, 0), none, none, some (.aload_n 0, 0, 0, 0), some (.getfield 95, 11, 18, 0), none, none, some (.getfield 366, 0, 1, 0)],
  [none, none, some (.iload 5, 0, 0, 0), none, some (.iaload, 0, 0, 0), some (.iload_n 1, 0, 0, 0), some (.ishr, 0, 0, 0), some (.iconst 1, 0, 0, 0)],
  [some (.iand, 0, 0, 0), some (.iconst 1, 0, 0, 0), some (.if_icmp .ne 10, 76, 0, 0), none, none, some (.iload 4, 0, 0, 0), none, some (.iconst 1, 0, 0, 0)],
  [some (.iadd, 0, 0, 0), some (.goto 4, 77, 0, 0), none, none, some (.iconst 0, 0, 0, 0), some (.istore 4, 0, 0, 0), none, some (.iload_n 3, 0, 0, 0)],
  [some (.iload 4, 0, 0, 0), none, some (.invokestatic 369, 5002, 2, 0), none, none, some (.istore_n 3, 0, 0, 0), some (.iinc 5 1, 0, 0, 0), none],
  [none, some (.goto (-44), 45, 0, 0), none, none, some (.aload_n 0, 0, 0, 0), some (.iload_n 3, 0, 0, 0), some (.invokevirtual 116, 121, 2, 11), none],
  [none, some (.ireturn, 0, 0, 0)]]
/-- LaterPrints.gone(I)I -/
def xt_174 : xT := [[some (.aload_n 0, 0, 0, 0), some (.iload_n 1, 0, 0, 0), some (.invokevirtual 275, 128, 2, 11), none, none, some (.ifCond .ne 9, 14, 0, 0), none, none],
  [some (.aload_n 0, 0, 0, 0), some (.iconst 1, 0, 0, 0), some (.invokevirtual 112, 122, 2, 11), none, none, some (.ireturn, 0, 0, 0), some (.aload_n 0, 0, 0, 0), some (.getfield 95, 11, 18, 0)],
  [none, none, some (.aload_n 0, 0, 0, 0), some (.getfield 51, 11, 10, 0), none, none, some (.iload_n 1, 0, 0, 0), some (.sipush 200, 0, 0, 0)],
  [none, none, some (.invokevirtual 372, 3, 4, 0), none, none, some (.sipush 201, 0, 0, 0), none, none],
  [some (.istore_n 2, 0, 0, 0), some (.iload_n 2, 0, 0, 0), some (.iconst 1, 0, 0, 0), some (.if_icmp .le 24, 59, 0, 0), none, none, some (.aload_n 0, 0, 0, 0), some (.getfield 95, 11, 18, 0)],
  [none, none, some (.getfield 376, 0, 2, 0), none, none, some (.iload_n 2, 0, 0, 0), some (.iconst 1, 0, 0, 0), some (.isub, 0, 0, 0)],
  [some (.iaload, 0, 0, 0), some (.iconst (-1), 0, 0, 0), some (.if_icmp .ne 9, 59, 0, 0), none, none, some (.iinc 2 (-1), 0, 0, 0), none, none],
  [some (.goto (-23), 33, 0, 0), none, none, some (.iload_n 2, 0, 0, 0), some (.sipush 200, 0, 0, 0), none, none, some (.if_icmp .le 12, 75, 0, 0)],
  [none, none, some (.aload_n 0, 0, 0, 0), some (.bipush 6, 0, 0, 0), none, some (.invokevirtual 112, 122, 2, 11), none, none],
  [some (.goto 8, 80, 0, 0), none, none, some (.aload_n 0, 0, 0, 0), some (.iload_n 2, 0, 0, 0), some (.invokevirtual 116, 121, 2, 11), none, none],
  [some (.ireturn, 0, 0, 0)]]
/-- LaterPrints.again()I -/
def xt_175 : xT := [[some (.aload_n 0, 0, 0, 0), some (.getfield 95, 11, 18, 0), none, none, some (.getfield 356, 0, 0, 0), none, none, some (.aload_n 0, 0, 0, 0)],
  [some (.getfield 51, 11, 10, 0), none, none, some (.getfield 119, 10, 1, 0), none, none, some (.invokevirtual 379, 10, 2, 1), none],
  [none, some (.iconst 1, 0, 0, 0), some (.istore_n 1, 0, 0, 0), some (.iload_n 1, 0, 0, 0), some (.sipush 200, 0, 0, 0), none, none, some (.if_icmp .gt 52, 75, 0, 0)],
  [none, none, some (.aload_n 0, 0, 0, 0), some (.getfield 95, 11, 18, 0), none, none, some (.getfield 356, 0, 0, 0), none],
  [none, some (.aload_n 0, 0, 0, 0), some (.getfield 51, 11, 10, 0), none, none, some (.getfield 218, 10, 0, 0), none, none],
  [some (.invokevirtual 382, 18, 2, 1), none, none, some (.aload_n 0, 0, 0, 0), some (.getfield 95, 11, 18, 0), none, none, some (.getfield 356, 0, 0, 0)],
  [none, none, some (.aload_n 0, 0, 0, 0), some (.getfield 51, 11, 10, 0), none, none, some (.getfield 119, 10, 1, 0), none],
  [none, some (.invokevirtual 386, 17, 2, 1), none, none, some (.ifCond .eq 9, 69, 0, 0), none, none, some (.aload_n 0, 0, 0, 0)],
  [some (.iload_n 1, 0, 0, 0), some (.invokevirtual 116, 121, 2, 11), none, none, some (.ireturn, 0, 0, 0), some (.iinc 1 1, 0, 0, 0), none, none],
  [some (.goto (-53), 19, 0, 0), none, none, some (.aload_n 0, 0, 0, 0), some (.bipush 6, 0, 0, 0), none, some (.invokevirtual 112, 122, 2, 11), none],
  [none, some (.ireturn, 0, 0, 0)]]
/-- LaterPrints.stays(II)I -/
def xt_176 : xT := [[some (.aload_n 0, 0, 0, 0), some (.iload_n 1, 0, 0, 0), some (.invokevirtual 275, 128, 2, 11), none, none, some (.ifCond .eq 14, 19, 0, 0), none, none],
  [some (.iload_n 2, 0, 0, 0), some (.iconst 1, 0, 0, 0), some (.sipush 200, 0, 0, 0), none, none, some (.invokestatic 128, 127, 3, 0), none, none],
  [some (.ifCond .ne 9, 25, 0, 0), none, none, some (.aload_n 0, 0, 0, 0), some (.iconst 1, 0, 0, 0), some (.invokevirtual 112, 122, 2, 11), none, none],
  [some (.ireturn, 0, 0, 0), some (.aload_n 0, 0, 0, 0), some (.getfield 95, 11, 18, 0), none, none, some (.aload_n 0, 0, 0, 0), some (.getfield 51, 11, 10, 0), none],
  [none, some (.iload_n 1, 0, 0, 0), some (.iload_n 2, 0, 0, 0), some (.invokevirtual 372, 3, 4, 0), none, none, some (.iconst 0, 0, 0, 0), some (.istore_n 3, 0, 0, 0)],
  [some (.iconst 1, 0, 0, 0), some (.istore 4, 0, 0, 0), none, some (.iload 4, 0, 0, 0), none, some (.iload_n 2, 0, 0, 0), some (.if_icmp .gt 51, 97, 0, 0), none],
  [none, some (.aload_n 0, 0, 0, 0), some (.getfield 95, 11, 18, 0), none, none, some (.getfield 376, 0, 2, 0), none, none],
  [some (.iload 4, 0, 0, 0), none, some (.iaload, 0, 0, 0), some (.iconst (-1), 0, 0, 0), some (.if_icmp .eq 31, 91, 0, 0), none, none, some (.aload_n 0, 0, 0, 0)],
  [some (.getfield 95, 11, 18, 0), none, none, some (.getfield 376, 0, 2, 0), none, none, some (.iload 4, 0, 0, 0), none],
  [some (.iaload, 0, 0, 0), some (.aload_n 0, 0, 0, 0), some (.getfield 95, 11, 18, 0), none, none, some (.getfield 376, 0, 2, 0), none, none],
  [some (.iload 4, 0, 0, 0), none, some (.iconst 1, 0, 0, 0), some (.isub, 0, 0, 0), some (.iaload, 0, 0, 0), some (.if_icmp .ne 6, 91, 0, 0), none, none],
  [some (.iinc 3 1, 0, 0, 0), none, none, some (.iinc 4 1, 0, 0, 0), none, none, some (.goto (-51), 43, 0, 0), none],
  [none, some (.aload_n 0, 0, 0, 0), some (.iload_n 3, 0, 0, 0), some (.invokevirtual 116, 121, 2, 11), none, none, some (.ireturn, 0, 0, 0)]]
/-- LaterPrints.cover(II)I -/
def xt_177 : xT := [[some (.aload_n 0, 0, 0, 0), some (.iload_n 1, 0, 0, 0), some (.invokevirtual 390, 130, 2, 11), none, none, some (.ifCond .eq 13, 18, 0, 0), none, none],
  [some (.iload_n 2, 0, 0, 0), some (.iconst 1, 0, 0, 0), some (.bipush 12, 0, 0, 0), none, some (.invokestatic 128, 127, 3, 0), none, none, some (.ifCond .ne 9, 24, 0, 0)],
  [none, none, some (.aload_n 0, 0, 0, 0), some (.iconst 1, 0, 0, 0), some (.invokevirtual 112, 122, 2, 11), none, none, some (.ireturn, 0, 0, 0)],
  [some (.aload_n 0, 0, 0, 0), some (.getfield 95, 11, 18, 0), none, none, some (.aload_n 0, 0, 0, 0), some (.getfield 51, 11, 10, 0), none, none],
  [some (.iload_n 1, 0, 0, 0), some (.iload_n 2, 0, 0, 0), some (.invokevirtual 393, 5, 4, 0), none, none, some (.lstore_n 3, 0, 0, 0), some (.lload_n 3, 0, 0, 0), some (.ldc2_w 397, 0, 0, (-1))],
  [none, none, some (.lcmp, 0, 0, 0), some (.ifCond .ne 12, 55, 0, 0), none, none, some (.aload_n 0, 0, 0, 0), some (.bipush 6, 0, 0, 0)],
  [none, some (.invokevirtual 112, 122, 2, 11), none, none, some (.goto 11, 63, 0, 0), none, none, some (.aload_n 0, 0, 0, 0)],
  [some (.lload_n 3, 0, 0, 0), some (.invokestatic 399, 7, 1, 0), none, none, some (.invokevirtual 116, 121, 2, 11), none, none, some (.ireturn, 0, 0, 0)]]
/-- LaterPrints.coverSet(II)I -/
def xt_178 : xT := [[some (.aload_n 0, 0, 0, 0), some (.iload_n 1, 0, 0, 0), some (.invokevirtual 390, 130, 2, 11), none, none, some (.ifCond .eq 13, 18, 0, 0), none, none],
  [some (.iload_n 2, 0, 0, 0), some (.iconst 1, 0, 0, 0), some (.bipush 12, 0, 0, 0), none, some (.invokestatic 128, 127, 3, 0), none, none, some (.ifCond .ne 9, 24, 0, 0)],
  [none, none, some (.aload_n 0, 0, 0, 0), some (.iconst 1, 0, 0, 0), some (.invokevirtual 112, 122, 2, 11), none, none, some (.ireturn, 0, 0, 0)],
  [some (.aload_n 0, 0, 0, 0), some (.getfield 95, 11, 18, 0), none, none, some (.aload_n 0, 0, 0, 0), some (.getfield 51, 11, 10, 0), none, none],
  [some (.iload_n 1, 0, 0, 0), some (.iload_n 2, 0, 0, 0), some (.invokevirtual 393, 5, 4, 0), none, none, some (.lstore_n 3, 0, 0, 0), some (.lload_n 3, 0, 0, 0), some (.ldc2_w 397, 0, 0, (-1))],
  [none, none, some (.lcmp, 0, 0, 0), some (.ifCond .ne 12, 55, 0, 0), none, none, some (.aload_n 0, 0, 0, 0), some (.bipush 6, 0, 0, 0)],
  [none, some (.invokevirtual 112, 122, 2, 11), none, none, some (.goto 11, 63, 0, 0), none, none, some (.aload_n 0, 0, 0, 0)],
  [some (.lload_n 3, 0, 0, 0), some (.invokestatic 402, 8, 1, 0), none, none, some (.invokevirtual 116, 121, 2, 11), none, none, some (.ireturn, 0, 0, 0)]]
/-- LaterPrints.share(II)I -/
def xt_179 : xT := [[some (.iload_n 1, 0, 0, 0), some (.iconst 1, 0, 0, 0), some (.bipush 60, 0, 0, 0), none, some (.invokestatic 128, 127, 3, 0), none, none, some (.ifCond .eq 12, 19, 0, 0)],
  [none, none, some (.iload_n 2, 0, 0, 0), some (.iconst 0, 0, 0, 0), some (.iconst 1, 0, 0, 0), some (.invokestatic 128, 127, 3, 0), none, none],
  [some (.ifCond .ne 9, 25, 0, 0), none, none, some (.aload_n 0, 0, 0, 0), some (.iconst 1, 0, 0, 0), some (.invokevirtual 112, 122, 2, 11), none, none],
  [some (.ireturn, 0, 0, 0), some (.aload_n 0, 0, 0, 0), some (.getfield 95, 11, 18, 0), none, none, some (.aload_n 0, 0, 0, 0), some (.getfield 51, 11, 10, 0), none],
  [none, some (.iload_n 1, 0, 0, 0), some (.invokevirtual 363, 2, 3, 0), none, none, some (.iconst 0, 0, 0, 0), some (.istore_n 3, 0, 0, 0), some (.iconst 1, 0, 0, 0)],
  [some (.iload_n 2, 0, 0, 0), some (.iadd, 0, 0, 0), some (.istore 4, 0, 0, 0), none, some (.iload 4, 0, 0, 0), none, some (.iload_n 1, 0, 0, 0), some (.if_icmp .gt 22, 69, 0, 0)],
  [none, none, some (.iload_n 3, 0, 0, 0), some (.aload_n 0, 0, 0, 0), some (.getfield 95, 11, 18, 0), none, none, some (.getfield 366, 0, 1, 0)],
  [none, none, some (.iload 4, 0, 0, 0), none, some (.iaload, 0, 0, 0), some (.ior, 0, 0, 0), some (.istore_n 3, 0, 0, 0), some (.iinc 4 2, 0, 0, 0)],
  [none, none, some (.goto (-22), 44, 0, 0), none, none, some (.aload_n 0, 0, 0, 0), some (.iload_n 3, 0, 0, 0), some (.invokestatic 405, 352, 1, 0)],
  [none, none, some (.invokevirtual 116, 121, 2, 11), none, none, some (.ireturn, 0, 0, 0)]]
