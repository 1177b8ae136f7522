/-! THE CODE of the methods for the small machine: by method, by place; laid by wip/whole/gen.py -/
def bk_0_0 : List mIns := [(.aload_n 0, 0, 0, 0), (.invokespecial 3, 0, 0, 0), (.aload_n 0, 0, 0, 0), (.iconst 0, 0, 0, 0), (.putfield 9, 0, 0, 0), (.aload_n 0, 0, 0, 0), (.iconst 0, 0, 0, 0), (.putfield 15, 0, 1, 0), (.aload_n 0, 0, 0, 0), (.iconst 0, 0, 0, 0), (.putfield 18, 0, 2, 0), (.aload_n 0, 0, 0, 0), (.iconst 0, 0, 0, 0), (.putfield 21, 0, 3, 0), (.aload_n 0, 0, 0, 0), (.iconst (-1), 0, 0, (-1)), (.putfield 24, 0, 4, 0), (.aload_n 0, 0, 0, 0), (.iconst 0, 0, 0, 0), (.putfield 27, 0, 5, 0), (.return_, 0, 0, 0)]
def bk_1_0 : List mIns := [(.aload_n 0, 0, 0, 0), (.iconst 0, 0, 0, 0), (.putfield 15, 0, 1, 0), (.aload_n 0, 0, 0, 0), (.iconst 0, 0, 0, 0), (.putfield 18, 0, 2, 0), (.aload_n 0, 0, 0, 0), (.iconst 0, 0, 0, 0), (.putfield 21, 0, 3, 0), (.aload_n 0, 0, 0, 0), (.iconst (-1), 0, 0, (-1)), (.putfield 24, 0, 4, 0), (.aload_n 0, 0, 0, 0), (.aload_n 1, 1, 0, 0), (.invokestatic 30, 2, 1, 0), (.putfield 27, 0, 5, 0), (.aload_n 0, 0, 0, 0), (.aload_n 1, 1, 0, 0), (.aload_n 0, 0, 0, 0), (.getfield 27, 0, 5, 0), (.invokestatic 34, 3, 2, 0), (.putfield 9, 0, 0, 0), (.aload_n 0, 0, 0, 0), (.getfield 9, 0, 0, 0), (.ifCond .ne 9, 53, 0, 0), (.aload_n 0, 0, 0, 0), (.iconst 0, 0, 0, 0), (.putfield 24, 0, 4, 0), (.return_, 0, 0, 0)]
def bk_1_53 : List mIns := [(.aload_n 0, 0, 0, 0), (.aload_n 0, 0, 0, 0), (.aload_n 1, 1, 0, 0), (.invokevirtual 38, 4, 2, 0), (.putfield 15, 0, 1, 0), (.aload_n 0, 0, 0, 0), (.getfield 9, 0, 0, 0), (.iconst 1, 0, 0, 1), (.if_icmp .ne 11, 78, 0, 0), (.aload_n 0, 0, 0, 0), (.aload_n 1, 1, 0, 0), (.invokevirtual 41, 5, 2, 0), (.goto 20, 95, 0, 0)]
def bk_1_78 : List mIns := [(.aload_n 0, 0, 0, 0), (.getfield 9, 0, 0, 0), (.iconst 5, 0, 0, 5), (.if_icmp .eq 12, 95, 0, 0), (.aload_n 0, 0, 0, 0), (.aload_n 0, 0, 0, 0), (.aload_n 1, 1, 0, 0), (.invokevirtual 38, 4, 2, 0), (.putfield 18, 0, 2, 0), (.nop, 95, 0, 0)]
def bk_1_95 : List mIns := [(.aload_n 0, 0, 0, 0), (.getfield 24, 0, 4, 0), (.iconst (-1), 0, 0, (-1)), (.if_icmp .ne 23, 123, 0, 0), (.aload_n 1, 1, 0, 0), (.aload_n 0, 0, 0, 0), (.getfield 27, 0, 5, 0), (.invokevirtual 45, 33, 2, 0), (.iconst (-1), 0, 0, (-1)), (.if_icmp .eq 11, 123, 0, 0), (.aload_n 0, 0, 0, 0), (.aload_n 0, 0, 0, 0), (.getfield 27, 0, 5, 0), (.putfield 24, 0, 4, 0), (.nop, 123, 0, 0)]
def bk_1_123 : List mIns := [(.return_, 0, 0, 0)]
def bk_2_0 : List mIns := [(.iconst 0, 0, 0, 0), (.istore_n 1, 1, 0, 0), (.nop, 2, 0, 0)]
def bk_2_2 : List mIns := [(.iload_n 1, 1, 0, 0), (.bipush 50, 0, 0, 50), (.if_icmp .ge 24, 29, 0, 0), (.aload_n 0, 0, 0, 0), (.iload_n 1, 1, 0, 0), (.invokevirtual 45, 33, 2, 0), (.bipush 97, 0, 0, 97), (.bipush 122, 0, 0, 122), (.invokestatic 51, 7, 3, 0), (.ifCond .eq 9, 29, 0, 0), (.iinc 1 1, 1, 0, 1), (.goto (-24), 2, 0, 0)]
def bk_2_29 : List mIns := [(.iload_n 1, 1, 0, 0), (.ireturn, 0, 0, 0)]
def bk_3_0 : List mIns := [(.aload_n 0, 0, 0, 0), (.ldc 55, 0, 0, 0), (.iload_n 1, 1, 0, 0), (.invokevirtual 57, 34, 3, 0), (.ifCond .eq 5, 12, 0, 0), (.iconst 1, 0, 0, 1), (.ireturn, 0, 0, 0)]
def bk_3_12 : List mIns := [(.aload_n 0, 0, 0, 0), (.ldc 61, 1, 0, 0), (.iload_n 1, 1, 0, 0), (.invokevirtual 57, 34, 3, 0), (.ifCond .eq 5, 24, 0, 0), (.iconst 2, 0, 0, 2), (.ireturn, 0, 0, 0)]
def bk_3_24 : List mIns := [(.aload_n 0, 0, 0, 0), (.ldc 63, 2, 0, 0), (.iload_n 1, 1, 0, 0), (.invokevirtual 57, 34, 3, 0), (.ifCond .eq 5, 36, 0, 0), (.iconst 3, 0, 0, 3), (.ireturn, 0, 0, 0)]
def bk_3_36 : List mIns := [(.aload_n 0, 0, 0, 0), (.ldc 65, 3, 0, 0), (.iload_n 1, 1, 0, 0), (.invokevirtual 57, 34, 3, 0), (.ifCond .eq 5, 48, 0, 0), (.iconst 4, 0, 0, 4), (.ireturn, 0, 0, 0)]
def bk_3_48 : List mIns := [(.aload_n 0, 0, 0, 0), (.ldc 67, 4, 0, 0), (.iload_n 1, 1, 0, 0), (.invokevirtual 57, 34, 3, 0), (.ifCond .eq 5, 60, 0, 0), (.iconst 5, 0, 0, 5), (.ireturn, 0, 0, 0)]
def bk_3_60 : List mIns := [(.aload_n 0, 0, 0, 0), (.ldc 69, 5, 0, 0), (.iload_n 1, 1, 0, 0), (.invokevirtual 57, 34, 3, 0), (.ifCond .eq 8, 75, 0, 0), (.bipush 6, 0, 0, 6), (.goto 4, 76, 0, 0)]
def bk_3_75 : List mIns := [(.iconst 0, 0, 0, 0), (.nop, 76, 0, 0)]
def bk_3_76 : List mIns := [(.ireturn, 0, 0, 0)]
def bk_4_0 : List mIns := [(.aload_n 0, 0, 0, 0), (.aload_n 1, 1, 0, 0), (.invokevirtual 71, 6, 2, 0), (.aload_n 0, 0, 0, 0), (.getfield 24, 0, 4, 0), (.iconst (-1), 0, 0, (-1)), (.if_icmp .eq 5, 15, 0, 0), (.iconst 0, 0, 0, 0), (.ireturn, 0, 0, 0)]
def bk_4_15 : List mIns := [(.aload_n 1, 1, 0, 0), (.aload_n 0, 0, 0, 0), (.getfield 27, 0, 5, 0), (.invokevirtual 45, 33, 2, 0), (.bipush 48, 0, 0, 48), (.bipush 57, 0, 0, 57), (.invokestatic 51, 7, 3, 0), (.ifCond .ne 13, 43, 0, 0), (.aload_n 0, 0, 0, 0), (.aload_n 0, 0, 0, 0), (.getfield 27, 0, 5, 0), (.putfield 24, 0, 4, 0), (.iconst 0, 0, 0, 0), (.ireturn, 0, 0, 0)]
def bk_4_43 : List mIns := [(.aload_n 1, 1, 0, 0), (.aload_n 0, 0, 0, 0), (.getfield 27, 0, 5, 0), (.invokevirtual 45, 33, 2, 0), (.bipush 48, 0, 0, 48), (.isub, 0, 0, 0), (.istore_n 2, 2, 0, 0), (.aload_n 0, 0, 0, 0), (.dup, 0, 0, 0), (.getfield 27, 0, 5, 0), (.iconst 1, 0, 0, 1), (.iadd, 0, 0, 0), (.putfield 27, 0, 5, 0), (.iload_n 2, 2, 0, 0), (.ifCond .eq 48, 114, 0, 0), (.aload_n 1, 1, 0, 0), (.aload_n 0, 0, 0, 0), (.getfield 27, 0, 5, 0), (.invokevirtual 45, 33, 2, 0), (.bipush 48, 0, 0, 48), (.bipush 57, 0, 0, 57), (.invokestatic 51, 7, 3, 0), (.ifCond .eq 30, 114, 0, 0), (.bipush 10, 0, 0, 10), (.iload_n 2, 2, 0, 0), (.imul, 0, 0, 0), (.aload_n 1, 1, 0, 0), (.aload_n 0, 0, 0, 0), (.getfield 27, 0, 5, 0), (.invokevirtual 45, 33, 2, 0), (.iadd, 0, 0, 0), (.bipush 48, 0, 0, 48), (.isub, 0, 0, 0), (.istore_n 2, 2, 0, 0), (.aload_n 0, 0, 0, 0), (.dup, 0, 0, 0), (.getfield 27, 0, 5, 0), (.iconst 1, 0, 0, 1), (.iadd, 0, 0, 0), (.putfield 27, 0, 5, 0), (.nop, 114, 0, 0)]
def bk_4_114 : List mIns := [(.iload_n 2, 2, 0, 0), (.ireturn, 0, 0, 0)]
def bk_5_0 : List mIns := [(.aload_n 0, 0, 0, 0), (.aload_n 1, 1, 0, 0), (.invokevirtual 71, 6, 2, 0), (.aload_n 0, 0, 0, 0), (.getfield 24, 0, 4, 0), (.iconst (-1), 0, 0, (-1)), (.if_icmp .eq 4, 14, 0, 0), (.return_, 0, 0, 0)]
def bk_5_14 : List mIns := [(.aload_n 0, 0, 0, 0), (.aload_n 0, 0, 0, 0), (.getfield 27, 0, 5, 0), (.putfield 21, 0, 3, 0), (.nop, 22, 0, 0)]
def bk_5_22 : List mIns := [(.aload_n 0, 0, 0, 0), (.getfield 27, 0, 5, 0), (.bipush 50, 0, 0, 50), (.if_icmp .ge 34, 62, 0, 0), (.aload_n 1, 1, 0, 0), (.aload_n 0, 0, 0, 0), (.getfield 27, 0, 5, 0), (.invokevirtual 45, 33, 2, 0), (.bipush 97, 0, 0, 97), (.bipush 104, 0, 0, 104), (.invokestatic 51, 7, 3, 0), (.ifCond .eq 16, 62, 0, 0), (.aload_n 0, 0, 0, 0), (.dup, 0, 0, 0), (.getfield 27, 0, 5, 0), (.iconst 1, 0, 0, 1), (.iadd, 0, 0, 0), (.putfield 27, 0, 5, 0), (.goto (-37), 22, 0, 0)]
def bk_5_62 : List mIns := [(.aload_n 0, 0, 0, 0), (.getfield 27, 0, 5, 0), (.aload_n 0, 0, 0, 0), (.getfield 21, 0, 3, 0), (.if_icmp .ne 11, 81, 0, 0), (.aload_n 0, 0, 0, 0), (.aload_n 0, 0, 0, 0), (.getfield 27, 0, 5, 0), (.putfield 24, 0, 4, 0), (.nop, 81, 0, 0)]
def bk_5_81 : List mIns := [(.return_, 0, 0, 0)]
def bk_6_0 : List mIns := [(.aload_n 0, 0, 0, 0), (.getfield 24, 0, 4, 0), (.iconst (-1), 0, 0, (-1)), (.if_icmp .eq 4, 9, 0, 0), (.return_, 0, 0, 0)]
def bk_6_9 : List mIns := [(.aload_n 1, 1, 0, 0), (.aload_n 0, 0, 0, 0), (.getfield 27, 0, 5, 0), (.invokevirtual 45, 33, 2, 0), (.bipush 32, 0, 0, 32), (.if_icmp .eq 12, 31, 0, 0), (.aload_n 0, 0, 0, 0), (.aload_n 0, 0, 0, 0), (.getfield 27, 0, 5, 0), (.putfield 24, 0, 4, 0), (.return_, 0, 0, 0)]
def bk_6_31 : List mIns := [(.aload_n 0, 0, 0, 0), (.dup, 0, 0, 0), (.getfield 27, 0, 5, 0), (.iconst 1, 0, 0, 1), (.iadd, 0, 0, 0), (.putfield 27, 0, 5, 0), (.return_, 0, 0, 0)]
def bk_7_0 : List mIns := [(.iload_n 0, 0, 0, 0), (.iload_n 1, 1, 0, 0), (.if_icmp .lt 12, 14, 0, 0), (.iload_n 0, 0, 0, 0), (.iload_n 2, 2, 0, 0), (.if_icmp .gt 7, 14, 0, 0), (.iconst 1, 0, 0, 1), (.goto 4, 15, 0, 0)]
def bk_7_14 : List mIns := [(.iconst 0, 0, 0, 0), (.nop, 15, 0, 0)]
def bk_7_15 : List mIns := [(.ireturn, 0, 0, 1)]
def bk_8_0 : List mIns := [(.aload_n 0, 0, 0, 0), (.invokespecial 3, 0, 0, 0), (.aload_n 0, 0, 0, 0), (.iconst 4, 0, 0, 4), (.anewarray 9, 5, 4, 0), (.putfield 11, 1, 0, 5), (.aload_n 0, 0, 0, 0), (.iconst 0, 0, 0, 0), (.putfield 17, 1, 1, 0), (.iconst 0, 0, 0, 0), (.istore_n 1, 1, 0, 0), (.nop, 19, 0, 0)]
def bk_8_19 : List mIns := [(.iload_n 1, 1, 0, 0), (.iconst 4, 0, 0, 4), (.if_icmp .ge 22, 43, 0, 0), (.aload_n 0, 0, 0, 0), (.getfield 11, 1, 0, 2), (.iload_n 1, 1, 0, 0), (.new 9, 4, 9, 0), (.dup, 0, 0, 0), (.invokespecial 21, 24, 1, 1), (.aastore, 5, 4, 0), (.iinc 1 1, 1, 0, 1), (.goto (-21), 19, 0, 0)]
def bk_8_43 : List mIns := [(.return_, 0, 0, 0)]
def bk_9_0 : List mIns := [(.aload_n 0, 0, 0, 0), (.getfield 17, 1, 1, 0), (.iconst 4, 0, 0, 4), (.if_icmp .ne 7, 12, 0, 0), (.aload_n 0, 0, 0, 0), (.invokevirtual 22, 10, 1, 0), (.nop, 12, 0, 0)]
def bk_9_12 : List mIns := [(.aload_n 0, 0, 0, 0), (.getfield 11, 1, 0, 2), (.aload_n 0, 0, 0, 0), (.getfield 17, 1, 1, 0), (.aaload, 5, 4, 0), (.aload_n 1, 1, 0, 0), (.invokevirtual 25, 25, 2, 0), (.aload_n 0, 0, 0, 0), (.dup, 0, 0, 0), (.getfield 17, 1, 1, 0), (.iconst 1, 0, 0, 1), (.iadd, 0, 0, 0), (.putfield 17, 1, 1, 0), (.return_, 0, 0, 0)]
def bk_10_0 : List mIns := [(.aload_n 0, 0, 0, 0), (.getfield 11, 1, 0, 2), (.iconst 0, 0, 0, 0), (.aaload, 5, 4, 0), (.astore_n 1, 1, 0, 0), (.iconst 1, 0, 0, 1), (.istore_n 2, 2, 0, 0), (.nop, 9, 0, 0)]
def bk_10_9 : List mIns := [(.iload_n 2, 2, 0, 0), (.iconst 4, 0, 0, 4), (.if_icmp .ge 23, 34, 0, 0), (.aload_n 0, 0, 0, 0), (.getfield 11, 1, 0, 2), (.iload_n 2, 2, 0, 0), (.iconst 1, 0, 0, 1), (.isub, 0, 0, 0), (.aload_n 0, 0, 0, 0), (.getfield 11, 1, 0, 2), (.iload_n 2, 2, 0, 0), (.aaload, 5, 4, 0), (.aastore, 5, 4, 0), (.iinc 2 1, 2, 0, 1), (.goto (-22), 9, 0, 0)]
def bk_10_34 : List mIns := [(.aload_n 0, 0, 0, 0), (.getfield 11, 1, 0, 2), (.iconst 3, 0, 0, 3), (.aload_n 1, 1, 0, 0), (.aastore, 5, 4, 0), (.aload_n 0, 0, 0, 0), (.iconst 3, 0, 0, 3), (.putfield 17, 1, 1, 0), (.return_, 0, 0, 0)]
def bk_11_0 : List mIns := [(.aload_n 0, 0, 0, 0), (.getfield 17, 1, 1, 0), (.ifCond .ne 5, 9, 0, 0), (.iconst 0, 0, 0, 0), (.ireturn, 0, 0, 1)]
def bk_11_9 : List mIns := [(.aload_n 0, 0, 0, 0), (.dup, 0, 0, 0), (.getfield 17, 1, 1, 0), (.iconst 1, 0, 0, 1), (.isub, 0, 0, 0), (.putfield 17, 1, 1, 0), (.aload_n 1, 1, 0, 0), (.aload_n 0, 0, 0, 0), (.getfield 11, 1, 0, 2), (.aload_n 0, 0, 0, 0), (.getfield 17, 1, 1, 0), (.aaload, 5, 4, 0), (.invokevirtual 25, 25, 2, 0), (.iconst 1, 0, 0, 1), (.ireturn, 0, 0, 1)]
def bk_12_0 : List mIns := [(.aload_n 0, 0, 0, 0), (.invokespecial 3, 0, 0, 0), (.aload_n 0, 0, 0, 0), (.bipush 10, 0, 0, 10), (.newarray .int, 2, 0, 0), (.putfield 9, 2, 0, 5), (.aload_n 0, 0, 0, 0), (.bipush 10, 0, 0, 10), (.newarray .int, 2, 0, 0), (.putfield 15, 2, 1, 5), (.aload_n 0, 0, 0, 0), (.bipush 10, 0, 0, 10), (.newarray .int, 2, 0, 0), (.putfield 18, 2, 2, 5), (.aload_n 0, 0, 0, 0), (.iconst 0, 0, 0, 0), (.putfield 21, 2, 3, 0), (.return_, 0, 0, 0)]
def bk_13_0 : List mIns := [(.aload_n 1, 1, 0, 0), (.getfield 9, 2, 0, 2), (.iconst 0, 0, 0, 0), (.aload_n 0, 0, 0, 0), (.getfield 9, 2, 0, 2), (.iconst 0, 0, 0, 0), (.bipush 10, 0, 0, 10), (.invokestatic 25, 0, 0, 2), (.aload_n 1, 1, 0, 0), (.getfield 15, 2, 1, 2), (.iconst 0, 0, 0, 0), (.aload_n 0, 0, 0, 0), (.getfield 15, 2, 1, 2), (.iconst 0, 0, 0, 0), (.bipush 10, 0, 0, 10), (.invokestatic 25, 0, 0, 2), (.aload_n 1, 1, 0, 0), (.getfield 18, 2, 2, 2), (.iconst 0, 0, 0, 0), (.aload_n 0, 0, 0, 0), (.getfield 18, 2, 2, 2), (.iconst 0, 0, 0, 0), (.bipush 10, 0, 0, 10), (.invokestatic 25, 0, 0, 2), (.aload_n 0, 0, 0, 0), (.aload_n 1, 1, 0, 0), (.getfield 21, 2, 3, 0), (.putfield 21, 2, 3, 0), (.return_, 0, 0, 0)]
def bk_14_0 : List mIns := [(.aload_n 0, 0, 0, 0), (.getfield 21, 2, 3, 0), (.bipush 10, 0, 0, 10), (.if_icmp .ne 7, 13, 0, 0), (.aload_n 0, 0, 0, 0), (.invokevirtual 31, 15, 1, 0), (.nop, 13, 0, 0)]
def bk_14_13 : List mIns := [(.aload_n 0, 0, 0, 0), (.getfield 9, 2, 0, 2), (.aload_n 0, 0, 0, 0), (.getfield 21, 2, 3, 0), (.iload_n 1, 1, 0, 0), (.iastore, 0, 0, 0), (.aload_n 0, 0, 0, 0), (.getfield 15, 2, 1, 2), (.aload_n 0, 0, 0, 0), (.getfield 21, 2, 3, 0), (.iload_n 2, 2, 0, 0), (.iastore, 0, 0, 0), (.aload_n 0, 0, 0, 0), (.getfield 18, 2, 2, 2), (.aload_n 0, 0, 0, 0), (.getfield 21, 2, 3, 0), (.iload_n 3, 3, 0, 0), (.iastore, 0, 0, 0), (.aload_n 0, 0, 0, 0), (.dup, 0, 0, 0), (.getfield 21, 2, 3, 0), (.iconst 1, 0, 0, 1), (.iadd, 0, 0, 0), (.putfield 21, 2, 3, 0), (.return_, 0, 0, 0)]
def bk_15_0 : List mIns := [(.aload_n 0, 0, 0, 0), (.getfield 9, 2, 0, 2), (.iconst 1, 0, 0, 1), (.aload_n 0, 0, 0, 0), (.getfield 9, 2, 0, 2), (.iconst 0, 0, 0, 0), (.bipush 9, 0, 0, 9), (.invokestatic 25, 0, 0, 2), (.aload_n 0, 0, 0, 0), (.getfield 15, 2, 1, 2), (.iconst 1, 0, 0, 1), (.aload_n 0, 0, 0, 0), (.getfield 15, 2, 1, 2), (.iconst 0, 0, 0, 0), (.bipush 9, 0, 0, 9), (.invokestatic 25, 0, 0, 2), (.aload_n 0, 0, 0, 0), (.getfield 18, 2, 2, 2), (.iconst 1, 0, 0, 1), (.aload_n 0, 0, 0, 0), (.getfield 18, 2, 2, 2), (.iconst 0, 0, 0, 0), (.bipush 9, 0, 0, 9), (.invokestatic 25, 0, 0, 2), (.aload_n 0, 0, 0, 0), (.bipush 9, 0, 0, 9), (.putfield 21, 2, 3, 0), (.return_, 0, 0, 0)]
def bk_16_0 : List mIns := [(.iload_n 1, 1, 0, 0), (.ifCond .lt 11, 12, 0, 0), (.iload_n 1, 1, 0, 0), (.aload_n 0, 0, 0, 0), (.getfield 21, 2, 3, 0), (.if_icmp .lt 6, 15, 0, 0), (.nop, 12, 0, 0)]
def bk_16_12 : List mIns := [(.bipush (-5), 0, 0, (-5)), (.ireturn, 0, 0, 0)]
def bk_16_15 : List mIns := [(.aload_n 0, 0, 0, 0), (.getfield 21, 2, 3, 0), (.iconst 1, 0, 0, 1), (.isub, 0, 0, 0), (.iload_n 1, 1, 0, 0), (.isub, 0, 0, 0), (.istore_n 3, 3, 0, 0), (.iload_n 2, 2, 0, 0), (.ifCond .ne 10, 35, 0, 0), (.aload_n 0, 0, 0, 0), (.getfield 9, 2, 0, 2), (.iload_n 3, 3, 0, 0), (.iaload, 0, 0, 0), (.ireturn, 0, 0, 0)]
def bk_16_35 : List mIns := [(.iload_n 2, 2, 0, 0), (.iconst 1, 0, 0, 1), (.if_icmp .ne 12, 49, 0, 0), (.aload_n 0, 0, 0, 0), (.getfield 15, 2, 1, 2), (.iload_n 3, 3, 0, 0), (.iaload, 0, 0, 0), (.goto 9, 55, 0, 0)]
def bk_16_49 : List mIns := [(.aload_n 0, 0, 0, 0), (.getfield 18, 2, 2, 2), (.iload_n 3, 3, 0, 0), (.iaload, 0, 0, 0), (.nop, 55, 0, 0)]
def bk_16_55 : List mIns := [(.ireturn, 0, 0, 0)]
def bk_17_0 : List mIns := [(.aload_n 0, 0, 0, 0), (.invokespecial 3, 0, 0, 0), (.aload_n 0, 0, 0, 0), (.bipush 30, 0, 0, 30), (.newarray .int, 2, 0, 0), (.putfield 9, 3, 0, 5), (.aload_n 0, 0, 0, 0), (.iconst 0, 0, 0, 0), (.putfield 15, 3, 1, 0), (.aload_n 0, 0, 0, 0), (.iconst 0, 0, 0, 0), (.putfield 19, 3, 2, 0), (.aload_n 0, 0, 0, 0), (.iconst (-1), 0, 0, (-1)), (.putfield 22, 3, 3, 0), (.return_, 0, 0, 0)]
def bk_18_0 : List mIns := [(.aload_n 0, 0, 0, 0), (.iconst 0, 0, 0, 0), (.putfield 15, 3, 1, 0), (.aload_n 0, 0, 0, 0), (.iconst 0, 0, 0, 0), (.putfield 19, 3, 2, 0), (.aload_n 0, 0, 0, 0), (.iconst (-1), 0, 0, (-1)), (.putfield 22, 3, 3, 0), (.aload_n 1, 1, 0, 0), (.getfield 25, 6, 0, 2), (.iconst 0, 0, 0, 0), (.iaload, 0, 0, 0), (.istore_n 3, 3, 0, 0), (.iconst 0, 0, 0, 0), (.istore 4, 4, 0, 0), (.nop, 25, 0, 0)]
def bk_18_25 : List mIns := [(.iload 4, 4, 0, 0), (.aload_n 1, 1, 0, 0), (.getfield 30, 6, 5, 0), (.if_icmp .ge 100, 131, 0, 0), (.iload 4, 4, 0, 0), (.bipush 30, 0, 0, 30), (.if_icmp .ge 93, 131, 0, 0), (.aload_n 1, 1, 0, 0), (.getfield 25, 6, 0, 2), (.iload 4, 4, 0, 0), (.iconst 1, 0, 0, 1), (.iadd, 0, 0, 0), (.iaload, 0, 0, 0), (.istore 5, 5, 0, 0), (.iload_n 2, 2, 0, 0), (.iconst 2, 0, 0, 2), (.if_icmp .ne 10, 64, 0, 0), (.aload_n 1, 1, 0, 0), (.iload 4, 4, 0, 0), (.invokestatic 33, 19, 2, 0), (.istore_n 3, 3, 0, 0), (.nop, 64, 0, 0)]
def bk_18_64 : List mIns := [(.iload 5, 5, 0, 0), (.iload_n 3, 3, 0, 0), (.invokestatic 37, 20, 2, 0), (.istore 6, 6, 0, 0), (.iload_n 2, 2, 0, 0), (.iconst 1, 0, 0, 1), (.if_icmp .ne 25, 99, 0, 0), (.iload 6, 6, 0, 0), (.iconst (-1), 0, 0, (-1)), (.if_icmp .eq 19, 99, 0, 0), (.iconst 3, 0, 0, 3), (.iload_n 3, 3, 0, 0), (.imul, 0, 0, 0), (.iconst 5, 0, 0, 5), (.iload 5, 5, 0, 0), (.imul, 0, 0, 0), (.iload 6, 6, 0, 0), (.iconst 2, 0, 0, 2), (.iadd, 0, 0, 0), (.idiv, 0, 0, 0), (.iadd, 0, 0, 0), (.iconst 4, 0, 0, 4), (.idiv, 0, 0, 0), (.istore_n 3, 3, 0, 0), (.nop, 99, 0, 0)]
def bk_18_99 : List mIns := [(.aload_n 0, 0, 0, 0), (.getfield 9, 3, 0, 2), (.iload 4, 4, 0, 0), (.iload 6, 6, 0, 0), (.iastore, 0, 0, 0), (.aload_n 0, 0, 0, 0), (.iload 4, 4, 0, 0), (.iload 6, 6, 0, 0), (.aload_n 1, 1, 0, 0), (.getfield 41, 6, 2, 2), (.iload 4, 4, 0, 0), (.iconst 1, 0, 0, 1), (.iadd, 0, 0, 0), (.iaload, 0, 0, 0), (.invokevirtual 44, 21, 4, 0), (.iinc 4 1, 4, 0, 1), (.goto (-103), 25, 0, 0)]
def bk_18_131 : List mIns := [(.return_, 0, 0, 0)]
def bk_19_0 : List mIns := [(.aload_n 0, 0, 0, 0), (.getfield 25, 6, 0, 2), (.iconst 0, 0, 0, 0), (.iaload, 0, 0, 0), (.istore_n 2, 2, 0, 0), (.aload_n 0, 0, 0, 0), (.getfield 30, 6, 5, 0), (.iconst 1, 0, 0, 1), (.iadd, 0, 0, 0), (.istore_n 3, 3, 0, 0), (.iload_n 3, 3, 0, 0), (.ifCond .le 11, 26, 0, 0), (.aload_n 0, 0, 0, 0), (.iload_n 3, 3, 0, 0), (.invokevirtual 48, 38, 2, 0), (.ifCond .ne 5, 28, 0, 0), (.nop, 26, 0, 0)]
def bk_19_26 : List mIns := [(.iload_n 2, 2, 0, 0), (.ireturn, 0, 0, 0)]
def bk_19_28 : List mIns := [(.iload_n 2, 2, 0, 0), (.aload_n 0, 0, 0, 0), (.getfield 25, 6, 0, 2), (.iload_n 3, 3, 0, 0), (.iaload, 0, 0, 0), (.iload_n 2, 2, 0, 0), (.isub, 0, 0, 0), (.iload_n 1, 1, 0, 0), (.iconst 1, 0, 0, 1), (.iadd, 0, 0, 0), (.imul, 0, 0, 0), (.iload_n 3, 3, 0, 0), (.idiv, 0, 0, 0), (.iadd, 0, 0, 0), (.ireturn, 0, 0, 0)]
def bk_20_0 : List mIns := [(.iload_n 1, 1, 0, 0), (.ifCond .gt 5, 6, 0, 0), (.iconst (-1), 0, 0, (-1)), (.ireturn, 0, 0, 0)]
def bk_20_6 : List mIns := [(.bipush 10, 0, 0, 10), (.iload_n 0, 0, 0, 0), (.imul, 0, 0, 0), (.iload_n 1, 1, 0, 0), (.iadd, 0, 0, 0), (.iconst 2, 0, 0, 2), (.iload_n 1, 1, 0, 0), (.imul, 0, 0, 0), (.idiv, 0, 0, 0), (.iconst 2, 0, 0, 2), (.isub, 0, 0, 0), (.istore_n 2, 2, 0, 0), (.iload_n 2, 2, 0, 0), (.ifCond .lt 13, 33, 0, 0), (.iload_n 2, 2, 0, 0), (.bipush 7, 0, 0, 7), (.if_icmp .gt 7, 33, 0, 0), (.iload_n 2, 2, 0, 0), (.goto 4, 34, 0, 0)]
def bk_20_33 : List mIns := [(.iconst (-1), 0, 0, (-1)), (.nop, 34, 0, 0)]
def bk_20_34 : List mIns := [(.ireturn, 0, 0, 0)]
def bk_21_0 : List mIns := [(.iload_n 2, 2, 0, 0), (.iload_n 3, 3, 0, 0), (.if_icmp .ne 4, 6, 0, 0), (.return_, 0, 0, 0)]
def bk_21_6 : List mIns := [(.iload_n 2, 2, 0, 0), (.iconst (-1), 0, 0, (-1)), (.if_icmp .ne 16, 24, 0, 0), (.aload_n 0, 0, 0, 0), (.dup, 0, 0, 0), (.getfield 19, 3, 2, 0), (.iconst 1, 0, 0, 1), (.iadd, 0, 0, 0), (.putfield 19, 3, 2, 0), (.goto 13, 34, 0, 0)]
def bk_21_24 : List mIns := [(.aload_n 0, 0, 0, 0), (.dup, 0, 0, 0), (.getfield 15, 3, 1, 0), (.iconst 1, 0, 0, 1), (.iadd, 0, 0, 0), (.putfield 15, 3, 1, 0), (.nop, 34, 0, 0)]
def bk_21_34 : List mIns := [(.aload_n 0, 0, 0, 0), (.getfield 22, 3, 3, 0), (.iconst (-1), 0, 0, (-1)), (.if_icmp .ne 8, 47, 0, 0), (.aload_n 0, 0, 0, 0), (.iload_n 1, 1, 0, 0), (.putfield 22, 3, 3, 0), (.nop, 47, 0, 0)]
def bk_21_47 : List mIns := [(.return_, 0, 0, 0)]
def bk_22_0 : List mIns := [(.aload_n 0, 0, 0, 0), (.getfield 15, 3, 1, 0), (.aload_n 0, 0, 0, 0), (.getfield 19, 3, 2, 0), (.iadd, 0, 0, 0), (.ireturn, 0, 0, 0)]
def bk_23_0 : List mIns := [(.iconst 0, 0, 0, 0), (.istore_n 3, 3, 0, 0), (.nop, 2, 0, 0)]
def bk_23_2 : List mIns := [(.iload_n 3, 3, 0, 0), (.iload_n 2, 2, 0, 0), (.if_icmp .ge 32, 36, 0, 0), (.iload_n 3, 3, 0, 0), (.bipush 30, 0, 0, 30), (.if_icmp .ge 26, 36, 0, 0), (.aload_n 0, 0, 0, 0), (.getfield 9, 3, 0, 2), (.iload_n 3, 3, 0, 0), (.iaload, 0, 0, 0), (.aload_n 1, 1, 0, 0), (.getfield 9, 3, 0, 2), (.iload_n 3, 3, 0, 0), (.iaload, 0, 0, 0), (.if_icmp .eq 5, 30, 0, 0), (.iconst 0, 0, 0, 0), (.ireturn, 0, 0, 1)]
def bk_23_30 : List mIns := [(.iinc 3 1, 3, 0, 1), (.goto (-31), 2, 0, 0)]
def bk_23_36 : List mIns := [(.iconst 1, 0, 0, 1), (.ireturn, 0, 0, 1)]
def bk_24_0 : List mIns := [(.aload_n 0, 0, 0, 0), (.invokespecial 3, 0, 0, 0), (.aload_n 0, 0, 0, 0), (.bipush 6, 0, 0, 6), (.anewarray 9, 4, 6, 0), (.putfield 11, 4, 0, 5), (.aload_n 0, 0, 0, 0), (.new 17, 2, 4, 0), (.dup, 0, 0, 0), (.invokespecial 19, 12, 1, 1), (.putfield 20, 4, 1, 5), (.aload_n 0, 0, 0, 0), (.iconst 0, 0, 0, 0), (.putfield 24, 4, 2, 0), (.aload_n 0, 0, 0, 0), (.sipush 130, 0, 0, 130), (.putfield 28, 4, 3, 0), (.aload_n 0, 0, 0, 0), (.iconst 0, 0, 0, 0), (.putfield 31, 4, 4, 0), (.aload_n 0, 0, 0, 0), (.iconst 0, 0, 0, 0), (.putfield 34, 4, 5, 0), (.aload_n 0, 0, 0, 0), (.iconst 0, 0, 0, 0), (.putfield 37, 4, 6, 0), (.aload_n 0, 0, 0, 0), (.iconst 0, 0, 0, 0), (.putfield 40, 4, 7, 0), (.aload_n 0, 0, 0, 0), (.iconst 0, 0, 0, 0), (.putfield 43, 4, 8, 0), (.iconst 0, 0, 0, 0), (.istore_n 1, 1, 0, 0), (.nop, 63, 0, 0)]
def bk_24_63 : List mIns := [(.iload_n 1, 1, 0, 0), (.bipush 6, 0, 0, 6), (.if_icmp .ge 22, 88, 0, 0), (.aload_n 0, 0, 0, 0), (.getfield 11, 4, 0, 2), (.iload_n 1, 1, 0, 0), (.new 9, 6, 7, 0), (.dup, 0, 0, 0), (.invokespecial 46, 35, 1, 1), (.aastore, 4, 6, 0), (.iinc 1 1, 1, 0, 1), (.goto (-22), 63, 0, 0)]
def bk_24_88 : List mIns := [(.return_, 0, 0, 0)]
def bk_25_0 : List mIns := [(.iconst 0, 0, 0, 0), (.istore_n 2, 2, 0, 0), (.nop, 2, 0, 0)]
def bk_25_2 : List mIns := [(.iload_n 2, 2, 0, 0), (.bipush 6, 0, 0, 6), (.if_icmp .ge 24, 29, 0, 0), (.aload_n 0, 0, 0, 0), (.getfield 11, 4, 0, 2), (.iload_n 2, 2, 0, 0), (.aaload, 4, 6, 0), (.aload_n 1, 1, 0, 0), (.getfield 11, 4, 0, 2), (.iload_n 2, 2, 0, 0), (.aaload, 4, 6, 0), (.invokevirtual 47, 36, 2, 0), (.iinc 2 1, 2, 0, 1), (.goto (-24), 2, 0, 0)]
def bk_25_29 : List mIns := [(.aload_n 0, 0, 0, 0), (.getfield 20, 4, 1, 2), (.aload_n 1, 1, 0, 0), (.getfield 20, 4, 1, 2), (.invokevirtual 51, 13, 2, 0), (.aload_n 0, 0, 0, 0), (.aload_n 1, 1, 0, 0), (.getfield 24, 4, 2, 0), (.putfield 24, 4, 2, 0), (.aload_n 0, 0, 0, 0), (.aload_n 1, 1, 0, 0), (.getfield 28, 4, 3, 0), (.putfield 28, 4, 3, 0), (.aload_n 0, 0, 0, 0), (.aload_n 1, 1, 0, 0), (.getfield 31, 4, 4, 0), (.putfield 31, 4, 4, 0), (.aload_n 0, 0, 0, 0), (.aload_n 1, 1, 0, 0), (.getfield 34, 4, 5, 0), (.putfield 34, 4, 5, 0), (.aload_n 0, 0, 0, 0), (.aload_n 1, 1, 0, 0), (.getfield 37, 4, 6, 0), (.putfield 37, 4, 6, 0), (.aload_n 0, 0, 0, 0), (.aload_n 1, 1, 0, 0), (.getfield 40, 4, 7, 0), (.putfield 40, 4, 7, 0), (.aload_n 0, 0, 0, 0), (.aload_n 1, 1, 0, 0), (.getfield 43, 4, 8, 0), (.putfield 43, 4, 8, 0), (.return_, 0, 0, 0)]
def bk_26_0 : List mIns := [(.iconst 0, 0, 0, 0), (.istore_n 1, 1, 0, 0), (.iconst 0, 0, 0, 0), (.istore_n 2, 2, 0, 0), (.nop, 4, 0, 0)]
def bk_26_4 : List mIns := [(.iload_n 2, 2, 0, 0), (.bipush 6, 0, 0, 6), (.if_icmp .ge 24, 31, 0, 0), (.aload_n 0, 0, 0, 0), (.getfield 11, 4, 0, 2), (.iload_n 2, 2, 0, 0), (.aaload, 4, 6, 0), (.getfield 54, 6, 3, 1), (.ifCond .eq 6, 25, 0, 0), (.iinc 1 1, 1, 0, 1), (.nop, 25, 0, 0)]
def bk_26_25 : List mIns := [(.iinc 2 1, 2, 0, 1), (.goto (-24), 4, 0, 0)]
def bk_26_31 : List mIns := [(.iload_n 1, 1, 0, 0), (.ireturn, 0, 0, 0)]
def bk_27_0 : List mIns := [(.iconst 0, 0, 0, 0), (.istore_n 1, 1, 0, 0), (.iconst 0, 0, 0, 0), (.istore_n 2, 2, 0, 0), (.nop, 4, 0, 0)]
def bk_27_4 : List mIns := [(.iload_n 2, 2, 0, 0), (.bipush 6, 0, 0, 6), (.if_icmp .ge 21, 28, 0, 0), (.iload_n 1, 1, 0, 0), (.aload_n 0, 0, 0, 0), (.getfield 11, 4, 0, 2), (.iload_n 2, 2, 0, 0), (.aaload, 4, 6, 0), (.getfield 58, 6, 5, 0), (.iadd, 0, 0, 0), (.istore_n 1, 1, 0, 0), (.iinc 2 1, 2, 0, 1), (.goto (-21), 4, 0, 0)]
def bk_27_28 : List mIns := [(.iload_n 1, 1, 0, 0), (.ireturn, 0, 0, 0)]
def bk_28_0 : List mIns := [(.iconst 0, 0, 0, 0), (.istore_n 1, 1, 0, 0), (.nop, 2, 0, 0)]
def bk_28_2 : List mIns := [(.iload_n 1, 1, 0, 0), (.bipush 6, 0, 0, 6), (.if_icmp .ge 23, 28, 0, 0), (.aload_n 0, 0, 0, 0), (.getfield 11, 4, 0, 2), (.iload_n 1, 1, 0, 0), (.aaload, 4, 6, 0), (.getfield 54, 6, 3, 1), (.ifCond .ne 5, 22, 0, 0), (.iload_n 1, 1, 0, 0), (.ireturn, 0, 0, 0)]
def bk_28_22 : List mIns := [(.iinc 1 1, 1, 0, 1), (.goto (-23), 2, 0, 0)]
def bk_28_28 : List mIns := [(.bipush 6, 0, 0, 6), (.ireturn, 0, 0, 0)]
def bk_29_0 : List mIns := [(.iconst 1, 0, 0, 1), (.istore 4, 4, 0, 0), (.nop, 3, 0, 0)]
def bk_29_3 : List mIns := [(.iload 4, 4, 0, 0), (.iload_n 3, 3, 0, 0), (.if_icmp .gt 93, 99, 0, 0), (.aload_n 0, 0, 0, 0), (.getfield 11, 4, 0, 2), (.iload_n 1, 1, 0, 0), (.aaload, 4, 6, 0), (.aload_n 0, 0, 0, 0), (.getfield 24, 4, 2, 0), (.aload_n 0, 0, 0, 0), (.getfield 28, 4, 3, 0), (.iload_n 2, 2, 0, 0), (.invokevirtual 61, 51, 4, 0), (.istore 5, 5, 0, 0), (.aload_n 0, 0, 0, 0), (.getfield 11, 4, 0, 2), (.iload_n 1, 1, 0, 0), (.aaload, 4, 6, 0), (.dup, 0, 0, 0), (.getfield 65, 6, 6, 0), (.iconst 1, 0, 0, 1), (.iadd, 0, 0, 0), (.putfield 65, 6, 6, 0), (.aload_n 0, 0, 0, 0), (.dup, 0, 0, 0), (.getfield 37, 4, 6, 0), (.iconst 1, 0, 0, 1), (.iadd, 0, 0, 0), (.putfield 37, 4, 6, 0), (.aload_n 0, 0, 0, 0), (.dup, 0, 0, 0), (.getfield 31, 4, 4, 0), (.bipush 10, 0, 0, 10), (.iload_n 2, 2, 0, 0), (.isub, 0, 0, 0), (.iadd, 0, 0, 0), (.putfield 31, 4, 4, 0), (.aload_n 0, 0, 0, 0), (.getfield 20, 4, 1, 2), (.iconst 1, 0, 0, 1), (.iload_n 1, 1, 0, 0), (.iload_n 2, 2, 0, 0), (.invokevirtual 66, 14, 4, 0), (.iload 5, 5, 0, 0), (.iconst (-1), 0, 0, (-1)), (.if_icmp .eq 13, 93, 0, 0), (.aload_n 0, 0, 0, 0), (.iload_n 1, 1, 0, 0), (.iload 5, 5, 0, 0), (.invokevirtual 70, 30, 3, 0), (.iload 4, 4, 0, 0), (.ireturn, 0, 0, 0)]
def bk_29_93 : List mIns := [(.iinc 4 1, 4, 0, 1), (.goto (-93), 3, 0, 0)]
def bk_29_99 : List mIns := [(.iload_n 3, 3, 0, 0), (.ireturn, 0, 0, 0)]
def bk_30_0 : List mIns := [(.aload_n 0, 0, 0, 0), (.getfield 11, 4, 0, 2), (.iload_n 1, 1, 0, 0), (.aaload, 4, 6, 0), (.astore_n 3, 3, 0, 0), (.aload_n 3, 3, 0, 0), (.invokevirtual 74, 37, 1, 0), (.iload_n 2, 2, 0, 0), (.isub, 0, 0, 0), (.istore 4, 4, 0, 0), (.aload_n 3, 3, 0, 0), (.getfield 58, 6, 5, 0), (.istore 5, 5, 0, 0), (.aload_n 3, 3, 0, 0), (.iload_n 2, 2, 0, 0), (.invokevirtual 78, 52, 2, 0), (.aload_n 0, 0, 0, 0), (.dup, 0, 0, 0), (.getfield 40, 4, 7, 0), (.iconst 1, 0, 0, 1), (.iadd, 0, 0, 0), (.putfield 40, 4, 7, 0), (.aload_n 0, 0, 0, 0), (.dup, 0, 0, 0), (.getfield 43, 4, 8, 0), (.iload 5, 5, 0, 0), (.aload_n 3, 3, 0, 0), (.getfield 58, 6, 5, 0), (.isub, 0, 0, 0), (.iadd, 0, 0, 0), (.putfield 43, 4, 8, 0), (.aload_n 0, 0, 0, 0), (.getfield 20, 4, 1, 2), (.iconst 2, 0, 0, 2), (.iload_n 1, 1, 0, 0), (.iload 4, 4, 0, 0), (.invokevirtual 66, 14, 4, 0), (.return_, 0, 0, 0)]
def bk_31_0 : List mIns := [(.aload_n 0, 0, 0, 0), (.invokespecial 3, 0, 0, 0), (.aload_n 0, 0, 0, 0), (.bipush 50, 0, 0, 50), (.newarray .char, 3, 0, 0), (.putfield 9, 5, 0, 5), (.aload_n 0, 0, 0, 0), (.iconst 0, 0, 0, 0), (.putfield 15, 5, 1, 0), (.return_, 0, 0, 0)]
def bk_32_0 : List mIns := [(.aload_n 0, 0, 0, 0), (.getfield 15, 5, 1, 0), (.bipush 50, 0, 0, 50), (.if_icmp .lt 5, 11, 0, 0), (.iconst 0, 0, 0, 0), (.ireturn, 0, 0, 1)]
def bk_32_11 : List mIns := [(.aload_n 0, 0, 0, 0), (.getfield 9, 5, 0, 2), (.aload_n 0, 0, 0, 0), (.getfield 15, 5, 1, 0), (.iload_n 1, 1, 0, 0), (.castore, 0, 0, 0), (.aload_n 0, 0, 0, 0), (.dup, 0, 0, 0), (.getfield 15, 5, 1, 0), (.iconst 1, 0, 0, 1), (.iadd, 0, 0, 0), (.putfield 15, 5, 1, 0), (.iconst 1, 0, 0, 1), (.ireturn, 0, 0, 1)]
def bk_33_0 : List mIns := [(.iload_n 1, 1, 0, 0), (.ifCond .lt 11, 12, 0, 0), (.iload_n 1, 1, 0, 0), (.aload_n 0, 0, 0, 0), (.getfield 15, 5, 1, 0), (.if_icmp .lt 5, 14, 0, 0), (.nop, 12, 0, 0)]
def bk_33_12 : List mIns := [(.iconst (-1), 0, 0, (-1)), (.ireturn, 0, 0, 0)]
def bk_33_14 : List mIns := [(.aload_n 0, 0, 0, 0), (.getfield 9, 5, 0, 2), (.iload_n 1, 1, 0, 0), (.caload, 0, 0, 0), (.ireturn, 0, 0, 0)]
def bk_34_0 : List mIns := [(.aload_n 1, 1, 0, 0), (.invokevirtual 19, 87, 1, 0), (.iload_n 2, 2, 0, 0), (.if_icmp .eq 5, 10, 0, 0), (.iconst 0, 0, 0, 0), (.ireturn, 0, 0, 1)]
def bk_34_10 : List mIns := [(.iconst 0, 0, 0, 0), (.istore_n 3, 3, 0, 0), (.nop, 12, 0, 0)]
def bk_34_12 : List mIns := [(.iload_n 3, 3, 0, 0), (.iload_n 2, 2, 0, 0), (.if_icmp .ge 24, 38, 0, 0), (.aload_n 0, 0, 0, 0), (.iload_n 3, 3, 0, 0), (.invokevirtual 25, 33, 2, 0), (.aload_n 1, 1, 0, 0), (.iload_n 3, 3, 0, 0), (.invokevirtual 29, 88, 2, 0), (.if_icmp .eq 5, 32, 0, 0), (.iconst 0, 0, 0, 0), (.ireturn, 0, 0, 1)]
def bk_34_32 : List mIns := [(.iinc 3 1, 3, 0, 1), (.goto (-23), 12, 0, 0)]
def bk_34_38 : List mIns := [(.iconst 1, 0, 0, 1), (.ireturn, 0, 0, 1)]
def bk_35_0 : List mIns := [(.aload_n 0, 0, 0, 0), (.invokespecial 3, 0, 0, 0), (.aload_n 0, 0, 0, 0), (.bipush 32, 0, 0, 32), (.newarray .int, 2, 0, 0), (.putfield 9, 6, 0, 5), (.aload_n 0, 0, 0, 0), (.bipush 32, 0, 0, 32), (.newarray .int, 2, 0, 0), (.putfield 15, 6, 1, 5), (.aload_n 0, 0, 0, 0), (.bipush 32, 0, 0, 32), (.newarray .int, 2, 0, 0), (.putfield 18, 6, 2, 5), (.aload_n 0, 0, 0, 0), (.iconst 0, 0, 0, 0), (.putfield 21, 6, 3, 1), (.aload_n 0, 0, 0, 0), (.iconst 0, 0, 0, 0), (.putfield 25, 6, 4, 1), (.aload_n 0, 0, 0, 0), (.iconst 0, 0, 0, 0), (.putfield 28, 6, 5, 0), (.aload_n 0, 0, 0, 0), (.iconst 0, 0, 0, 0), (.putfield 32, 6, 6, 0), (.return_, 0, 0, 0)]
def bk_36_0 : List mIns := [(.aload_n 1, 1, 0, 0), (.getfield 9, 6, 0, 2), (.iconst 0, 0, 0, 0), (.aload_n 0, 0, 0, 0), (.getfield 9, 6, 0, 2), (.iconst 0, 0, 0, 0), (.bipush 32, 0, 0, 32), (.invokestatic 35, 0, 0, 2), (.aload_n 1, 1, 0, 0), (.getfield 15, 6, 1, 2), (.iconst 0, 0, 0, 0), (.aload_n 0, 0, 0, 0), (.getfield 15, 6, 1, 2), (.iconst 0, 0, 0, 0), (.bipush 32, 0, 0, 32), (.invokestatic 35, 0, 0, 2), (.aload_n 1, 1, 0, 0), (.getfield 18, 6, 2, 2), (.iconst 0, 0, 0, 0), (.aload_n 0, 0, 0, 0), (.getfield 18, 6, 2, 2), (.iconst 0, 0, 0, 0), (.bipush 32, 0, 0, 32), (.invokestatic 35, 0, 0, 2), (.aload_n 0, 0, 0, 0), (.aload_n 1, 1, 0, 0), (.getfield 21, 6, 3, 1), (.putfield 21, 6, 3, 1), (.aload_n 0, 0, 0, 0), (.aload_n 1, 1, 0, 0), (.getfield 25, 6, 4, 1), (.putfield 25, 6, 4, 1), (.aload_n 0, 0, 0, 0), (.aload_n 1, 1, 0, 0), (.getfield 28, 6, 5, 0), (.putfield 28, 6, 5, 0), (.aload_n 0, 0, 0, 0), (.aload_n 1, 1, 0, 0), (.getfield 32, 6, 6, 0), (.putfield 32, 6, 6, 0), (.return_, 0, 0, 0)]
def bk_37_0 : List mIns := [(.aload_n 0, 0, 0, 0), (.getfield 21, 6, 3, 1), (.ifCond .ne 5, 9, 0, 0), (.iconst 0, 0, 0, 0), (.ireturn, 0, 0, 0)]
def bk_37_9 : List mIns := [(.aload_n 0, 0, 0, 0), (.getfield 25, 6, 4, 1), (.ifCond .eq 12, 25, 0, 0), (.aload_n 0, 0, 0, 0), (.getfield 28, 6, 5, 0), (.iconst 2, 0, 0, 2), (.iadd, 0, 0, 0), (.goto 9, 31, 0, 0)]
def bk_37_25 : List mIns := [(.aload_n 0, 0, 0, 0), (.getfield 28, 6, 5, 0), (.iconst 1, 0, 0, 1), (.iadd, 0, 0, 0), (.nop, 31, 0, 0)]
def bk_37_31 : List mIns := [(.bipush 32, 0, 0, 32), (.invokestatic 41, 0, 0, 1), (.ireturn, 0, 0, 0)]
def bk_38_0 : List mIns := [(.iload_n 1, 1, 0, 0), (.ifCond .lt 15, 16, 0, 0), (.iload_n 1, 1, 0, 0), (.aload_n 0, 0, 0, 0), (.invokevirtual 47, 37, 1, 0), (.if_icmp .ge 7, 16, 0, 0), (.iconst 1, 0, 0, 1), (.goto 4, 17, 0, 0)]
def bk_38_16 : List mIns := [(.iconst 0, 0, 0, 0), (.nop, 17, 0, 0)]
def bk_38_17 : List mIns := [(.ireturn, 0, 0, 1)]
def bk_39_0 : List mIns := [(.iload_n 1, 1, 0, 0), (.ifCond .lt 15, 16, 0, 0), (.iload_n 1, 1, 0, 0), (.aload_n 0, 0, 0, 0), (.getfield 28, 6, 5, 0), (.if_icmp .ge 7, 16, 0, 0), (.iconst 1, 0, 0, 1), (.goto 4, 17, 0, 0)]
def bk_39_16 : List mIns := [(.iconst 0, 0, 0, 0), (.nop, 17, 0, 0)]
def bk_39_17 : List mIns := [(.ireturn, 0, 0, 1)]
def bk_40_0 : List mIns := [(.aload_n 0, 0, 0, 0), (.getfield 21, 6, 3, 1), (.ifCond .eq 19, 23, 0, 0), (.iload_n 1, 1, 0, 0), (.iconst 2, 0, 0, 2), (.if_icmp .ne 10, 19, 0, 0), (.aload_n 0, 0, 0, 0), (.getfield 25, 6, 4, 1), (.ifCond .eq 7, 23, 0, 0), (.nop, 19, 0, 0)]
def bk_40_19 : List mIns := [(.iconst 1, 0, 0, 1), (.goto 4, 24, 0, 0)]
def bk_40_23 : List mIns := [(.iconst 0, 0, 0, 0), (.nop, 24, 0, 0)]
def bk_40_24 : List mIns := [(.ireturn, 0, 0, 1)]
def bk_41_0 : List mIns := [(.aload_n 0, 0, 0, 0), (.iconst 0, 0, 0, 0), (.putfield 21, 6, 3, 1), (.aload_n 0, 0, 0, 0), (.iconst 0, 0, 0, 0), (.putfield 25, 6, 4, 1), (.aload_n 0, 0, 0, 0), (.iconst 0, 0, 0, 0), (.putfield 28, 6, 5, 0), (.aload_n 0, 0, 0, 0), (.iconst 0, 0, 0, 0), (.putfield 32, 6, 6, 0), (.return_, 0, 0, 0)]
def bk_42_0 : List mIns := [(.aload_n 0, 0, 0, 0), (.invokevirtual 51, 41, 1, 0), (.aload_n 0, 0, 0, 0), (.iconst 1, 0, 0, 1), (.putfield 21, 6, 3, 1), (.aload_n 0, 0, 0, 0), (.iconst 0, 0, 0, 0), (.sipush 5000, 0, 0, 5000), (.iconst (-1), 0, 0, (-1)), (.invokevirtual 54, 45, 4, 0), (.return_, 0, 0, 0)]
def bk_43_0 : List mIns := [(.aload_n 0, 0, 0, 0), (.getfield 28, 6, 5, 0), (.bipush 30, 0, 0, 30), (.if_icmp .ge 26, 32, 0, 0), (.aload_n 0, 0, 0, 0), (.dup, 0, 0, 0), (.getfield 28, 6, 5, 0), (.iconst 1, 0, 0, 1), (.iadd, 0, 0, 0), (.putfield 28, 6, 5, 0), (.aload_n 0, 0, 0, 0), (.aload_n 0, 0, 0, 0), (.getfield 28, 6, 5, 0), (.iload_n 1, 1, 0, 0), (.invokestatic 58, 85, 1, 0), (.iload_n 1, 1, 0, 0), (.invokevirtual 54, 45, 4, 0), (.nop, 32, 0, 0)]
def bk_43_32 : List mIns := [(.return_, 0, 0, 0)]
def bk_44_0 : List mIns := [(.aload_n 0, 0, 0, 0), (.iconst 1, 0, 0, 1), (.putfield 25, 6, 4, 1), (.aload_n 0, 0, 0, 0), (.aload_n 0, 0, 0, 0), (.getfield 28, 6, 5, 0), (.iconst 1, 0, 0, 1), (.iadd, 0, 0, 0), (.sipush 5000, 0, 0, 5000), (.iconst (-1), 0, 0, (-1)), (.invokevirtual 54, 45, 4, 0), (.return_, 0, 0, 0)]
def bk_45_0 : List mIns := [(.iload_n 1, 1, 0, 0), (.ifCond .lt 9, 10, 0, 0), (.iload_n 1, 1, 0, 0), (.bipush 32, 0, 0, 32), (.if_icmp .lt 4, 11, 0, 0), (.nop, 10, 0, 0)]
def bk_45_10 : List mIns := [(.return_, 0, 0, 0)]
def bk_45_11 : List mIns := [(.aload_n 0, 0, 0, 0), (.getfield 9, 6, 0, 2), (.iload_n 1, 1, 0, 0), (.iload_n 2, 2, 0, 0), (.iastore, 0, 0, 0), (.aload_n 0, 0, 0, 0), (.getfield 15, 6, 1, 2), (.iload_n 1, 1, 0, 0), (.iload_n 2, 2, 0, 0), (.iastore, 0, 0, 0), (.aload_n 0, 0, 0, 0), (.getfield 18, 6, 2, 2), (.iload_n 1, 1, 0, 0), (.iload_n 3, 3, 0, 0), (.iastore, 0, 0, 0), (.return_, 0, 0, 0)]
def bk_46_0 : List mIns := [(.aload_n 0, 0, 0, 0), (.getfield 9, 6, 0, 2), (.iload_n 3, 3, 0, 0), (.aload_n 1, 1, 0, 0), (.getfield 9, 6, 0, 2), (.iload_n 2, 2, 0, 0), (.iaload, 0, 0, 0), (.iastore, 0, 0, 0), (.aload_n 0, 0, 0, 0), (.getfield 15, 6, 1, 2), (.iload_n 3, 3, 0, 0), (.aload_n 1, 1, 0, 0), (.getfield 15, 6, 1, 2), (.iload_n 2, 2, 0, 0), (.iaload, 0, 0, 0), (.iastore, 0, 0, 0), (.aload_n 0, 0, 0, 0), (.getfield 18, 6, 2, 2), (.iload_n 3, 3, 0, 0), (.aload_n 1, 1, 0, 0), (.getfield 18, 6, 2, 2), (.iload_n 2, 2, 0, 0), (.iaload, 0, 0, 0), (.iastore, 0, 0, 0), (.return_, 0, 0, 0)]
def bk_47_0 : List mIns := [(.aload_n 0, 0, 0, 0), (.invokevirtual 62, 42, 1, 0), (.aload_n 0, 0, 0, 0), (.aload_n 1, 1, 0, 0), (.iload_n 2, 2, 0, 0), (.invokevirtual 65, 49, 3, 0), (.aload_n 1, 1, 0, 0), (.iload_n 2, 2, 0, 0), (.putfield 28, 6, 5, 0), (.aload_n 1, 1, 0, 0), (.iconst 0, 0, 0, 0), (.putfield 25, 6, 4, 1), (.return_, 0, 0, 0)]
def bk_48_0 : List mIns := [(.aload_n 0, 0, 0, 0), (.aload_n 1, 1, 0, 0), (.iconst 0, 0, 0, 0), (.invokevirtual 65, 49, 3, 0), (.aload_n 1, 1, 0, 0), (.invokevirtual 51, 41, 1, 0), (.return_, 0, 0, 0)]
def bk_49_0 : List mIns := [(.aload_n 1, 1, 0, 0), (.invokevirtual 47, 37, 1, 0), (.istore_n 3, 3, 0, 0), (.aload_n 0, 0, 0, 0), (.getfield 28, 6, 5, 0), (.iconst 1, 0, 0, 1), (.iadd, 0, 0, 0), (.istore 4, 4, 0, 0), (.iload_n 2, 2, 0, 0), (.iconst 1, 0, 0, 1), (.iadd, 0, 0, 0), (.istore 5, 5, 0, 0), (.nop, 18, 0, 0)]
def bk_49_18 : List mIns := [(.iload 5, 5, 0, 0), (.iload_n 3, 3, 0, 0), (.if_icmp .ge 28, 49, 0, 0), (.iload 4, 4, 0, 0), (.bipush 32, 0, 0, 32), (.if_icmp .ge 21, 49, 0, 0), (.aload_n 0, 0, 0, 0), (.aload_n 1, 1, 0, 0), (.iload 5, 5, 0, 0), (.iload 4, 4, 0, 0), (.invokevirtual 69, 46, 4, 0), (.iinc 4 1, 4, 0, 1), (.iinc 5 1, 5, 0, 1), (.goto (-28), 18, 0, 0)]
def bk_49_49 : List mIns := [(.aload_n 0, 0, 0, 0), (.dup, 0, 0, 0), (.getfield 28, 6, 5, 0), (.aload_n 1, 1, 0, 0), (.getfield 28, 6, 5, 0), (.iload_n 2, 2, 0, 0), (.isub, 0, 0, 0), (.iadd, 0, 0, 0), (.putfield 28, 6, 5, 0), (.aload_n 0, 0, 0, 0), (.aload_n 1, 1, 0, 0), (.getfield 25, 6, 4, 1), (.putfield 25, 6, 4, 1), (.return_, 0, 0, 0)]
def bk_50_0 : List mIns := [(.aload_n 0, 0, 0, 0), (.iconst 0, 0, 0, 0), (.sipush 5000, 0, 0, 5000), (.iconst (-1), 0, 0, (-1)), (.invokevirtual 54, 45, 4, 0), (.iconst 0, 0, 0, 0), (.istore_n 2, 2, 0, 0), (.nop, 11, 0, 0)]
def bk_50_11 : List mIns := [(.iload_n 2, 2, 0, 0), (.aload_n 0, 0, 0, 0), (.getfield 28, 6, 5, 0), (.if_icmp .ge 36, 52, 0, 0), (.iload_n 2, 2, 0, 0), (.aload_n 1, 1, 0, 0), (.arraylength, 0, 0, 0), (.if_icmp .ge 30, 52, 0, 0), (.aload_n 0, 0, 0, 0), (.iload_n 2, 2, 0, 0), (.iconst 1, 0, 0, 1), (.iadd, 0, 0, 0), (.aload_n 1, 1, 0, 0), (.iload_n 2, 2, 0, 0), (.iaload, 0, 0, 0), (.invokestatic 58, 85, 1, 0), (.aload_n 0, 0, 0, 0), (.getfield 18, 6, 2, 2), (.iload_n 2, 2, 0, 0), (.iconst 1, 0, 0, 1), (.iadd, 0, 0, 0), (.iaload, 0, 0, 0), (.invokevirtual 54, 45, 4, 0), (.iinc 2 1, 2, 0, 1), (.goto (-38), 11, 0, 0)]
def bk_50_52 : List mIns := [(.aload_n 0, 0, 0, 0), (.getfield 25, 6, 4, 1), (.ifCond .eq 7, 63, 0, 0), (.aload_n 0, 0, 0, 0), (.invokevirtual 73, 44, 1, 0), (.nop, 63, 0, 0)]
def bk_50_63 : List mIns := [(.aload_n 0, 0, 0, 0), (.iconst 0, 0, 0, 0), (.putfield 32, 6, 6, 0), (.return_, 0, 0, 0)]
def bk_51_0 : List mIns := [(.aload_n 0, 0, 0, 0), (.invokevirtual 47, 37, 1, 0), (.istore 4, 4, 0, 0), (.iconst (-1), 0, 0, (-1)), (.istore 5, 5, 0, 0), (.iconst 0, 0, 0, 0), (.istore 6, 6, 0, 0), (.nop, 12, 0, 0)]
def bk_51_12 : List mIns := [(.iload 6, 6, 0, 0), (.iload 4, 4, 0, 0), (.if_icmp .ge 72, 88, 0, 0), (.aload_n 0, 0, 0, 0), (.getfield 9, 6, 0, 2), (.iload 6, 6, 0, 0), (.dup2, 0, 0, 0), (.iaload, 0, 0, 0), (.aload_n 0, 0, 0, 0), (.getfield 9, 6, 0, 2), (.iload 6, 6, 0, 0), (.iaload, 0, 0, 0), (.iload_n 1, 1, 0, 0), (.iload_n 3, 3, 0, 0), (.iload 6, 6, 0, 0), (.iload 4, 4, 0, 0), (.invokestatic 76, 86, 4, 0), (.imul, 0, 0, 0), (.sipush 10000, 0, 0, 10000), (.idiv, 0, 0, 0), (.iadd, 0, 0, 0), (.iastore, 0, 0, 0), (.iload 5, 5, 0, 0), (.iconst (-1), 0, 0, (-1)), (.if_icmp .ne 29, 82, 0, 0), (.aload_n 0, 0, 0, 0), (.getfield 9, 6, 0, 2), (.iload 6, 6, 0, 0), (.iaload, 0, 0, 0), (.bipush 100, 0, 0, 100), (.imul, 0, 0, 0), (.aload_n 0, 0, 0, 0), (.getfield 15, 6, 1, 2), (.iload 6, 6, 0, 0), (.iaload, 0, 0, 0), (.iload_n 2, 2, 0, 0), (.imul, 0, 0, 0), (.if_icmp .le 7, 82, 0, 0), (.iload 6, 6, 0, 0), (.istore 5, 5, 0, 0), (.nop, 82, 0, 0)]
def bk_51_82 : List mIns := [(.iinc 6 1, 6, 0, 1), (.goto (-73), 12, 0, 0)]
def bk_51_88 : List mIns := [(.iload 5, 5, 0, 0), (.ireturn, 0, 0, 0)]
def bk_52_0 : List mIns := [(.iload_n 1, 1, 0, 0), (.ifCond .gt 8, 9, 0, 0), (.aload_n 0, 0, 0, 0), (.invokevirtual 51, 41, 1, 0), (.return_, 0, 0, 0)]
def bk_52_9 : List mIns := [(.aload_n 0, 0, 0, 0), (.aload_n 0, 0, 0, 0), (.getfield 28, 6, 5, 0), (.iload_n 1, 1, 0, 0), (.iconst 1, 0, 0, 1), (.isub, 0, 0, 0), (.invokestatic 41, 0, 0, 1), (.putfield 28, 6, 5, 0), (.aload_n 0, 0, 0, 0), (.iconst 0, 0, 0, 0), (.putfield 25, 6, 4, 1), (.return_, 0, 0, 0)]
def bk_53_0 : List mIns := [(.aload_n 0, 0, 0, 0), (.aload_n 0, 0, 0, 0), (.getfield 9, 6, 0, 2), (.invokevirtual 80, 55, 2, 0), (.ireturn, 0, 0, 0)]
def bk_54_0 : List mIns := [(.aload_n 0, 0, 0, 0), (.aload_n 0, 0, 0, 0), (.getfield 15, 6, 1, 2), (.invokevirtual 80, 55, 2, 0), (.ireturn, 0, 0, 0)]
def bk_55_0 : List mIns := [(.iconst 0, 0, 0, 0), (.istore_n 2, 2, 0, 0), (.aload_n 0, 0, 0, 0), (.invokevirtual 47, 37, 1, 0), (.istore_n 3, 3, 0, 0), (.iconst 0, 0, 0, 0), (.istore 4, 4, 0, 0), (.nop, 10, 0, 0)]
def bk_55_10 : List mIns := [(.iload 4, 4, 0, 0), (.iload_n 3, 3, 0, 0), (.if_icmp .ge 23, 36, 0, 0), (.iload 4, 4, 0, 0), (.aload_n 1, 1, 0, 0), (.arraylength, 0, 0, 0), (.if_icmp .ge 16, 36, 0, 0), (.iload_n 2, 2, 0, 0), (.aload_n 1, 1, 0, 0), (.iload 4, 4, 0, 0), (.iaload, 0, 0, 0), (.iadd, 0, 0, 0), (.istore_n 2, 2, 0, 0), (.iinc 4 1, 4, 0, 1), (.goto (-23), 10, 0, 0)]
def bk_55_36 : List mIns := [(.iload_n 2, 2, 0, 0), (.ireturn, 0, 0, 0)]
def bk_56_0 : List mIns := [(.iconst 0, 0, 0, 0), (.istore_n 1, 1, 0, 0), (.aload_n 0, 0, 0, 0), (.invokevirtual 47, 37, 1, 0), (.istore_n 2, 2, 0, 0), (.iconst 1, 0, 0, 1), (.istore_n 3, 3, 0, 0), (.nop, 9, 0, 0)]
def bk_56_9 : List mIns := [(.iload_n 3, 3, 0, 0), (.iload_n 2, 2, 0, 0), (.if_icmp .ge 24, 35, 0, 0), (.aload_n 0, 0, 0, 0), (.iload_n 3, 3, 0, 0), (.invokevirtual 84, 57, 2, 0), (.aload_n 0, 0, 0, 0), (.iload_n 1, 1, 0, 0), (.invokevirtual 84, 57, 2, 0), (.if_icmp .le 5, 29, 0, 0), (.iload_n 3, 3, 0, 0), (.istore_n 1, 1, 0, 0), (.nop, 29, 0, 0)]
def bk_56_29 : List mIns := [(.iinc 3 1, 3, 0, 1), (.goto (-23), 9, 0, 0)]
def bk_56_35 : List mIns := [(.iload_n 1, 1, 0, 0), (.ireturn, 0, 0, 0)]
def bk_57_0 : List mIns := [(.aload_n 0, 0, 0, 0), (.iload_n 1, 1, 0, 0), (.invokevirtual 87, 38, 2, 0), (.ifCond .eq 12, 17, 0, 0), (.aload_n 0, 0, 0, 0), (.getfield 15, 6, 1, 2), (.iload_n 1, 1, 0, 0), (.iaload, 0, 0, 0), (.ifCond .gt 5, 19, 0, 0), (.nop, 17, 0, 0)]
def bk_57_17 : List mIns := [(.iconst 0, 0, 0, 0), (.ireturn, 0, 0, 0)]
def bk_57_19 : List mIns := [(.aload_n 0, 0, 0, 0), (.getfield 9, 6, 0, 2), (.iload_n 1, 1, 0, 0), (.iaload, 0, 0, 0), (.sipush 1000, 0, 0, 1000), (.imul, 0, 0, 0), (.aload_n 0, 0, 0, 0), (.getfield 15, 6, 1, 2), (.iload_n 1, 1, 0, 0), (.iaload, 0, 0, 0), (.idiv, 0, 0, 0), (.ireturn, 0, 0, 0)]
def bk_58_0 : List mIns := [(.aload_n 0, 0, 0, 0), (.invokespecial 3, 0, 0, 0), (.aload_n 0, 0, 0, 0), (.new 9, 4, 9, 0), (.dup, 0, 0, 0), (.invokespecial 11, 24, 1, 1), (.putfield 12, 7, 0, 5), (.aload_n 0, 0, 0, 0), (.new 16, 1, 2, 0), (.dup, 0, 0, 0), (.invokespecial 18, 8, 1, 1), (.putfield 19, 7, 1, 5), (.aload_n 0, 0, 0, 0), (.new 9, 4, 9, 0), (.dup, 0, 0, 0), (.invokespecial 11, 24, 1, 1), (.putfield 23, 7, 2, 5), (.aload_n 0, 0, 0, 0), (.iconst 0, 0, 0, 0), (.putfield 26, 7, 3, 1), (.aload_n 0, 0, 0, 0), (.new 30, 5, 2, 0), (.dup, 0, 0, 0), (.invokespecial 32, 31, 1, 1), (.putfield 33, 7, 4, 5), (.aload_n 0, 0, 0, 0), (.new 37, 0, 6, 0), (.dup, 0, 0, 0), (.invokespecial 39, 0, 1, 1), (.putfield 40, 7, 5, 5), (.aload_n 0, 0, 0, 0), (.new 44, 3, 4, 0), (.dup, 0, 0, 0), (.invokespecial 46, 17, 1, 1), (.putfield 47, 7, 6, 5), (.aload_n 0, 0, 0, 0), (.new 44, 3, 4, 0), (.dup, 0, 0, 0), (.invokespecial 46, 17, 1, 1), (.putfield 51, 7, 7, 5), (.aload_n 0, 0, 0, 0), (.new 54, 6, 7, 0), (.dup, 0, 0, 0), (.invokespecial 56, 35, 1, 1), (.putfield 57, 7, 8, 5), (.return_, 0, 0, 0)]
def bk_59_0 : List mIns := [(.iload_n 1, 1, 0, 0), (.ifCond .lt 8, 9, 0, 0), (.iload_n 1, 1, 0, 0), (.iconst 2, 0, 0, 2), (.if_icmp .le 6, 12, 0, 0), (.nop, 9, 0, 0)]
def bk_59_9 : List mIns := [(.bipush (-2), 0, 0, (-2)), (.ireturn, 0, 0, 0)]
def bk_59_12 : List mIns := [(.aload_n 0, 0, 0, 0), (.getfield 12, 7, 0, 2), (.getfield 61, 4, 2, 0), (.istore_n 2, 2, 0, 0), (.iload_n 1, 1, 0, 0), (.iload_n 2, 2, 0, 0), (.if_icmp .ne 6, 28, 0, 0), (.bipush (-5), 0, 0, (-5)), (.ireturn, 0, 0, 0)]
def bk_59_28 : List mIns := [(.aload_n 0, 0, 0, 0), (.getfield 19, 7, 1, 2), (.aload_n 0, 0, 0, 0), (.getfield 12, 7, 0, 2), (.invokevirtual 65, 9, 2, 0), (.aload_n 0, 0, 0, 0), (.getfield 12, 7, 0, 2), (.iload_n 1, 1, 0, 0), (.putfield 61, 4, 2, 0), (.iload_n 2, 2, 0, 0), (.ireturn, 0, 0, 0)]
def bk_60_0 : List mIns := [(.iload_n 1, 1, 0, 0), (.bipush 101, 0, 0, 101), (.if_icmp .lt 10, 13, 0, 0), (.iload_n 1, 1, 0, 0), (.sipush 200, 0, 0, 200), (.if_icmp .le 6, 16, 0, 0), (.nop, 13, 0, 0)]
def bk_60_13 : List mIns := [(.bipush (-2), 0, 0, (-2)), (.ireturn, 0, 0, 0)]
def bk_60_16 : List mIns := [(.aload_n 0, 0, 0, 0), (.getfield 12, 7, 0, 2), (.getfield 69, 4, 3, 0), (.istore_n 2, 2, 0, 0), (.iload_n 1, 1, 0, 0), (.iload_n 2, 2, 0, 0), (.if_icmp .ne 6, 32, 0, 0), (.bipush (-5), 0, 0, (-5)), (.ireturn, 0, 0, 0)]
def bk_60_32 : List mIns := [(.aload_n 0, 0, 0, 0), (.getfield 19, 7, 1, 2), (.aload_n 0, 0, 0, 0), (.getfield 12, 7, 0, 2), (.invokevirtual 65, 9, 2, 0), (.aload_n 0, 0, 0, 0), (.getfield 12, 7, 0, 2), (.iload_n 1, 1, 0, 0), (.putfield 69, 4, 3, 0), (.iload_n 2, 2, 0, 0), (.ireturn, 0, 0, 0)]
def bk_61_0 : List mIns := [(.iload_n 1, 1, 0, 0), (.invokestatic 72, 81, 1, 0), (.ifCond .ne 5, 9, 0, 0), (.iconst (-1), 0, 0, (-1)), (.ireturn, 0, 0, 0)]
def bk_61_9 : List mIns := [(.iload_n 2, 2, 0, 0), (.invokestatic 76, 82, 1, 0), (.ifCond .eq 14, 27, 0, 0), (.iload_n 3, 3, 0, 0), (.iconst 1, 0, 0, 1), (.if_icmp .lt 9, 27, 0, 0), (.iload_n 3, 3, 0, 0), (.bipush 30, 0, 0, 30), (.if_icmp .le 6, 30, 0, 0), (.nop, 27, 0, 0)]
def bk_61_27 : List mIns := [(.bipush (-2), 0, 0, (-2)), (.ireturn, 0, 0, 0)]
def bk_61_30 : List mIns := [(.aload_n 0, 0, 0, 0), (.getfield 12, 7, 0, 2), (.getfield 79, 4, 0, 2), (.iload_n 1, 1, 0, 0), (.aaload, 4, 6, 0), (.getfield 83, 6, 3, 1), (.ifCond .ne 6, 48, 0, 0), (.bipush (-4), 0, 0, (-4)), (.ireturn, 0, 0, 0)]
def bk_61_48 : List mIns := [(.aload_n 0, 0, 0, 0), (.getfield 19, 7, 1, 2), (.aload_n 0, 0, 0, 0), (.getfield 12, 7, 0, 2), (.invokevirtual 65, 9, 2, 0), (.aload_n 0, 0, 0, 0), (.getfield 12, 7, 0, 2), (.iload_n 1, 1, 0, 0), (.iload_n 2, 2, 0, 0), (.iload_n 3, 3, 0, 0), (.invokevirtual 86, 29, 4, 0), (.ireturn, 0, 0, 0)]
def bk_62_0 : List mIns := [(.iload_n 1, 1, 0, 0), (.invokestatic 72, 81, 1, 0), (.ifCond .eq 19, 23, 0, 0), (.aload_n 0, 0, 0, 0), (.getfield 12, 7, 0, 2), (.getfield 79, 4, 0, 2), (.iload_n 1, 1, 0, 0), (.aaload, 4, 6, 0), (.iload_n 2, 2, 0, 0), (.invokevirtual 90, 39, 2, 0), (.ifCond .ne 5, 25, 0, 0), (.nop, 23, 0, 0)]
def bk_62_23 : List mIns := [(.iconst (-1), 0, 0, (-1)), (.ireturn, 0, 0, 0)]
def bk_62_25 : List mIns := [(.aload_n 0, 0, 0, 0), (.getfield 12, 7, 0, 2), (.invokevirtual 93, 28, 1, 0), (.istore_n 3, 3, 0, 0), (.iload_n 3, 3, 0, 0), (.invokestatic 72, 81, 1, 0), (.ifCond .ne 6, 43, 0, 0), (.bipush (-3), 0, 0, (-3)), (.ireturn, 0, 0, 0)]
def bk_62_43 : List mIns := [(.aload_n 0, 0, 0, 0), (.getfield 19, 7, 1, 2), (.aload_n 0, 0, 0, 0), (.getfield 12, 7, 0, 2), (.invokevirtual 65, 9, 2, 0), (.aload_n 0, 0, 0, 0), (.getfield 12, 7, 0, 2), (.getfield 79, 4, 0, 2), (.iload_n 3, 3, 0, 0), (.aaload, 4, 6, 0), (.aload_n 0, 0, 0, 0), (.getfield 12, 7, 0, 2), (.getfield 79, 4, 0, 2), (.iload_n 1, 1, 0, 0), (.aaload, 4, 6, 0), (.iload_n 2, 2, 0, 0), (.invokevirtual 97, 47, 3, 0), (.aload_n 0, 0, 0, 0), (.getfield 12, 7, 0, 2), (.dup, 0, 0, 0), (.getfield 101, 4, 5, 0), (.sipush 5000, 0, 0, 5000), (.iadd, 0, 0, 0), (.putfield 101, 4, 5, 0), (.aload_n 0, 0, 0, 0), (.getfield 12, 7, 0, 2), (.getfield 104, 4, 1, 2), (.iconst 3, 0, 0, 3), (.iload_n 1, 1, 0, 0), (.iload_n 3, 3, 0, 0), (.invokevirtual 108, 14, 4, 0), (.iload_n 3, 3, 0, 0), (.ireturn, 0, 0, 0)]
def bk_63_0 : List mIns := [(.iload_n 1, 1, 0, 0), (.invokestatic 72, 81, 1, 0), (.ifCond .eq 10, 14, 0, 0), (.iload_n 2, 2, 0, 0), (.invokestatic 72, 81, 1, 0), (.ifCond .ne 5, 16, 0, 0), (.nop, 14, 0, 0)]
def bk_63_14 : List mIns := [(.iconst (-1), 0, 0, (-1)), (.ireturn, 0, 0, 0)]
def bk_63_16 : List mIns := [(.iload_n 1, 1, 0, 0), (.iload_n 2, 2, 0, 0), (.if_icmp .ne 6, 24, 0, 0), (.bipush (-2), 0, 0, (-2)), (.ireturn, 0, 0, 0)]
def bk_63_24 : List mIns := [(.aload_n 0, 0, 0, 0), (.getfield 12, 7, 0, 2), (.getfield 79, 4, 0, 2), (.iload_n 1, 1, 0, 0), (.aaload, 4, 6, 0), (.astore_n 3, 3, 0, 0), (.aload_n 0, 0, 0, 0), (.getfield 12, 7, 0, 2), (.getfield 79, 4, 0, 2), (.iload_n 2, 2, 0, 0), (.aaload, 4, 6, 0), (.astore 4, 4, 0, 0), (.aload_n 3, 3, 0, 0), (.getfield 83, 6, 3, 1), (.ifCond .eq 11, 60, 0, 0), (.aload 4, 4, 0, 0), (.getfield 83, 6, 3, 1), (.ifCond .ne 6, 63, 0, 0), (.nop, 60, 0, 0)]
def bk_63_60 : List mIns := [(.bipush (-4), 0, 0, (-4)), (.ireturn, 0, 0, 0)]
def bk_63_63 : List mIns := [(.aload_n 3, 3, 0, 0), (.getfield 114, 6, 5, 0), (.aload 4, 4, 0, 0), (.getfield 114, 6, 5, 0), (.iadd, 0, 0, 0), (.bipush 30, 0, 0, 30), (.if_icmp .le 6, 81, 0, 0), (.bipush (-3), 0, 0, (-3)), (.ireturn, 0, 0, 0)]
def bk_63_81 : List mIns := [(.aload_n 0, 0, 0, 0), (.getfield 19, 7, 1, 2), (.aload_n 0, 0, 0, 0), (.getfield 12, 7, 0, 2), (.invokevirtual 65, 9, 2, 0), (.aload_n 3, 3, 0, 0), (.aload 4, 4, 0, 0), (.invokevirtual 117, 48, 2, 0), (.aload_n 0, 0, 0, 0), (.getfield 12, 7, 0, 2), (.getfield 104, 4, 1, 2), (.iconst 4, 0, 0, 4), (.iload_n 1, 1, 0, 0), (.aload_n 3, 3, 0, 0), (.getfield 114, 6, 5, 0), (.invokevirtual 108, 14, 4, 0), (.aload_n 3, 3, 0, 0), (.getfield 114, 6, 5, 0), (.ireturn, 0, 0, 0)]
def bk_64_0 : List mIns := [(.iload_n 1, 1, 0, 0), (.invokestatic 72, 81, 1, 0), (.ifCond .ne 5, 9, 0, 0), (.iconst (-1), 0, 0, (-1)), (.ireturn, 0, 0, 0)]
def bk_64_9 : List mIns := [(.aload_n 0, 0, 0, 0), (.getfield 12, 7, 0, 2), (.getfield 79, 4, 0, 2), (.iload_n 1, 1, 0, 0), (.aaload, 4, 6, 0), (.astore_n 2, 2, 0, 0), (.aload_n 2, 2, 0, 0), (.getfield 83, 6, 3, 1), (.ifCond .ne 6, 29, 0, 0), (.bipush (-4), 0, 0, (-4)), (.ireturn, 0, 0, 0)]
def bk_64_29 : List mIns := [(.aload_n 2, 2, 0, 0), (.getfield 121, 6, 4, 1), (.ifCond .eq 6, 39, 0, 0), (.bipush (-5), 0, 0, (-5)), (.ireturn, 0, 0, 0)]
def bk_64_39 : List mIns := [(.aload_n 0, 0, 0, 0), (.getfield 19, 7, 1, 2), (.aload_n 0, 0, 0, 0), (.getfield 12, 7, 0, 2), (.invokevirtual 65, 9, 2, 0), (.aload_n 2, 2, 0, 0), (.invokevirtual 124, 44, 1, 0), (.aload_n 0, 0, 0, 0), (.getfield 12, 7, 0, 2), (.dup, 0, 0, 0), (.getfield 101, 4, 5, 0), (.sipush 5000, 0, 0, 5000), (.iadd, 0, 0, 0), (.putfield 101, 4, 5, 0), (.aload_n 0, 0, 0, 0), (.getfield 12, 7, 0, 2), (.getfield 104, 4, 1, 2), (.iconst 5, 0, 0, 5), (.iload_n 1, 1, 0, 0), (.aload_n 2, 2, 0, 0), (.getfield 114, 6, 5, 0), (.invokevirtual 108, 14, 4, 0), (.aload_n 2, 2, 0, 0), (.getfield 114, 6, 5, 0), (.ireturn, 0, 0, 0)]
def bk_65_0 : List mIns := [(.iload_n 1, 1, 0, 0), (.invokestatic 72, 81, 1, 0), (.ifCond .ne 5, 9, 0, 0), (.iconst (-1), 0, 0, (-1)), (.ireturn, 0, 0, 0)]
def bk_65_9 : List mIns := [(.iload_n 2, 2, 0, 0), (.invokestatic 127, 83, 1, 0), (.ifCond .ne 6, 19, 0, 0), (.bipush (-2), 0, 0, (-2)), (.ireturn, 0, 0, 0)]
def bk_65_19 : List mIns := [(.aload_n 0, 0, 0, 0), (.getfield 12, 7, 0, 2), (.getfield 79, 4, 0, 2), (.iload_n 1, 1, 0, 0), (.aaload, 4, 6, 0), (.astore_n 3, 3, 0, 0), (.aload_n 3, 3, 0, 0), (.iload_n 2, 2, 0, 0), (.invokevirtual 130, 40, 2, 0), (.ifCond .ne 6, 40, 0, 0), (.bipush (-4), 0, 0, (-4)), (.ireturn, 0, 0, 0)]
def bk_65_40 : List mIns := [(.aload_n 0, 0, 0, 0), (.getfield 47, 7, 6, 2), (.aload_n 3, 3, 0, 0), (.iload_n 2, 2, 0, 0), (.invokevirtual 133, 18, 3, 0), (.aload_n 0, 0, 0, 0), (.getfield 47, 7, 6, 2), (.getfield 136, 3, 2, 0), (.ifCond .le 6, 62, 0, 0), (.bipush (-4), 0, 0, (-4)), (.ireturn, 0, 0, 0)]
def bk_65_62 : List mIns := [(.aload_n 0, 0, 0, 0), (.getfield 19, 7, 1, 2), (.aload_n 0, 0, 0, 0), (.getfield 12, 7, 0, 2), (.invokevirtual 65, 9, 2, 0), (.aload_n 3, 3, 0, 0), (.aload_n 0, 0, 0, 0), (.getfield 47, 7, 6, 2), (.getfield 139, 3, 0, 2), (.invokevirtual 143, 50, 2, 0), (.aload_n 0, 0, 0, 0), (.getfield 12, 7, 0, 2), (.dup, 0, 0, 0), (.getfield 101, 4, 5, 0), (.aload_n 3, 3, 0, 0), (.invokevirtual 147, 54, 1, 0), (.iadd, 0, 0, 0), (.putfield 101, 4, 5, 0), (.aload_n 0, 0, 0, 0), (.getfield 12, 7, 0, 2), (.getfield 104, 4, 1, 2), (.bipush 6, 0, 0, 6), (.iload_n 1, 1, 0, 0), (.iload_n 2, 2, 0, 0), (.invokevirtual 108, 14, 4, 0), (.aload_n 0, 0, 0, 0), (.getfield 47, 7, 6, 2), (.getfield 150, 3, 1, 0), (.ireturn, 0, 0, 0)]
def bk_66_0 : List mIns := [(.aload_n 0, 0, 0, 0), (.getfield 33, 7, 4, 2), (.iload_n 1, 1, 0, 0), (.invokevirtual 153, 32, 2, 0), (.ifCond .ne 6, 14, 0, 0), (.bipush (-3), 0, 0, (-3)), (.ireturn, 0, 0, 0)]
def bk_66_14 : List mIns := [(.aload_n 0, 0, 0, 0), (.getfield 33, 7, 4, 2), (.getfield 156, 5, 1, 0), (.ireturn, 0, 0, 0)]
def bk_67_0 : List mIns := [(.aload_n 0, 0, 0, 0), (.getfield 33, 7, 4, 2), (.getfield 156, 5, 1, 0), (.istore_n 1, 1, 0, 0), (.aload_n 0, 0, 0, 0), (.getfield 33, 7, 4, 2), (.iconst 0, 0, 0, 0), (.putfield 156, 5, 1, 0), (.iload_n 1, 1, 0, 0), (.ireturn, 0, 0, 0)]
def bk_68_0 : List mIns := [(.aload_n 0, 0, 0, 0), (.getfield 40, 7, 5, 2), (.aload_n 0, 0, 0, 0), (.getfield 33, 7, 4, 2), (.invokevirtual 159, 1, 2, 0), (.aload_n 0, 0, 0, 0), (.getfield 40, 7, 5, 2), (.getfield 163, 0, 4, 0), (.iconst (-1), 0, 0, (-1)), (.if_icmp .eq 14, 33, 0, 0), (.bipush (-100), 0, 0, (-100)), (.aload_n 0, 0, 0, 0), (.getfield 40, 7, 5, 2), (.getfield 163, 0, 4, 0), (.isub, 0, 0, 0), (.ireturn, 0, 0, 0)]
def bk_68_33 : List mIns := [(.aload_n 0, 0, 0, 0), (.getfield 40, 7, 5, 2), (.getfield 166, 0, 0, 0), (.tableswitch 132 1 5 #[36, 62, 82, 101, 120], 40, 36, 0)]
def bk_68_76 : List mIns := [(.aload_n 0, 0, 0, 0), (.aload_n 0, 0, 0, 0), (.getfield 40, 7, 5, 2), (.getfield 169, 0, 1, 0), (.aload_n 0, 0, 0, 0), (.getfield 40, 7, 5, 2), (.getfield 172, 0, 3, 0), (.aload_n 0, 0, 0, 0), (.getfield 33, 7, 4, 2), (.getfield 156, 5, 1, 0), (.invokevirtual 175, 69, 4, 0), (.ireturn, 0, 0, 0)]
def bk_68_102 : List mIns := [(.aload_n 0, 0, 0, 0), (.aload_n 0, 0, 0, 0), (.getfield 40, 7, 5, 2), (.getfield 169, 0, 1, 0), (.aload_n 0, 0, 0, 0), (.getfield 40, 7, 5, 2), (.getfield 178, 0, 2, 0), (.iconst 1, 0, 0, 1), (.invokevirtual 181, 61, 4, 0), (.ireturn, 0, 0, 0)]
def bk_68_122 : List mIns := [(.aload_n 0, 0, 0, 0), (.aload_n 0, 0, 0, 0), (.getfield 40, 7, 5, 2), (.getfield 169, 0, 1, 0), (.aload_n 0, 0, 0, 0), (.getfield 40, 7, 5, 2), (.getfield 178, 0, 2, 0), (.invokevirtual 184, 62, 3, 0), (.ireturn, 0, 0, 0)]
def bk_68_141 : List mIns := [(.aload_n 0, 0, 0, 0), (.aload_n 0, 0, 0, 0), (.getfield 40, 7, 5, 2), (.getfield 169, 0, 1, 0), (.aload_n 0, 0, 0, 0), (.getfield 40, 7, 5, 2), (.getfield 178, 0, 2, 0), (.invokevirtual 188, 63, 3, 0), (.ireturn, 0, 0, 0)]
def bk_68_160 : List mIns := [(.aload_n 0, 0, 0, 0), (.aload_n 0, 0, 0, 0), (.getfield 40, 7, 5, 2), (.getfield 169, 0, 1, 0), (.invokevirtual 191, 64, 2, 0), (.ireturn, 0, 0, 0)]
def bk_68_172 : List mIns := [(.aload_n 0, 0, 0, 0), (.aload_n 0, 0, 0, 0), (.getfield 40, 7, 5, 2), (.getfield 169, 0, 1, 0), (.aload_n 0, 0, 0, 0), (.getfield 40, 7, 5, 2), (.getfield 178, 0, 2, 0), (.invokevirtual 195, 65, 3, 0), (.ireturn, 0, 0, 0)]
def bk_69_0 : List mIns := [(.iload_n 1, 1, 0, 0), (.invokestatic 72, 81, 1, 0), (.ifCond .ne 5, 9, 0, 0), (.iconst (-1), 0, 0, (-1)), (.ireturn, 0, 0, 0)]
def bk_69_9 : List mIns := [(.aload_n 0, 0, 0, 0), (.getfield 12, 7, 0, 2), (.getfield 79, 4, 0, 2), (.iload_n 1, 1, 0, 0), (.aaload, 4, 6, 0), (.astore 4, 4, 0, 0), (.aload 4, 4, 0, 0), (.getfield 83, 6, 3, 1), (.ifCond .eq 6, 31, 0, 0), (.bipush (-4), 0, 0, (-4)), (.ireturn, 0, 0, 0)]
def bk_69_31 : List mIns := [(.iload_n 3, 3, 0, 0), (.iload_n 2, 2, 0, 0), (.isub, 0, 0, 0), (.bipush 30, 0, 0, 30), (.if_icmp .le 6, 42, 0, 0), (.bipush (-3), 0, 0, (-3)), (.ireturn, 0, 0, 0)]
def bk_69_42 : List mIns := [(.aload_n 0, 0, 0, 0), (.getfield 19, 7, 1, 2), (.aload_n 0, 0, 0, 0), (.getfield 12, 7, 0, 2), (.invokevirtual 65, 9, 2, 0), (.aload 4, 4, 0, 0), (.invokevirtual 198, 42, 1, 0), (.iload_n 2, 2, 0, 0), (.istore 5, 5, 0, 0), (.nop, 61, 0, 0)]
def bk_69_61 : List mIns := [(.iload 5, 5, 0, 0), (.iload_n 3, 3, 0, 0), (.if_icmp .ge 26, 90, 0, 0), (.aload 4, 4, 0, 0), (.aload_n 0, 0, 0, 0), (.getfield 33, 7, 4, 2), (.iload 5, 5, 0, 0), (.invokevirtual 201, 33, 2, 0), (.bipush 97, 0, 0, 97), (.isub, 0, 0, 0), (.invokevirtual 204, 43, 2, 0), (.iinc 5 1, 5, 0, 1), (.goto (-26), 61, 0, 0)]
def bk_69_90 : List mIns := [(.aload 4, 4, 0, 0), (.invokevirtual 124, 44, 1, 0), (.aload_n 0, 0, 0, 0), (.getfield 12, 7, 0, 2), (.dup, 0, 0, 0), (.getfield 101, 4, 5, 0), (.aload 4, 4, 0, 0), (.invokevirtual 147, 54, 1, 0), (.iadd, 0, 0, 0), (.putfield 101, 4, 5, 0), (.aload_n 0, 0, 0, 0), (.getfield 12, 7, 0, 2), (.getfield 104, 4, 1, 2), (.iconst 0, 0, 0, 0), (.iload_n 1, 1, 0, 0), (.aload 4, 4, 0, 0), (.getfield 114, 6, 5, 0), (.invokevirtual 108, 14, 4, 0), (.aload 4, 4, 0, 0), (.getfield 114, 6, 5, 0), (.ireturn, 0, 0, 0)]
def bk_70_0 : List mIns := [(.aload_n 0, 0, 0, 0), (.getfield 19, 7, 1, 2), (.aload_n 0, 0, 0, 0), (.getfield 12, 7, 0, 2), (.invokevirtual 208, 11, 2, 0), (.ifCond .ne 6, 17, 0, 0), (.bipush (-5), 0, 0, (-5)), (.ireturn, 0, 0, 0)]
def bk_70_17 : List mIns := [(.aload_n 0, 0, 0, 0), (.getfield 19, 7, 1, 2), (.getfield 212, 1, 1, 0), (.ireturn, 0, 0, 0)]
def bk_71_0 : List mIns := [(.aload_n 0, 0, 0, 0), (.getfield 26, 7, 3, 1), (.ifCond .ne 6, 10, 0, 0), (.bipush (-5), 0, 0, (-5)), (.ireturn, 0, 0, 0)]
def bk_71_10 : List mIns := [(.aload_n 0, 0, 0, 0), (.getfield 19, 7, 1, 2), (.aload_n 0, 0, 0, 0), (.getfield 12, 7, 0, 2), (.invokevirtual 65, 9, 2, 0), (.aload_n 0, 0, 0, 0), (.getfield 12, 7, 0, 2), (.aload_n 0, 0, 0, 0), (.getfield 23, 7, 2, 2), (.invokevirtual 213, 25, 2, 0), (.aload_n 0, 0, 0, 0), (.getfield 12, 7, 0, 2), (.invokevirtual 216, 26, 1, 0), (.ireturn, 0, 0, 0)]
def bk_72_0 : List mIns := [(.iload_n 1, 1, 0, 0), (.invokestatic 72, 81, 1, 0), (.ifCond .ne 5, 9, 0, 0), (.iconst (-1), 0, 0, (-1)), (.ireturn, 0, 0, 0)]
def bk_72_9 : List mIns := [(.iload_n 2, 2, 0, 0), (.ifCond .lt 9, 19, 0, 0), (.iload_n 2, 2, 0, 0), (.bipush 6, 0, 0, 6), (.if_icmp .le 6, 22, 0, 0), (.nop, 19, 0, 0)]
def bk_72_19 : List mIns := [(.bipush (-2), 0, 0, (-2)), (.ireturn, 0, 0, 0)]
def bk_72_22 : List mIns := [(.aload_n 0, 0, 0, 0), (.getfield 12, 7, 0, 2), (.getfield 79, 4, 0, 2), (.iload_n 1, 1, 0, 0), (.aaload, 4, 6, 0), (.astore_n 3, 3, 0, 0), (.aload_n 3, 3, 0, 0), (.getfield 83, 6, 3, 1), (.ifCond .ne 6, 42, 0, 0), (.bipush (-4), 0, 0, (-4)), (.ireturn, 0, 0, 0)]
def bk_72_42 : List mIns := [(.iload_n 2, 2, 0, 0), (.tableswitch 75 0 5 #[37, 42, 55, 60, 65, 70], 43, 37, 0)]
def bk_72_80 : List mIns := [(.aload_n 3, 3, 0, 0), (.getfield 114, 6, 5, 0), (.ireturn, 0, 0, 0)]
def bk_72_85 : List mIns := [(.aload_n 3, 3, 0, 0), (.getfield 121, 6, 4, 1), (.ifCond .eq 7, 96, 0, 0), (.iconst 1, 0, 0, 1), (.goto 4, 97, 0, 0)]
def bk_72_96 : List mIns := [(.iconst 0, 0, 0, 0), (.nop, 97, 0, 0)]
def bk_72_97 : List mIns := [(.ireturn, 0, 0, 0)]
def bk_72_98 : List mIns := [(.aload_n 3, 3, 0, 0), (.invokevirtual 219, 53, 1, 0), (.ireturn, 0, 0, 0)]
def bk_72_103 : List mIns := [(.aload_n 3, 3, 0, 0), (.invokevirtual 147, 54, 1, 0), (.ireturn, 0, 0, 0)]
def bk_72_108 : List mIns := [(.aload_n 3, 3, 0, 0), (.getfield 222, 6, 6, 0), (.ireturn, 0, 0, 0)]
def bk_72_113 : List mIns := [(.aload_n 3, 3, 0, 0), (.invokevirtual 225, 56, 1, 0), (.ireturn, 0, 0, 0)]
def bk_72_118 : List mIns := [(.aload_n 3, 3, 0, 0), (.aload_n 3, 3, 0, 0), (.invokevirtual 225, 56, 1, 0), (.invokevirtual 228, 57, 2, 0), (.ireturn, 0, 0, 0)]
def bk_73_0 : List mIns := [(.iload_n 1, 1, 0, 0), (.invokestatic 72, 81, 1, 0), (.ifCond .eq 19, 23, 0, 0), (.aload_n 0, 0, 0, 0), (.getfield 12, 7, 0, 2), (.getfield 79, 4, 0, 2), (.iload_n 1, 1, 0, 0), (.aaload, 4, 6, 0), (.iload_n 2, 2, 0, 0), (.invokevirtual 231, 38, 2, 0), (.ifCond .ne 5, 25, 0, 0), (.nop, 23, 0, 0)]
def bk_73_23 : List mIns := [(.iconst (-1), 0, 0, (-1)), (.ireturn, 0, 0, 0)]
def bk_73_25 : List mIns := [(.aload_n 0, 0, 0, 0), (.getfield 12, 7, 0, 2), (.getfield 79, 4, 0, 2), (.iload_n 1, 1, 0, 0), (.aaload, 4, 6, 0), (.astore 4, 4, 0, 0), (.iload_n 3, 3, 0, 0), (.tableswitch 93 0 3 #[31, 39, 47, 74], 37, 31, 0)]
def bk_73_68 : List mIns := [(.aload 4, 4, 0, 0), (.getfield 234, 6, 0, 2), (.iload_n 2, 2, 0, 0), (.iaload, 0, 0, 0), (.ireturn, 0, 0, 0)]
def bk_73_76 : List mIns := [(.aload 4, 4, 0, 0), (.getfield 237, 6, 1, 2), (.iload_n 2, 2, 0, 0), (.iaload, 0, 0, 0), (.ireturn, 0, 0, 0)]
def bk_73_84 : List mIns := [(.aload 4, 4, 0, 0), (.getfield 240, 6, 2, 2), (.iload_n 2, 2, 0, 0), (.iaload, 0, 0, 0), (.iconst (-1), 0, 0, (-1)), (.if_icmp .ne 8, 100, 0, 0), (.bipush (-5), 0, 0, (-5)), (.goto 13, 110, 0, 0)]
def bk_73_100 : List mIns := [(.bipush 97, 0, 0, 97), (.aload 4, 4, 0, 0), (.getfield 240, 6, 2, 2), (.iload_n 2, 2, 0, 0), (.iaload, 0, 0, 0), (.iadd, 0, 0, 0), (.nop, 110, 0, 0)]
def bk_73_110 : List mIns := [(.ireturn, 0, 0, 0)]
def bk_73_111 : List mIns := [(.aload_n 0, 0, 0, 0), (.getfield 12, 7, 0, 2), (.getfield 61, 4, 2, 0), (.bipush 9, 0, 0, 9), (.iload_n 2, 2, 0, 0), (.aload 4, 4, 0, 0), (.invokevirtual 243, 37, 1, 0), (.invokestatic 246, 86, 4, 0), (.ireturn, 0, 0, 0)]
def bk_73_130 : List mIns := [(.bipush (-2), 0, 0, (-2)), (.ireturn, 0, 0, 0)]
def bk_74_0 : List mIns := [(.iload_n 1, 1, 0, 0), (.invokestatic 72, 81, 1, 0), (.ifCond .eq 19, 23, 0, 0), (.aload_n 0, 0, 0, 0), (.getfield 12, 7, 0, 2), (.getfield 79, 4, 0, 2), (.iload_n 1, 1, 0, 0), (.aaload, 4, 6, 0), (.iload_n 3, 3, 0, 0), (.invokevirtual 90, 39, 2, 0), (.ifCond .ne 5, 25, 0, 0), (.nop, 23, 0, 0)]
def bk_74_23 : List mIns := [(.iconst (-1), 0, 0, (-1)), (.ireturn, 0, 0, 0)]
def bk_74_25 : List mIns := [(.iload_n 2, 2, 0, 0), (.invokestatic 127, 83, 1, 0), (.ifCond .ne 6, 35, 0, 0), (.bipush (-2), 0, 0, (-2)), (.ireturn, 0, 0, 0)]
def bk_74_35 : List mIns := [(.aload_n 0, 0, 0, 0), (.getfield 12, 7, 0, 2), (.getfield 79, 4, 0, 2), (.iload_n 1, 1, 0, 0), (.aaload, 4, 6, 0), (.astore 4, 4, 0, 0), (.aload 4, 4, 0, 0), (.iload_n 2, 2, 0, 0), (.invokevirtual 130, 40, 2, 0), (.ifCond .ne 6, 58, 0, 0), (.bipush (-4), 0, 0, (-4)), (.ireturn, 0, 0, 0)]
def bk_74_58 : List mIns := [(.aload_n 0, 0, 0, 0), (.getfield 47, 7, 6, 2), (.aload 4, 4, 0, 0), (.iload_n 2, 2, 0, 0), (.invokevirtual 133, 18, 3, 0), (.aload_n 0, 0, 0, 0), (.getfield 47, 7, 6, 2), (.getfield 139, 3, 0, 2), (.iload_n 3, 3, 0, 0), (.iaload, 0, 0, 0), (.istore 5, 5, 0, 0), (.iload 5, 5, 0, 0), (.iconst (-1), 0, 0, (-1)), (.if_icmp .ne 8, 90, 0, 0), (.bipush 63, 0, 0, 63), (.goto 8, 95, 0, 0)]
def bk_74_90 : List mIns := [(.bipush 97, 0, 0, 97), (.iload 5, 5, 0, 0), (.iadd, 0, 0, 0), (.nop, 95, 0, 0)]
def bk_74_95 : List mIns := [(.ireturn, 0, 0, 0)]
def bk_75_0 : List mIns := [(.iload_n 1, 1, 0, 0), (.invokestatic 72, 81, 1, 0), (.ifCond .ne 5, 9, 0, 0), (.iconst (-1), 0, 0, (-1)), (.ireturn, 0, 0, 0)]
def bk_75_9 : List mIns := [(.iload_n 2, 2, 0, 0), (.invokestatic 127, 83, 1, 0), (.ifCond .eq 12, 25, 0, 0), (.iload_n 3, 3, 0, 0), (.ifCond .lt 8, 25, 0, 0), (.iload_n 3, 3, 0, 0), (.iconst 2, 0, 0, 2), (.if_icmp .le 6, 28, 0, 0), (.nop, 25, 0, 0)]
def bk_75_25 : List mIns := [(.bipush (-2), 0, 0, (-2)), (.ireturn, 0, 0, 0)]
def bk_75_28 : List mIns := [(.aload_n 0, 0, 0, 0), (.getfield 12, 7, 0, 2), (.getfield 79, 4, 0, 2), (.iload_n 1, 1, 0, 0), (.aaload, 4, 6, 0), (.astore 4, 4, 0, 0), (.aload 4, 4, 0, 0), (.iload_n 2, 2, 0, 0), (.invokevirtual 130, 40, 2, 0), (.ifCond .ne 6, 51, 0, 0), (.bipush (-4), 0, 0, (-4)), (.ireturn, 0, 0, 0)]
def bk_75_51 : List mIns := [(.aload_n 0, 0, 0, 0), (.getfield 47, 7, 6, 2), (.aload 4, 4, 0, 0), (.iload_n 2, 2, 0, 0), (.invokevirtual 133, 18, 3, 0), (.iload_n 3, 3, 0, 0), (.ifCond .ne 11, 73, 0, 0), (.aload_n 0, 0, 0, 0), (.getfield 47, 7, 6, 2), (.getfield 150, 3, 1, 0), (.ireturn, 0, 0, 0)]
def bk_75_73 : List mIns := [(.iload_n 3, 3, 0, 0), (.iconst 1, 0, 0, 1), (.if_icmp .ne 11, 86, 0, 0), (.aload_n 0, 0, 0, 0), (.getfield 47, 7, 6, 2), (.getfield 136, 3, 2, 0), (.ireturn, 0, 0, 0)]
def bk_75_86 : List mIns := [(.aload_n 0, 0, 0, 0), (.getfield 47, 7, 6, 2), (.getfield 250, 3, 3, 0), (.iconst (-1), 0, 0, (-1)), (.if_icmp .ne 8, 102, 0, 0), (.bipush (-5), 0, 0, (-5)), (.goto 10, 109, 0, 0)]
def bk_75_102 : List mIns := [(.aload_n 0, 0, 0, 0), (.getfield 47, 7, 6, 2), (.getfield 250, 3, 3, 0), (.nop, 109, 0, 0)]
def bk_75_109 : List mIns := [(.ireturn, 0, 0, 0)]
def bk_76_0 : List mIns := [(.iload_n 1, 1, 0, 0), (.invokestatic 72, 81, 1, 0), (.ifCond .ne 5, 9, 0, 0), (.iconst (-1), 0, 0, (-1)), (.ireturn, 0, 0, 0)]
def bk_76_9 : List mIns := [(.aload_n 0, 0, 0, 0), (.getfield 12, 7, 0, 2), (.getfield 79, 4, 0, 2), (.iload_n 1, 1, 0, 0), (.aaload, 4, 6, 0), (.astore_n 2, 2, 0, 0), (.aload_n 2, 2, 0, 0), (.getfield 83, 6, 3, 1), (.ifCond .ne 6, 29, 0, 0), (.bipush (-4), 0, 0, (-4)), (.ireturn, 0, 0, 0)]
def bk_76_29 : List mIns := [(.iconst 0, 0, 0, 0), (.istore_n 3, 3, 0, 0), (.bipush 31, 0, 0, 31), (.istore 4, 4, 0, 0), (.iconst 0, 0, 0, 0), (.istore 5, 5, 0, 0), (.nop, 38, 0, 0)]
def bk_76_38 : List mIns := [(.iload 5, 5, 0, 0), (.iconst 2, 0, 0, 2), (.if_icmp .gt 52, 93, 0, 0), (.aload_n 2, 2, 0, 0), (.iload 5, 5, 0, 0), (.invokevirtual 130, 40, 2, 0), (.ifCond .eq 37, 87, 0, 0), (.aload_n 0, 0, 0, 0), (.getfield 47, 7, 6, 2), (.aload_n 2, 2, 0, 0), (.iload 5, 5, 0, 0), (.invokevirtual 133, 18, 3, 0), (.aload_n 0, 0, 0, 0), (.getfield 47, 7, 6, 2), (.invokevirtual 253, 22, 1, 0), (.iload 4, 4, 0, 0), (.if_icmp .ge 15, 87, 0, 0), (.aload_n 0, 0, 0, 0), (.getfield 47, 7, 6, 2), (.invokevirtual 253, 22, 1, 0), (.istore 4, 4, 0, 0), (.iload 5, 5, 0, 0), (.istore_n 3, 3, 0, 0), (.nop, 87, 0, 0)]
def bk_76_87 : List mIns := [(.iinc 5 1, 5, 0, 1), (.goto (-52), 38, 0, 0)]
def bk_76_93 : List mIns := [(.iload_n 3, 3, 0, 0), (.ireturn, 0, 0, 0)]
def bk_77_0 : List mIns := [(.iload_n 1, 1, 0, 0), (.invokestatic 72, 81, 1, 0), (.ifCond .ne 5, 9, 0, 0), (.iconst (-1), 0, 0, (-1)), (.ireturn, 0, 0, 0)]
def bk_77_9 : List mIns := [(.iload_n 2, 2, 0, 0), (.invokestatic 256, 84, 1, 0), (.ifCond .eq 22, 35, 0, 0), (.iload_n 3, 3, 0, 0), (.invokestatic 76, 82, 1, 0), (.ifCond .eq 15, 35, 0, 0), (.iload 4, 4, 0, 0), (.ifCond .lt 10, 35, 0, 0), (.iload 4, 4, 0, 0), (.bipush 30, 0, 0, 30), (.if_icmp .le 6, 38, 0, 0), (.nop, 35, 0, 0)]
def bk_77_35 : List mIns := [(.bipush (-2), 0, 0, (-2)), (.ireturn, 0, 0, 0)]
def bk_77_38 : List mIns := [(.aload_n 0, 0, 0, 0), (.getfield 12, 7, 0, 2), (.getfield 79, 4, 0, 2), (.iload_n 1, 1, 0, 0), (.aaload, 4, 6, 0), (.astore 5, 5, 0, 0), (.aload 5, 5, 0, 0), (.getfield 83, 6, 3, 1), (.ifCond .ne 6, 60, 0, 0), (.bipush (-4), 0, 0, (-4)), (.ireturn, 0, 0, 0)]
def bk_77_60 : List mIns := [(.aload_n 0, 0, 0, 0), (.getfield 57, 7, 8, 2), (.aload 5, 5, 0, 0), (.invokevirtual 259, 36, 2, 0), (.iconst 1, 0, 0, 1), (.istore 6, 6, 0, 0), (.iconst 0, 0, 0, 0), (.istore 7, 7, 0, 0), (.nop, 75, 0, 0)]
def bk_77_75 : List mIns := [(.iload 7, 7, 0, 0), (.iload 4, 4, 0, 0), (.if_icmp .ge 56, 135, 0, 0), (.iload 6, 6, 0, 0), (.ifCond .eq 51, 135, 0, 0), (.aload_n 0, 0, 0, 0), (.getfield 57, 7, 8, 2), (.aload_n 0, 0, 0, 0), (.getfield 12, 7, 0, 2), (.getfield 61, 4, 2, 0), (.aload_n 0, 0, 0, 0), (.getfield 12, 7, 0, 2), (.getfield 69, 4, 3, 0), (.iload_n 3, 3, 0, 0), (.invokevirtual 261, 51, 4, 0), (.istore 8, 8, 0, 0), (.iload 8, 8, 0, 0), (.iconst (-1), 0, 0, (-1)), (.if_icmp .eq 15, 129, 0, 0), (.aload_n 0, 0, 0, 0), (.getfield 57, 7, 8, 2), (.iload 8, 8, 0, 0), (.invokevirtual 264, 52, 2, 0), (.iconst 0, 0, 0, 0), (.istore 6, 6, 0, 0), (.nop, 129, 0, 0)]
def bk_77_129 : List mIns := [(.iinc 7 1, 7, 0, 1), (.goto (-57), 75, 0, 0)]
def bk_77_135 : List mIns := [(.aload_n 0, 0, 0, 0), (.getfield 51, 7, 7, 2), (.aload_n 0, 0, 0, 0), (.getfield 57, 7, 8, 2), (.iload_n 2, 2, 0, 0), (.invokevirtual 133, 18, 3, 0), (.aload_n 0, 0, 0, 0), (.getfield 51, 7, 7, 2), (.invokevirtual 253, 22, 1, 0), (.aload 5, 5, 0, 0), (.getfield 114, 6, 5, 0), (.iadd, 0, 0, 0), (.aload_n 0, 0, 0, 0), (.getfield 57, 7, 8, 2), (.getfield 114, 6, 5, 0), (.isub, 0, 0, 0), (.ireturn, 0, 0, 0)]
def bk_78_0 : List mIns := [(.iload_n 1, 1, 0, 0), (.invokestatic 72, 81, 1, 0), (.ifCond .ne 5, 9, 0, 0), (.iconst (-1), 0, 0, (-1)), (.ireturn, 0, 0, 0)]
def bk_78_9 : List mIns := [(.iload_n 2, 2, 0, 0), (.invokestatic 256, 84, 1, 0), (.ifCond .eq 10, 23, 0, 0), (.iload_n 3, 3, 0, 0), (.invokestatic 76, 82, 1, 0), (.ifCond .ne 6, 26, 0, 0), (.nop, 23, 0, 0)]
def bk_78_23 : List mIns := [(.bipush (-2), 0, 0, (-2)), (.ireturn, 0, 0, 0)]
def bk_78_26 : List mIns := [(.aload_n 0, 0, 0, 0), (.getfield 12, 7, 0, 2), (.getfield 79, 4, 0, 2), (.iload_n 1, 1, 0, 0), (.aaload, 4, 6, 0), (.astore 4, 4, 0, 0), (.aload 4, 4, 0, 0), (.getfield 83, 6, 3, 1), (.ifCond .ne 6, 48, 0, 0), (.bipush (-4), 0, 0, (-4)), (.ireturn, 0, 0, 0)]
def bk_78_48 : List mIns := [(.aload_n 0, 0, 0, 0), (.getfield 47, 7, 6, 2), (.aload 4, 4, 0, 0), (.iload_n 2, 2, 0, 0), (.invokevirtual 133, 18, 3, 0), (.aload_n 0, 0, 0, 0), (.getfield 57, 7, 8, 2), (.aload 4, 4, 0, 0), (.invokevirtual 259, 36, 2, 0), (.iconst 0, 0, 0, 0), (.istore 5, 5, 0, 0), (.nop, 70, 0, 0)]
def bk_78_70 : List mIns := [(.iload 5, 5, 0, 0), (.bipush 30, 0, 0, 30), (.if_icmp .ge 72, 146, 0, 0), (.aload_n 0, 0, 0, 0), (.getfield 57, 7, 8, 2), (.aload_n 0, 0, 0, 0), (.getfield 12, 7, 0, 2), (.getfield 61, 4, 2, 0), (.aload_n 0, 0, 0, 0), (.getfield 12, 7, 0, 2), (.getfield 69, 4, 3, 0), (.iload_n 3, 3, 0, 0), (.invokevirtual 261, 51, 4, 0), (.iconst (-1), 0, 0, (-1)), (.if_icmp .eq 6, 106, 0, 0), (.iload 5, 5, 0, 0), (.ireturn, 0, 0, 0)]
def bk_78_106 : List mIns := [(.aload_n 0, 0, 0, 0), (.getfield 51, 7, 7, 2), (.aload_n 0, 0, 0, 0), (.getfield 57, 7, 8, 2), (.iload_n 2, 2, 0, 0), (.invokevirtual 133, 18, 3, 0), (.aload_n 0, 0, 0, 0), (.getfield 51, 7, 7, 2), (.aload_n 0, 0, 0, 0), (.getfield 47, 7, 6, 2), (.aload 4, 4, 0, 0), (.getfield 114, 6, 5, 0), (.invokevirtual 267, 23, 3, 0), (.ifCond .ne 6, 140, 0, 0), (.iload 5, 5, 0, 0), (.ireturn, 0, 0, 0)]
def bk_78_140 : List mIns := [(.iinc 5 1, 5, 0, 1), (.goto (-73), 70, 0, 0)]
def bk_78_146 : List mIns := [(.bipush 30, 0, 0, 30), (.ireturn, 0, 0, 0)]
def bk_79_0 : List mIns := [(.iload_n 1, 1, 0, 0), (.ifCond .lt 12, 13, 0, 0), (.iload_n 2, 2, 0, 0), (.ifCond .lt 8, 13, 0, 0), (.iload_n 2, 2, 0, 0), (.iconst 2, 0, 0, 2), (.if_icmp .le 6, 16, 0, 0), (.nop, 13, 0, 0)]
def bk_79_13 : List mIns := [(.bipush (-2), 0, 0, (-2)), (.ireturn, 0, 0, 0)]
def bk_79_16 : List mIns := [(.aload_n 0, 0, 0, 0), (.getfield 12, 7, 0, 2), (.getfield 104, 4, 1, 2), (.iload_n 1, 1, 0, 0), (.iload_n 2, 2, 0, 0), (.invokevirtual 271, 16, 3, 0), (.ireturn, 0, 0, 0)]
def bk_80_0 : List mIns := [(.iload_n 1, 1, 0, 0), (.tableswitch 147 0 10 #[59, 67, 75, 83, 91, 99, 107, 115, 123, 131, 139], 1, 59, 0)]
def bk_80_60 : List mIns := [(.aload_n 0, 0, 0, 0), (.getfield 12, 7, 0, 2), (.invokevirtual 216, 26, 1, 0), (.ireturn, 0, 0, 0)]
def bk_80_68 : List mIns := [(.aload_n 0, 0, 0, 0), (.getfield 12, 7, 0, 2), (.invokevirtual 274, 27, 1, 0), (.ireturn, 0, 0, 0)]
def bk_80_76 : List mIns := [(.aload_n 0, 0, 0, 0), (.getfield 12, 7, 0, 2), (.getfield 277, 4, 4, 0), (.ireturn, 0, 0, 0)]
def bk_80_84 : List mIns := [(.aload_n 0, 0, 0, 0), (.getfield 12, 7, 0, 2), (.getfield 101, 4, 5, 0), (.ireturn, 0, 0, 0)]
def bk_80_92 : List mIns := [(.aload_n 0, 0, 0, 0), (.getfield 12, 7, 0, 2), (.getfield 280, 4, 6, 0), (.ireturn, 0, 0, 0)]
def bk_80_100 : List mIns := [(.aload_n 0, 0, 0, 0), (.getfield 12, 7, 0, 2), (.getfield 281, 4, 7, 0), (.ireturn, 0, 0, 0)]
def bk_80_108 : List mIns := [(.aload_n 0, 0, 0, 0), (.getfield 12, 7, 0, 2), (.getfield 284, 4, 8, 0), (.ireturn, 0, 0, 0)]
def bk_80_116 : List mIns := [(.aload_n 0, 0, 0, 0), (.getfield 12, 7, 0, 2), (.getfield 61, 4, 2, 0), (.ireturn, 0, 0, 0)]
def bk_80_124 : List mIns := [(.aload_n 0, 0, 0, 0), (.getfield 12, 7, 0, 2), (.getfield 69, 4, 3, 0), (.ireturn, 0, 0, 0)]
def bk_80_132 : List mIns := [(.aload_n 0, 0, 0, 0), (.getfield 19, 7, 1, 2), (.getfield 212, 1, 1, 0), (.ireturn, 0, 0, 0)]
def bk_80_140 : List mIns := [(.aload_n 0, 0, 0, 0), (.getfield 33, 7, 4, 2), (.getfield 156, 5, 1, 0), (.ireturn, 0, 0, 0)]
def bk_80_148 : List mIns := [(.bipush (-2), 0, 0, (-2)), (.ireturn, 0, 0, 0)]
def bk_81_0 : List mIns := [(.iload_n 0, 0, 0, 0), (.ifCond .lt 13, 14, 0, 0), (.iload_n 0, 0, 0, 0), (.bipush 6, 0, 0, 6), (.if_icmp .ge 7, 14, 0, 0), (.iconst 1, 0, 0, 1), (.goto 4, 15, 0, 0)]
def bk_81_14 : List mIns := [(.iconst 0, 0, 0, 0), (.nop, 15, 0, 0)]
def bk_81_15 : List mIns := [(.ireturn, 0, 0, 1)]
def bk_82_0 : List mIns := [(.iload_n 0, 0, 0, 0), (.ifCond .lt 13, 14, 0, 0), (.iload_n 0, 0, 0, 0), (.bipush 9, 0, 0, 9), (.if_icmp .gt 7, 14, 0, 0), (.iconst 1, 0, 0, 1), (.goto 4, 15, 0, 0)]
def bk_82_14 : List mIns := [(.iconst 0, 0, 0, 0), (.nop, 15, 0, 0)]
def bk_82_15 : List mIns := [(.ireturn, 0, 0, 1)]
def bk_83_0 : List mIns := [(.iload_n 0, 0, 0, 0), (.ifCond .lt 12, 13, 0, 0), (.iload_n 0, 0, 0, 0), (.iconst 2, 0, 0, 2), (.if_icmp .gt 7, 13, 0, 0), (.iconst 1, 0, 0, 1), (.goto 4, 14, 0, 0)]
def bk_83_13 : List mIns := [(.iconst 0, 0, 0, 0), (.nop, 14, 0, 0)]
def bk_83_14 : List mIns := [(.ireturn, 0, 0, 1)]
def bk_84_0 : List mIns := [(.iload_n 0, 0, 0, 0), (.ifCond .eq 8, 9, 0, 0), (.iload_n 0, 0, 0, 0), (.iconst 1, 0, 0, 1), (.if_icmp .ne 7, 13, 0, 0), (.nop, 9, 0, 0)]
def bk_84_9 : List mIns := [(.iconst 1, 0, 0, 1), (.goto 4, 14, 0, 0)]
def bk_84_13 : List mIns := [(.iconst 0, 0, 0, 0), (.nop, 14, 0, 0)]
def bk_84_14 : List mIns := [(.ireturn, 0, 0, 1)]
def bk_85_0 : List mIns := [(.sipush 2000, 0, 0, 2000), (.sipush 1000, 0, 0, 1000), (.iload_n 0, 0, 0, 0), (.imul, 0, 0, 0), (.iadd, 0, 0, 0), (.ireturn, 0, 0, 0)]
def bk_86_0 : List mIns := [(.iload_n 0, 0, 0, 0), (.iconst 1, 0, 0, 1), (.if_icmp .ne 13, 15, 0, 0), (.iconst 2, 0, 0, 2), (.iload_n 1, 1, 0, 0), (.imul, 0, 0, 0), (.iload_n 1, 1, 0, 0), (.imul, 0, 0, 0), (.iload_n 1, 1, 0, 0), (.iload_n 2, 2, 0, 0), (.imul, 0, 0, 0), (.iadd, 0, 0, 0), (.ireturn, 0, 0, 0)]
def bk_86_15 : List mIns := [(.iload_n 0, 0, 0, 0), (.iconst 2, 0, 0, 2), (.if_icmp .ne 17, 34, 0, 0), (.iconst 2, 0, 0, 2), (.iload_n 1, 1, 0, 0), (.imul, 0, 0, 0), (.iload_n 1, 1, 0, 0), (.imul, 0, 0, 0), (.iload_n 1, 1, 0, 0), (.iload_n 3, 3, 0, 0), (.iconst 1, 0, 0, 1), (.isub, 0, 0, 0), (.iload_n 2, 2, 0, 0), (.isub, 0, 0, 0), (.imul, 0, 0, 0), (.iadd, 0, 0, 0), (.ireturn, 0, 0, 0)]
def bk_86_34 : List mIns := [(.iconst 4, 0, 0, 4), (.iload_n 1, 1, 0, 0), (.imul, 0, 0, 0), (.iload_n 1, 1, 0, 0), (.imul, 0, 0, 0), (.ireturn, 0, 0, 0)]
def bk_87_0 : List mIns := [(.aload_n 0, 0, 0, 0), (.getfield 9, 0, 0, 4), (.arraylength, 0, 0, 2), (.aload_n 0, 0, 0, 0), (.invokevirtual 335, 89, 1, 0), (.ishr, 0, 0, 0), (.ireturn, 0, 0, 0)]
def bk_88_0 : List mIns := [(.aload_n 0, 0, 0, 0), (.invokevirtual 492, 90, 1, 0), (.ifCond .eq 12, 16, 0, 0), (.aload_n 0, 0, 0, 0), (.getfield 9, 0, 0, 4), (.iload_n 1, 1, 0, 0), (.invokestatic 495, 92, 2, 0), (.ireturn, 0, 0, 3)]
def bk_88_16 : List mIns := [(.aload_n 0, 0, 0, 0), (.getfield 9, 0, 0, 4), (.iload_n 1, 1, 0, 0), (.invokestatic 498, 0, 0, 7), (.ireturn, 0, 0, 3)]
def bk_89_0 : List mIns := [(.getstatic 38, 0, 0, 0), (.ifCond .eq 10, 13, 0, 0), (.aload_n 0, 0, 0, 0), (.getfield 15, 0, 0, 5), (.goto 4, 14, 0, 0)]
def bk_89_13 : List mIns := [(.iconst 1, 0, 0, 1), (.nop, 14, 0, 0)]
def bk_89_14 : List mIns := [(.ireturn, 0, 0, 2)]
def bk_90_0 : List mIns := [(.getstatic 38, 0, 0, 0), (.ifCond .eq 14, 17, 0, 0), (.aload_n 0, 0, 0, 0), (.getfield 15, 0, 0, 5), (.ifCond .ne 7, 17, 0, 0), (.iconst 1, 0, 0, 1), (.goto 4, 18, 0, 0)]
def bk_90_17 : List mIns := [(.iconst 0, 0, 0, 0), (.nop, 18, 0, 0)]
def bk_90_18 : List mIns := [(.ireturn, 0, 0, 1)]
def bk_91_0 : List mIns := [(.iload_n 0, 0, 0, 0), (.iload_n 1, 1, 0, 0), (.getstatic 1053, 0, 0, 1), (.invokestatic 1059, 93, 3, 0), (.pop, 0, 0, 0), (.return_, 0, 0, 0)]
def bk_92_0 : List mIns := [(.iload_n 1, 1, 0, 0), (.aload_n 0, 0, 0, 0), (.arraylength, 0, 0, 2), (.invokestatic 9, 91, 2, 0), (.aload_n 0, 0, 0, 0), (.iload_n 1, 1, 0, 0), (.baload, 0, 0, 0), (.sipush 255, 0, 0, 255), (.iand, 0, 0, 0), (.i2c, 0, 0, 0), (.ireturn, 0, 0, 3)]
def bk_93_0 : List mIns := [(.iload_n 0, 0, 0, 0), (.ifCond .lt 8, 9, 0, 0), (.iload_n 0, 0, 0, 0), (.iload_n 1, 1, 0, 0), (.if_icmp .lt 10, 16, 0, 0), (.nop, 9, 0, 0)]
def bk_93_9 : List mIns := [(.aload_n 2, 2, 0, 0), (.iload_n 0, 0, 0, 0), (.iload_n 1, 1, 0, 0), (.invokestatic 95, 0, 0, 7), (.athrow, 0, 0, 0)]
def bk_93_16 : List mIns := [(.iload_n 0, 0, 0, 0), (.ireturn, 0, 0, 0)]
def bk_94_0 : List mIns := [(.iload_n 1, 1, 0, 0), (.aload_n 0, 0, 0, 0), (.arraylength, 0, 0, 1), (.if_icmp .ge 9, 12, 0, 0), (.aload_n 0, 0, 0, 0), (.iload_n 1, 1, 0, 0), (.iaload, 0, 0, 1), (.goto 11, 20, 0, 0)]
def bk_94_12 : List mIns := [(.ldc 7, 0, 1, 2450023), (.iload_n 1, 1, 0, 0), (.imul, 0, 0, 0), (.sipush 1171, 0, 0, 1171), (.iadd, 0, 0, 0), (.nop, 20, 0, 0)]
def bk_94_20 : List mIns := [(.ireturn, 0, 0, 0)]
def bk_95_0 : List mIns := [(.iload_n 0, 0, 0, 0), (.ldc 8, 0, 1, 2147483647), (.iand, 0, 0, 0), (.iload_n 1, 1, 0, 0), (.irem, 0, 0, 0), (.ireturn, 0, 0, 0)]
def bk_96_0 : List mIns := [(.ldc2_w 9, 0, 0, 67), (.lstore_n 1, 1, 0, 0), (.iconst 0, 0, 0, 0), (.istore_n 3, 3, 0, 0), (.nop, 6, 0, 0)]
def bk_96_6 : List mIns := [(.iload_n 3, 3, 0, 0), (.bipush 9, 0, 0, 9), (.if_icmp .ge 22, 31, 0, 0), (.ldc2_w 11, 0, 0, 31), (.lload_n 1, 1, 0, 0), (.lmul, 0, 0, 0), (.aload_n 0, 0, 0, 0), (.iload_n 3, 3, 0, 0), (.invokevirtual 13, 80, 2, 0), (.i2l, 0, 0, 0), (.ladd, 0, 0, 0), (.lstore_n 1, 1, 0, 0), (.iinc 3 1, 3, 0, 1), (.goto (-22), 6, 0, 0)]
def bk_96_31 : List mIns := [(.iconst 0, 0, 0, 0), (.istore_n 3, 3, 0, 0), (.nop, 33, 0, 0)]
def bk_96_33 : List mIns := [(.iload_n 3, 3, 0, 0), (.bipush 6, 0, 0, 6), (.if_icmp .ge 100, 136, 0, 0), (.iconst 0, 0, 0, 0), (.istore 4, 4, 0, 0), (.nop, 42, 0, 0)]
def bk_96_42 : List mIns := [(.iload 4, 4, 0, 0), (.bipush 7, 0, 0, 7), (.if_icmp .ge 24, 70, 0, 0), (.ldc2_w 11, 0, 0, 31), (.lload_n 1, 1, 0, 0), (.lmul, 0, 0, 0), (.aload_n 0, 0, 0, 0), (.iload_n 3, 3, 0, 0), (.iload 4, 4, 0, 0), (.invokevirtual 19, 72, 3, 0), (.i2l, 0, 0, 0), (.ladd, 0, 0, 0), (.lstore_n 1, 1, 0, 0), (.iinc 4 1, 4, 0, 1), (.goto (-25), 42, 0, 0)]
def bk_96_70 : List mIns := [(.iconst 0, 0, 0, 0), (.istore 4, 4, 0, 0), (.nop, 73, 0, 0)]
def bk_96_73 : List mIns := [(.iload 4, 4, 0, 0), (.bipush 32, 0, 0, 32), (.if_icmp .ge 53, 130, 0, 0), (.ldc2_w 11, 0, 0, 31), (.lload_n 1, 1, 0, 0), (.lmul, 0, 0, 0), (.ldc2_w 23, 0, 0, 7), (.aload_n 0, 0, 0, 0), (.iload_n 3, 3, 0, 0), (.iload 4, 4, 0, 0), (.iconst 0, 0, 0, 0), (.invokevirtual 25, 73, 4, 0), (.i2l, 0, 0, 0), (.lmul, 0, 0, 0), (.ladd, 0, 0, 0), (.ldc2_w 29, 0, 0, 3), (.aload_n 0, 0, 0, 0), (.iload_n 3, 3, 0, 0), (.iload 4, 4, 0, 0), (.iconst 1, 0, 0, 1), (.invokevirtual 25, 73, 4, 0), (.i2l, 0, 0, 0), (.lmul, 0, 0, 0), (.ladd, 0, 0, 0), (.aload_n 0, 0, 0, 0), (.iload_n 3, 3, 0, 0), (.iload 4, 4, 0, 0), (.iconst 2, 0, 0, 2), (.invokevirtual 25, 73, 4, 0), (.i2l, 0, 0, 0), (.ladd, 0, 0, 0), (.lstore_n 1, 1, 0, 0), (.iinc 4 1, 4, 0, 1), (.goto (-54), 73, 0, 0)]
def bk_96_130 : List mIns := [(.iinc 3 1, 3, 0, 1), (.goto (-100), 33, 0, 0)]
def bk_96_136 : List mIns := [(.iconst 0, 0, 0, 0), (.istore_n 3, 3, 0, 0), (.nop, 138, 0, 0)]
def bk_96_138 : List mIns := [(.iload_n 3, 3, 0, 0), (.bipush 10, 0, 0, 10), (.if_icmp .ge 47, 188, 0, 0), (.ldc2_w 11, 0, 0, 31), (.lload_n 1, 1, 0, 0), (.lmul, 0, 0, 0), (.ldc2_w 31, 0, 0, 49), (.aload_n 0, 0, 0, 0), (.iload_n 3, 3, 0, 0), (.iconst 0, 0, 0, 0), (.invokevirtual 33, 79, 3, 0), (.i2l, 0, 0, 0), (.lmul, 0, 0, 0), (.ladd, 0, 0, 0), (.ldc2_w 23, 0, 0, 7), (.aload_n 0, 0, 0, 0), (.iload_n 3, 3, 0, 0), (.iconst 1, 0, 0, 1), (.invokevirtual 33, 79, 3, 0), (.i2l, 0, 0, 0), (.lmul, 0, 0, 0), (.ladd, 0, 0, 0), (.aload_n 0, 0, 0, 0), (.iload_n 3, 3, 0, 0), (.iconst 2, 0, 0, 2), (.invokevirtual 33, 79, 3, 0), (.i2l, 0, 0, 0), (.ladd, 0, 0, 0), (.lstore_n 1, 1, 0, 0), (.iinc 3 1, 3, 0, 1), (.goto (-47), 138, 0, 0)]
def bk_96_188 : List mIns := [(.lload_n 1, 1, 0, 0), (.lreturn, 0, 0, 0)]
def bk_97_0 : List mIns := [(.aload_n 0, 0, 0, 0), (.iload_n 1, 1, 0, 0), (.i2c, 0, 0, 0), (.invokevirtual 36, 66, 2, 0), (.pop, 0, 0, 0), (.return_, 0, 0, 0)]
def bk_98_0 : List mIns := [(.aload_n 0, 0, 0, 0), (.invokevirtual 40, 67, 1, 0), (.pop, 0, 0, 0), (.aload_n 0, 0, 0, 0), (.iload_n 1, 1, 0, 0), (.invokestatic 44, 97, 2, 0), (.aload_n 0, 0, 0, 0), (.iload_n 2, 2, 0, 0), (.invokestatic 44, 97, 2, 0), (.aload_n 0, 0, 0, 0), (.iload_n 3, 3, 0, 0), (.invokestatic 44, 97, 2, 0), (.iload 4, 4, 0, 0), (.ifCond .le 15, 37, 0, 0), (.aload_n 0, 0, 0, 0), (.iload 4, 4, 0, 0), (.invokestatic 44, 97, 2, 0), (.aload_n 0, 0, 0, 0), (.iload 5, 5, 0, 0), (.invokestatic 44, 97, 2, 0), (.nop, 37, 0, 0)]
def bk_98_37 : List mIns := [(.iload 6, 6, 0, 0), (.ifCond .le 9, 48, 0, 0), (.aload_n 0, 0, 0, 0), (.iload 6, 6, 0, 0), (.invokestatic 44, 97, 2, 0), (.nop, 48, 0, 0)]
def bk_98_48 : List mIns := [(.aload_n 0, 0, 0, 0), (.bipush 32, 0, 0, 32), (.invokestatic 44, 97, 2, 0), (.return_, 0, 0, 0)]
def bk_99_0 : List mIns := [(.iload_n 1, 1, 0, 0), (.bipush 9, 0, 0, 9), (.if_icmp .le 14, 17, 0, 0), (.aload_n 0, 0, 0, 0), (.bipush 48, 0, 0, 48), (.iload_n 1, 1, 0, 0), (.bipush 10, 0, 0, 10), (.idiv, 0, 0, 0), (.iadd, 0, 0, 0), (.invokestatic 44, 97, 2, 0), (.nop, 17, 0, 0)]
def bk_99_17 : List mIns := [(.aload_n 0, 0, 0, 0), (.bipush 48, 0, 0, 48), (.iload_n 1, 1, 0, 0), (.bipush 10, 0, 0, 10), (.irem, 0, 0, 0), (.iadd, 0, 0, 0), (.invokestatic 44, 97, 2, 0), (.return_, 0, 0, 0)]
def bk_100_0 : List mIns := [(.aload_n 0, 0, 0, 0), (.iload_n 1, 1, 0, 0), (.iconst 0, 0, 0, 0), (.invokevirtual 19, 72, 3, 0), (.bipush (-4), 0, 0, (-4)), (.if_icmp .ne 7, 15, 0, 0), (.iconst 1, 0, 0, 1), (.goto 4, 16, 0, 0)]
def bk_100_15 : List mIns := [(.iconst 0, 0, 0, 0), (.nop, 16, 0, 0)]
def bk_100_16 : List mIns := [(.istore 4, 4, 0, 0), (.aload_n 0, 0, 0, 0), (.iconst 3, 0, 0, 3), (.invokevirtual 13, 80, 2, 0), (.istore 5, 5, 0, 0), (.iconst 1, 0, 0, 1), (.iload_n 2, 2, 0, 0), (.iload_n 2, 2, 0, 0), (.bipush 64, 0, 0, 64), (.iand, 0, 0, 0), (.ifCond .ne 8, 39, 0, 0), (.bipush 6, 0, 0, 6), (.goto 5, 41, 0, 0)]
def bk_100_39 : List mIns := [(.bipush 31, 0, 0, 31), (.nop, 41, 0, 0)]
def bk_100_41 : List mIns := [(.invokestatic 50, 95, 2, 0), (.iadd, 0, 0, 0), (.istore 6, 6, 0, 0), (.iload 5, 5, 0, 0), (.sipush 10000, 0, 0, 10000), (.iadd, 0, 0, 0), (.istore 7, 7, 0, 0), (.aload_n 0, 0, 0, 0), (.bipush 119, 0, 0, 119), (.bipush 114, 0, 0, 114), (.bipush 105, 0, 0, 105), (.bipush 116, 0, 0, 116), (.bipush 101, 0, 0, 101), (.iconst 0, 0, 0, 0), (.invokestatic 53, 98, 7, 0), (.aload_n 0, 0, 0, 0), (.iload_n 1, 1, 0, 0), (.invokestatic 57, 99, 2, 0), (.aload_n 0, 0, 0, 0), (.bipush 32, 0, 0, 32), (.invokestatic 44, 97, 2, 0), (.iconst 0, 0, 0, 0), (.istore 8, 8, 0, 0), (.nop, 84, 0, 0)]
def bk_100_84 : List mIns := [(.iload 8, 8, 0, 0), (.iload 6, 6, 0, 0), (.if_icmp .ge 45, 133, 0, 0), (.iload_n 3, 3, 0, 0), (.iload 8, 8, 0, 0), (.bipush 29, 0, 0, 29), (.irem, 0, 0, 0), (.ishr, 0, 0, 0), (.bipush 7, 0, 0, 7), (.iand, 0, 0, 0), (.istore 9, 9, 0, 0), (.aload_n 0, 0, 0, 0), (.bipush 97, 0, 0, 97), (.iload 9, 9, 0, 0), (.iadd, 0, 0, 0), (.invokestatic 44, 97, 2, 0), (.iload 7, 7, 0, 0), (.sipush 2000, 0, 0, 2000), (.sipush 1000, 0, 0, 1000), (.iload 9, 9, 0, 0), (.imul, 0, 0, 0), (.iadd, 0, 0, 0), (.iadd, 0, 0, 0), (.istore 7, 7, 0, 0), (.iinc 8 1, 8, 0, 1), (.goto (-46), 84, 0, 0)]
def bk_100_133 : List mIns := [(.aload_n 0, 0, 0, 0), (.invokevirtual 60, 68, 1, 0), (.istore 8, 8, 0, 0), (.iload 4, 4, 0, 0), (.ifCond .eq 10, 151, 0, 0), (.iload 6, 6, 0, 0), (.bipush 30, 0, 0, 30), (.if_icmp .le 36, 184, 0, 0), (.nop, 151, 0, 0)]
def bk_100_151 : List mIns := [(.iload 8, 8, 0, 0), (.iload 4, 4, 0, 0), (.ifCond .eq 8, 163, 0, 0), (.bipush (-3), 0, 0, (-3)), (.goto 5, 165, 0, 0)]
def bk_100_163 : List mIns := [(.bipush (-4), 0, 0, (-4)), (.nop, 165, 0, 0)]
def bk_100_165 : List mIns := [(.if_icmp .ne 17, 182, 0, 0), (.aload_n 0, 0, 0, 0), (.iconst 3, 0, 0, 3), (.invokevirtual 13, 80, 2, 0), (.iload 5, 5, 0, 0), (.if_icmp .ne 7, 182, 0, 0), (.iconst 1, 0, 0, 1), (.goto 4, 183, 0, 0)]
def bk_100_182 : List mIns := [(.iconst 0, 0, 0, 0), (.nop, 183, 0, 0)]
def bk_100_183 : List mIns := [(.ireturn, 0, 0, 1)]
def bk_100_184 : List mIns := [(.iconst 0, 0, 0, 0), (.istore 9, 9, 0, 0), (.nop, 187, 0, 0)]
def bk_100_187 : List mIns := [(.iload 9, 9, 0, 0), (.iload 6, 6, 0, 0), (.if_icmp .ge 64, 255, 0, 0), (.aload_n 0, 0, 0, 0), (.iload_n 1, 1, 0, 0), (.iload 9, 9, 0, 0), (.iconst 3, 0, 0, 3), (.irem, 0, 0, 0), (.iload 9, 9, 0, 0), (.invokevirtual 63, 74, 4, 0), (.bipush 97, 0, 0, 97), (.iload_n 3, 3, 0, 0), (.iload 9, 9, 0, 0), (.bipush 29, 0, 0, 29), (.irem, 0, 0, 0), (.ishr, 0, 0, 0), (.bipush 7, 0, 0, 7), (.iand, 0, 0, 0), (.iadd, 0, 0, 0), (.if_icmp .ne 29, 247, 0, 0), (.aload_n 0, 0, 0, 0), (.iload_n 1, 1, 0, 0), (.iconst 1, 0, 0, 1), (.iload 9, 9, 0, 0), (.iadd, 0, 0, 0), (.iconst 2, 0, 0, 2), (.invokevirtual 25, 73, 4, 0), (.bipush 97, 0, 0, 97), (.iload_n 3, 3, 0, 0), (.iload 9, 9, 0, 0), (.bipush 29, 0, 0, 29), (.irem, 0, 0, 0), (.ishr, 0, 0, 0), (.bipush 7, 0, 0, 7), (.iand, 0, 0, 0), (.iadd, 0, 0, 0), (.if_icmp .eq 5, 249, 0, 0), (.nop, 247, 0, 0)]
def bk_100_247 : List mIns := [(.iconst 0, 0, 0, 0), (.ireturn, 0, 0, 1)]
def bk_100_249 : List mIns := [(.iinc 9 1, 9, 0, 1), (.goto (-65), 187, 0, 0)]
def bk_100_255 : List mIns := [(.iload 8, 8, 0, 0), (.iload 6, 6, 0, 0), (.if_icmp .ne 70, 329, 0, 0), (.aload_n 0, 0, 0, 0), (.iconst 3, 0, 0, 3), (.invokevirtual 13, 80, 2, 0), (.iload 7, 7, 0, 0), (.if_icmp .ne 60, 329, 0, 0), (.aload_n 0, 0, 0, 0), (.iload_n 1, 1, 0, 0), (.iconst 1, 0, 0, 1), (.invokevirtual 19, 72, 3, 0), (.iconst 1, 0, 0, 1), (.if_icmp .ne 50, 329, 0, 0), (.aload_n 0, 0, 0, 0), (.iload_n 1, 1, 0, 0), (.iconst 4, 0, 0, 4), (.invokevirtual 19, 72, 3, 0), (.ifCond .ne 41, 329, 0, 0), (.aload_n 0, 0, 0, 0), (.iload_n 1, 1, 0, 0), (.iconst 2, 0, 0, 2), (.invokevirtual 19, 72, 3, 0), (.iload 7, 7, 0, 0), (.iload 5, 5, 0, 0), (.isub, 0, 0, 0), (.if_icmp .ne 27, 329, 0, 0), (.aload_n 0, 0, 0, 0), (.iconst 0, 0, 0, 0), (.iconst 0, 0, 0, 0), (.invokevirtual 33, 79, 3, 0), (.ifCond .ne 18, 329, 0, 0), (.aload_n 0, 0, 0, 0), (.iconst 0, 0, 0, 0), (.iconst 2, 0, 0, 2), (.invokevirtual 33, 79, 3, 0), (.iload 6, 6, 0, 0), (.if_icmp .ne 7, 329, 0, 0), (.iconst 1, 0, 0, 1), (.goto 4, 330, 0, 0)]
def bk_100_329 : List mIns := [(.iconst 0, 0, 0, 0), (.nop, 330, 0, 0)]
def bk_100_330 : List mIns := [(.ireturn, 0, 0, 1)]
def bk_101_0 : List mIns := [(.aload_n 0, 0, 0, 0), (.iload_n 1, 1, 0, 0), (.iconst 0, 0, 0, 0), (.invokevirtual 19, 72, 3, 0), (.istore_n 2, 2, 0, 0), (.iload_n 2, 2, 0, 0), (.ifCond .ge 80, 88, 0, 0), (.iload_n 2, 2, 0, 0), (.bipush (-4), 0, 0, (-4)), (.if_icmp .ne 72, 86, 0, 0), (.aload_n 0, 0, 0, 0), (.iload_n 1, 1, 0, 0), (.iconst 0, 0, 0, 0), (.iconst 0, 0, 0, 0), (.invokevirtual 25, 73, 4, 0), (.iconst (-1), 0, 0, (-1)), (.if_icmp .ne 61, 86, 0, 0), (.aload_n 0, 0, 0, 0), (.iload_n 1, 1, 0, 0), (.invokevirtual 66, 76, 2, 0), (.bipush (-4), 0, 0, (-4)), (.if_icmp .ne 51, 86, 0, 0), (.aload_n 0, 0, 0, 0), (.iload_n 1, 1, 0, 0), (.invokevirtual 69, 64, 2, 0), (.bipush (-4), 0, 0, (-4)), (.if_icmp .ne 41, 86, 0, 0), (.aload_n 0, 0, 0, 0), (.iload_n 1, 1, 0, 0), (.iconst 0, 0, 0, 0), (.iconst 0, 0, 0, 0), (.invokevirtual 72, 75, 4, 0), (.bipush (-4), 0, 0, (-4)), (.if_icmp .ne 29, 86, 0, 0), (.aload_n 0, 0, 0, 0), (.iload_n 1, 1, 0, 0), (.iconst 0, 0, 0, 0), (.iconst 1, 0, 0, 1), (.invokevirtual 75, 61, 4, 0), (.bipush (-4), 0, 0, (-4)), (.if_icmp .ne 17, 86, 0, 0), (.aload_n 0, 0, 0, 0), (.iload_n 1, 1, 0, 0), (.iconst 0, 0, 0, 0), (.invokevirtual 78, 62, 3, 0), (.iconst (-1), 0, 0, (-1)), (.if_icmp .ne 7, 86, 0, 0), (.iconst 1, 0, 0, 1), (.goto 4, 87, 0, 0)]
def bk_101_86 : List mIns := [(.iconst 0, 0, 0, 0), (.nop, 87, 0, 0)]
def bk_101_87 : List mIns := [(.ireturn, 0, 0, 1)]
def bk_101_88 : List mIns := [(.iload_n 2, 2, 0, 0), (.iconst 1, 0, 0, 1), (.iadd, 0, 0, 0), (.aload_n 0, 0, 0, 0), (.iload_n 1, 1, 0, 0), (.iconst 1, 0, 0, 1), (.invokevirtual 19, 72, 3, 0), (.iadd, 0, 0, 0), (.istore_n 3, 3, 0, 0), (.iconst 0, 0, 0, 0), (.istore 4, 4, 0, 0), (.iconst 0, 0, 0, 0), (.istore 5, 5, 0, 0), (.iconst 0, 0, 0, 0), (.istore 6, 6, 0, 0), (.iconst 0, 0, 0, 0), (.istore 7, 7, 0, 0), (.nop, 111, 0, 0)]
def bk_101_111 : List mIns := [(.iload 7, 7, 0, 0), (.iload_n 3, 3, 0, 0), (.if_icmp .ge 162, 276, 0, 0), (.aload_n 0, 0, 0, 0), (.iload_n 1, 1, 0, 0), (.iload 7, 7, 0, 0), (.iconst 0, 0, 0, 0), (.invokevirtual 25, 73, 4, 0), (.istore 8, 8, 0, 0), (.aload_n 0, 0, 0, 0), (.iload_n 1, 1, 0, 0), (.iload 7, 7, 0, 0), (.iconst 1, 0, 0, 1), (.invokevirtual 25, 73, 4, 0), (.istore 9, 9, 0, 0), (.iload 4, 4, 0, 0), (.iload 8, 8, 0, 0), (.iadd, 0, 0, 0), (.istore 4, 4, 0, 0), (.iload 5, 5, 0, 0), (.iload 9, 9, 0, 0), (.iadd, 0, 0, 0), (.istore 5, 5, 0, 0), (.iload 8, 8, 0, 0), (.iload 9, 9, 0, 0), (.if_icmp .lt 71, 226, 0, 0), (.iload 7, 7, 0, 0), (.ifCond .le 34, 194, 0, 0), (.iload 7, 7, 0, 0), (.iload_n 2, 2, 0, 0), (.if_icmp .gt 28, 194, 0, 0), (.iload 9, 9, 0, 0), (.sipush 2000, 0, 0, 2000), (.if_icmp .lt 52, 226, 0, 0), (.iload 9, 9, 0, 0), (.sipush 9000, 0, 0, 9000), (.if_icmp .gt 44, 226, 0, 0), (.iload 9, 9, 0, 0), (.sipush 1000, 0, 0, 1000), (.irem, 0, 0, 0), (.ifCond .ne 35, 226, 0, 0), (.nop, 194, 0, 0)]
def bk_101_194 : List mIns := [(.iload 7, 7, 0, 0), (.ifCond .eq 9, 205, 0, 0), (.iload 7, 7, 0, 0), (.iload_n 2, 2, 0, 0), (.if_icmp .le 26, 228, 0, 0), (.nop, 205, 0, 0)]
def bk_101_205 : List mIns := [(.iload 9, 9, 0, 0), (.sipush 5000, 0, 0, 5000), (.if_icmp .ne 16, 226, 0, 0), (.aload_n 0, 0, 0, 0), (.iload_n 1, 1, 0, 0), (.iload 7, 7, 0, 0), (.iconst 2, 0, 0, 2), (.invokevirtual 25, 73, 4, 0), (.bipush (-5), 0, 0, (-5)), (.if_icmp .eq 5, 228, 0, 0), (.nop, 226, 0, 0)]
def bk_101_226 : List mIns := [(.iconst 0, 0, 0, 0), (.ireturn, 0, 0, 1)]
def bk_101_228 : List mIns := [(.iload 8, 8, 0, 0), (.sipush 1000, 0, 0, 1000), (.imul, 0, 0, 0), (.iload 9, 9, 0, 0), (.idiv, 0, 0, 0), (.aload_n 0, 0, 0, 0), (.iload_n 1, 1, 0, 0), (.iload 6, 6, 0, 0), (.iconst 0, 0, 0, 0), (.invokevirtual 25, 73, 4, 0), (.sipush 1000, 0, 0, 1000), (.imul, 0, 0, 0), (.aload_n 0, 0, 0, 0), (.iload_n 1, 1, 0, 0), (.iload 6, 6, 0, 0), (.iconst 1, 0, 0, 1), (.invokevirtual 25, 73, 4, 0), (.idiv, 0, 0, 0), (.if_icmp .le 8, 266, 0, 0), (.iload 7, 7, 0, 0), (.goto 5, 268, 0, 0)]
def bk_101_266 : List mIns := [(.iload 6, 6, 0, 0), (.nop, 268, 0, 0)]
def bk_101_268 : List mIns := [(.istore 6, 6, 0, 0), (.iinc 7 1, 7, 0, 1), (.goto (-162), 111, 0, 0)]
def bk_101_276 : List mIns := [(.iload 4, 4, 0, 0), (.aload_n 0, 0, 0, 0), (.iload_n 1, 1, 0, 0), (.iconst 2, 0, 0, 2), (.invokevirtual 19, 72, 3, 0), (.if_icmp .ne 67, 351, 0, 0), (.iload 5, 5, 0, 0), (.aload_n 0, 0, 0, 0), (.iload_n 1, 1, 0, 0), (.iconst 3, 0, 0, 3), (.invokevirtual 19, 72, 3, 0), (.if_icmp .ne 56, 351, 0, 0), (.iload 6, 6, 0, 0), (.aload_n 0, 0, 0, 0), (.iload_n 1, 1, 0, 0), (.iconst 5, 0, 0, 5), (.invokevirtual 19, 72, 3, 0), (.if_icmp .ne 45, 351, 0, 0), (.aload_n 0, 0, 0, 0), (.iload_n 1, 1, 0, 0), (.bipush 6, 0, 0, 6), (.invokevirtual 19, 72, 3, 0), (.aload_n 0, 0, 0, 0), (.iload_n 1, 1, 0, 0), (.iload 6, 6, 0, 0), (.iconst 0, 0, 0, 0), (.invokevirtual 25, 73, 4, 0), (.sipush 1000, 0, 0, 1000), (.imul, 0, 0, 0), (.aload_n 0, 0, 0, 0), (.iload_n 1, 1, 0, 0), (.iload 6, 6, 0, 0), (.iconst 1, 0, 0, 1), (.invokevirtual 25, 73, 4, 0), (.idiv, 0, 0, 0), (.if_icmp .ne 14, 351, 0, 0), (.aload_n 0, 0, 0, 0), (.iload_n 1, 1, 0, 0), (.iload_n 3, 3, 0, 0), (.iconst 0, 0, 0, 0), (.invokevirtual 25, 73, 4, 0), (.iconst (-1), 0, 0, (-1)), (.if_icmp .eq 5, 353, 0, 0), (.nop, 351, 0, 0)]
def bk_101_351 : List mIns := [(.iconst 0, 0, 0, 0), (.ireturn, 0, 0, 1)]
def bk_101_353 : List mIns := [(.iconst 0, 0, 0, 0), (.istore 7, 7, 0, 0), (.bipush 99, 0, 0, 99), (.istore 8, 8, 0, 0), (.iconst 0, 0, 0, 0), (.istore 9, 9, 0, 0), (.nop, 363, 0, 0)]
def bk_101_363 : List mIns := [(.iload 9, 9, 0, 0), (.iconst 3, 0, 0, 3), (.if_icmp .ge 279, 645, 0, 0), (.iload 9, 9, 0, 0), (.iconst 2, 0, 0, 2), (.if_icmp .ne 67, 439, 0, 0), (.aload_n 0, 0, 0, 0), (.iload_n 1, 1, 0, 0), (.iconst 1, 0, 0, 1), (.invokevirtual 19, 72, 3, 0), (.ifCond .ne 58, 439, 0, 0), (.aload_n 0, 0, 0, 0), (.iload_n 1, 1, 0, 0), (.invokevirtual 66, 76, 2, 0), (.iload 7, 7, 0, 0), (.if_icmp .ne 46, 437, 0, 0), (.aload_n 0, 0, 0, 0), (.iload_n 1, 1, 0, 0), (.iconst 2, 0, 0, 2), (.iconst 0, 0, 0, 0), (.invokevirtual 72, 75, 4, 0), (.bipush (-4), 0, 0, (-4)), (.if_icmp .ne 34, 437, 0, 0), (.iload_n 2, 2, 0, 0), (.ifCond .eq 15, 422, 0, 0), (.aload_n 0, 0, 0, 0), (.iload_n 1, 1, 0, 0), (.iconst 2, 0, 0, 2), (.iconst 0, 0, 0, 0), (.invokevirtual 63, 74, 4, 0), (.bipush (-4), 0, 0, (-4)), (.if_icmp .ne 18, 437, 0, 0), (.nop, 422, 0, 0)]
def bk_101_422 : List mIns := [(.aload_n 0, 0, 0, 0), (.iload_n 1, 1, 0, 0), (.iconst 2, 0, 0, 2), (.invokevirtual 81, 65, 3, 0), (.bipush (-4), 0, 0, (-4)), (.if_icmp .ne 7, 437, 0, 0), (.iconst 1, 0, 0, 1), (.goto 4, 438, 0, 0)]
def bk_101_437 : List mIns := [(.iconst 0, 0, 0, 0), (.nop, 438, 0, 0)]
def bk_101_438 : List mIns := [(.ireturn, 0, 0, 1)]
def bk_101_439 : List mIns := [(.iconst 0, 0, 0, 0), (.istore 10, 10, 0, 0), (.iconst 0, 0, 0, 0), (.istore 11, 11, 0, 0), (.bipush (-5), 0, 0, (-5)), (.istore 12, 12, 0, 0), (.iconst 0, 0, 0, 0), (.istore 13, 13, 0, 0), (.nop, 452, 0, 0)]
def bk_101_452 : List mIns := [(.iload 13, 13, 0, 0), (.iload_n 2, 2, 0, 0), (.if_icmp .ge 98, 553, 0, 0), (.aload_n 0, 0, 0, 0), (.iload_n 1, 1, 0, 0), (.iload 9, 9, 0, 0), (.iload 13, 13, 0, 0), (.invokevirtual 63, 74, 4, 0), (.istore 14, 14, 0, 0), (.iload 10, 10, 0, 0), (.iload 14, 14, 0, 0), (.bipush 63, 0, 0, 63), (.if_icmp .eq 22, 497, 0, 0), (.iload 14, 14, 0, 0), (.aload_n 0, 0, 0, 0), (.iload_n 1, 1, 0, 0), (.iconst 1, 0, 0, 1), (.iload 13, 13, 0, 0), (.iadd, 0, 0, 0), (.iconst 2, 0, 0, 2), (.invokevirtual 25, 73, 4, 0), (.if_icmp .eq 7, 497, 0, 0), (.iconst 1, 0, 0, 1), (.goto 4, 498, 0, 0)]
def bk_101_497 : List mIns := [(.iconst 0, 0, 0, 0), (.nop, 498, 0, 0)]
def bk_101_498 : List mIns := [(.iadd, 0, 0, 0), (.istore 10, 10, 0, 0), (.iload 11, 11, 0, 0), (.iload 14, 14, 0, 0), (.bipush 63, 0, 0, 63), (.if_icmp .ne 7, 514, 0, 0), (.iconst 1, 0, 0, 1), (.goto 4, 515, 0, 0)]
def bk_101_514 : List mIns := [(.iconst 0, 0, 0, 0), (.nop, 515, 0, 0)]
def bk_101_515 : List mIns := [(.iadd, 0, 0, 0), (.istore 11, 11, 0, 0), (.iload 12, 12, 0, 0), (.ifCond .ge 23, 543, 0, 0), (.iload 14, 14, 0, 0), (.aload_n 0, 0, 0, 0), (.iload_n 1, 1, 0, 0), (.iconst 1, 0, 0, 1), (.iload 13, 13, 0, 0), (.iadd, 0, 0, 0), (.iconst 2, 0, 0, 2), (.invokevirtual 25, 73, 4, 0), (.if_icmp .eq 8, 543, 0, 0), (.iload 13, 13, 0, 0), (.goto 5, 545, 0, 0)]
def bk_101_543 : List mIns := [(.iload 12, 12, 0, 0), (.nop, 545, 0, 0)]
def bk_101_545 : List mIns := [(.istore 12, 12, 0, 0), (.iinc 13 1, 13, 0, 1), (.goto (-98), 452, 0, 0)]
def bk_101_553 : List mIns := [(.aload_n 0, 0, 0, 0), (.iload_n 1, 1, 0, 0), (.iload 9, 9, 0, 0), (.iconst 0, 0, 0, 0), (.invokevirtual 72, 75, 4, 0), (.iload 10, 10, 0, 0), (.if_icmp .ne 53, 616, 0, 0), (.aload_n 0, 0, 0, 0), (.iload_n 1, 1, 0, 0), (.iload 9, 9, 0, 0), (.iconst 1, 0, 0, 1), (.invokevirtual 72, 75, 4, 0), (.iload 11, 11, 0, 0), (.if_icmp .ne 40, 616, 0, 0), (.aload_n 0, 0, 0, 0), (.iload_n 1, 1, 0, 0), (.iload 9, 9, 0, 0), (.iconst 2, 0, 0, 2), (.invokevirtual 72, 75, 4, 0), (.iload 12, 12, 0, 0), (.if_icmp .ne 27, 616, 0, 0), (.iload 9, 9, 0, 0), (.iconst 2, 0, 0, 2), (.if_icmp .ge 23, 618, 0, 0), (.aload_n 0, 0, 0, 0), (.iload_n 1, 1, 0, 0), (.iload 9, 9, 0, 0), (.bipush 9, 0, 0, 9), (.iconst 0, 0, 0, 0), (.invokevirtual 84, 77, 5, 0), (.iload 10, 10, 0, 0), (.iload 11, 11, 0, 0), (.iadd, 0, 0, 0), (.if_icmp .eq 5, 618, 0, 0), (.nop, 616, 0, 0)]
def bk_101_616 : List mIns := [(.iconst 0, 0, 0, 0), (.ireturn, 0, 0, 1)]
def bk_101_618 : List mIns := [(.iload 10, 10, 0, 0), (.iload 11, 11, 0, 0), (.iadd, 0, 0, 0), (.iload 8, 8, 0, 0), (.if_icmp .ge 14, 639, 0, 0), (.iload 9, 9, 0, 0), (.istore 7, 7, 0, 0), (.iload 10, 10, 0, 0), (.iload 11, 11, 0, 0), (.iadd, 0, 0, 0), (.istore 8, 8, 0, 0), (.nop, 639, 0, 0)]
def bk_101_639 : List mIns := [(.iinc 9 1, 9, 0, 1), (.goto (-279), 363, 0, 0)]
def bk_101_645 : List mIns := [(.aload_n 0, 0, 0, 0), (.iload_n 1, 1, 0, 0), (.invokevirtual 66, 76, 2, 0), (.iload 7, 7, 0, 0), (.if_icmp .ne 7, 659, 0, 0), (.iconst 1, 0, 0, 1), (.goto 4, 660, 0, 0)]
def bk_101_659 : List mIns := [(.iconst 0, 0, 0, 0), (.nop, 660, 0, 0)]
def bk_101_660 : List mIns := [(.ireturn, 0, 0, 1)]
def bk_102_0 : List mIns := [(.iload_n 2, 2, 0, 0), (.bipush 10, 0, 0, 10), (.invokestatic 50, 95, 2, 0), (.istore 4, 4, 0, 0), (.iconst 1, 0, 0, 1), (.iload_n 2, 2, 0, 0), (.iconst 4, 0, 0, 4), (.ishr, 0, 0, 0), (.bipush 6, 0, 0, 6), (.invokestatic 50, 95, 2, 0), (.iadd, 0, 0, 0), (.istore 5, 5, 0, 0), (.iload_n 2, 2, 0, 0), (.bipush 9, 0, 0, 9), (.ishr, 0, 0, 0), (.iconst 1, 0, 0, 1), (.iand, 0, 0, 0), (.istore 6, 6, 0, 0), (.aload_n 0, 0, 0, 0), (.iconst 2, 0, 0, 2), (.invokevirtual 13, 80, 2, 0), (.istore 7, 7, 0, 0), (.aload_n 0, 0, 0, 0), (.iconst 4, 0, 0, 4), (.invokevirtual 13, 80, 2, 0), (.istore 8, 8, 0, 0), (.aload_n 0, 0, 0, 0), (.iconst 5, 0, 0, 5), (.invokevirtual 13, 80, 2, 0), (.istore 9, 9, 0, 0), (.aload_n 0, 0, 0, 0), (.iload_n 1, 1, 0, 0), (.iconst 4, 0, 0, 4), (.invokevirtual 19, 72, 3, 0), (.istore 10, 10, 0, 0), (.aload_n 0, 0, 0, 0), (.iload_n 1, 1, 0, 0), (.iload 6, 6, 0, 0), (.iload 4, 4, 0, 0), (.iload 5, 5, 0, 0), (.invokevirtual 84, 77, 5, 0), (.istore 11, 11, 0, 0), (.aload_n 0, 0, 0, 0), (.iload_n 1, 1, 0, 0), (.iload 6, 6, 0, 0), (.iload 4, 4, 0, 0), (.invokevirtual 88, 78, 4, 0), (.istore 12, 12, 0, 0), (.aload_n 0, 0, 0, 0), (.bipush 6, 0, 0, 6), (.invokevirtual 13, 80, 2, 0), (.istore 13, 13, 0, 0), (.aload_n 0, 0, 0, 0), (.iload_n 1, 1, 0, 0), (.iconst 0, 0, 0, 0), (.invokevirtual 19, 72, 3, 0), (.istore 14, 14, 0, 0), (.aload_n 0, 0, 0, 0), (.iload_n 1, 1, 0, 0), (.iload 4, 4, 0, 0), (.iload 5, 5, 0, 0), (.invokevirtual 75, 61, 4, 0), (.istore 15, 15, 0, 0), (.aload_n 0, 0, 0, 0), (.iconst 5, 0, 0, 5), (.invokevirtual 13, 80, 2, 0), (.iload 9, 9, 0, 0), (.if_icmp .le 7, 122, 0, 0), (.iconst 1, 0, 0, 1), (.goto 4, 123, 0, 0)]
def bk_102_122 : List mIns := [(.iconst 0, 0, 0, 0), (.nop, 123, 0, 0)]
def bk_102_123 : List mIns := [(.istore 16, 16, 0, 0), (.iload 15, 15, 0, 0), (.iconst 1, 0, 0, 1), (.if_icmp .lt 78, 206, 0, 0), (.iload 15, 15, 0, 0), (.iload 5, 5, 0, 0), (.if_icmp .gt 71, 206, 0, 0), (.iload 16, 16, 0, 0), (.ifCond .ne 10, 150, 0, 0), (.iload 15, 15, 0, 0), (.iload 5, 5, 0, 0), (.if_icmp .ne 59, 206, 0, 0), (.nop, 150, 0, 0)]
def bk_102_150 : List mIns := [(.aload_n 0, 0, 0, 0), (.iconst 4, 0, 0, 4), (.invokevirtual 13, 80, 2, 0), (.iload 8, 8, 0, 0), (.iload 15, 15, 0, 0), (.iadd, 0, 0, 0), (.if_icmp .ne 46, 206, 0, 0), (.aload_n 0, 0, 0, 0), (.iconst 2, 0, 0, 2), (.invokevirtual 13, 80, 2, 0), (.iload 7, 7, 0, 0), (.bipush 10, 0, 0, 10), (.iload 4, 4, 0, 0), (.isub, 0, 0, 0), (.iload 15, 15, 0, 0), (.imul, 0, 0, 0), (.iadd, 0, 0, 0), (.if_icmp .ne 27, 206, 0, 0), (.aload_n 0, 0, 0, 0), (.iconst 5, 0, 0, 5), (.invokevirtual 13, 80, 2, 0), (.iload 9, 9, 0, 0), (.iconst 1, 0, 0, 1), (.iadd, 0, 0, 0), (.if_icmp .gt 15, 206, 0, 0), (.iload 12, 12, 0, 0), (.iload 15, 15, 0, 0), (.if_icmp .lt 10, 208, 0, 0), (.iload 16, 16, 0, 0), (.ifCond .eq 5, 208, 0, 0), (.nop, 206, 0, 0)]
def bk_102_206 : List mIns := [(.iconst 0, 0, 0, 0), (.ireturn, 0, 0, 1)]
def bk_102_208 : List mIns := [(.aload_n 0, 0, 0, 0), (.iconst 0, 0, 0, 0), (.iconst 0, 0, 0, 0), (.invokevirtual 33, 79, 3, 0), (.iload 16, 16, 0, 0), (.ifCond .eq 7, 223, 0, 0), (.iconst 2, 0, 0, 2), (.goto 4, 224, 0, 0)]
def bk_102_223 : List mIns := [(.iconst 1, 0, 0, 1), (.nop, 224, 0, 0)]
def bk_102_224 : List mIns := [(.if_icmp .ne 23, 247, 0, 0), (.aload_n 0, 0, 0, 0), (.iload 16, 16, 0, 0), (.ifCond .eq 7, 237, 0, 0), (.iconst 1, 0, 0, 1), (.goto 4, 238, 0, 0)]
def bk_102_237 : List mIns := [(.iconst 0, 0, 0, 0), (.nop, 238, 0, 0)]
def bk_102_238 : List mIns := [(.iconst 2, 0, 0, 2), (.invokevirtual 33, 79, 3, 0), (.iload 4, 4, 0, 0), (.if_icmp .eq 5, 249, 0, 0), (.nop, 247, 0, 0)]
def bk_102_247 : List mIns := [(.iconst 0, 0, 0, 0), (.ireturn, 0, 0, 1)]
def bk_102_249 : List mIns := [(.aload_n 0, 0, 0, 0), (.iload_n 1, 1, 0, 0), (.iconst 0, 0, 0, 0), (.invokevirtual 19, 72, 3, 0), (.istore 17, 17, 0, 0), (.aload_n 0, 0, 0, 0), (.bipush 6, 0, 0, 6), (.invokevirtual 13, 80, 2, 0), (.iload 13, 13, 0, 0), (.isub, 0, 0, 0), (.istore 18, 18, 0, 0), (.iload 17, 17, 0, 0), (.ifCond .ge 28, 298, 0, 0), (.iload 16, 16, 0, 0), (.ifCond .eq 21, 296, 0, 0), (.iload 18, 18, 0, 0), (.iload 14, 14, 0, 0), (.if_icmp .ne 14, 296, 0, 0), (.iload 11, 11, 0, 0), (.iload 14, 14, 0, 0), (.if_icmp .ne 7, 296, 0, 0), (.iconst 1, 0, 0, 1), (.goto 4, 297, 0, 0)]
def bk_102_296 : List mIns := [(.iconst 0, 0, 0, 0), (.nop, 297, 0, 0)]
def bk_102_297 : List mIns := [(.ireturn, 0, 0, 1)]
def bk_102_298 : List mIns := [(.iload 17, 17, 0, 0), (.iload 18, 18, 0, 0), (.iadd, 0, 0, 0), (.iload 14, 14, 0, 0), (.if_icmp .ne 60, 365, 0, 0), (.iload 11, 11, 0, 0), (.iload 18, 18, 0, 0), (.aload_n 0, 0, 0, 0), (.iload_n 1, 1, 0, 0), (.iload 6, 6, 0, 0), (.iconst 0, 0, 0, 0), (.invokevirtual 72, 75, 4, 0), (.iadd, 0, 0, 0), (.aload_n 0, 0, 0, 0), (.iload_n 1, 1, 0, 0), (.iload 6, 6, 0, 0), (.iconst 1, 0, 0, 1), (.invokevirtual 72, 75, 4, 0), (.iadd, 0, 0, 0), (.if_icmp .ne 35, 365, 0, 0), (.aload_n 0, 0, 0, 0), (.iload_n 1, 1, 0, 0), (.iconst 4, 0, 0, 4), (.invokevirtual 19, 72, 3, 0), (.iload 10, 10, 0, 0), (.iload 15, 15, 0, 0), (.iadd, 0, 0, 0), (.if_icmp .ne 21, 365, 0, 0), (.iload 16, 16, 0, 0), (.ifCond .eq 12, 361, 0, 0), (.aload_n 0, 0, 0, 0), (.iload_n 1, 1, 0, 0), (.iconst 1, 0, 0, 1), (.invokevirtual 19, 72, 3, 0), (.ifCond .ne 7, 365, 0, 0), (.nop, 361, 0, 0)]
def bk_102_361 : List mIns := [(.iconst 1, 0, 0, 1), (.goto 4, 366, 0, 0)]
def bk_102_365 : List mIns := [(.iconst 0, 0, 0, 0), (.nop, 366, 0, 0)]
def bk_102_366 : List mIns := [(.ireturn, 0, 0, 1)]
def bk_103_0 : List mIns := [(.aload_n 0, 0, 0, 0), (.iload_n 1, 1, 0, 0), (.iconst 0, 0, 0, 0), (.invokevirtual 19, 72, 3, 0), (.istore_n 3, 3, 0, 0), (.aload_n 0, 0, 0, 0), (.iload_n 1, 1, 0, 0), (.iconst 1, 0, 0, 1), (.invokevirtual 19, 72, 3, 0), (.istore 4, 4, 0, 0), (.aload_n 0, 0, 0, 0), (.iconst 0, 0, 0, 0), (.invokevirtual 13, 80, 2, 0), (.istore 5, 5, 0, 0), (.aload_n 0, 0, 0, 0), (.iconst 3, 0, 0, 3), (.invokevirtual 13, 80, 2, 0), (.istore 6, 6, 0, 0), (.iload_n 2, 2, 0, 0), (.iload_n 3, 3, 0, 0), (.iconst 1, 0, 0, 1), (.iadd, 0, 0, 0), (.invokestatic 50, 95, 2, 0), (.istore 7, 7, 0, 0), (.aload_n 0, 0, 0, 0), (.iload_n 1, 1, 0, 0), (.iconst 2, 0, 0, 2), (.invokevirtual 19, 72, 3, 0), (.istore 8, 8, 0, 0), (.aload_n 0, 0, 0, 0), (.iload_n 1, 1, 0, 0), (.iload 7, 7, 0, 0), (.invokevirtual 78, 62, 3, 0), (.istore 9, 9, 0, 0), (.iload 7, 7, 0, 0), (.iload_n 3, 3, 0, 0), (.if_icmp .eq 10, 68, 0, 0), (.iload 5, 5, 0, 0), (.bipush 6, 0, 0, 6), (.if_icmp .ne 36, 101, 0, 0), (.nop, 68, 0, 0)]
def bk_103_68 : List mIns := [(.iload 9, 9, 0, 0), (.iload 7, 7, 0, 0), (.iload_n 3, 3, 0, 0), (.if_icmp .ne 7, 80, 0, 0), (.iconst (-1), 0, 0, (-1)), (.goto 5, 82, 0, 0)]
def bk_103_80 : List mIns := [(.bipush (-3), 0, 0, (-3)), (.nop, 82, 0, 0)]
def bk_103_82 : List mIns := [(.if_icmp .ne 17, 99, 0, 0), (.aload_n 0, 0, 0, 0), (.iconst 3, 0, 0, 3), (.invokevirtual 13, 80, 2, 0), (.iload 6, 6, 0, 0), (.if_icmp .ne 7, 99, 0, 0), (.iconst 1, 0, 0, 1), (.goto 4, 100, 0, 0)]
def bk_103_99 : List mIns := [(.iconst 0, 0, 0, 0), (.nop, 100, 0, 0)]
def bk_103_100 : List mIns := [(.ireturn, 0, 0, 1)]
def bk_103_101 : List mIns := [(.iload 9, 9, 0, 0), (.ifCond .lt 129, 232, 0, 0), (.iload 9, 9, 0, 0), (.iload_n 1, 1, 0, 0), (.if_icmp .eq 123, 232, 0, 0), (.aload_n 0, 0, 0, 0), (.iconst 0, 0, 0, 0), (.invokevirtual 13, 80, 2, 0), (.iload 5, 5, 0, 0), (.iconst 1, 0, 0, 1), (.iadd, 0, 0, 0), (.if_icmp .ne 111, 232, 0, 0), (.aload_n 0, 0, 0, 0), (.iconst 3, 0, 0, 3), (.invokevirtual 13, 80, 2, 0), (.iload 6, 6, 0, 0), (.sipush 5000, 0, 0, 5000), (.iadd, 0, 0, 0), (.if_icmp .ne 97, 232, 0, 0), (.aload_n 0, 0, 0, 0), (.iload_n 1, 1, 0, 0), (.iconst 0, 0, 0, 0), (.invokevirtual 19, 72, 3, 0), (.iload 7, 7, 0, 0), (.if_icmp .ne 86, 232, 0, 0), (.aload_n 0, 0, 0, 0), (.iload 9, 9, 0, 0), (.iconst 0, 0, 0, 0), (.invokevirtual 19, 72, 3, 0), (.iload_n 3, 3, 0, 0), (.iload 7, 7, 0, 0), (.isub, 0, 0, 0), (.if_icmp .ne 72, 232, 0, 0), (.aload_n 0, 0, 0, 0), (.iload_n 1, 1, 0, 0), (.iconst 1, 0, 0, 1), (.invokevirtual 19, 72, 3, 0), (.ifCond .ne 63, 232, 0, 0), (.aload_n 0, 0, 0, 0), (.iload 9, 9, 0, 0), (.iconst 1, 0, 0, 1), (.invokevirtual 19, 72, 3, 0), (.iload 4, 4, 0, 0), (.if_icmp .ne 51, 232, 0, 0), (.aload_n 0, 0, 0, 0), (.iload 9, 9, 0, 0), (.iconst 4, 0, 0, 4), (.invokevirtual 19, 72, 3, 0), (.ifCond .ne 41, 232, 0, 0), (.aload_n 0, 0, 0, 0), (.iload_n 1, 1, 0, 0), (.iconst 2, 0, 0, 2), (.invokevirtual 19, 72, 3, 0), (.aload_n 0, 0, 0, 0), (.iload 9, 9, 0, 0), (.iconst 2, 0, 0, 2), (.invokevirtual 19, 72, 3, 0), (.iadd, 0, 0, 0), (.iload 8, 8, 0, 0), (.sipush 5000, 0, 0, 5000), (.iadd, 0, 0, 0), (.if_icmp .ne 18, 232, 0, 0), (.aload_n 0, 0, 0, 0), (.iconst 0, 0, 0, 0), (.iconst 2, 0, 0, 2), (.invokevirtual 33, 79, 3, 0), (.iload 9, 9, 0, 0), (.if_icmp .ne 7, 232, 0, 0), (.iconst 1, 0, 0, 1), (.goto 4, 233, 0, 0)]
def bk_103_232 : List mIns := [(.iconst 0, 0, 0, 0), (.nop, 233, 0, 0)]
def bk_103_233 : List mIns := [(.ireturn, 0, 0, 1)]
def bk_104_0 : List mIns := [(.iload_n 2, 2, 0, 0), (.bipush 6, 0, 0, 6), (.invokestatic 50, 95, 2, 0), (.istore_n 3, 3, 0, 0), (.aload_n 0, 0, 0, 0), (.iload_n 1, 1, 0, 0), (.iconst 0, 0, 0, 0), (.invokevirtual 19, 72, 3, 0), (.istore 4, 4, 0, 0), (.aload_n 0, 0, 0, 0), (.iload_n 3, 3, 0, 0), (.iconst 0, 0, 0, 0), (.invokevirtual 19, 72, 3, 0), (.istore 5, 5, 0, 0), (.aload_n 0, 0, 0, 0), (.iload_n 3, 3, 0, 0), (.iconst 1, 0, 0, 1), (.invokevirtual 19, 72, 3, 0), (.istore 6, 6, 0, 0), (.aload_n 0, 0, 0, 0), (.iconst 0, 0, 0, 0), (.invokevirtual 13, 80, 2, 0), (.istore 7, 7, 0, 0), (.aload_n 0, 0, 0, 0), (.iconst 3, 0, 0, 3), (.invokevirtual 13, 80, 2, 0), (.istore 8, 8, 0, 0), (.aload_n 0, 0, 0, 0), (.iload_n 1, 1, 0, 0), (.iload_n 3, 3, 0, 0), (.invokevirtual 91, 63, 3, 0), (.istore 9, 9, 0, 0), (.iload_n 3, 3, 0, 0), (.iload_n 1, 1, 0, 0), (.if_icmp .ne 16, 71, 0, 0), (.iload 9, 9, 0, 0), (.bipush (-2), 0, 0, (-2)), (.if_icmp .ne 7, 69, 0, 0), (.iconst 1, 0, 0, 1), (.goto 4, 70, 0, 0)]
def bk_104_69 : List mIns := [(.iconst 0, 0, 0, 0), (.nop, 70, 0, 0)]
def bk_104_70 : List mIns := [(.ireturn, 0, 0, 1)]
def bk_104_71 : List mIns := [(.iload 4, 4, 0, 0), (.ifCond .lt 8, 81, 0, 0), (.iload 5, 5, 0, 0), (.ifCond .ge 16, 94, 0, 0), (.nop, 81, 0, 0)]
def bk_104_81 : List mIns := [(.iload 9, 9, 0, 0), (.bipush (-4), 0, 0, (-4)), (.if_icmp .ne 7, 92, 0, 0), (.iconst 1, 0, 0, 1), (.goto 4, 93, 0, 0)]
def bk_104_92 : List mIns := [(.iconst 0, 0, 0, 0), (.nop, 93, 0, 0)]
def bk_104_93 : List mIns := [(.ireturn, 0, 0, 1)]
def bk_104_94 : List mIns := [(.iload 4, 4, 0, 0), (.iload 5, 5, 0, 0), (.iadd, 0, 0, 0), (.bipush 30, 0, 0, 30), (.if_icmp .le 26, 127, 0, 0), (.iload 9, 9, 0, 0), (.bipush (-3), 0, 0, (-3)), (.if_icmp .ne 17, 125, 0, 0), (.aload_n 0, 0, 0, 0), (.iconst 0, 0, 0, 0), (.invokevirtual 13, 80, 2, 0), (.iload 7, 7, 0, 0), (.if_icmp .ne 7, 125, 0, 0), (.iconst 1, 0, 0, 1), (.goto 4, 126, 0, 0)]
def bk_104_125 : List mIns := [(.iconst 0, 0, 0, 0), (.nop, 126, 0, 0)]
def bk_104_126 : List mIns := [(.ireturn, 0, 0, 1)]
def bk_104_127 : List mIns := [(.iload 9, 9, 0, 0), (.iload 4, 4, 0, 0), (.iload 5, 5, 0, 0), (.iadd, 0, 0, 0), (.if_icmp .ne 71, 205, 0, 0), (.aload_n 0, 0, 0, 0), (.iconst 0, 0, 0, 0), (.invokevirtual 13, 80, 2, 0), (.iload 7, 7, 0, 0), (.iconst 1, 0, 0, 1), (.isub, 0, 0, 0), (.if_icmp .ne 59, 205, 0, 0), (.aload_n 0, 0, 0, 0), (.iload_n 1, 1, 0, 0), (.iconst 1, 0, 0, 1), (.invokevirtual 19, 72, 3, 0), (.iload 6, 6, 0, 0), (.if_icmp .ne 48, 205, 0, 0), (.aload_n 0, 0, 0, 0), (.iload_n 3, 3, 0, 0), (.iconst 0, 0, 0, 0), (.invokevirtual 19, 72, 3, 0), (.bipush (-4), 0, 0, (-4)), (.if_icmp .ne 37, 205, 0, 0), (.aload_n 0, 0, 0, 0), (.iconst 3, 0, 0, 3), (.invokevirtual 13, 80, 2, 0), (.iload 8, 8, 0, 0), (.if_icmp .ne 27, 205, 0, 0), (.aload_n 0, 0, 0, 0), (.iconst 0, 0, 0, 0), (.iconst 0, 0, 0, 0), (.invokevirtual 33, 79, 3, 0), (.iconst 4, 0, 0, 4), (.if_icmp .ne 17, 205, 0, 0), (.aload_n 0, 0, 0, 0), (.iconst 0, 0, 0, 0), (.iconst 1, 0, 0, 1), (.invokevirtual 33, 79, 3, 0), (.iload_n 1, 1, 0, 0), (.if_icmp .ne 7, 205, 0, 0), (.iconst 1, 0, 0, 1), (.goto 4, 206, 0, 0)]
def bk_104_205 : List mIns := [(.iconst 0, 0, 0, 0), (.nop, 206, 0, 0)]
def bk_104_206 : List mIns := [(.ireturn, 0, 0, 1)]
def bk_105_0 : List mIns := [(.aload_n 0, 0, 0, 0), (.iconst 3, 0, 0, 3), (.invokevirtual 13, 80, 2, 0), (.istore_n 3, 3, 0, 0), (.iload_n 2, 2, 0, 0), (.iconst 1, 0, 0, 1), (.iand, 0, 0, 0), (.ifCond .ne 86, 95, 0, 0), (.aload_n 0, 0, 0, 0), (.iload_n 1, 1, 0, 0), (.iconst 1, 0, 0, 1), (.invokevirtual 19, 72, 3, 0), (.iconst 1, 0, 0, 1), (.if_icmp .ne 7, 26, 0, 0), (.iconst 1, 0, 0, 1), (.goto 4, 27, 0, 0)]
def bk_105_26 : List mIns := [(.iconst 0, 0, 0, 0), (.nop, 27, 0, 0)]
def bk_105_27 : List mIns := [(.istore 4, 4, 0, 0), (.aload_n 0, 0, 0, 0), (.iload_n 1, 1, 0, 0), (.invokevirtual 69, 64, 2, 0), (.istore 5, 5, 0, 0), (.iload 5, 5, 0, 0), (.iload 4, 4, 0, 0), (.ifCond .eq 8, 48, 0, 0), (.bipush (-5), 0, 0, (-5)), (.goto 9, 54, 0, 0)]
def bk_105_48 : List mIns := [(.aload_n 0, 0, 0, 0), (.iload_n 1, 1, 0, 0), (.iconst 0, 0, 0, 0), (.invokevirtual 19, 72, 3, 0), (.nop, 54, 0, 0)]
def bk_105_54 : List mIns := [(.if_icmp .ne 39, 93, 0, 0), (.aload_n 0, 0, 0, 0), (.iload_n 1, 1, 0, 0), (.iconst 1, 0, 0, 1), (.invokevirtual 19, 72, 3, 0), (.iconst 1, 0, 0, 1), (.if_icmp .ne 29, 93, 0, 0), (.aload_n 0, 0, 0, 0), (.iconst 3, 0, 0, 3), (.invokevirtual 13, 80, 2, 0), (.iload_n 3, 3, 0, 0), (.iload 4, 4, 0, 0), (.ifCond .eq 7, 82, 0, 0), (.iconst 0, 0, 0, 0), (.goto 6, 85, 0, 0)]
def bk_105_82 : List mIns := [(.sipush 5000, 0, 0, 5000), (.nop, 85, 0, 0)]
def bk_105_85 : List mIns := [(.iadd, 0, 0, 0), (.if_icmp .ne 7, 93, 0, 0), (.iconst 1, 0, 0, 1), (.goto 4, 94, 0, 0)]
def bk_105_93 : List mIns := [(.iconst 0, 0, 0, 0), (.nop, 94, 0, 0)]
def bk_105_94 : List mIns := [(.ireturn, 0, 0, 1)]
def bk_105_95 : List mIns := [(.iload_n 2, 2, 0, 0), (.iconst 1, 0, 0, 1), (.ishr, 0, 0, 0), (.iconst 3, 0, 0, 3), (.invokestatic 50, 95, 2, 0), (.istore 4, 4, 0, 0), (.iload 4, 4, 0, 0), (.iconst 2, 0, 0, 2), (.if_icmp .ne 12, 119, 0, 0), (.aload_n 0, 0, 0, 0), (.iload_n 1, 1, 0, 0), (.iconst 1, 0, 0, 1), (.invokevirtual 19, 72, 3, 0), (.ifCond .eq 14, 130, 0, 0), (.nop, 119, 0, 0)]
def bk_105_119 : List mIns := [(.aload_n 0, 0, 0, 0), (.iload_n 1, 1, 0, 0), (.iload 4, 4, 0, 0), (.iconst 1, 0, 0, 1), (.invokevirtual 72, 75, 4, 0), (.ifCond .le 7, 134, 0, 0), (.nop, 130, 0, 0)]
def bk_105_130 : List mIns := [(.iconst 1, 0, 0, 1), (.goto 4, 135, 0, 0)]
def bk_105_134 : List mIns := [(.iconst 0, 0, 0, 0), (.nop, 135, 0, 0)]
def bk_105_135 : List mIns := [(.istore 5, 5, 0, 0), (.aload_n 0, 0, 0, 0), (.iload_n 1, 1, 0, 0), (.iload 4, 4, 0, 0), (.iconst 0, 0, 0, 0), (.invokevirtual 72, 75, 4, 0), (.istore 6, 6, 0, 0), (.aload_n 0, 0, 0, 0), (.iload_n 1, 1, 0, 0), (.iload 4, 4, 0, 0), (.invokevirtual 81, 65, 3, 0), (.istore 7, 7, 0, 0), (.iload 5, 5, 0, 0), (.ifCond .eq 25, 183, 0, 0), (.iload 7, 7, 0, 0), (.bipush (-4), 0, 0, (-4)), (.if_icmp .ne 16, 181, 0, 0), (.aload_n 0, 0, 0, 0), (.iconst 3, 0, 0, 3), (.invokevirtual 13, 80, 2, 0), (.iload_n 3, 3, 0, 0), (.if_icmp .ne 7, 181, 0, 0), (.iconst 1, 0, 0, 1), (.goto 4, 182, 0, 0)]
def bk_105_181 : List mIns := [(.iconst 0, 0, 0, 0), (.nop, 182, 0, 0)]
def bk_105_182 : List mIns := [(.ireturn, 0, 0, 1)]
def bk_105_183 : List mIns := [(.iload 7, 7, 0, 0), (.iload 6, 6, 0, 0), (.if_icmp .ne 67, 254, 0, 0), (.aload_n 0, 0, 0, 0), (.iload_n 1, 1, 0, 0), (.iconst 0, 0, 0, 0), (.iconst 0, 0, 0, 0), (.invokevirtual 72, 75, 4, 0), (.iload 6, 6, 0, 0), (.if_icmp .ne 55, 254, 0, 0), (.aload_n 0, 0, 0, 0), (.iload_n 1, 1, 0, 0), (.iconst 0, 0, 0, 0), (.iconst 1, 0, 0, 1), (.invokevirtual 72, 75, 4, 0), (.ifCond .ne 45, 254, 0, 0), (.aload_n 0, 0, 0, 0), (.iload_n 1, 1, 0, 0), (.bipush 6, 0, 0, 6), (.invokevirtual 19, 72, 3, 0), (.sipush 1000, 0, 0, 1000), (.if_icmp .ne 32, 254, 0, 0), (.aload_n 0, 0, 0, 0), (.iconst 3, 0, 0, 3), (.invokevirtual 13, 80, 2, 0), (.iload_n 3, 3, 0, 0), (.aload_n 0, 0, 0, 0), (.iload_n 1, 1, 0, 0), (.iconst 3, 0, 0, 3), (.invokevirtual 19, 72, 3, 0), (.iadd, 0, 0, 0), (.if_icmp .ne 16, 254, 0, 0), (.aload_n 0, 0, 0, 0), (.iload_n 1, 1, 0, 0), (.iconst 4, 0, 0, 4), (.invokevirtual 19, 72, 3, 0), (.ifCond .ne 7, 254, 0, 0), (.iconst 1, 0, 0, 1), (.goto 4, 255, 0, 0)]
def bk_105_254 : List mIns := [(.iconst 0, 0, 0, 0), (.nop, 255, 0, 0)]
def bk_105_255 : List mIns := [(.ireturn, 0, 0, 1)]
def bk_106_0 : List mIns := [(.iload_n 1, 1, 0, 0), (.iconst 1, 0, 0, 1), (.iand, 0, 0, 0), (.ifCond .ne 76, 79, 0, 0), (.aload_n 0, 0, 0, 0), (.bipush 7, 0, 0, 7), (.invokevirtual 13, 80, 2, 0), (.istore_n 3, 3, 0, 0), (.iload_n 2, 2, 0, 0), (.iconst 4, 0, 0, 4), (.invokestatic 50, 95, 2, 0), (.istore 4, 4, 0, 0), (.aload_n 0, 0, 0, 0), (.iload 4, 4, 0, 0), (.invokevirtual 94, 59, 2, 0), (.iload 4, 4, 0, 0), (.iconst 3, 0, 0, 3), (.if_icmp .ne 8, 37, 0, 0), (.bipush (-2), 0, 0, (-2)), (.goto 15, 49, 0, 0)]
def bk_106_37 : List mIns := [(.iload 4, 4, 0, 0), (.iload_n 3, 3, 0, 0), (.if_icmp .ne 8, 48, 0, 0), (.bipush (-5), 0, 0, (-5)), (.goto 4, 49, 0, 0)]
def bk_106_48 : List mIns := [(.iload_n 3, 3, 0, 0), (.nop, 49, 0, 0)]
def bk_106_49 : List mIns := [(.if_icmp .ne 28, 77, 0, 0), (.aload_n 0, 0, 0, 0), (.bipush 7, 0, 0, 7), (.invokevirtual 13, 80, 2, 0), (.iload 4, 4, 0, 0), (.iconst 3, 0, 0, 3), (.if_icmp .ne 7, 68, 0, 0), (.iload_n 3, 3, 0, 0), (.goto 5, 70, 0, 0)]
def bk_106_68 : List mIns := [(.iload 4, 4, 0, 0), (.nop, 70, 0, 0)]
def bk_106_70 : List mIns := [(.if_icmp .ne 7, 77, 0, 0), (.iconst 1, 0, 0, 1), (.goto 4, 78, 0, 0)]
def bk_106_77 : List mIns := [(.iconst 0, 0, 0, 0), (.nop, 78, 0, 0)]
def bk_106_78 : List mIns := [(.ireturn, 0, 0, 1)]
def bk_106_79 : List mIns := [(.aload_n 0, 0, 0, 0), (.bipush 8, 0, 0, 8), (.invokevirtual 13, 80, 2, 0), (.istore_n 3, 3, 0, 0), (.bipush 100, 0, 0, 100), (.iload_n 2, 2, 0, 0), (.bipush 102, 0, 0, 102), (.invokestatic 50, 95, 2, 0), (.iadd, 0, 0, 0), (.istore 4, 4, 0, 0), (.iload 4, 4, 0, 0), (.bipush 100, 0, 0, 100), (.if_icmp .eq 11, 112, 0, 0), (.iload 4, 4, 0, 0), (.sipush 201, 0, 0, 201), (.if_icmp .ne 7, 116, 0, 0), (.nop, 112, 0, 0)]
def bk_106_112 : List mIns := [(.iconst 1, 0, 0, 1), (.goto 4, 117, 0, 0)]
def bk_106_116 : List mIns := [(.iconst 0, 0, 0, 0), (.nop, 117, 0, 0)]
def bk_106_117 : List mIns := [(.istore 5, 5, 0, 0), (.aload_n 0, 0, 0, 0), (.iload 4, 4, 0, 0), (.invokevirtual 97, 60, 2, 0), (.iload 5, 5, 0, 0), (.ifCond .eq 8, 135, 0, 0), (.bipush (-2), 0, 0, (-2)), (.goto 15, 147, 0, 0)]
def bk_106_135 : List mIns := [(.iload 4, 4, 0, 0), (.iload_n 3, 3, 0, 0), (.if_icmp .ne 8, 146, 0, 0), (.bipush (-5), 0, 0, (-5)), (.goto 4, 147, 0, 0)]
def bk_106_146 : List mIns := [(.iload_n 3, 3, 0, 0), (.nop, 147, 0, 0)]
def bk_106_147 : List mIns := [(.if_icmp .ne 27, 174, 0, 0), (.aload_n 0, 0, 0, 0), (.bipush 8, 0, 0, 8), (.invokevirtual 13, 80, 2, 0), (.iload 5, 5, 0, 0), (.ifCond .eq 7, 165, 0, 0), (.iload_n 3, 3, 0, 0), (.goto 5, 167, 0, 0)]
def bk_106_165 : List mIns := [(.iload 4, 4, 0, 0), (.nop, 167, 0, 0)]
def bk_106_167 : List mIns := [(.if_icmp .ne 7, 174, 0, 0), (.iconst 1, 0, 0, 1), (.goto 4, 175, 0, 0)]
def bk_106_174 : List mIns := [(.iconst 0, 0, 0, 0), (.nop, 175, 0, 0)]
def bk_106_175 : List mIns := [(.ireturn, 0, 0, 1)]
def bk_107_0 : List mIns := [(.new 14, 7, 9, 0), (.dup, 0, 0, 0), (.invokespecial 100, 58, 1, 1), (.astore_n 1, 1, 0, 0), (.aload_n 1, 1, 0, 0), (.invokevirtual 101, 70, 1, 0), (.bipush (-5), 0, 0, (-5)), (.if_icmp .ne 63, 77, 0, 0), (.aload_n 1, 1, 0, 0), (.invokevirtual 104, 71, 1, 0), (.bipush (-5), 0, 0, (-5)), (.if_icmp .ne 54, 77, 0, 0), (.aload_n 1, 1, 0, 0), (.invokevirtual 60, 68, 1, 0), (.bipush (-100), 0, 0, (-100)), (.if_icmp .ne 45, 77, 0, 0), (.aload_n 1, 1, 0, 0), (.bipush 8, 0, 0, 8), (.invokevirtual 13, 80, 2, 0), (.sipush 130, 0, 0, 130), (.if_icmp .ne 33, 77, 0, 0), (.aload_n 1, 1, 0, 0), (.iconst 0, 0, 0, 0), (.iconst 0, 0, 0, 0), (.invokevirtual 33, 79, 3, 0), (.bipush (-5), 0, 0, (-5)), (.if_icmp .ne 22, 77, 0, 0), (.aload_n 1, 1, 0, 0), (.bipush 6, 0, 0, 6), (.iconst 0, 0, 0, 0), (.invokevirtual 19, 72, 3, 0), (.iconst (-1), 0, 0, (-1)), (.if_icmp .ne 11, 77, 0, 0), (.aload_n 1, 1, 0, 0), (.iconst 0, 0, 0, 0), (.invokevirtual 13, 80, 2, 0), (.ifCond .eq 5, 79, 0, 0), (.nop, 77, 0, 0)]
def bk_107_77 : List mIns := [(.iconst 0, 0, 0, 0), (.ireturn, 0, 0, 1)]
def bk_107_79 : List mIns := [(.iconst 0, 0, 0, 0), (.istore_n 2, 2, 0, 0), (.nop, 81, 0, 0)]
def bk_107_81 : List mIns := [(.iload_n 2, 2, 0, 0), (.bipush 20, 0, 0, 20), (.if_icmp .ge 398, 482, 0, 0), (.aload_n 0, 0, 0, 0), (.iconst 2, 0, 0, 2), (.iload_n 2, 2, 0, 0), (.imul, 0, 0, 0), (.invokestatic 107, 94, 2, 0), (.istore_n 3, 3, 0, 0), (.aload_n 0, 0, 0, 0), (.iconst 2, 0, 0, 2), (.iload_n 2, 2, 0, 0), (.imul, 0, 0, 0), (.iconst 1, 0, 0, 1), (.iadd, 0, 0, 0), (.invokestatic 107, 94, 2, 0), (.istore 4, 4, 0, 0), (.iload_n 3, 3, 0, 0), (.bipush 7, 0, 0, 7), (.ishr, 0, 0, 0), (.bipush 6, 0, 0, 6), (.invokestatic 50, 95, 2, 0), (.istore 5, 5, 0, 0), (.iload_n 3, 3, 0, 0), (.bipush 11, 0, 0, 11), (.ishr, 0, 0, 0), (.bipush 11, 0, 0, 11), (.invokestatic 50, 95, 2, 0), (.istore 6, 6, 0, 0), (.aload_n 1, 1, 0, 0), (.iload 5, 5, 0, 0), (.iconst 0, 0, 0, 0), (.invokevirtual 19, 72, 3, 0), (.bipush (-4), 0, 0, (-4)), (.if_icmp .ne 7, 144, 0, 0), (.iconst 1, 0, 0, 1), (.goto 4, 145, 0, 0)]
def bk_107_144 : List mIns := [(.iconst 0, 0, 0, 0), (.nop, 145, 0, 0)]
def bk_107_145 : List mIns := [(.istore 7, 7, 0, 0), (.aload_n 1, 1, 0, 0), (.bipush 9, 0, 0, 9), (.invokevirtual 13, 80, 2, 0), (.istore 8, 8, 0, 0), (.aload_n 1, 1, 0, 0), (.invokestatic 111, 96, 1, 0), (.lstore 9, 9, 0, 0), (.iload 7, 7, 0, 0), (.ifCond .ne 8, 171, 0, 0), (.iload 6, 6, 0, 0), (.ifCond .ne 17, 185, 0, 0), (.nop, 171, 0, 0)]
def bk_107_171 : List mIns := [(.aload_n 1, 1, 0, 0), (.iload 5, 5, 0, 0), (.iload_n 3, 3, 0, 0), (.iload 4, 4, 0, 0), (.invokestatic 115, 100, 4, 0), (.istore 11, 11, 0, 0), (.goto 105, 287, 0, 0)]
def bk_107_185 : List mIns := [(.iload 6, 6, 0, 0), (.iconst 5, 0, 0, 5), (.if_icmp .ge 17, 205, 0, 0), (.aload_n 1, 1, 0, 0), (.iload 5, 5, 0, 0), (.iload_n 3, 3, 0, 0), (.iload 4, 4, 0, 0), (.invokestatic 119, 102, 4, 0), (.istore 11, 11, 0, 0), (.goto 85, 287, 0, 0)]
def bk_107_205 : List mIns := [(.iload 6, 6, 0, 0), (.iconst 5, 0, 0, 5), (.if_icmp .ne 16, 224, 0, 0), (.aload_n 1, 1, 0, 0), (.iload 5, 5, 0, 0), (.iload 4, 4, 0, 0), (.invokestatic 122, 103, 3, 0), (.istore 11, 11, 0, 0), (.goto 66, 287, 0, 0)]
def bk_107_224 : List mIns := [(.iload 6, 6, 0, 0), (.bipush 6, 0, 0, 6), (.if_icmp .eq 10, 238, 0, 0), (.iload 6, 6, 0, 0), (.bipush 7, 0, 0, 7), (.if_icmp .ne 16, 251, 0, 0), (.nop, 238, 0, 0)]
def bk_107_238 : List mIns := [(.aload_n 1, 1, 0, 0), (.iload 5, 5, 0, 0), (.iload 4, 4, 0, 0), (.invokestatic 126, 104, 3, 0), (.istore 11, 11, 0, 0), (.goto 39, 287, 0, 0)]
def bk_107_251 : List mIns := [(.iload 6, 6, 0, 0), (.bipush 8, 0, 0, 8), (.if_icmp .eq 10, 265, 0, 0), (.iload 6, 6, 0, 0), (.bipush 9, 0, 0, 9), (.if_icmp .ne 16, 278, 0, 0), (.nop, 265, 0, 0)]
def bk_107_265 : List mIns := [(.aload_n 1, 1, 0, 0), (.iload 5, 5, 0, 0), (.iload 4, 4, 0, 0), (.invokestatic 129, 105, 3, 0), (.istore 11, 11, 0, 0), (.goto 12, 287, 0, 0)]
def bk_107_278 : List mIns := [(.aload_n 1, 1, 0, 0), (.iload_n 3, 3, 0, 0), (.iload 4, 4, 0, 0), (.invokestatic 132, 106, 3, 0), (.istore 11, 11, 0, 0), (.nop, 287, 0, 0)]
def bk_107_287 : List mIns := [(.iload 8, 8, 0, 0), (.iconst 4, 0, 0, 4), (.if_icmp .ne 7, 297, 0, 0), (.iconst 3, 0, 0, 3), (.goto 5, 299, 0, 0)]
def bk_107_297 : List mIns := [(.iload 8, 8, 0, 0), (.nop, 299, 0, 0)]
def bk_107_299 : List mIns := [(.istore 12, 12, 0, 0), (.iload 11, 11, 0, 0), (.ifCond .eq 65, 368, 0, 0), (.iload 4, 4, 0, 0), (.sipush 3072, 0, 0, 3072), (.iand, 0, 0, 0), (.ifCond .ne 56, 368, 0, 0), (.aload_n 1, 1, 0, 0), (.bipush 9, 0, 0, 9), (.invokevirtual 13, 80, 2, 0), (.iload 8, 8, 0, 0), (.if_icmp .ne 19, 342, 0, 0), (.iload 8, 8, 0, 0), (.iconst 4, 0, 0, 4), (.if_icmp .ne 39, 368, 0, 0), (.aload_n 1, 1, 0, 0), (.invokestatic 111, 96, 1, 0), (.lload 9, 9, 0, 0), (.lcmp, 0, 0, 0), (.ifCond .eq 29, 368, 0, 0), (.nop, 342, 0, 0)]
def bk_107_342 : List mIns := [(.aload_n 1, 1, 0, 0), (.invokevirtual 101, 70, 1, 0), (.iload 12, 12, 0, 0), (.if_icmp .ne 17, 365, 0, 0), (.aload_n 1, 1, 0, 0), (.invokestatic 111, 96, 1, 0), (.lload 9, 9, 0, 0), (.lcmp, 0, 0, 0), (.ifCond .ne 7, 365, 0, 0), (.iconst 1, 0, 0, 1), (.goto 4, 366, 0, 0)]
def bk_107_365 : List mIns := [(.iconst 0, 0, 0, 0), (.nop, 366, 0, 0)]
def bk_107_366 : List mIns := [(.istore 11, 11, 0, 0), (.nop, 368, 0, 0)]
def bk_107_368 : List mIns := [(.iload 11, 11, 0, 0), (.ifCond .ne 5, 375, 0, 0), (.iconst 0, 0, 0, 0), (.ireturn, 0, 0, 1)]
def bk_107_375 : List mIns := [(.iconst 0, 0, 0, 0), (.istore 13, 13, 0, 0), (.iconst 0, 0, 0, 0), (.istore 14, 14, 0, 0), (.iconst 0, 0, 0, 0), (.istore 15, 15, 0, 0), (.nop, 384, 0, 0)]
def bk_107_384 : List mIns := [(.iload 15, 15, 0, 0), (.bipush 6, 0, 0, 6), (.if_icmp .ge 66, 454, 0, 0), (.aload_n 1, 1, 0, 0), (.iload 15, 15, 0, 0), (.invokestatic 135, 101, 2, 0), (.ifCond .ne 5, 402, 0, 0), (.iconst 0, 0, 0, 0), (.ireturn, 0, 0, 1)]
def bk_107_402 : List mIns := [(.iload 13, 13, 0, 0), (.aload_n 1, 1, 0, 0), (.iload 15, 15, 0, 0), (.iconst 0, 0, 0, 0), (.invokevirtual 19, 72, 3, 0), (.ifCond .ge 7, 418, 0, 0), (.iconst 0, 0, 0, 0), (.goto 10, 425, 0, 0)]
def bk_107_418 : List mIns := [(.aload_n 1, 1, 0, 0), (.iload 15, 15, 0, 0), (.iconst 0, 0, 0, 0), (.invokevirtual 19, 72, 3, 0), (.nop, 425, 0, 0)]
def bk_107_425 : List mIns := [(.iadd, 0, 0, 0), (.istore 13, 13, 0, 0), (.iload 14, 14, 0, 0), (.aload_n 1, 1, 0, 0), (.iload 15, 15, 0, 0), (.iconst 0, 0, 0, 0), (.invokevirtual 19, 72, 3, 0), (.ifCond .ge 7, 444, 0, 0), (.iconst 0, 0, 0, 0), (.goto 4, 445, 0, 0)]
def bk_107_444 : List mIns := [(.iconst 1, 0, 0, 1), (.nop, 445, 0, 0)]
def bk_107_445 : List mIns := [(.iadd, 0, 0, 0), (.istore 14, 14, 0, 0), (.iinc 15 1, 15, 0, 1), (.goto (-67), 384, 0, 0)]
def bk_107_454 : List mIns := [(.aload_n 1, 1, 0, 0), (.iconst 0, 0, 0, 0), (.invokevirtual 13, 80, 2, 0), (.iload 14, 14, 0, 0), (.if_icmp .ne 13, 474, 0, 0), (.aload_n 1, 1, 0, 0), (.iconst 1, 0, 0, 1), (.invokevirtual 13, 80, 2, 0), (.iload 13, 13, 0, 0), (.if_icmp .eq 5, 476, 0, 0), (.nop, 474, 0, 0)]
def bk_107_474 : List mIns := [(.iconst 0, 0, 0, 0), (.ireturn, 0, 0, 1)]
def bk_107_476 : List mIns := [(.iinc 2 1, 2, 0, 1), (.goto (-398), 81, 0, 0)]
def bk_107_482 : List mIns := [(.iconst 1, 0, 0, 1), (.ireturn, 0, 0, 1)]
def bl_0 : List (Nat × List mIns) := [(0, bk_0_0)]
def bl_1 : List (Nat × List mIns) := [(0, bk_1_0), (53, bk_1_53), (78, bk_1_78), (95, bk_1_95), (123, bk_1_123)]
def bl_2 : List (Nat × List mIns) := [(0, bk_2_0), (2, bk_2_2), (29, bk_2_29)]
def bl_3 : List (Nat × List mIns) := [(0, bk_3_0), (12, bk_3_12), (24, bk_3_24), (36, bk_3_36), (48, bk_3_48), (60, bk_3_60), (75, bk_3_75), (76, bk_3_76)]
def bl_4 : List (Nat × List mIns) := [(0, bk_4_0), (15, bk_4_15), (43, bk_4_43), (114, bk_4_114)]
def bl_5 : List (Nat × List mIns) := [(0, bk_5_0), (14, bk_5_14), (22, bk_5_22), (62, bk_5_62), (81, bk_5_81)]
def bl_6 : List (Nat × List mIns) := [(0, bk_6_0), (9, bk_6_9), (31, bk_6_31)]
def bl_7 : List (Nat × List mIns) := [(0, bk_7_0), (14, bk_7_14), (15, bk_7_15)]
def bl_8 : List (Nat × List mIns) := [(0, bk_8_0), (19, bk_8_19), (43, bk_8_43)]
def bl_9 : List (Nat × List mIns) := [(0, bk_9_0), (12, bk_9_12)]
def bl_10 : List (Nat × List mIns) := [(0, bk_10_0), (9, bk_10_9), (34, bk_10_34)]
def bl_11 : List (Nat × List mIns) := [(0, bk_11_0), (9, bk_11_9)]
def bl_12 : List (Nat × List mIns) := [(0, bk_12_0)]
def bl_13 : List (Nat × List mIns) := [(0, bk_13_0)]
def bl_14 : List (Nat × List mIns) := [(0, bk_14_0), (13, bk_14_13)]
def bl_15 : List (Nat × List mIns) := [(0, bk_15_0)]
def bl_16 : List (Nat × List mIns) := [(0, bk_16_0), (12, bk_16_12), (15, bk_16_15), (35, bk_16_35), (49, bk_16_49), (55, bk_16_55)]
def bl_17 : List (Nat × List mIns) := [(0, bk_17_0)]
def bl_18 : List (Nat × List mIns) := [(0, bk_18_0), (25, bk_18_25), (64, bk_18_64), (99, bk_18_99), (131, bk_18_131)]
def bl_19 : List (Nat × List mIns) := [(0, bk_19_0), (26, bk_19_26), (28, bk_19_28)]
def bl_20 : List (Nat × List mIns) := [(0, bk_20_0), (6, bk_20_6), (33, bk_20_33), (34, bk_20_34)]
def bl_21 : List (Nat × List mIns) := [(0, bk_21_0), (6, bk_21_6), (24, bk_21_24), (34, bk_21_34), (47, bk_21_47)]
def bl_22 : List (Nat × List mIns) := [(0, bk_22_0)]
def bl_23 : List (Nat × List mIns) := [(0, bk_23_0), (2, bk_23_2), (30, bk_23_30), (36, bk_23_36)]
def bl_24 : List (Nat × List mIns) := [(0, bk_24_0), (63, bk_24_63), (88, bk_24_88)]
def bl_25 : List (Nat × List mIns) := [(0, bk_25_0), (2, bk_25_2), (29, bk_25_29)]
def bl_26 : List (Nat × List mIns) := [(0, bk_26_0), (4, bk_26_4), (25, bk_26_25), (31, bk_26_31)]
def bl_27 : List (Nat × List mIns) := [(0, bk_27_0), (4, bk_27_4), (28, bk_27_28)]
def bl_28 : List (Nat × List mIns) := [(0, bk_28_0), (2, bk_28_2), (22, bk_28_22), (28, bk_28_28)]
def bl_29 : List (Nat × List mIns) := [(0, bk_29_0), (3, bk_29_3), (93, bk_29_93), (99, bk_29_99)]
def bl_30 : List (Nat × List mIns) := [(0, bk_30_0)]
def bl_31 : List (Nat × List mIns) := [(0, bk_31_0)]
def bl_32 : List (Nat × List mIns) := [(0, bk_32_0), (11, bk_32_11)]
def bl_33 : List (Nat × List mIns) := [(0, bk_33_0), (12, bk_33_12), (14, bk_33_14)]
def bl_34 : List (Nat × List mIns) := [(0, bk_34_0), (10, bk_34_10), (12, bk_34_12), (32, bk_34_32), (38, bk_34_38)]
def bl_35 : List (Nat × List mIns) := [(0, bk_35_0)]
def bl_36 : List (Nat × List mIns) := [(0, bk_36_0)]
def bl_37 : List (Nat × List mIns) := [(0, bk_37_0), (9, bk_37_9), (25, bk_37_25), (31, bk_37_31)]
def bl_38 : List (Nat × List mIns) := [(0, bk_38_0), (16, bk_38_16), (17, bk_38_17)]
def bl_39 : List (Nat × List mIns) := [(0, bk_39_0), (16, bk_39_16), (17, bk_39_17)]
def bl_40 : List (Nat × List mIns) := [(0, bk_40_0), (19, bk_40_19), (23, bk_40_23), (24, bk_40_24)]
def bl_41 : List (Nat × List mIns) := [(0, bk_41_0)]
def bl_42 : List (Nat × List mIns) := [(0, bk_42_0)]
def bl_43 : List (Nat × List mIns) := [(0, bk_43_0), (32, bk_43_32)]
def bl_44 : List (Nat × List mIns) := [(0, bk_44_0)]
def bl_45 : List (Nat × List mIns) := [(0, bk_45_0), (10, bk_45_10), (11, bk_45_11)]
def bl_46 : List (Nat × List mIns) := [(0, bk_46_0)]
def bl_47 : List (Nat × List mIns) := [(0, bk_47_0)]
def bl_48 : List (Nat × List mIns) := [(0, bk_48_0)]
def bl_49 : List (Nat × List mIns) := [(0, bk_49_0), (18, bk_49_18), (49, bk_49_49)]
def bl_50 : List (Nat × List mIns) := [(0, bk_50_0), (11, bk_50_11), (52, bk_50_52), (63, bk_50_63)]
def bl_51 : List (Nat × List mIns) := [(0, bk_51_0), (12, bk_51_12), (82, bk_51_82), (88, bk_51_88)]
def bl_52 : List (Nat × List mIns) := [(0, bk_52_0), (9, bk_52_9)]
def bl_53 : List (Nat × List mIns) := [(0, bk_53_0)]
def bl_54 : List (Nat × List mIns) := [(0, bk_54_0)]
def bl_55 : List (Nat × List mIns) := [(0, bk_55_0), (10, bk_55_10), (36, bk_55_36)]
def bl_56 : List (Nat × List mIns) := [(0, bk_56_0), (9, bk_56_9), (29, bk_56_29), (35, bk_56_35)]
def bl_57 : List (Nat × List mIns) := [(0, bk_57_0), (17, bk_57_17), (19, bk_57_19)]
def bl_58 : List (Nat × List mIns) := [(0, bk_58_0)]
def bl_59 : List (Nat × List mIns) := [(0, bk_59_0), (9, bk_59_9), (12, bk_59_12), (28, bk_59_28)]
def bl_60 : List (Nat × List mIns) := [(0, bk_60_0), (13, bk_60_13), (16, bk_60_16), (32, bk_60_32)]
def bl_61 : List (Nat × List mIns) := [(0, bk_61_0), (9, bk_61_9), (27, bk_61_27), (30, bk_61_30), (48, bk_61_48)]
def bl_62 : List (Nat × List mIns) := [(0, bk_62_0), (23, bk_62_23), (25, bk_62_25), (43, bk_62_43)]
def bl_63 : List (Nat × List mIns) := [(0, bk_63_0), (14, bk_63_14), (16, bk_63_16), (24, bk_63_24), (60, bk_63_60), (63, bk_63_63), (81, bk_63_81)]
def bl_64 : List (Nat × List mIns) := [(0, bk_64_0), (9, bk_64_9), (29, bk_64_29), (39, bk_64_39)]
def bl_65 : List (Nat × List mIns) := [(0, bk_65_0), (9, bk_65_9), (19, bk_65_19), (40, bk_65_40), (62, bk_65_62)]
def bl_66 : List (Nat × List mIns) := [(0, bk_66_0), (14, bk_66_14)]
def bl_67 : List (Nat × List mIns) := [(0, bk_67_0)]
def bl_68 : List (Nat × List mIns) := [(0, bk_68_0), (33, bk_68_33), (76, bk_68_76), (102, bk_68_102), (122, bk_68_122), (141, bk_68_141), (160, bk_68_160), (172, bk_68_172)]
def bl_69 : List (Nat × List mIns) := [(0, bk_69_0), (9, bk_69_9), (31, bk_69_31), (42, bk_69_42), (61, bk_69_61), (90, bk_69_90)]
def bl_70 : List (Nat × List mIns) := [(0, bk_70_0), (17, bk_70_17)]
def bl_71 : List (Nat × List mIns) := [(0, bk_71_0), (10, bk_71_10)]
def bl_72 : List (Nat × List mIns) := [(0, bk_72_0), (9, bk_72_9), (19, bk_72_19), (22, bk_72_22), (42, bk_72_42), (80, bk_72_80), (85, bk_72_85), (96, bk_72_96), (97, bk_72_97), (98, bk_72_98), (103, bk_72_103), (108, bk_72_108), (113, bk_72_113), (118, bk_72_118)]
def bl_73 : List (Nat × List mIns) := [(0, bk_73_0), (23, bk_73_23), (25, bk_73_25), (68, bk_73_68), (76, bk_73_76), (84, bk_73_84), (100, bk_73_100), (110, bk_73_110), (111, bk_73_111), (130, bk_73_130)]
def bl_74 : List (Nat × List mIns) := [(0, bk_74_0), (23, bk_74_23), (25, bk_74_25), (35, bk_74_35), (58, bk_74_58), (90, bk_74_90), (95, bk_74_95)]
def bl_75 : List (Nat × List mIns) := [(0, bk_75_0), (9, bk_75_9), (25, bk_75_25), (28, bk_75_28), (51, bk_75_51), (73, bk_75_73), (86, bk_75_86), (102, bk_75_102), (109, bk_75_109)]
def bl_76 : List (Nat × List mIns) := [(0, bk_76_0), (9, bk_76_9), (29, bk_76_29), (38, bk_76_38), (87, bk_76_87), (93, bk_76_93)]
def bl_77 : List (Nat × List mIns) := [(0, bk_77_0), (9, bk_77_9), (35, bk_77_35), (38, bk_77_38), (60, bk_77_60), (75, bk_77_75), (129, bk_77_129), (135, bk_77_135)]
def bl_78 : List (Nat × List mIns) := [(0, bk_78_0), (9, bk_78_9), (23, bk_78_23), (26, bk_78_26), (48, bk_78_48), (70, bk_78_70), (106, bk_78_106), (140, bk_78_140), (146, bk_78_146)]
def bl_79 : List (Nat × List mIns) := [(0, bk_79_0), (13, bk_79_13), (16, bk_79_16)]
def bl_80 : List (Nat × List mIns) := [(0, bk_80_0), (60, bk_80_60), (68, bk_80_68), (76, bk_80_76), (84, bk_80_84), (92, bk_80_92), (100, bk_80_100), (108, bk_80_108), (116, bk_80_116), (124, bk_80_124), (132, bk_80_132), (140, bk_80_140), (148, bk_80_148)]
def bl_81 : List (Nat × List mIns) := [(0, bk_81_0), (14, bk_81_14), (15, bk_81_15)]
def bl_82 : List (Nat × List mIns) := [(0, bk_82_0), (14, bk_82_14), (15, bk_82_15)]
def bl_83 : List (Nat × List mIns) := [(0, bk_83_0), (13, bk_83_13), (14, bk_83_14)]
def bl_84 : List (Nat × List mIns) := [(0, bk_84_0), (9, bk_84_9), (13, bk_84_13), (14, bk_84_14)]
def bl_85 : List (Nat × List mIns) := [(0, bk_85_0)]
def bl_86 : List (Nat × List mIns) := [(0, bk_86_0), (15, bk_86_15), (34, bk_86_34)]
def bl_87 : List (Nat × List mIns) := [(0, bk_87_0)]
def bl_88 : List (Nat × List mIns) := [(0, bk_88_0), (16, bk_88_16)]
def bl_89 : List (Nat × List mIns) := [(0, bk_89_0), (13, bk_89_13), (14, bk_89_14)]
def bl_90 : List (Nat × List mIns) := [(0, bk_90_0), (17, bk_90_17), (18, bk_90_18)]
def bl_91 : List (Nat × List mIns) := [(0, bk_91_0)]
def bl_92 : List (Nat × List mIns) := [(0, bk_92_0)]
def bl_93 : List (Nat × List mIns) := [(0, bk_93_0), (9, bk_93_9), (16, bk_93_16)]
def bl_94 : List (Nat × List mIns) := [(0, bk_94_0), (12, bk_94_12), (20, bk_94_20)]
def bl_95 : List (Nat × List mIns) := [(0, bk_95_0)]
def bl_96 : List (Nat × List mIns) := [(0, bk_96_0), (6, bk_96_6), (31, bk_96_31), (33, bk_96_33), (42, bk_96_42), (70, bk_96_70), (73, bk_96_73), (130, bk_96_130), (136, bk_96_136), (138, bk_96_138), (188, bk_96_188)]
def bl_97 : List (Nat × List mIns) := [(0, bk_97_0)]
def bl_98 : List (Nat × List mIns) := [(0, bk_98_0), (37, bk_98_37), (48, bk_98_48)]
def bl_99 : List (Nat × List mIns) := [(0, bk_99_0), (17, bk_99_17)]
def bl_100 : List (Nat × List mIns) := [(0, bk_100_0), (15, bk_100_15), (16, bk_100_16), (39, bk_100_39), (41, bk_100_41), (84, bk_100_84), (133, bk_100_133), (151, bk_100_151), (163, bk_100_163), (165, bk_100_165), (182, bk_100_182), (183, bk_100_183), (184, bk_100_184), (187, bk_100_187), (247, bk_100_247), (249, bk_100_249), (255, bk_100_255), (329, bk_100_329), (330, bk_100_330)]
def bl_101 : List (Nat × List mIns) := [(0, bk_101_0), (86, bk_101_86), (87, bk_101_87), (88, bk_101_88), (111, bk_101_111), (194, bk_101_194), (205, bk_101_205), (226, bk_101_226), (228, bk_101_228), (266, bk_101_266), (268, bk_101_268), (276, bk_101_276), (351, bk_101_351), (353, bk_101_353), (363, bk_101_363), (422, bk_101_422), (437, bk_101_437), (438, bk_101_438), (439, bk_101_439), (452, bk_101_452), (497, bk_101_497), (498, bk_101_498), (514, bk_101_514), (515, bk_101_515), (543, bk_101_543), (545, bk_101_545), (553, bk_101_553), (616, bk_101_616), (618, bk_101_618), (639, bk_101_639), (645, bk_101_645), (659, bk_101_659), (660, bk_101_660)]
def bl_102 : List (Nat × List mIns) := [(0, bk_102_0), (122, bk_102_122), (123, bk_102_123), (150, bk_102_150), (206, bk_102_206), (208, bk_102_208), (223, bk_102_223), (224, bk_102_224), (237, bk_102_237), (238, bk_102_238), (247, bk_102_247), (249, bk_102_249), (296, bk_102_296), (297, bk_102_297), (298, bk_102_298), (361, bk_102_361), (365, bk_102_365), (366, bk_102_366)]
def bl_103 : List (Nat × List mIns) := [(0, bk_103_0), (68, bk_103_68), (80, bk_103_80), (82, bk_103_82), (99, bk_103_99), (100, bk_103_100), (101, bk_103_101), (232, bk_103_232), (233, bk_103_233)]
def bl_104 : List (Nat × List mIns) := [(0, bk_104_0), (69, bk_104_69), (70, bk_104_70), (71, bk_104_71), (81, bk_104_81), (92, bk_104_92), (93, bk_104_93), (94, bk_104_94), (125, bk_104_125), (126, bk_104_126), (127, bk_104_127), (205, bk_104_205), (206, bk_104_206)]
def bl_105 : List (Nat × List mIns) := [(0, bk_105_0), (26, bk_105_26), (27, bk_105_27), (48, bk_105_48), (54, bk_105_54), (82, bk_105_82), (85, bk_105_85), (93, bk_105_93), (94, bk_105_94), (95, bk_105_95), (119, bk_105_119), (130, bk_105_130), (134, bk_105_134), (135, bk_105_135), (181, bk_105_181), (182, bk_105_182), (183, bk_105_183), (254, bk_105_254), (255, bk_105_255)]
def bl_106 : List (Nat × List mIns) := [(0, bk_106_0), (37, bk_106_37), (48, bk_106_48), (49, bk_106_49), (68, bk_106_68), (70, bk_106_70), (77, bk_106_77), (78, bk_106_78), (79, bk_106_79), (112, bk_106_112), (116, bk_106_116), (117, bk_106_117), (135, bk_106_135), (146, bk_106_146), (147, bk_106_147), (165, bk_106_165), (167, bk_106_167), (174, bk_106_174), (175, bk_106_175)]
def bl_107 : List (Nat × List mIns) := [(0, bk_107_0), (77, bk_107_77), (79, bk_107_79), (81, bk_107_81), (144, bk_107_144), (145, bk_107_145), (171, bk_107_171), (185, bk_107_185), (205, bk_107_205), (224, bk_107_224), (238, bk_107_238), (251, bk_107_251), (265, bk_107_265), (278, bk_107_278), (287, bk_107_287), (297, bk_107_297), (299, bk_107_299), (342, bk_107_342), (365, bk_107_365), (366, bk_107_366), (368, bk_107_368), (375, bk_107_375), (384, bk_107_384), (402, bk_107_402), (418, bk_107_418), (425, bk_107_425), (444, bk_107_444), (445, bk_107_445), (454, bk_107_454), (474, bk_107_474), (476, bk_107_476), (482, bk_107_482)]
def mBL : List (List (Nat × List mIns)) := [bl_0, bl_1, bl_2, bl_3, bl_4, bl_5, bl_6, bl_7, bl_8, bl_9, bl_10, bl_11, bl_12, bl_13, bl_14, bl_15, bl_16, bl_17, bl_18, bl_19, bl_20, bl_21, bl_22, bl_23, bl_24, bl_25, bl_26, bl_27, bl_28, bl_29, bl_30, bl_31, bl_32, bl_33, bl_34, bl_35, bl_36, bl_37, bl_38, bl_39, bl_40, bl_41, bl_42, bl_43, bl_44, bl_45, bl_46, bl_47, bl_48, bl_49, bl_50, bl_51, bl_52, bl_53, bl_54, bl_55, bl_56, bl_57, bl_58, bl_59, bl_60, bl_61, bl_62, bl_63, bl_64, bl_65, bl_66, bl_67, bl_68, bl_69, bl_70, bl_71, bl_72, bl_73, bl_74, bl_75, bl_76, bl_77, bl_78, bl_79, bl_80, bl_81, bl_82, bl_83, bl_84, bl_85, bl_86, bl_87, bl_88, bl_89, bl_90, bl_91, bl_92, bl_93, bl_94, bl_95, bl_96, bl_97, bl_98, bl_99, bl_100, bl_101, bl_102, bl_103, bl_104, bl_105, bl_106, bl_107]
def mNL : List Nat := [1, 2, 2, 2, 3, 2, 2, 3, 2, 2, 3, 2, 1, 2, 4, 1, 4, 1, 7, 4, 3, 4, 1, 4, 2, 3, 3, 3, 2, 6, 6, 1, 2, 2, 4, 1, 2, 1, 2, 2, 2, 1, 1, 2, 1, 4, 4, 3, 2, 6, 3, 7, 2, 1, 1, 5, 4, 2, 1, 3, 3, 4, 4, 5, 3, 4, 2, 2, 1, 6, 1, 1, 4, 5, 6, 5, 6, 9, 6, 3, 2, 1, 1, 1, 1, 1, 4, 1, 2, 1, 1, 2, 2, 3, 2, 2, 5, 2, 7, 2, 10, 15, 19, 10, 10, 8, 6, 16]
def mRL : List Nat := [0, 0, 0, 0, 0, 0, 0, 0, 1, 1, 1, 1, 2, 2, 2, 2, 2, 3, 3, 3, 3, 3, 3, 3, 4, 4, 4, 4, 4, 4, 4, 5, 5, 5, 5, 6, 6, 6, 6, 6, 6, 6, 6, 6, 6, 6, 6, 6, 6, 6, 6, 6, 6, 6, 6, 6, 6, 6, 7, 7, 7, 7, 7, 7, 7, 7, 7, 7, 7, 7, 7, 7, 7, 7, 7, 7, 7, 7, 7, 7, 7, 7, 7, 7, 7, 7, 7, 10, 10, 10, 10, 10, 11, 12, 9, 9, 9, 9, 9, 9, 9, 9, 9, 9, 9, 9, 9, 9]
def mB (y pc : Nat) : List mIns := ((mBL.getD y []).lookup pc).getD []
def mN (y : Nat) : Nat := mNL.getD y 0
def mRc (y : Nat) : Nat := mRL.getD y 0
theorem B_0_0 : mB 0 0 = bk_0_0 := rfl
theorem N_0 : mN 0 = 1 := rfl
theorem C_0 : mRc 0 = 0 := rfl
theorem B_1_0 : mB 1 0 = bk_1_0 := rfl
theorem B_1_53 : mB 1 53 = bk_1_53 := rfl
theorem B_1_78 : mB 1 78 = bk_1_78 := rfl
theorem B_1_95 : mB 1 95 = bk_1_95 := rfl
theorem B_1_123 : mB 1 123 = bk_1_123 := rfl
theorem N_1 : mN 1 = 2 := rfl
theorem C_1 : mRc 1 = 0 := rfl
theorem B_2_0 : mB 2 0 = bk_2_0 := rfl
theorem B_2_2 : mB 2 2 = bk_2_2 := rfl
theorem B_2_29 : mB 2 29 = bk_2_29 := rfl
theorem N_2 : mN 2 = 2 := rfl
theorem C_2 : mRc 2 = 0 := rfl
theorem B_3_0 : mB 3 0 = bk_3_0 := rfl
theorem B_3_12 : mB 3 12 = bk_3_12 := rfl
theorem B_3_24 : mB 3 24 = bk_3_24 := rfl
theorem B_3_36 : mB 3 36 = bk_3_36 := rfl
theorem B_3_48 : mB 3 48 = bk_3_48 := rfl
theorem B_3_60 : mB 3 60 = bk_3_60 := rfl
theorem B_3_75 : mB 3 75 = bk_3_75 := rfl
theorem B_3_76 : mB 3 76 = bk_3_76 := rfl
theorem N_3 : mN 3 = 2 := rfl
theorem C_3 : mRc 3 = 0 := rfl
theorem B_4_0 : mB 4 0 = bk_4_0 := rfl
theorem B_4_15 : mB 4 15 = bk_4_15 := rfl
theorem B_4_43 : mB 4 43 = bk_4_43 := rfl
theorem B_4_114 : mB 4 114 = bk_4_114 := rfl
theorem N_4 : mN 4 = 3 := rfl
theorem C_4 : mRc 4 = 0 := rfl
theorem B_5_0 : mB 5 0 = bk_5_0 := rfl
theorem B_5_14 : mB 5 14 = bk_5_14 := rfl
theorem B_5_22 : mB 5 22 = bk_5_22 := rfl
theorem B_5_62 : mB 5 62 = bk_5_62 := rfl
theorem B_5_81 : mB 5 81 = bk_5_81 := rfl
theorem N_5 : mN 5 = 2 := rfl
theorem C_5 : mRc 5 = 0 := rfl
theorem B_6_0 : mB 6 0 = bk_6_0 := rfl
theorem B_6_9 : mB 6 9 = bk_6_9 := rfl
theorem B_6_31 : mB 6 31 = bk_6_31 := rfl
theorem N_6 : mN 6 = 2 := rfl
theorem C_6 : mRc 6 = 0 := rfl
theorem B_7_0 : mB 7 0 = bk_7_0 := rfl
theorem B_7_14 : mB 7 14 = bk_7_14 := rfl
theorem B_7_15 : mB 7 15 = bk_7_15 := rfl
theorem N_7 : mN 7 = 3 := rfl
theorem C_7 : mRc 7 = 0 := rfl
theorem B_8_0 : mB 8 0 = bk_8_0 := rfl
theorem B_8_19 : mB 8 19 = bk_8_19 := rfl
theorem B_8_43 : mB 8 43 = bk_8_43 := rfl
theorem N_8 : mN 8 = 2 := rfl
theorem C_8 : mRc 8 = 1 := rfl
theorem B_9_0 : mB 9 0 = bk_9_0 := rfl
theorem B_9_12 : mB 9 12 = bk_9_12 := rfl
theorem N_9 : mN 9 = 2 := rfl
theorem C_9 : mRc 9 = 1 := rfl
theorem B_10_0 : mB 10 0 = bk_10_0 := rfl
theorem B_10_9 : mB 10 9 = bk_10_9 := rfl
theorem B_10_34 : mB 10 34 = bk_10_34 := rfl
theorem N_10 : mN 10 = 3 := rfl
theorem C_10 : mRc 10 = 1 := rfl
theorem B_11_0 : mB 11 0 = bk_11_0 := rfl
theorem B_11_9 : mB 11 9 = bk_11_9 := rfl
theorem N_11 : mN 11 = 2 := rfl
theorem C_11 : mRc 11 = 1 := rfl
theorem B_12_0 : mB 12 0 = bk_12_0 := rfl
theorem N_12 : mN 12 = 1 := rfl
theorem C_12 : mRc 12 = 2 := rfl
theorem B_13_0 : mB 13 0 = bk_13_0 := rfl
theorem N_13 : mN 13 = 2 := rfl
theorem C_13 : mRc 13 = 2 := rfl
theorem B_14_0 : mB 14 0 = bk_14_0 := rfl
theorem B_14_13 : mB 14 13 = bk_14_13 := rfl
theorem N_14 : mN 14 = 4 := rfl
theorem C_14 : mRc 14 = 2 := rfl
theorem B_15_0 : mB 15 0 = bk_15_0 := rfl
theorem N_15 : mN 15 = 1 := rfl
theorem C_15 : mRc 15 = 2 := rfl
theorem B_16_0 : mB 16 0 = bk_16_0 := rfl
theorem B_16_12 : mB 16 12 = bk_16_12 := rfl
theorem B_16_15 : mB 16 15 = bk_16_15 := rfl
theorem B_16_35 : mB 16 35 = bk_16_35 := rfl
theorem B_16_49 : mB 16 49 = bk_16_49 := rfl
theorem B_16_55 : mB 16 55 = bk_16_55 := rfl
theorem N_16 : mN 16 = 4 := rfl
theorem C_16 : mRc 16 = 2 := rfl
theorem B_17_0 : mB 17 0 = bk_17_0 := rfl
theorem N_17 : mN 17 = 1 := rfl
theorem C_17 : mRc 17 = 3 := rfl
theorem B_18_0 : mB 18 0 = bk_18_0 := rfl
theorem B_18_25 : mB 18 25 = bk_18_25 := rfl
theorem B_18_64 : mB 18 64 = bk_18_64 := rfl
theorem B_18_99 : mB 18 99 = bk_18_99 := rfl
theorem B_18_131 : mB 18 131 = bk_18_131 := rfl
theorem N_18 : mN 18 = 7 := rfl
theorem C_18 : mRc 18 = 3 := rfl
theorem B_19_0 : mB 19 0 = bk_19_0 := rfl
theorem B_19_26 : mB 19 26 = bk_19_26 := rfl
theorem B_19_28 : mB 19 28 = bk_19_28 := rfl
theorem N_19 : mN 19 = 4 := rfl
theorem C_19 : mRc 19 = 3 := rfl
theorem B_20_0 : mB 20 0 = bk_20_0 := rfl
theorem B_20_6 : mB 20 6 = bk_20_6 := rfl
theorem B_20_33 : mB 20 33 = bk_20_33 := rfl
theorem B_20_34 : mB 20 34 = bk_20_34 := rfl
theorem N_20 : mN 20 = 3 := rfl
theorem C_20 : mRc 20 = 3 := rfl
theorem B_21_0 : mB 21 0 = bk_21_0 := rfl
theorem B_21_6 : mB 21 6 = bk_21_6 := rfl
theorem B_21_24 : mB 21 24 = bk_21_24 := rfl
theorem B_21_34 : mB 21 34 = bk_21_34 := rfl
theorem B_21_47 : mB 21 47 = bk_21_47 := rfl
theorem N_21 : mN 21 = 4 := rfl
theorem C_21 : mRc 21 = 3 := rfl
theorem B_22_0 : mB 22 0 = bk_22_0 := rfl
theorem N_22 : mN 22 = 1 := rfl
theorem C_22 : mRc 22 = 3 := rfl
theorem B_23_0 : mB 23 0 = bk_23_0 := rfl
theorem B_23_2 : mB 23 2 = bk_23_2 := rfl
theorem B_23_30 : mB 23 30 = bk_23_30 := rfl
theorem B_23_36 : mB 23 36 = bk_23_36 := rfl
theorem N_23 : mN 23 = 4 := rfl
theorem C_23 : mRc 23 = 3 := rfl
theorem B_24_0 : mB 24 0 = bk_24_0 := rfl
theorem B_24_63 : mB 24 63 = bk_24_63 := rfl
theorem B_24_88 : mB 24 88 = bk_24_88 := rfl
theorem N_24 : mN 24 = 2 := rfl
theorem C_24 : mRc 24 = 4 := rfl
theorem B_25_0 : mB 25 0 = bk_25_0 := rfl
theorem B_25_2 : mB 25 2 = bk_25_2 := rfl
theorem B_25_29 : mB 25 29 = bk_25_29 := rfl
theorem N_25 : mN 25 = 3 := rfl
theorem C_25 : mRc 25 = 4 := rfl
theorem B_26_0 : mB 26 0 = bk_26_0 := rfl
theorem B_26_4 : mB 26 4 = bk_26_4 := rfl
theorem B_26_25 : mB 26 25 = bk_26_25 := rfl
theorem B_26_31 : mB 26 31 = bk_26_31 := rfl
theorem N_26 : mN 26 = 3 := rfl
theorem C_26 : mRc 26 = 4 := rfl
theorem B_27_0 : mB 27 0 = bk_27_0 := rfl
theorem B_27_4 : mB 27 4 = bk_27_4 := rfl
theorem B_27_28 : mB 27 28 = bk_27_28 := rfl
theorem N_27 : mN 27 = 3 := rfl
theorem C_27 : mRc 27 = 4 := rfl
theorem B_28_0 : mB 28 0 = bk_28_0 := rfl
theorem B_28_2 : mB 28 2 = bk_28_2 := rfl
theorem B_28_22 : mB 28 22 = bk_28_22 := rfl
theorem B_28_28 : mB 28 28 = bk_28_28 := rfl
theorem N_28 : mN 28 = 2 := rfl
theorem C_28 : mRc 28 = 4 := rfl
theorem B_29_0 : mB 29 0 = bk_29_0 := rfl
theorem B_29_3 : mB 29 3 = bk_29_3 := rfl
theorem B_29_93 : mB 29 93 = bk_29_93 := rfl
theorem B_29_99 : mB 29 99 = bk_29_99 := rfl
theorem N_29 : mN 29 = 6 := rfl
theorem C_29 : mRc 29 = 4 := rfl
theorem B_30_0 : mB 30 0 = bk_30_0 := rfl
theorem N_30 : mN 30 = 6 := rfl
theorem C_30 : mRc 30 = 4 := rfl
theorem B_31_0 : mB 31 0 = bk_31_0 := rfl
theorem N_31 : mN 31 = 1 := rfl
theorem C_31 : mRc 31 = 5 := rfl
theorem B_32_0 : mB 32 0 = bk_32_0 := rfl
theorem B_32_11 : mB 32 11 = bk_32_11 := rfl
theorem N_32 : mN 32 = 2 := rfl
theorem C_32 : mRc 32 = 5 := rfl
theorem B_33_0 : mB 33 0 = bk_33_0 := rfl
theorem B_33_12 : mB 33 12 = bk_33_12 := rfl
theorem B_33_14 : mB 33 14 = bk_33_14 := rfl
theorem N_33 : mN 33 = 2 := rfl
theorem C_33 : mRc 33 = 5 := rfl
theorem B_34_0 : mB 34 0 = bk_34_0 := rfl
theorem B_34_10 : mB 34 10 = bk_34_10 := rfl
theorem B_34_12 : mB 34 12 = bk_34_12 := rfl
theorem B_34_32 : mB 34 32 = bk_34_32 := rfl
theorem B_34_38 : mB 34 38 = bk_34_38 := rfl
theorem N_34 : mN 34 = 4 := rfl
theorem C_34 : mRc 34 = 5 := rfl
theorem B_35_0 : mB 35 0 = bk_35_0 := rfl
theorem N_35 : mN 35 = 1 := rfl
theorem C_35 : mRc 35 = 6 := rfl
theorem B_36_0 : mB 36 0 = bk_36_0 := rfl
theorem N_36 : mN 36 = 2 := rfl
theorem C_36 : mRc 36 = 6 := rfl
theorem B_37_0 : mB 37 0 = bk_37_0 := rfl
theorem B_37_9 : mB 37 9 = bk_37_9 := rfl
theorem B_37_25 : mB 37 25 = bk_37_25 := rfl
theorem B_37_31 : mB 37 31 = bk_37_31 := rfl
theorem N_37 : mN 37 = 1 := rfl
theorem C_37 : mRc 37 = 6 := rfl
theorem B_38_0 : mB 38 0 = bk_38_0 := rfl
theorem B_38_16 : mB 38 16 = bk_38_16 := rfl
theorem B_38_17 : mB 38 17 = bk_38_17 := rfl
theorem N_38 : mN 38 = 2 := rfl
theorem C_38 : mRc 38 = 6 := rfl
theorem B_39_0 : mB 39 0 = bk_39_0 := rfl
theorem B_39_16 : mB 39 16 = bk_39_16 := rfl
theorem B_39_17 : mB 39 17 = bk_39_17 := rfl
theorem N_39 : mN 39 = 2 := rfl
theorem C_39 : mRc 39 = 6 := rfl
theorem B_40_0 : mB 40 0 = bk_40_0 := rfl
theorem B_40_19 : mB 40 19 = bk_40_19 := rfl
theorem B_40_23 : mB 40 23 = bk_40_23 := rfl
theorem B_40_24 : mB 40 24 = bk_40_24 := rfl
theorem N_40 : mN 40 = 2 := rfl
theorem C_40 : mRc 40 = 6 := rfl
theorem B_41_0 : mB 41 0 = bk_41_0 := rfl
theorem N_41 : mN 41 = 1 := rfl
theorem C_41 : mRc 41 = 6 := rfl
theorem B_42_0 : mB 42 0 = bk_42_0 := rfl
theorem N_42 : mN 42 = 1 := rfl
theorem C_42 : mRc 42 = 6 := rfl
theorem B_43_0 : mB 43 0 = bk_43_0 := rfl
theorem B_43_32 : mB 43 32 = bk_43_32 := rfl
theorem N_43 : mN 43 = 2 := rfl
theorem C_43 : mRc 43 = 6 := rfl
theorem B_44_0 : mB 44 0 = bk_44_0 := rfl
theorem N_44 : mN 44 = 1 := rfl
theorem C_44 : mRc 44 = 6 := rfl
theorem B_45_0 : mB 45 0 = bk_45_0 := rfl
theorem B_45_10 : mB 45 10 = bk_45_10 := rfl
theorem B_45_11 : mB 45 11 = bk_45_11 := rfl
theorem N_45 : mN 45 = 4 := rfl
theorem C_45 : mRc 45 = 6 := rfl
theorem B_46_0 : mB 46 0 = bk_46_0 := rfl
theorem N_46 : mN 46 = 4 := rfl
theorem C_46 : mRc 46 = 6 := rfl
theorem B_47_0 : mB 47 0 = bk_47_0 := rfl
theorem N_47 : mN 47 = 3 := rfl
theorem C_47 : mRc 47 = 6 := rfl
theorem B_48_0 : mB 48 0 = bk_48_0 := rfl
theorem N_48 : mN 48 = 2 := rfl
theorem C_48 : mRc 48 = 6 := rfl
theorem B_49_0 : mB 49 0 = bk_49_0 := rfl
theorem B_49_18 : mB 49 18 = bk_49_18 := rfl
theorem B_49_49 : mB 49 49 = bk_49_49 := rfl
theorem N_49 : mN 49 = 6 := rfl
theorem C_49 : mRc 49 = 6 := rfl
theorem B_50_0 : mB 50 0 = bk_50_0 := rfl
theorem B_50_11 : mB 50 11 = bk_50_11 := rfl
theorem B_50_52 : mB 50 52 = bk_50_52 := rfl
theorem B_50_63 : mB 50 63 = bk_50_63 := rfl
theorem N_50 : mN 50 = 3 := rfl
theorem C_50 : mRc 50 = 6 := rfl
theorem B_51_0 : mB 51 0 = bk_51_0 := rfl
theorem B_51_12 : mB 51 12 = bk_51_12 := rfl
theorem B_51_82 : mB 51 82 = bk_51_82 := rfl
theorem B_51_88 : mB 51 88 = bk_51_88 := rfl
theorem N_51 : mN 51 = 7 := rfl
theorem C_51 : mRc 51 = 6 := rfl
theorem B_52_0 : mB 52 0 = bk_52_0 := rfl
theorem B_52_9 : mB 52 9 = bk_52_9 := rfl
theorem N_52 : mN 52 = 2 := rfl
theorem C_52 : mRc 52 = 6 := rfl
theorem B_53_0 : mB 53 0 = bk_53_0 := rfl
theorem N_53 : mN 53 = 1 := rfl
theorem C_53 : mRc 53 = 6 := rfl
theorem B_54_0 : mB 54 0 = bk_54_0 := rfl
theorem N_54 : mN 54 = 1 := rfl
theorem C_54 : mRc 54 = 6 := rfl
theorem B_55_0 : mB 55 0 = bk_55_0 := rfl
theorem B_55_10 : mB 55 10 = bk_55_10 := rfl
theorem B_55_36 : mB 55 36 = bk_55_36 := rfl
theorem N_55 : mN 55 = 5 := rfl
theorem C_55 : mRc 55 = 6 := rfl
theorem B_56_0 : mB 56 0 = bk_56_0 := rfl
theorem B_56_9 : mB 56 9 = bk_56_9 := rfl
theorem B_56_29 : mB 56 29 = bk_56_29 := rfl
theorem B_56_35 : mB 56 35 = bk_56_35 := rfl
theorem N_56 : mN 56 = 4 := rfl
theorem C_56 : mRc 56 = 6 := rfl
theorem B_57_0 : mB 57 0 = bk_57_0 := rfl
theorem B_57_17 : mB 57 17 = bk_57_17 := rfl
theorem B_57_19 : mB 57 19 = bk_57_19 := rfl
theorem N_57 : mN 57 = 2 := rfl
theorem C_57 : mRc 57 = 6 := rfl
theorem B_58_0 : mB 58 0 = bk_58_0 := rfl
theorem N_58 : mN 58 = 1 := rfl
theorem C_58 : mRc 58 = 7 := rfl
theorem B_59_0 : mB 59 0 = bk_59_0 := rfl
theorem B_59_9 : mB 59 9 = bk_59_9 := rfl
theorem B_59_12 : mB 59 12 = bk_59_12 := rfl
theorem B_59_28 : mB 59 28 = bk_59_28 := rfl
theorem N_59 : mN 59 = 3 := rfl
theorem C_59 : mRc 59 = 7 := rfl
theorem B_60_0 : mB 60 0 = bk_60_0 := rfl
theorem B_60_13 : mB 60 13 = bk_60_13 := rfl
theorem B_60_16 : mB 60 16 = bk_60_16 := rfl
theorem B_60_32 : mB 60 32 = bk_60_32 := rfl
theorem N_60 : mN 60 = 3 := rfl
theorem C_60 : mRc 60 = 7 := rfl
theorem B_61_0 : mB 61 0 = bk_61_0 := rfl
theorem B_61_9 : mB 61 9 = bk_61_9 := rfl
theorem B_61_27 : mB 61 27 = bk_61_27 := rfl
theorem B_61_30 : mB 61 30 = bk_61_30 := rfl
theorem B_61_48 : mB 61 48 = bk_61_48 := rfl
theorem N_61 : mN 61 = 4 := rfl
theorem C_61 : mRc 61 = 7 := rfl
theorem B_62_0 : mB 62 0 = bk_62_0 := rfl
theorem B_62_23 : mB 62 23 = bk_62_23 := rfl
theorem B_62_25 : mB 62 25 = bk_62_25 := rfl
theorem B_62_43 : mB 62 43 = bk_62_43 := rfl
theorem N_62 : mN 62 = 4 := rfl
theorem C_62 : mRc 62 = 7 := rfl
theorem B_63_0 : mB 63 0 = bk_63_0 := rfl
theorem B_63_14 : mB 63 14 = bk_63_14 := rfl
theorem B_63_16 : mB 63 16 = bk_63_16 := rfl
theorem B_63_24 : mB 63 24 = bk_63_24 := rfl
theorem B_63_60 : mB 63 60 = bk_63_60 := rfl
theorem B_63_63 : mB 63 63 = bk_63_63 := rfl
theorem B_63_81 : mB 63 81 = bk_63_81 := rfl
theorem N_63 : mN 63 = 5 := rfl
theorem C_63 : mRc 63 = 7 := rfl
theorem B_64_0 : mB 64 0 = bk_64_0 := rfl
theorem B_64_9 : mB 64 9 = bk_64_9 := rfl
theorem B_64_29 : mB 64 29 = bk_64_29 := rfl
theorem B_64_39 : mB 64 39 = bk_64_39 := rfl
theorem N_64 : mN 64 = 3 := rfl
theorem C_64 : mRc 64 = 7 := rfl
theorem B_65_0 : mB 65 0 = bk_65_0 := rfl
theorem B_65_9 : mB 65 9 = bk_65_9 := rfl
theorem B_65_19 : mB 65 19 = bk_65_19 := rfl
theorem B_65_40 : mB 65 40 = bk_65_40 := rfl
theorem B_65_62 : mB 65 62 = bk_65_62 := rfl
theorem N_65 : mN 65 = 4 := rfl
theorem C_65 : mRc 65 = 7 := rfl
theorem B_66_0 : mB 66 0 = bk_66_0 := rfl
theorem B_66_14 : mB 66 14 = bk_66_14 := rfl
theorem N_66 : mN 66 = 2 := rfl
theorem C_66 : mRc 66 = 7 := rfl
theorem B_67_0 : mB 67 0 = bk_67_0 := rfl
theorem N_67 : mN 67 = 2 := rfl
theorem C_67 : mRc 67 = 7 := rfl
theorem B_68_0 : mB 68 0 = bk_68_0 := rfl
theorem B_68_33 : mB 68 33 = bk_68_33 := rfl
theorem B_68_76 : mB 68 76 = bk_68_76 := rfl
theorem B_68_102 : mB 68 102 = bk_68_102 := rfl
theorem B_68_122 : mB 68 122 = bk_68_122 := rfl
theorem B_68_141 : mB 68 141 = bk_68_141 := rfl
theorem B_68_160 : mB 68 160 = bk_68_160 := rfl
theorem B_68_172 : mB 68 172 = bk_68_172 := rfl
theorem N_68 : mN 68 = 1 := rfl
theorem C_68 : mRc 68 = 7 := rfl
theorem B_69_0 : mB 69 0 = bk_69_0 := rfl
theorem B_69_9 : mB 69 9 = bk_69_9 := rfl
theorem B_69_31 : mB 69 31 = bk_69_31 := rfl
theorem B_69_42 : mB 69 42 = bk_69_42 := rfl
theorem B_69_61 : mB 69 61 = bk_69_61 := rfl
theorem B_69_90 : mB 69 90 = bk_69_90 := rfl
theorem N_69 : mN 69 = 6 := rfl
theorem C_69 : mRc 69 = 7 := rfl
theorem B_70_0 : mB 70 0 = bk_70_0 := rfl
theorem B_70_17 : mB 70 17 = bk_70_17 := rfl
theorem N_70 : mN 70 = 1 := rfl
theorem C_70 : mRc 70 = 7 := rfl
theorem B_71_0 : mB 71 0 = bk_71_0 := rfl
theorem B_71_10 : mB 71 10 = bk_71_10 := rfl
theorem N_71 : mN 71 = 1 := rfl
theorem C_71 : mRc 71 = 7 := rfl
theorem B_72_0 : mB 72 0 = bk_72_0 := rfl
theorem B_72_9 : mB 72 9 = bk_72_9 := rfl
theorem B_72_19 : mB 72 19 = bk_72_19 := rfl
theorem B_72_22 : mB 72 22 = bk_72_22 := rfl
theorem B_72_42 : mB 72 42 = bk_72_42 := rfl
theorem B_72_80 : mB 72 80 = bk_72_80 := rfl
theorem B_72_85 : mB 72 85 = bk_72_85 := rfl
theorem B_72_96 : mB 72 96 = bk_72_96 := rfl
theorem B_72_97 : mB 72 97 = bk_72_97 := rfl
theorem B_72_98 : mB 72 98 = bk_72_98 := rfl
theorem B_72_103 : mB 72 103 = bk_72_103 := rfl
theorem B_72_108 : mB 72 108 = bk_72_108 := rfl
theorem B_72_113 : mB 72 113 = bk_72_113 := rfl
theorem B_72_118 : mB 72 118 = bk_72_118 := rfl
theorem N_72 : mN 72 = 4 := rfl
theorem C_72 : mRc 72 = 7 := rfl
theorem B_73_0 : mB 73 0 = bk_73_0 := rfl
theorem B_73_23 : mB 73 23 = bk_73_23 := rfl
theorem B_73_25 : mB 73 25 = bk_73_25 := rfl
theorem B_73_68 : mB 73 68 = bk_73_68 := rfl
theorem B_73_76 : mB 73 76 = bk_73_76 := rfl
theorem B_73_84 : mB 73 84 = bk_73_84 := rfl
theorem B_73_100 : mB 73 100 = bk_73_100 := rfl
theorem B_73_110 : mB 73 110 = bk_73_110 := rfl
theorem B_73_111 : mB 73 111 = bk_73_111 := rfl
theorem B_73_130 : mB 73 130 = bk_73_130 := rfl
theorem N_73 : mN 73 = 5 := rfl
theorem C_73 : mRc 73 = 7 := rfl
theorem B_74_0 : mB 74 0 = bk_74_0 := rfl
theorem B_74_23 : mB 74 23 = bk_74_23 := rfl
theorem B_74_25 : mB 74 25 = bk_74_25 := rfl
theorem B_74_35 : mB 74 35 = bk_74_35 := rfl
theorem B_74_58 : mB 74 58 = bk_74_58 := rfl
theorem B_74_90 : mB 74 90 = bk_74_90 := rfl
theorem B_74_95 : mB 74 95 = bk_74_95 := rfl
theorem N_74 : mN 74 = 6 := rfl
theorem C_74 : mRc 74 = 7 := rfl
theorem B_75_0 : mB 75 0 = bk_75_0 := rfl
theorem B_75_9 : mB 75 9 = bk_75_9 := rfl
theorem B_75_25 : mB 75 25 = bk_75_25 := rfl
theorem B_75_28 : mB 75 28 = bk_75_28 := rfl
theorem B_75_51 : mB 75 51 = bk_75_51 := rfl
theorem B_75_73 : mB 75 73 = bk_75_73 := rfl
theorem B_75_86 : mB 75 86 = bk_75_86 := rfl
theorem B_75_102 : mB 75 102 = bk_75_102 := rfl
theorem B_75_109 : mB 75 109 = bk_75_109 := rfl
theorem N_75 : mN 75 = 5 := rfl
theorem C_75 : mRc 75 = 7 := rfl
theorem B_76_0 : mB 76 0 = bk_76_0 := rfl
theorem B_76_9 : mB 76 9 = bk_76_9 := rfl
theorem B_76_29 : mB 76 29 = bk_76_29 := rfl
theorem B_76_38 : mB 76 38 = bk_76_38 := rfl
theorem B_76_87 : mB 76 87 = bk_76_87 := rfl
theorem B_76_93 : mB 76 93 = bk_76_93 := rfl
theorem N_76 : mN 76 = 6 := rfl
theorem C_76 : mRc 76 = 7 := rfl
theorem B_77_0 : mB 77 0 = bk_77_0 := rfl
theorem B_77_9 : mB 77 9 = bk_77_9 := rfl
theorem B_77_35 : mB 77 35 = bk_77_35 := rfl
theorem B_77_38 : mB 77 38 = bk_77_38 := rfl
theorem B_77_60 : mB 77 60 = bk_77_60 := rfl
theorem B_77_75 : mB 77 75 = bk_77_75 := rfl
theorem B_77_129 : mB 77 129 = bk_77_129 := rfl
theorem B_77_135 : mB 77 135 = bk_77_135 := rfl
theorem N_77 : mN 77 = 9 := rfl
theorem C_77 : mRc 77 = 7 := rfl
theorem B_78_0 : mB 78 0 = bk_78_0 := rfl
theorem B_78_9 : mB 78 9 = bk_78_9 := rfl
theorem B_78_23 : mB 78 23 = bk_78_23 := rfl
theorem B_78_26 : mB 78 26 = bk_78_26 := rfl
theorem B_78_48 : mB 78 48 = bk_78_48 := rfl
theorem B_78_70 : mB 78 70 = bk_78_70 := rfl
theorem B_78_106 : mB 78 106 = bk_78_106 := rfl
theorem B_78_140 : mB 78 140 = bk_78_140 := rfl
theorem B_78_146 : mB 78 146 = bk_78_146 := rfl
theorem N_78 : mN 78 = 6 := rfl
theorem C_78 : mRc 78 = 7 := rfl
theorem B_79_0 : mB 79 0 = bk_79_0 := rfl
theorem B_79_13 : mB 79 13 = bk_79_13 := rfl
theorem B_79_16 : mB 79 16 = bk_79_16 := rfl
theorem N_79 : mN 79 = 3 := rfl
theorem C_79 : mRc 79 = 7 := rfl
theorem B_80_0 : mB 80 0 = bk_80_0 := rfl
theorem B_80_60 : mB 80 60 = bk_80_60 := rfl
theorem B_80_68 : mB 80 68 = bk_80_68 := rfl
theorem B_80_76 : mB 80 76 = bk_80_76 := rfl
theorem B_80_84 : mB 80 84 = bk_80_84 := rfl
theorem B_80_92 : mB 80 92 = bk_80_92 := rfl
theorem B_80_100 : mB 80 100 = bk_80_100 := rfl
theorem B_80_108 : mB 80 108 = bk_80_108 := rfl
theorem B_80_116 : mB 80 116 = bk_80_116 := rfl
theorem B_80_124 : mB 80 124 = bk_80_124 := rfl
theorem B_80_132 : mB 80 132 = bk_80_132 := rfl
theorem B_80_140 : mB 80 140 = bk_80_140 := rfl
theorem B_80_148 : mB 80 148 = bk_80_148 := rfl
theorem N_80 : mN 80 = 2 := rfl
theorem C_80 : mRc 80 = 7 := rfl
theorem B_81_0 : mB 81 0 = bk_81_0 := rfl
theorem B_81_14 : mB 81 14 = bk_81_14 := rfl
theorem B_81_15 : mB 81 15 = bk_81_15 := rfl
theorem N_81 : mN 81 = 1 := rfl
theorem C_81 : mRc 81 = 7 := rfl
theorem B_82_0 : mB 82 0 = bk_82_0 := rfl
theorem B_82_14 : mB 82 14 = bk_82_14 := rfl
theorem B_82_15 : mB 82 15 = bk_82_15 := rfl
theorem N_82 : mN 82 = 1 := rfl
theorem C_82 : mRc 82 = 7 := rfl
theorem B_83_0 : mB 83 0 = bk_83_0 := rfl
theorem B_83_13 : mB 83 13 = bk_83_13 := rfl
theorem B_83_14 : mB 83 14 = bk_83_14 := rfl
theorem N_83 : mN 83 = 1 := rfl
theorem C_83 : mRc 83 = 7 := rfl
theorem B_84_0 : mB 84 0 = bk_84_0 := rfl
theorem B_84_9 : mB 84 9 = bk_84_9 := rfl
theorem B_84_13 : mB 84 13 = bk_84_13 := rfl
theorem B_84_14 : mB 84 14 = bk_84_14 := rfl
theorem N_84 : mN 84 = 1 := rfl
theorem C_84 : mRc 84 = 7 := rfl
theorem B_85_0 : mB 85 0 = bk_85_0 := rfl
theorem N_85 : mN 85 = 1 := rfl
theorem C_85 : mRc 85 = 7 := rfl
theorem B_86_0 : mB 86 0 = bk_86_0 := rfl
theorem B_86_15 : mB 86 15 = bk_86_15 := rfl
theorem B_86_34 : mB 86 34 = bk_86_34 := rfl
theorem N_86 : mN 86 = 4 := rfl
theorem C_86 : mRc 86 = 7 := rfl
theorem B_87_0 : mB 87 0 = bk_87_0 := rfl
theorem N_87 : mN 87 = 1 := rfl
theorem C_87 : mRc 87 = 10 := rfl
theorem B_88_0 : mB 88 0 = bk_88_0 := rfl
theorem B_88_16 : mB 88 16 = bk_88_16 := rfl
theorem N_88 : mN 88 = 2 := rfl
theorem C_88 : mRc 88 = 10 := rfl
theorem B_89_0 : mB 89 0 = bk_89_0 := rfl
theorem B_89_13 : mB 89 13 = bk_89_13 := rfl
theorem B_89_14 : mB 89 14 = bk_89_14 := rfl
theorem N_89 : mN 89 = 1 := rfl
theorem C_89 : mRc 89 = 10 := rfl
theorem B_90_0 : mB 90 0 = bk_90_0 := rfl
theorem B_90_17 : mB 90 17 = bk_90_17 := rfl
theorem B_90_18 : mB 90 18 = bk_90_18 := rfl
theorem N_90 : mN 90 = 1 := rfl
theorem C_90 : mRc 90 = 10 := rfl
theorem B_91_0 : mB 91 0 = bk_91_0 := rfl
theorem N_91 : mN 91 = 2 := rfl
theorem C_91 : mRc 91 = 10 := rfl
theorem B_92_0 : mB 92 0 = bk_92_0 := rfl
theorem N_92 : mN 92 = 2 := rfl
theorem C_92 : mRc 92 = 11 := rfl
theorem B_93_0 : mB 93 0 = bk_93_0 := rfl
theorem B_93_9 : mB 93 9 = bk_93_9 := rfl
theorem B_93_16 : mB 93 16 = bk_93_16 := rfl
theorem N_93 : mN 93 = 3 := rfl
theorem C_93 : mRc 93 = 12 := rfl
theorem B_94_0 : mB 94 0 = bk_94_0 := rfl
theorem B_94_12 : mB 94 12 = bk_94_12 := rfl
theorem B_94_20 : mB 94 20 = bk_94_20 := rfl
theorem N_94 : mN 94 = 2 := rfl
theorem C_94 : mRc 94 = 9 := rfl
theorem B_95_0 : mB 95 0 = bk_95_0 := rfl
theorem N_95 : mN 95 = 2 := rfl
theorem C_95 : mRc 95 = 9 := rfl
theorem B_96_0 : mB 96 0 = bk_96_0 := rfl
theorem B_96_6 : mB 96 6 = bk_96_6 := rfl
theorem B_96_31 : mB 96 31 = bk_96_31 := rfl
theorem B_96_33 : mB 96 33 = bk_96_33 := rfl
theorem B_96_42 : mB 96 42 = bk_96_42 := rfl
theorem B_96_70 : mB 96 70 = bk_96_70 := rfl
theorem B_96_73 : mB 96 73 = bk_96_73 := rfl
theorem B_96_130 : mB 96 130 = bk_96_130 := rfl
theorem B_96_136 : mB 96 136 = bk_96_136 := rfl
theorem B_96_138 : mB 96 138 = bk_96_138 := rfl
theorem B_96_188 : mB 96 188 = bk_96_188 := rfl
theorem N_96 : mN 96 = 5 := rfl
theorem C_96 : mRc 96 = 9 := rfl
theorem B_97_0 : mB 97 0 = bk_97_0 := rfl
theorem N_97 : mN 97 = 2 := rfl
theorem C_97 : mRc 97 = 9 := rfl
theorem B_98_0 : mB 98 0 = bk_98_0 := rfl
theorem B_98_37 : mB 98 37 = bk_98_37 := rfl
theorem B_98_48 : mB 98 48 = bk_98_48 := rfl
theorem N_98 : mN 98 = 7 := rfl
theorem C_98 : mRc 98 = 9 := rfl
theorem B_99_0 : mB 99 0 = bk_99_0 := rfl
theorem B_99_17 : mB 99 17 = bk_99_17 := rfl
theorem N_99 : mN 99 = 2 := rfl
theorem C_99 : mRc 99 = 9 := rfl
theorem B_100_0 : mB 100 0 = bk_100_0 := rfl
theorem B_100_15 : mB 100 15 = bk_100_15 := rfl
theorem B_100_16 : mB 100 16 = bk_100_16 := rfl
theorem B_100_39 : mB 100 39 = bk_100_39 := rfl
theorem B_100_41 : mB 100 41 = bk_100_41 := rfl
theorem B_100_84 : mB 100 84 = bk_100_84 := rfl
theorem B_100_133 : mB 100 133 = bk_100_133 := rfl
theorem B_100_151 : mB 100 151 = bk_100_151 := rfl
theorem B_100_163 : mB 100 163 = bk_100_163 := rfl
theorem B_100_165 : mB 100 165 = bk_100_165 := rfl
theorem B_100_182 : mB 100 182 = bk_100_182 := rfl
theorem B_100_183 : mB 100 183 = bk_100_183 := rfl
theorem B_100_184 : mB 100 184 = bk_100_184 := rfl
theorem B_100_187 : mB 100 187 = bk_100_187 := rfl
theorem B_100_247 : mB 100 247 = bk_100_247 := rfl
theorem B_100_249 : mB 100 249 = bk_100_249 := rfl
theorem B_100_255 : mB 100 255 = bk_100_255 := rfl
theorem B_100_329 : mB 100 329 = bk_100_329 := rfl
theorem B_100_330 : mB 100 330 = bk_100_330 := rfl
theorem N_100 : mN 100 = 10 := rfl
theorem C_100 : mRc 100 = 9 := rfl
theorem B_101_0 : mB 101 0 = bk_101_0 := rfl
theorem B_101_86 : mB 101 86 = bk_101_86 := rfl
theorem B_101_87 : mB 101 87 = bk_101_87 := rfl
theorem B_101_88 : mB 101 88 = bk_101_88 := rfl
theorem B_101_111 : mB 101 111 = bk_101_111 := rfl
theorem B_101_194 : mB 101 194 = bk_101_194 := rfl
theorem B_101_205 : mB 101 205 = bk_101_205 := rfl
theorem B_101_226 : mB 101 226 = bk_101_226 := rfl
theorem B_101_228 : mB 101 228 = bk_101_228 := rfl
theorem B_101_266 : mB 101 266 = bk_101_266 := rfl
theorem B_101_268 : mB 101 268 = bk_101_268 := rfl
theorem B_101_276 : mB 101 276 = bk_101_276 := rfl
theorem B_101_351 : mB 101 351 = bk_101_351 := rfl
theorem B_101_353 : mB 101 353 = bk_101_353 := rfl
theorem B_101_363 : mB 101 363 = bk_101_363 := rfl
theorem B_101_422 : mB 101 422 = bk_101_422 := rfl
theorem B_101_437 : mB 101 437 = bk_101_437 := rfl
theorem B_101_438 : mB 101 438 = bk_101_438 := rfl
theorem B_101_439 : mB 101 439 = bk_101_439 := rfl
theorem B_101_452 : mB 101 452 = bk_101_452 := rfl
theorem B_101_497 : mB 101 497 = bk_101_497 := rfl
theorem B_101_498 : mB 101 498 = bk_101_498 := rfl
theorem B_101_514 : mB 101 514 = bk_101_514 := rfl
theorem B_101_515 : mB 101 515 = bk_101_515 := rfl
theorem B_101_543 : mB 101 543 = bk_101_543 := rfl
theorem B_101_545 : mB 101 545 = bk_101_545 := rfl
theorem B_101_553 : mB 101 553 = bk_101_553 := rfl
theorem B_101_616 : mB 101 616 = bk_101_616 := rfl
theorem B_101_618 : mB 101 618 = bk_101_618 := rfl
theorem B_101_639 : mB 101 639 = bk_101_639 := rfl
theorem B_101_645 : mB 101 645 = bk_101_645 := rfl
theorem B_101_659 : mB 101 659 = bk_101_659 := rfl
theorem B_101_660 : mB 101 660 = bk_101_660 := rfl
theorem N_101 : mN 101 = 15 := rfl
theorem C_101 : mRc 101 = 9 := rfl
theorem B_102_0 : mB 102 0 = bk_102_0 := rfl
theorem B_102_122 : mB 102 122 = bk_102_122 := rfl
theorem B_102_123 : mB 102 123 = bk_102_123 := rfl
theorem B_102_150 : mB 102 150 = bk_102_150 := rfl
theorem B_102_206 : mB 102 206 = bk_102_206 := rfl
theorem B_102_208 : mB 102 208 = bk_102_208 := rfl
theorem B_102_223 : mB 102 223 = bk_102_223 := rfl
theorem B_102_224 : mB 102 224 = bk_102_224 := rfl
theorem B_102_237 : mB 102 237 = bk_102_237 := rfl
theorem B_102_238 : mB 102 238 = bk_102_238 := rfl
theorem B_102_247 : mB 102 247 = bk_102_247 := rfl
theorem B_102_249 : mB 102 249 = bk_102_249 := rfl
theorem B_102_296 : mB 102 296 = bk_102_296 := rfl
theorem B_102_297 : mB 102 297 = bk_102_297 := rfl
theorem B_102_298 : mB 102 298 = bk_102_298 := rfl
theorem B_102_361 : mB 102 361 = bk_102_361 := rfl
theorem B_102_365 : mB 102 365 = bk_102_365 := rfl
theorem B_102_366 : mB 102 366 = bk_102_366 := rfl
theorem N_102 : mN 102 = 19 := rfl
theorem C_102 : mRc 102 = 9 := rfl
theorem B_103_0 : mB 103 0 = bk_103_0 := rfl
theorem B_103_68 : mB 103 68 = bk_103_68 := rfl
theorem B_103_80 : mB 103 80 = bk_103_80 := rfl
theorem B_103_82 : mB 103 82 = bk_103_82 := rfl
theorem B_103_99 : mB 103 99 = bk_103_99 := rfl
theorem B_103_100 : mB 103 100 = bk_103_100 := rfl
theorem B_103_101 : mB 103 101 = bk_103_101 := rfl
theorem B_103_232 : mB 103 232 = bk_103_232 := rfl
theorem B_103_233 : mB 103 233 = bk_103_233 := rfl
theorem N_103 : mN 103 = 10 := rfl
theorem C_103 : mRc 103 = 9 := rfl
theorem B_104_0 : mB 104 0 = bk_104_0 := rfl
theorem B_104_69 : mB 104 69 = bk_104_69 := rfl
theorem B_104_70 : mB 104 70 = bk_104_70 := rfl
theorem B_104_71 : mB 104 71 = bk_104_71 := rfl
theorem B_104_81 : mB 104 81 = bk_104_81 := rfl
theorem B_104_92 : mB 104 92 = bk_104_92 := rfl
theorem B_104_93 : mB 104 93 = bk_104_93 := rfl
theorem B_104_94 : mB 104 94 = bk_104_94 := rfl
theorem B_104_125 : mB 104 125 = bk_104_125 := rfl
theorem B_104_126 : mB 104 126 = bk_104_126 := rfl
theorem B_104_127 : mB 104 127 = bk_104_127 := rfl
theorem B_104_205 : mB 104 205 = bk_104_205 := rfl
theorem B_104_206 : mB 104 206 = bk_104_206 := rfl
theorem N_104 : mN 104 = 10 := rfl
theorem C_104 : mRc 104 = 9 := rfl
theorem B_105_0 : mB 105 0 = bk_105_0 := rfl
theorem B_105_26 : mB 105 26 = bk_105_26 := rfl
theorem B_105_27 : mB 105 27 = bk_105_27 := rfl
theorem B_105_48 : mB 105 48 = bk_105_48 := rfl
theorem B_105_54 : mB 105 54 = bk_105_54 := rfl
theorem B_105_82 : mB 105 82 = bk_105_82 := rfl
theorem B_105_85 : mB 105 85 = bk_105_85 := rfl
theorem B_105_93 : mB 105 93 = bk_105_93 := rfl
theorem B_105_94 : mB 105 94 = bk_105_94 := rfl
theorem B_105_95 : mB 105 95 = bk_105_95 := rfl
theorem B_105_119 : mB 105 119 = bk_105_119 := rfl
theorem B_105_130 : mB 105 130 = bk_105_130 := rfl
theorem B_105_134 : mB 105 134 = bk_105_134 := rfl
theorem B_105_135 : mB 105 135 = bk_105_135 := rfl
theorem B_105_181 : mB 105 181 = bk_105_181 := rfl
theorem B_105_182 : mB 105 182 = bk_105_182 := rfl
theorem B_105_183 : mB 105 183 = bk_105_183 := rfl
theorem B_105_254 : mB 105 254 = bk_105_254 := rfl
theorem B_105_255 : mB 105 255 = bk_105_255 := rfl
theorem N_105 : mN 105 = 8 := rfl
theorem C_105 : mRc 105 = 9 := rfl
theorem B_106_0 : mB 106 0 = bk_106_0 := rfl
theorem B_106_37 : mB 106 37 = bk_106_37 := rfl
theorem B_106_48 : mB 106 48 = bk_106_48 := rfl
theorem B_106_49 : mB 106 49 = bk_106_49 := rfl
theorem B_106_68 : mB 106 68 = bk_106_68 := rfl
theorem B_106_70 : mB 106 70 = bk_106_70 := rfl
theorem B_106_77 : mB 106 77 = bk_106_77 := rfl
theorem B_106_78 : mB 106 78 = bk_106_78 := rfl
theorem B_106_79 : mB 106 79 = bk_106_79 := rfl
theorem B_106_112 : mB 106 112 = bk_106_112 := rfl
theorem B_106_116 : mB 106 116 = bk_106_116 := rfl
theorem B_106_117 : mB 106 117 = bk_106_117 := rfl
theorem B_106_135 : mB 106 135 = bk_106_135 := rfl
theorem B_106_146 : mB 106 146 = bk_106_146 := rfl
theorem B_106_147 : mB 106 147 = bk_106_147 := rfl
theorem B_106_165 : mB 106 165 = bk_106_165 := rfl
theorem B_106_167 : mB 106 167 = bk_106_167 := rfl
theorem B_106_174 : mB 106 174 = bk_106_174 := rfl
theorem B_106_175 : mB 106 175 = bk_106_175 := rfl
theorem N_106 : mN 106 = 6 := rfl
theorem C_106 : mRc 106 = 9 := rfl
theorem B_107_0 : mB 107 0 = bk_107_0 := rfl
theorem B_107_77 : mB 107 77 = bk_107_77 := rfl
theorem B_107_79 : mB 107 79 = bk_107_79 := rfl
theorem B_107_81 : mB 107 81 = bk_107_81 := rfl
theorem B_107_144 : mB 107 144 = bk_107_144 := rfl
theorem B_107_145 : mB 107 145 = bk_107_145 := rfl
theorem B_107_171 : mB 107 171 = bk_107_171 := rfl
theorem B_107_185 : mB 107 185 = bk_107_185 := rfl
theorem B_107_205 : mB 107 205 = bk_107_205 := rfl
theorem B_107_224 : mB 107 224 = bk_107_224 := rfl
theorem B_107_238 : mB 107 238 = bk_107_238 := rfl
theorem B_107_251 : mB 107 251 = bk_107_251 := rfl
theorem B_107_265 : mB 107 265 = bk_107_265 := rfl
theorem B_107_278 : mB 107 278 = bk_107_278 := rfl
theorem B_107_287 : mB 107 287 = bk_107_287 := rfl
theorem B_107_297 : mB 107 297 = bk_107_297 := rfl
theorem B_107_299 : mB 107 299 = bk_107_299 := rfl
theorem B_107_342 : mB 107 342 = bk_107_342 := rfl
theorem B_107_365 : mB 107 365 = bk_107_365 := rfl
theorem B_107_366 : mB 107 366 = bk_107_366 := rfl
theorem B_107_368 : mB 107 368 = bk_107_368 := rfl
theorem B_107_375 : mB 107 375 = bk_107_375 := rfl
theorem B_107_384 : mB 107 384 = bk_107_384 := rfl
theorem B_107_402 : mB 107 402 = bk_107_402 := rfl
theorem B_107_418 : mB 107 418 = bk_107_418 := rfl
theorem B_107_425 : mB 107 425 = bk_107_425 := rfl
theorem B_107_444 : mB 107 444 = bk_107_444 := rfl
theorem B_107_445 : mB 107 445 = bk_107_445 := rfl
theorem B_107_454 : mB 107 454 = bk_107_454 := rfl
theorem B_107_474 : mB 107 474 = bk_107_474 := rfl
theorem B_107_476 : mB 107 476 = bk_107_476 := rfl
theorem B_107_482 : mB 107 482 = bk_107_482 := rfl
theorem N_107 : mN 107 = 16 := rfl
theorem C_107 : mRc 107 = 9 := rfl
