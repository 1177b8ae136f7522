/-! THE CODE of the methods for the small machine: by method, by place; laid by wip/whole/gen.py -/
def bk_0_0 : List mIns := [(.aload_n 0, 0, 0, 0), (.invokespecial 3, 0, 0, 0), (.aload_n 0, 0, 0, 0), (.iconst 0, 0, 0, 0), (.putfield 9, 0, 0, 0), (.aload_n 0, 0, 0, 0), (.iconst 0, 0, 0, 0), (.putfield 15, 0, 1, 0), (.aload_n 0, 0, 0, 0), (.iconst 0, 0, 0, 0), (.putfield 18, 0, 2, 0), (.aload_n 0, 0, 0, 0), (.iconst 0, 0, 0, 0), (.putfield 21, 0, 3, 0), (.aload_n 0, 0, 0, 0), (.iconst (-1), 0, 0, (-1)), (.putfield 24, 0, 4, 0), (.aload_n 0, 0, 0, 0), (.iconst 0, 0, 0, 0), (.putfield 27, 0, 5, 0), (.return_, 0, 0, 0)]
def bk_1_0 : List mIns := [(.aload_n 0, 0, 0, 0), (.iconst 0, 0, 0, 0), (.putfield 15, 0, 1, 0), (.aload_n 0, 0, 0, 0), (.iconst 0, 0, 0, 0), (.putfield 18, 0, 2, 0), (.aload_n 0, 0, 0, 0), (.iconst 0, 0, 0, 0), (.putfield 21, 0, 3, 0), (.aload_n 0, 0, 0, 0), (.iconst (-1), 0, 0, (-1)), (.putfield 24, 0, 4, 0), (.aload_n 0, 0, 0, 0), (.aload_n 1, 1, 0, 0), (.invokestatic 30, 2, 1, 0), (.putfield 27, 0, 5, 0), (.aload_n 0, 0, 0, 0), (.aload_n 1, 1, 0, 0), (.aload_n 0, 0, 0, 0), (.getfield 27, 0, 5, 0), (.invokestatic 34, 3, 2, 0), (.putfield 9, 0, 0, 0), (.aload_n 0, 0, 0, 0), (.getfield 9, 0, 0, 0), (.ifCond .ne 9, 53, 0, 0), (.aload_n 0, 0, 0, 0), (.iconst 0, 0, 0, 0), (.putfield 24, 0, 4, 0), (.return_, 0, 0, 0)]
def bk_1_53 : List mIns := [(.aload_n 0, 0, 0, 0), (.aload_n 0, 0, 0, 0), (.aload_n 1, 1, 0, 0), (.invokevirtual 38, 4, 2, 0), (.putfield 15, 0, 1, 0), (.aload_n 0, 0, 0, 0), (.getfield 9, 0, 0, 0), (.iconst 1, 0, 0, 1), (.if_icmp .ne 11, 78, 0, 0), (.aload_n 0, 0, 0, 0), (.aload_n 1, 1, 0, 0), (.invokevirtual 41, 5, 2, 0), (.goto 20, 95, 0, 0)]
def bk_1_78 : List mIns := [(.aload_n 0, 0, 0, 0), (.getfield 9, 0, 0, 0), (.iconst 5, 0, 0, 5), (.if_icmp .eq 12, 95, 0, 0), (.aload_n 0, 0, 0, 0), (.aload_n 0, 0, 0, 0), (.aload_n 1, 1, 0, 0), (.invokevirtual 38, 4, 2, 0), (.putfield 18, 0, 2, 0), (.nop, 95, 0, 0)]
def bk_1_95 : List mIns := [(.aload_n 0, 0, 0, 0), (.getfield 24, 0, 4, 0), (.iconst (-1), 0, 0, (-1)), (.if_icmp .ne 23, 123, 0, 0), (.aload_n 1, 1, 0, 0), (.aload_n 0, 0, 0, 0), (.getfield 27, 0, 5, 0), (.invokevirtual 45, 33, 2, 0), (.iconst (-1), 0, 0, (-1)), (.if_icmp .eq 11, 123, 0, 0), (.aload_n 0, 0, 0, 0), (.aload_n 0, 0, 0, 0), (.getfield 27, 0, 5, 0), (.putfield 24, 0, 4, 0), (.nop, 123, 0, 0)]
def bk_1_123 : List mIns := [(.return_, 0, 0, 0)]
def bk_2_0 : List mIns := [(.iconst 0, 0, 0, 0), (.istore_n 1, 1, 0, 0), (.nop, 2, 0, 0)]
def bk_2_2 : List mIns := [(.iload_n 1, 1, 0, 0), (.bipush 50, 0, 0, 50), (.if_icmp .ge 24, 29, 0, 0), (.aload_n 0, 0, 0, 0), (.iload_n 1, 1, 0, 0), (.invokevirtual 45, 33, 2, 0), (.bipush 97, 0, 0, 97), (.bipush 122, 0, 0, 122), (.invokestatic 51, 7, 3, 0), (.ifCond .eq 9, 29, 0, 0), (.iinc 1 1, 1, 0, 1), (.goto (-24), 2, 0, 0)]
def bk_2_29 : List mIns := [(.iload_n 1, 1, 0, 0), (.ireturn, 0, 0, 0)]
def bk_3_0 : List mIns := [(.aload_n 0, 0, 0, 0), (.ldc 55, 0, 0, 0), (.iload_n 1, 1, 0, 0), (.invokevirtual 57, 34, 3, 0), (.ifCond .eq 5, 12, 0, 0), (.iconst 1, 0, 0, 1), (.ireturn, 0, 0, 0)]
def bk_3_12 : List mIns := [(.aload_n 0, 0, 0, 0), (.ldc 61, 1, 0, 0), (.iload_n 1, 1, 0, 0), (.invokevirtual 57, 34, 3, 0), (.ifCond .eq 5, 24, 0, 0), (.iconst 2, 0, 0, 2), (.ireturn, 0, 0, 0)]
def bk_3_24 : List mIns := [(.aload_n 0, 0, 0, 0), (.ldc 63, 2, 0, 0), (.iload_n 1, 1, 0, 0), (.invokevirtual 57, 34, 3, 0), (.ifCond .eq 5, 36, 0, 0), (.iconst 3, 0, 0, 3), (.ireturn, 0, 0, 0)]
def bk_3_36 : List mIns := [(.aload_n 0, 0, 0, 0), (.ldc 65, 3, 0, 0), (.iload_n 1, 1, 0, 0), (.invokevirtual 57, 34, 3, 0), (.ifCond .eq 5, 48, 0, 0), (.iconst 4, 0, 0, 4), (.ireturn, 0, 0, 0)]
def bk_3_48 : List mIns := [(.aload_n 0, 0, 0, 0), (.ldc 67, 4, 0, 0), (.iload_n 1, 1, 0, 0), (.invokevirtual 57, 34, 3, 0), (.ifCond .eq 5, 60, 0, 0), (.iconst 5, 0, 0, 5), (.ireturn, 0, 0, 0)]
def bk_3_60 : List mIns := [(.aload_n 0, 0, 0, 0), (.ldc 69, 5, 0, 0), (.iload_n 1, 1, 0, 0), (.invokevirtual 57, 34, 3, 0), (.ifCond .eq 8, 75, 0, 0), (.bipush 6, 0, 0, 6), (.goto 4, 76, 0, 0)]
def bk_3_75 : List mIns := [(.iconst 0, 0, 0, 0), (.nop, 76, 0, 0)]
def bk_3_76 : List mIns := [(.ireturn, 0, 0, 0)]
def bk_4_0 : List mIns := [(.aload_n 0, 0, 0, 0), (.aload_n 1, 1, 0, 0), (.invokevirtual 71, 6, 2, 0), (.aload_n 0, 0, 0, 0), (.getfield 24, 0, 4, 0), (.iconst (-1), 0, 0, (-1)), (.if_icmp .eq 5, 15, 0, 0), (.iconst 0, 0, 0, 0), (.ireturn, 0, 0, 0)]
def bk_4_15 : List mIns := [(.aload_n 1, 1, 0, 0), (.aload_n 0, 0, 0, 0), (.getfield 27, 0, 5, 0), (.invokevirtual 45, 33, 2, 0), (.bipush 48, 0, 0, 48), (.bipush 57, 0, 0, 57), (.invokestatic 51, 7, 3, 0), (.ifCond .ne 13, 43, 0, 0), (.aload_n 0, 0, 0, 0), (.aload_n 0, 0, 0, 0), (.getfield 27, 0, 5, 0), (.putfield 24, 0, 4, 0), (.iconst 0, 0, 0, 0), (.ireturn, 0, 0, 0)]
def bk_4_43 : List mIns := [(.aload_n 1, 1, 0, 0), (.aload_n 0, 0, 0, 0), (.getfield 27, 0, 5, 0), (.invokevirtual 45, 33, 2, 0), (.bipush 48, 0, 0, 48), (.isub, 0, 0, 0), (.istore_n 2, 2, 0, 0), (.aload_n 0, 0, 0, 0), (.dup, 0, 0, 0), (.getfield 27, 0, 5, 0), (.iconst 1, 0, 0, 1), (.iadd, 0, 0, 0), (.putfield 27, 0, 5, 0), (.iload_n 2, 2, 0, 0), (.ifCond .eq 48, 114, 0, 0), (.aload_n 1, 1, 0, 0), (.aload_n 0, 0, 0, 0), (.getfield 27, 0, 5, 0), (.invokevirtual 45, 33, 2, 0), (.bipush 48, 0, 0, 48), (.bipush 57, 0, 0, 57), (.invokestatic 51, 7, 3, 0), (.ifCond .eq 30, 114, 0, 0), (.bipush 10, 0, 0, 10), (.iload_n 2, 2, 0, 0), (.imul, 0, 0, 0), (.aload_n 1, 1, 0, 0), (.aload_n 0, 0, 0, 0), (.getfield 27, 0, 5, 0), (.invokevirtual 45, 33, 2, 0), (.iadd, 0, 0, 0), (.bipush 48, 0, 0, 48), (.isub, 0, 0, 0), (.istore_n 2, 2, 0, 0), (.aload_n 0, 0, 0, 0), (.dup, 0, 0, 0), (.getfield 27, 0, 5, 0), (.iconst 1, 0, 0, 1), (.iadd, 0, 0, 0), (.putfield 27, 0, 5, 0), (.nop, 114, 0, 0)]
def bk_4_114 : List mIns := [(.iload_n 2, 2, 0, 0), (.ireturn, 0, 0, 0)]
def bk_5_0 : List mIns := [(.aload_n 0, 0, 0, 0), (.aload_n 1, 1, 0, 0), (.invokevirtual 71, 6, 2, 0), (.aload_n 0, 0, 0, 0), (.getfield 24, 0, 4, 0), (.iconst (-1), 0, 0, (-1)), (.if_icmp .eq 4, 14, 0, 0), (.return_, 0, 0, 0)]
def bk_5_14 : List mIns := [(.aload_n 0, 0, 0, 0), (.aload_n 0, 0, 0, 0), (.getfield 27, 0, 5, 0), (.putfield 21, 0, 3, 0), (.nop, 22, 0, 0)]
def bk_5_22 : List mIns := [(.aload_n 0, 0, 0, 0), (.getfield 27, 0, 5, 0), (.bipush 50, 0, 0, 50), (.if_icmp .ge 34, 62, 0, 0), (.aload_n 1, 1, 0, 0), (.aload_n 0, 0, 0, 0), (.getfield 27, 0, 5, 0), (.invokevirtual 45, 33, 2, 0), (.bipush 97, 0, 0, 97), (.bipush 104, 0, 0, 104), (.invokestatic 51, 7, 3, 0), (.ifCond .eq 16, 62, 0, 0), (.aload_n 0, 0, 0, 0), (.dup, 0, 0, 0), (.getfield 27, 0, 5, 0), (.iconst 1, 0, 0, 1), (.iadd, 0, 0, 0), (.putfield 27, 0, 5, 0), (.goto (-37), 22, 0, 0)]
def bk_5_62 : List mIns := [(.aload_n 0, 0, 0, 0), (.getfield 27, 0, 5, 0), (.aload_n 0, 0, 0, 0), (.getfield 21, 0, 3, 0), (.if_icmp .ne 11, 81, 0, 0), (.aload_n 0, 0, 0, 0), (.aload_n 0, 0, 0, 0), (.getfield 27, 0, 5, 0), (.putfield 24, 0, 4, 0), (.nop, 81, 0, 0)]
def bk_5_81 : List mIns := [(.return_, 0, 0, 0)]
def bk_6_0 : List mIns := [(.aload_n 0, 0, 0, 0), (.getfield 24, 0, 4, 0), (.iconst (-1), 0, 0, (-1)), (.if_icmp .eq 4, 9, 0, 0), (.return_, 0, 0, 0)]
def bk_6_9 : List mIns := [(.aload_n 1, 1, 0, 0), (.aload_n 0, 0, 0, 0), (.getfield 27, 0, 5, 0), (.invokevirtual 45, 33, 2, 0), (.bipush 32, 0, 0, 32), (.if_icmp .eq 12, 31, 0, 0), (.aload_n 0, 0, 0, 0), (.aload_n 0, 0, 0, 0), (.getfield 27, 0, 5, 0), (.putfield 24, 0, 4, 0), (.return_, 0, 0, 0)]
def bk_6_31 : List mIns := [(.aload_n 0, 0, 0, 0), (.dup, 0, 0, 0), (.getfield 27, 0, 5, 0), (.iconst 1, 0, 0, 1), (.iadd, 0, 0, 0), (.putfield 27, 0, 5, 0), (.return_, 0, 0, 0)]
def bk_7_0 : List mIns := [(.iload_n 0, 0, 0, 0), (.iload_n 1, 1, 0, 0), (.if_icmp .lt 12, 14, 0, 0), (.iload_n 0, 0, 0, 0), (.iload_n 2, 2, 0, 0), (.if_icmp .gt 7, 14, 0, 0), (.iconst 1, 0, 0, 1), (.goto 4, 15, 0, 0)]
def bk_7_14 : List mIns := [(.iconst 0, 0, 0, 0), (.nop, 15, 0, 0)]
def bk_7_15 : List mIns := [(.ireturn, 0, 0, 1)]
def bk_8_0 : List mIns := [(.aload_n 0, 0, 0, 0), (.invokespecial 3, 0, 0, 0), (.aload_n 0, 0, 0, 0), (.iconst 4, 0, 0, 4), (.anewarray 9, 5, 4, 0), (.putfield 11, 1, 0, 5), (.aload_n 0, 0, 0, 0), (.iconst 0, 0, 0, 0), (.putfield 17, 1, 1, 0), (.iconst 0, 0, 0, 0), (.istore_n 1, 1, 0, 0), (.nop, 19, 0, 0)]
def bk_8_19 : List mIns := [(.iload_n 1, 1, 0, 0), (.iconst 4, 0, 0, 4), (.if_icmp .ge 22, 43, 0, 0), (.aload_n 0, 0, 0, 0), (.getfield 11, 1, 0, 2), (.iload_n 1, 1, 0, 0), (.new 9, 4, 9, 0), (.dup, 0, 0, 0), (.invokespecial 21, 24, 1, 1), (.aastore, 5, 4, 0), (.iinc 1 1, 1, 0, 1), (.goto (-21), 19, 0, 0)]
def bk_8_43 : List mIns := [(.return_, 0, 0, 0)]
def bk_9_0 : List mIns := [(.aload_n 0, 0, 0, 0), (.getfield 17, 1, 1, 0), (.iconst 4, 0, 0, 4), (.if_icmp .ne 7, 12, 0, 0), (.aload_n 0, 0, 0, 0), (.invokevirtual 22, 10, 1, 0), (.nop, 12, 0, 0)]
def bk_9_12 : List mIns := [(.aload_n 0, 0, 0, 0), (.getfield 11, 1, 0, 2), (.aload_n 0, 0, 0, 0), (.getfield 17, 1, 1, 0), (.aaload, 5, 4, 0), (.aload_n 1, 1, 0, 0), (.invokevirtual 25, 25, 2, 0), (.aload_n 0, 0, 0, 0), (.dup, 0, 0, 0), (.getfield 17, 1, 1, 0), (.iconst 1, 0, 0, 1), (.iadd, 0, 0, 0), (.putfield 17, 1, 1, 0), (.return_, 0, 0, 0)]
def bk_10_0 : List mIns := [(.aload_n 0, 0, 0, 0), (.getfield 11, 1, 0, 2), (.iconst 0, 0, 0, 0), (.aaload, 5, 4, 0), (.astore_n 1, 1, 0, 0), (.iconst 1, 0, 0, 1), (.istore_n 2, 2, 0, 0), (.nop, 9, 0, 0)]
def bk_10_9 : List mIns := [(.iload_n 2, 2, 0, 0), (.iconst 4, 0, 0, 4), (.if_icmp .ge 23, 34, 0, 0), (.aload_n 0, 0, 0, 0), (.getfield 11, 1, 0, 2), (.iload_n 2, 2, 0, 0), (.iconst 1, 0, 0, 1), (.isub, 0, 0, 0), (.aload_n 0, 0, 0, 0), (.getfield 11, 1, 0, 2), (.iload_n 2, 2, 0, 0), (.aaload, 5, 4, 0), (.aastore, 5, 4, 0), (.iinc 2 1, 2, 0, 1), (.goto (-22), 9, 0, 0)]
def bk_10_34 : List mIns := [(.aload_n 0, 0, 0, 0), (.getfield 11, 1, 0, 2), (.iconst 3, 0, 0, 3), (.aload_n 1, 1, 0, 0), (.aastore, 5, 4, 0), (.aload_n 0, 0, 0, 0), (.iconst 3, 0, 0, 3), (.putfield 17, 1, 1, 0), (.return_, 0, 0, 0)]
def bk_11_0 : List mIns := [(.aload_n 0, 0, 0, 0), (.getfield 17, 1, 1, 0), (.ifCond .ne 5, 9, 0, 0), (.iconst 0, 0, 0, 0), (.ireturn, 0, 0, 1)]
def bk_11_9 : List mIns := [(.aload_n 0, 0, 0, 0), (.dup, 0, 0, 0), (.getfield 17, 1, 1, 0), (.iconst 1, 0, 0, 1), (.isub, 0, 0, 0), (.putfield 17, 1, 1, 0), (.aload_n 1, 1, 0, 0), (.aload_n 0, 0, 0, 0), (.getfield 11, 1, 0, 2), (.aload_n 0, 0, 0, 0), (.getfield 17, 1, 1, 0), (.aaload, 5, 4, 0), (.invokevirtual 25, 25, 2, 0), (.iconst 1, 0, 0, 1), (.ireturn, 0, 0, 1)]
def bk_12_0 : List mIns := [(.aload_n 0, 0, 0, 0), (.invokespecial 3, 0, 0, 0), (.aload_n 0, 0, 0, 0), (.bipush 10, 0, 0, 10), (.newarray .int, 2, 0, 0), (.putfield 9, 2, 0, 5), (.aload_n 0, 0, 0, 0), (.bipush 10, 0, 0, 10), (.newarray .int, 2, 0, 0), (.putfield 15, 2, 1, 5), (.aload_n 0, 0, 0, 0), (.bipush 10, 0, 0, 10), (.newarray .int, 2, 0, 0), (.putfield 18, 2, 2, 5), (.aload_n 0, 0, 0, 0), (.iconst 0, 0, 0, 0), (.putfield 21, 2, 3, 0), (.return_, 0, 0, 0)]
def bk_13_0 : List mIns := [(.aload_n 1, 1, 0, 0), (.getfield 9, 2, 0, 2), (.iconst 0, 0, 0, 0), (.aload_n 0, 0, 0, 0), (.getfield 9, 2, 0, 2), (.iconst 0, 0, 0, 0), (.bipush 10, 0, 0, 10), (.invokestatic 25, 0, 0, 2), (.aload_n 1, 1, 0, 0), (.getfield 15, 2, 1, 2), (.iconst 0, 0, 0, 0), (.aload_n 0, 0, 0, 0), (.getfield 15, 2, 1, 2), (.iconst 0, 0, 0, 0), (.bipush 10, 0, 0, 10), (.invokestatic 25, 0, 0, 2), (.aload_n 1, 1, 0, 0), (.getfield 18, 2, 2, 2), (.iconst 0, 0, 0, 0), (.aload_n 0, 0, 0, 0), (.getfield 18, 2, 2, 2), (.iconst 0, 0, 0, 0), (.bipush 10, 0, 0, 10), (.invokestatic 25, 0, 0, 2), (.aload_n 0, 0, 0, 0), (.aload_n 1, 1, 0, 0), (.getfield 21, 2, 3, 0), (.putfield 21, 2, 3, 0), (.return_, 0, 0, 0)]
def bk_14_0 : List mIns := [(.aload_n 0, 0, 0, 0), (.getfield 21, 2, 3, 0), (.bipush 10, 0, 0, 10), (.if_icmp .ne 7, 13, 0, 0), (.aload_n 0, 0, 0, 0), (.invokevirtual 31, 15, 1, 0), (.nop, 13, 0, 0)]
def bk_14_13 : List mIns := [(.aload_n 0, 0, 0, 0), (.getfield 9, 2, 0, 2), (.aload_n 0, 0, 0, 0), (.getfield 21, 2, 3, 0), (.iload_n 1, 1, 0, 0), (.iastore, 0, 0, 0), (.aload_n 0, 0, 0, 0), (.getfield 15, 2, 1, 2), (.aload_n 0, 0, 0, 0), (.getfield 21, 2, 3, 0), (.iload_n 2, 2, 0, 0), (.iastore, 0, 0, 0), (.aload_n 0, 0, 0, 0), (.getfield 18, 2, 2, 2), (.aload_n 0, 0, 0, 0), (.getfield 21, 2, 3, 0), (.iload_n 3, 3, 0, 0), (.iastore, 0, 0, 0), (.aload_n 0, 0, 0, 0), (.dup, 0, 0, 0), (.getfield 21, 2, 3, 0), (.iconst 1, 0, 0, 1), (.iadd, 0, 0, 0), (.putfield 21, 2, 3, 0), (.return_, 0, 0, 0)]
def bk_15_0 : List mIns := [(.aload_n 0, 0, 0, 0), (.getfield 9, 2, 0, 2), (.iconst 1, 0, 0, 1), (.aload_n 0, 0, 0, 0), (.getfield 9, 2, 0, 2), (.iconst 0, 0, 0, 0), (.bipush 9, 0, 0, 9), (.invokestatic 25, 0, 0, 2), (.aload_n 0, 0, 0, 0), (.getfield 15, 2, 1, 2), (.iconst 1, 0, 0, 1), (.aload_n 0, 0, 0, 0), (.getfield 15, 2, 1, 2), (.iconst 0, 0, 0, 0), (.bipush 9, 0, 0, 9), (.invokestatic 25, 0, 0, 2), (.aload_n 0, 0, 0, 0), (.getfield 18, 2, 2, 2), (.iconst 1, 0, 0, 1), (.aload_n 0, 0, 0, 0), (.getfield 18, 2, 2, 2), (.iconst 0, 0, 0, 0), (.bipush 9, 0, 0, 9), (.invokestatic 25, 0, 0, 2), (.aload_n 0, 0, 0, 0), (.bipush 9, 0, 0, 9), (.putfield 21, 2, 3, 0), (.return_, 0, 0, 0)]
def bk_16_0 : List mIns := [(.iload_n 1, 1, 0, 0), (.ifCond .lt 11, 12, 0, 0), (.iload_n 1, 1, 0, 0), (.aload_n 0, 0, 0, 0), (.getfield 21, 2, 3, 0), (.if_icmp .lt 6, 15, 0, 0), (.nop, 12, 0, 0)]
def bk_16_12 : List mIns := [(.bipush (-5), 0, 0, (-5)), (.ireturn, 0, 0, 0)]
def bk_16_15 : List mIns := [(.aload_n 0, 0, 0, 0), (.getfield 21, 2, 3, 0), (.iconst 1, 0, 0, 1), (.isub, 0, 0, 0), (.iload_n 1, 1, 0, 0), (.isub, 0, 0, 0), (.istore_n 3, 3, 0, 0), (.iload_n 2, 2, 0, 0), (.ifCond .ne 10, 35, 0, 0), (.aload_n 0, 0, 0, 0), (.getfield 9, 2, 0, 2), (.iload_n 3, 3, 0, 0), (.iaload, 0, 0, 0), (.ireturn, 0, 0, 0)]
def bk_16_35 : List mIns := [(.iload_n 2, 2, 0, 0), (.iconst 1, 0, 0, 1), (.if_icmp .ne 12, 49, 0, 0), (.aload_n 0, 0, 0, 0), (.getfield 15, 2, 1, 2), (.iload_n 3, 3, 0, 0), (.iaload, 0, 0, 0), (.goto 9, 55, 0, 0)]
def bk_16_49 : List mIns := [(.aload_n 0, 0, 0, 0), (.getfield 18, 2, 2, 2), (.iload_n 3, 3, 0, 0), (.iaload, 0, 0, 0), (.nop, 55, 0, 0)]
def bk_16_55 : List mIns := [(.ireturn, 0, 0, 0)]
def bk_17_0 : List mIns := [(.aload_n 0, 0, 0, 0), (.invokespecial 3, 0, 0, 0), (.aload_n 0, 0, 0, 0), (.bipush 30, 0, 0, 30), (.newarray .int, 2, 0, 0), (.putfield 9, 3, 0, 5), (.aload_n 0, 0, 0, 0), (.iconst 0, 0, 0, 0), (.putfield 15, 3, 1, 0), (.aload_n 0, 0, 0, 0), (.iconst 0, 0, 0, 0), (.putfield 19, 3, 2, 0), (.aload_n 0, 0, 0, 0), (.iconst (-1), 0, 0, (-1)), (.putfield 22, 3, 3, 0), (.return_, 0, 0, 0)]
def bk_18_0 : List mIns := [(.aload_n 0, 0, 0, 0), (.iconst 0, 0, 0, 0), (.putfield 15, 3, 1, 0), (.aload_n 0, 0, 0, 0), (.iconst 0, 0, 0, 0), (.putfield 19, 3, 2, 0), (.aload_n 0, 0, 0, 0), (.iconst (-1), 0, 0, (-1)), (.putfield 22, 3, 3, 0), (.aload_n 1, 1, 0, 0), (.getfield 25, 6, 0, 2), (.iconst 0, 0, 0, 0), (.iaload, 0, 0, 0), (.istore_n 3, 3, 0, 0), (.iconst 0, 0, 0, 0), (.istore 4, 4, 0, 0), (.nop, 25, 0, 0)]
def bk_18_25 : List mIns := [(.iload 4, 4, 0, 0), (.aload_n 1, 1, 0, 0), (.getfield 30, 6, 5, 0), (.if_icmp .ge 100, 131, 0, 0), (.iload 4, 4, 0, 0), (.bipush 30, 0, 0, 30), (.if_icmp .ge 93, 131, 0, 0), (.aload_n 1, 1, 0, 0), (.getfield 25, 6, 0, 2), (.iload 4, 4, 0, 0), (.iconst 1, 0, 0, 1), (.iadd, 0, 0, 0), (.iaload, 0, 0, 0), (.istore 5, 5, 0, 0), (.iload_n 2, 2, 0, 0), (.iconst 2, 0, 0, 2), (.if_icmp .ne 10, 64, 0, 0), (.aload_n 1, 1, 0, 0), (.iload 4, 4, 0, 0), (.invokestatic 33, 19, 2, 0), (.istore_n 3, 3, 0, 0), (.nop, 64, 0, 0)]
def bk_18_64 : List mIns := [(.iload 5, 5, 0, 0), (.iload_n 3, 3, 0, 0), (.invokestatic 37, 20, 2, 0), (.istore 6, 6, 0, 0), (.iload_n 2, 2, 0, 0), (.iconst 1, 0, 0, 1), (.if_icmp .ne 25, 99, 0, 0), (.iload 6, 6, 0, 0), (.iconst (-1), 0, 0, (-1)), (.if_icmp .eq 19, 99, 0, 0), (.iconst 3, 0, 0, 3), (.iload_n 3, 3, 0, 0), (.imul, 0, 0, 0), (.iconst 5, 0, 0, 5), (.iload 5, 5, 0, 0), (.imul, 0, 0, 0), (.iload 6, 6, 0, 0), (.iconst 2, 0, 0, 2), (.iadd, 0, 0, 0), (.idiv, 0, 0, 0), (.iadd, 0, 0, 0), (.iconst 4, 0, 0, 4), (.idiv, 0, 0, 0), (.istore_n 3, 3, 0, 0), (.nop, 99, 0, 0)]
def bk_18_99 : List mIns := [(.aload_n 0, 0, 0, 0), (.getfield 9, 3, 0, 2), (.iload 4, 4, 0, 0), (.iload 6, 6, 0, 0), (.iastore, 0, 0, 0), (.aload_n 0, 0, 0, 0), (.iload 4, 4, 0, 0), (.iload 6, 6, 0, 0), (.aload_n 1, 1, 0, 0), (.getfield 41, 6, 2, 2), (.iload 4, 4, 0, 0), (.iconst 1, 0, 0, 1), (.iadd, 0, 0, 0), (.iaload, 0, 0, 0), (.invokevirtual 44, 21, 4, 0), (.iinc 4 1, 4, 0, 1), (.goto (-103), 25, 0, 0)]
def bk_18_131 : List mIns := [(.return_, 0, 0, 0)]
def bk_19_0 : List mIns := [(.aload_n 0, 0, 0, 0), (.getfield 25, 6, 0, 2), (.iconst 0, 0, 0, 0), (.iaload, 0, 0, 0), (.istore_n 2, 2, 0, 0), (.aload_n 0, 0, 0, 0), (.getfield 30, 6, 5, 0), (.iconst 1, 0, 0, 1), (.iadd, 0, 0, 0), (.istore_n 3, 3, 0, 0), (.iload_n 3, 3, 0, 0), (.ifCond .le 11, 26, 0, 0), (.aload_n 0, 0, 0, 0), (.iload_n 3, 3, 0, 0), (.invokevirtual 48, 38, 2, 0), (.ifCond .ne 5, 28, 0, 0), (.nop, 26, 0, 0)]
def bk_19_26 : List mIns := [(.iload_n 2, 2, 0, 0), (.ireturn, 0, 0, 0)]
def bk_19_28 : List mIns := [(.iload_n 2, 2, 0, 0), (.aload_n 0, 0, 0, 0), (.getfield 25, 6, 0, 2), (.iload_n 3, 3, 0, 0), (.iaload, 0, 0, 0), (.iload_n 2, 2, 0, 0), (.isub, 0, 0, 0), (.iload_n 1, 1, 0, 0), (.iconst 1, 0, 0, 1), (.iadd, 0, 0, 0), (.imul, 0, 0, 0), (.iload_n 3, 3, 0, 0), (.idiv, 0, 0, 0), (.iadd, 0, 0, 0), (.ireturn, 0, 0, 0)]
def bk_20_0 : List mIns := [(.iload_n 1, 1, 0, 0), (.ifCond .gt 5, 6, 0, 0), (.iconst (-1), 0, 0, (-1)), (.ireturn, 0, 0, 0)]
def bk_20_6 : List mIns := [(.bipush 10, 0, 0, 10), (.iload_n 0, 0, 0, 0), (.imul, 0, 0, 0), (.iload_n 1, 1, 0, 0), (.iadd, 0, 0, 0), (.iconst 2, 0, 0, 2), (.iload_n 1, 1, 0, 0), (.imul, 0, 0, 0), (.idiv, 0, 0, 0), (.iconst 2, 0, 0, 2), (.isub, 0, 0, 0), (.istore_n 2, 2, 0, 0), (.iload_n 2, 2, 0, 0), (.ifCond .lt 13, 33, 0, 0), (.iload_n 2, 2, 0, 0), (.bipush 7, 0, 0, 7), (.if_icmp .gt 7, 33, 0, 0), (.iload_n 2, 2, 0, 0), (.goto 4, 34, 0, 0)]
def bk_20_33 : List mIns := [(.iconst (-1), 0, 0, (-1)), (.nop, 34, 0, 0)]
def bk_20_34 : List mIns := [(.ireturn, 0, 0, 0)]
def bk_21_0 : List mIns := [(.iload_n 2, 2, 0, 0), (.iload_n 3, 3, 0, 0), (.if_icmp .ne 4, 6, 0, 0), (.return_, 0, 0, 0)]
def bk_21_6 : List mIns := [(.iload_n 2, 2, 0, 0), (.iconst (-1), 0, 0, (-1)), (.if_icmp .ne 16, 24, 0, 0), (.aload_n 0, 0, 0, 0), (.dup, 0, 0, 0), (.getfield 19, 3, 2, 0), (.iconst 1, 0, 0, 1), (.iadd, 0, 0, 0), (.putfield 19, 3, 2, 0), (.goto 13, 34, 0, 0)]
def bk_21_24 : List mIns := [(.aload_n 0, 0, 0, 0), (.dup, 0, 0, 0), (.getfield 15, 3, 1, 0), (.iconst 1, 0, 0, 1), (.iadd, 0, 0, 0), (.putfield 15, 3, 1, 0), (.nop, 34, 0, 0)]
def bk_21_34 : List mIns := [(.aload_n 0, 0, 0, 0), (.getfield 22, 3, 3, 0), (.iconst (-1), 0, 0, (-1)), (.if_icmp .ne 8, 47, 0, 0), (.aload_n 0, 0, 0, 0), (.iload_n 1, 1, 0, 0), (.putfield 22, 3, 3, 0), (.nop, 47, 0, 0)]
def bk_21_47 : List mIns := [(.return_, 0, 0, 0)]
def bk_22_0 : List mIns := [(.aload_n 0, 0, 0, 0), (.getfield 15, 3, 1, 0), (.aload_n 0, 0, 0, 0), (.getfield 19, 3, 2, 0), (.iadd, 0, 0, 0), (.ireturn, 0, 0, 0)]
def bk_23_0 : List mIns := [(.iconst 0, 0, 0, 0), (.istore_n 3, 3, 0, 0), (.nop, 2, 0, 0)]
def bk_23_2 : List mIns := [(.iload_n 3, 3, 0, 0), (.iload_n 2, 2, 0, 0), (.if_icmp .ge 32, 36, 0, 0), (.iload_n 3, 3, 0, 0), (.bipush 30, 0, 0, 30), (.if_icmp .ge 26, 36, 0, 0), (.aload_n 0, 0, 0, 0), (.getfield 9, 3, 0, 2), (.iload_n 3, 3, 0, 0), (.iaload, 0, 0, 0), (.aload_n 1, 1, 0, 0), (.getfield 9, 3, 0, 2), (.iload_n 3, 3, 0, 0), (.iaload, 0, 0, 0), (.if_icmp .eq 5, 30, 0, 0), (.iconst 0, 0, 0, 0), (.ireturn, 0, 0, 1)]
def bk_23_30 : List mIns := [(.iinc 3 1, 3, 0, 1), (.goto (-31), 2, 0, 0)]
def bk_23_36 : List mIns := [(.iconst 1, 0, 0, 1), (.ireturn, 0, 0, 1)]
def bk_24_0 : List mIns := [(.aload_n 0, 0, 0, 0), (.invokespecial 3, 0, 0, 0), (.aload_n 0, 0, 0, 0), (.bipush 6, 0, 0, 6), (.anewarray 9, 4, 6, 0), (.putfield 11, 4, 0, 5), (.aload_n 0, 0, 0, 0), (.new 17, 2, 4, 0), (.dup, 0, 0, 0), (.invokespecial 19, 12, 1, 1), (.putfield 20, 4, 1, 5), (.aload_n 0, 0, 0, 0), (.iconst 0, 0, 0, 0), (.putfield 24, 4, 2, 0), (.aload_n 0, 0, 0, 0), (.sipush 130, 0, 0, 130), (.putfield 28, 4, 3, 0), (.aload_n 0, 0, 0, 0), (.iconst 0, 0, 0, 0), (.putfield 31, 4, 4, 0), (.aload_n 0, 0, 0, 0), (.iconst 0, 0, 0, 0), (.putfield 34, 4, 5, 0), (.aload_n 0, 0, 0, 0), (.iconst 0, 0, 0, 0), (.putfield 37, 4, 6, 0), (.aload_n 0, 0, 0, 0), (.iconst 0, 0, 0, 0), (.putfield 40, 4, 7, 0), (.aload_n 0, 0, 0, 0), (.iconst 0, 0, 0, 0), (.putfield 43, 4, 8, 0), (.iconst 0, 0, 0, 0), (.istore_n 1, 1, 0, 0), (.nop, 63, 0, 0)]
def bk_24_63 : List mIns := [(.iload_n 1, 1, 0, 0), (.bipush 6, 0, 0, 6), (.if_icmp .ge 22, 88, 0, 0), (.aload_n 0, 0, 0, 0), (.getfield 11, 4, 0, 2), (.iload_n 1, 1, 0, 0), (.new 9, 6, 7, 0), (.dup, 0, 0, 0), (.invokespecial 46, 35, 1, 1), (.aastore, 4, 6, 0), (.iinc 1 1, 1, 0, 1), (.goto (-22), 63, 0, 0)]
def bk_24_88 : List mIns := [(.return_, 0, 0, 0)]
def bk_25_0 : List mIns := [(.iconst 0, 0, 0, 0), (.istore_n 2, 2, 0, 0), (.nop, 2, 0, 0)]
def bk_25_2 : List mIns := [(.iload_n 2, 2, 0, 0), (.bipush 6, 0, 0, 6), (.if_icmp .ge 24, 29, 0, 0), (.aload_n 0, 0, 0, 0), (.getfield 11, 4, 0, 2), (.iload_n 2, 2, 0, 0), (.aaload, 4, 6, 0), (.aload_n 1, 1, 0, 0), (.getfield 11, 4, 0, 2), (.iload_n 2, 2, 0, 0), (.aaload, 4, 6, 0), (.invokevirtual 47, 36, 2, 0), (.iinc 2 1, 2, 0, 1), (.goto (-24), 2, 0, 0)]
def bk_25_29 : List mIns := [(.aload_n 0, 0, 0, 0), (.getfield 20, 4, 1, 2), (.aload_n 1, 1, 0, 0), (.getfield 20, 4, 1, 2), (.invokevirtual 51, 13, 2, 0), (.aload_n 0, 0, 0, 0), (.aload_n 1, 1, 0, 0), (.getfield 24, 4, 2, 0), (.putfield 24, 4, 2, 0), (.aload_n 0, 0, 0, 0), (.aload_n 1, 1, 0, 0), (.getfield 28, 4, 3, 0), (.putfield 28, 4, 3, 0), (.aload_n 0, 0, 0, 0), (.aload_n 1, 1, 0, 0), (.getfield 31, 4, 4, 0), (.putfield 31, 4, 4, 0), (.aload_n 0, 0, 0, 0), (.aload_n 1, 1, 0, 0), (.getfield 34, 4, 5, 0), (.putfield 34, 4, 5, 0), (.aload_n 0, 0, 0, 0), (.aload_n 1, 1, 0, 0), (.getfield 37, 4, 6, 0), (.putfield 37, 4, 6, 0), (.aload_n 0, 0, 0, 0), (.aload_n 1, 1, 0, 0), (.getfield 40, 4, 7, 0), (.putfield 40, 4, 7, 0), (.aload_n 0, 0, 0, 0), (.aload_n 1, 1, 0, 0), (.getfield 43, 4, 8, 0), (.putfield 43, 4, 8, 0), (.return_, 0, 0, 0)]
def bk_26_0 : List mIns := [(.iconst 0, 0, 0, 0), (.istore_n 1, 1, 0, 0), (.iconst 0, 0, 0, 0), (.istore_n 2, 2, 0, 0), (.nop, 4, 0, 0)]
def bk_26_4 : List mIns := [(.iload_n 2, 2, 0, 0), (.bipush 6, 0, 0, 6), (.if_icmp .ge 24, 31, 0, 0), (.aload_n 0, 0, 0, 0), (.getfield 11, 4, 0, 2), (.iload_n 2, 2, 0, 0), (.aaload, 4, 6, 0), (.getfield 54, 6, 3, 1), (.ifCond .eq 6, 25, 0, 0), (.iinc 1 1, 1, 0, 1), (.nop, 25, 0, 0)]
def bk_26_25 : List mIns := [(.iinc 2 1, 2, 0, 1), (.goto (-24), 4, 0, 0)]
def bk_26_31 : List mIns := [(.iload_n 1, 1, 0, 0), (.ireturn, 0, 0, 0)]
def bk_27_0 : List mIns := [(.iconst 0, 0, 0, 0), (.istore_n 1, 1, 0, 0), (.iconst 0, 0, 0, 0), (.istore_n 2, 2, 0, 0), (.nop, 4, 0, 0)]
def bk_27_4 : List mIns := [(.iload_n 2, 2, 0, 0), (.bipush 6, 0, 0, 6), (.if_icmp .ge 21, 28, 0, 0), (.iload_n 1, 1, 0, 0), (.aload_n 0, 0, 0, 0), (.getfield 11, 4, 0, 2), (.iload_n 2, 2, 0, 0), (.aaload, 4, 6, 0), (.getfield 58, 6, 5, 0), (.iadd, 0, 0, 0), (.istore_n 1, 1, 0, 0), (.iinc 2 1, 2, 0, 1), (.goto (-21), 4, 0, 0)]
def bk_27_28 : List mIns := [(.iload_n 1, 1, 0, 0), (.ireturn, 0, 0, 0)]
def bk_28_0 : List mIns := [(.iconst 0, 0, 0, 0), (.istore_n 1, 1, 0, 0), (.nop, 2, 0, 0)]
def bk_28_2 : List mIns := [(.iload_n 1, 1, 0, 0), (.bipush 6, 0, 0, 6), (.if_icmp .ge 23, 28, 0, 0), (.aload_n 0, 0, 0, 0), (.getfield 11, 4, 0, 2), (.iload_n 1, 1, 0, 0), (.aaload, 4, 6, 0), (.getfield 54, 6, 3, 1), (.ifCond .ne 5, 22, 0, 0), (.iload_n 1, 1, 0, 0), (.ireturn, 0, 0, 0)]
def bk_28_22 : List mIns := [(.iinc 1 1, 1, 0, 1), (.goto (-23), 2, 0, 0)]
def bk_28_28 : List mIns := [(.bipush 6, 0, 0, 6), (.ireturn, 0, 0, 0)]
def bk_29_0 : List mIns := [(.iconst 1, 0, 0, 1), (.istore 4, 4, 0, 0), (.nop, 3, 0, 0)]
def bk_29_3 : List mIns := [(.iload 4, 4, 0, 0), (.iload_n 3, 3, 0, 0), (.if_icmp .gt 93, 99, 0, 0), (.aload_n 0, 0, 0, 0), (.getfield 11, 4, 0, 2), (.iload_n 1, 1, 0, 0), (.aaload, 4, 6, 0), (.aload_n 0, 0, 0, 0), (.getfield 24, 4, 2, 0), (.aload_n 0, 0, 0, 0), (.getfield 28, 4, 3, 0), (.iload_n 2, 2, 0, 0), (.invokevirtual 61, 51, 4, 0), (.istore 5, 5, 0, 0), (.aload_n 0, 0, 0, 0), (.getfield 11, 4, 0, 2), (.iload_n 1, 1, 0, 0), (.aaload, 4, 6, 0), (.dup, 0, 0, 0), (.getfield 65, 6, 6, 0), (.iconst 1, 0, 0, 1), (.iadd, 0, 0, 0), (.putfield 65, 6, 6, 0), (.aload_n 0, 0, 0, 0), (.dup, 0, 0, 0), (.getfield 37, 4, 6, 0), (.iconst 1, 0, 0, 1), (.iadd, 0, 0, 0), (.putfield 37, 4, 6, 0), (.aload_n 0, 0, 0, 0), (.dup, 0, 0, 0), (.getfield 31, 4, 4, 0), (.bipush 10, 0, 0, 10), (.iload_n 2, 2, 0, 0), (.isub, 0, 0, 0), (.iadd, 0, 0, 0), (.putfield 31, 4, 4, 0), (.aload_n 0, 0, 0, 0), (.getfield 20, 4, 1, 2), (.iconst 1, 0, 0, 1), (.iload_n 1, 1, 0, 0), (.iload_n 2, 2, 0, 0), (.invokevirtual 66, 14, 4, 0), (.iload 5, 5, 0, 0), (.iconst (-1), 0, 0, (-1)), (.if_icmp .eq 13, 93, 0, 0), (.aload_n 0, 0, 0, 0), (.iload_n 1, 1, 0, 0), (.iload 5, 5, 0, 0), (.invokevirtual 70, 30, 3, 0), (.iload 4, 4, 0, 0), (.ireturn, 0, 0, 0)]
def bk_29_93 : List mIns := [(.iinc 4 1, 4, 0, 1), (.goto (-93), 3, 0, 0)]
def bk_29_99 : List mIns := [(.iload_n 3, 3, 0, 0), (.ireturn, 0, 0, 0)]
def bk_30_0 : List mIns := [(.aload_n 0, 0, 0, 0), (.getfield 11, 4, 0, 2), (.iload_n 1, 1, 0, 0), (.aaload, 4, 6, 0), (.astore_n 3, 3, 0, 0), (.aload_n 3, 3, 0, 0), (.invokevirtual 74, 37, 1, 0), (.iload_n 2, 2, 0, 0), (.isub, 0, 0, 0), (.istore 4, 4, 0, 0), (.aload_n 3, 3, 0, 0), (.getfield 58, 6, 5, 0), (.istore 5, 5, 0, 0), (.aload_n 3, 3, 0, 0), (.iload_n 2, 2, 0, 0), (.invokevirtual 78, 52, 2, 0), (.aload_n 0, 0, 0, 0), (.dup, 0, 0, 0), (.getfield 40, 4, 7, 0), (.iconst 1, 0, 0, 1), (.iadd, 0, 0, 0), (.putfield 40, 4, 7, 0), (.aload_n 0, 0, 0, 0), (.dup, 0, 0, 0), (.getfield 43, 4, 8, 0), (.iload 5, 5, 0, 0), (.aload_n 3, 3, 0, 0), (.getfield 58, 6, 5, 0), (.isub, 0, 0, 0), (.iadd, 0, 0, 0), (.putfield 43, 4, 8, 0), (.aload_n 0, 0, 0, 0), (.getfield 20, 4, 1, 2), (.iconst 2, 0, 0, 2), (.iload_n 1, 1, 0, 0), (.iload 4, 4, 0, 0), (.invokevirtual 66, 14, 4, 0), (.return_, 0, 0, 0)]
def bk_31_0 : List mIns := [(.aload_n 0, 0, 0, 0), (.invokespecial 3, 0, 0, 0), (.aload_n 0, 0, 0, 0), (.bipush 50, 0, 0, 50), (.newarray .char, 3, 0, 0), (.putfield 9, 5, 0, 5), (.aload_n 0, 0, 0, 0), (.iconst 0, 0, 0, 0), (.putfield 15, 5, 1, 0), (.return_, 0, 0, 0)]
def bk_32_0 : List mIns := [(.aload_n 0, 0, 0, 0), (.getfield 15, 5, 1, 0), (.bipush 50, 0, 0, 50), (.if_icmp .lt 5, 11, 0, 0), (.iconst 0, 0, 0, 0), (.ireturn, 0, 0, 1)]
def bk_32_11 : List mIns := [(.aload_n 0, 0, 0, 0), (.getfield 9, 5, 0, 2), (.aload_n 0, 0, 0, 0), (.getfield 15, 5, 1, 0), (.iload_n 1, 1, 0, 0), (.castore, 0, 0, 0), (.aload_n 0, 0, 0, 0), (.dup, 0, 0, 0), (.getfield 15, 5, 1, 0), (.iconst 1, 0, 0, 1), (.iadd, 0, 0, 0), (.putfield 15, 5, 1, 0), (.iconst 1, 0, 0, 1), (.ireturn, 0, 0, 1)]
def bk_33_0 : List mIns := [(.iload_n 1, 1, 0, 0), (.ifCond .lt 11, 12, 0, 0), (.iload_n 1, 1, 0, 0), (.aload_n 0, 0, 0, 0), (.getfield 15, 5, 1, 0), (.if_icmp .lt 5, 14, 0, 0), (.nop, 12, 0, 0)]
def bk_33_12 : List mIns := [(.iconst (-1), 0, 0, (-1)), (.ireturn, 0, 0, 0)]
def bk_33_14 : List mIns := [(.aload_n 0, 0, 0, 0), (.getfield 9, 5, 0, 2), (.iload_n 1, 1, 0, 0), (.caload, 0, 0, 0), (.ireturn, 0, 0, 0)]
def bk_34_0 : List mIns := [(.aload_n 1, 1, 0, 0), (.invokevirtual 19, 144, 1, 0), (.iload_n 2, 2, 0, 0), (.if_icmp .eq 5, 10, 0, 0), (.iconst 0, 0, 0, 0), (.ireturn, 0, 0, 1)]
def bk_34_10 : List mIns := [(.iconst 0, 0, 0, 0), (.istore_n 3, 3, 0, 0), (.nop, 12, 0, 0)]
def bk_34_12 : List mIns := [(.iload_n 3, 3, 0, 0), (.iload_n 2, 2, 0, 0), (.if_icmp .ge 24, 38, 0, 0), (.aload_n 0, 0, 0, 0), (.iload_n 3, 3, 0, 0), (.invokevirtual 25, 33, 2, 0), (.aload_n 1, 1, 0, 0), (.iload_n 3, 3, 0, 0), (.invokevirtual 29, 145, 2, 0), (.if_icmp .eq 5, 32, 0, 0), (.iconst 0, 0, 0, 0), (.ireturn, 0, 0, 1)]
def bk_34_32 : List mIns := [(.iinc 3 1, 3, 0, 1), (.goto (-23), 12, 0, 0)]
def bk_34_38 : List mIns := [(.iconst 1, 0, 0, 1), (.ireturn, 0, 0, 1)]
def bk_35_0 : List mIns := [(.aload_n 0, 0, 0, 0), (.invokespecial 3, 0, 0, 0), (.aload_n 0, 0, 0, 0), (.bipush 32, 0, 0, 32), (.newarray .int, 2, 0, 0), (.putfield 9, 6, 0, 5), (.aload_n 0, 0, 0, 0), (.bipush 32, 0, 0, 32), (.newarray .int, 2, 0, 0), (.putfield 15, 6, 1, 5), (.aload_n 0, 0, 0, 0), (.bipush 32, 0, 0, 32), (.newarray .int, 2, 0, 0), (.putfield 18, 6, 2, 5), (.aload_n 0, 0, 0, 0), (.iconst 0, 0, 0, 0), (.putfield 21, 6, 3, 1), (.aload_n 0, 0, 0, 0), (.iconst 0, 0, 0, 0), (.putfield 25, 6, 4, 1), (.aload_n 0, 0, 0, 0), (.iconst 0, 0, 0, 0), (.putfield 28, 6, 5, 0), (.aload_n 0, 0, 0, 0), (.iconst 0, 0, 0, 0), (.putfield 32, 6, 6, 0), (.return_, 0, 0, 0)]
def bk_36_0 : List mIns := [(.aload_n 1, 1, 0, 0), (.getfield 9, 6, 0, 2), (.iconst 0, 0, 0, 0), (.aload_n 0, 0, 0, 0), (.getfield 9, 6, 0, 2), (.iconst 0, 0, 0, 0), (.bipush 32, 0, 0, 32), (.invokestatic 35, 0, 0, 2), (.aload_n 1, 1, 0, 0), (.getfield 15, 6, 1, 2), (.iconst 0, 0, 0, 0), (.aload_n 0, 0, 0, 0), (.getfield 15, 6, 1, 2), (.iconst 0, 0, 0, 0), (.bipush 32, 0, 0, 32), (.invokestatic 35, 0, 0, 2), (.aload_n 1, 1, 0, 0), (.getfield 18, 6, 2, 2), (.iconst 0, 0, 0, 0), (.aload_n 0, 0, 0, 0), (.getfield 18, 6, 2, 2), (.iconst 0, 0, 0, 0), (.bipush 32, 0, 0, 32), (.invokestatic 35, 0, 0, 2), (.aload_n 0, 0, 0, 0), (.aload_n 1, 1, 0, 0), (.getfield 21, 6, 3, 1), (.putfield 21, 6, 3, 1), (.aload_n 0, 0, 0, 0), (.aload_n 1, 1, 0, 0), (.getfield 25, 6, 4, 1), (.putfield 25, 6, 4, 1), (.aload_n 0, 0, 0, 0), (.aload_n 1, 1, 0, 0), (.getfield 28, 6, 5, 0), (.putfield 28, 6, 5, 0), (.aload_n 0, 0, 0, 0), (.aload_n 1, 1, 0, 0), (.getfield 32, 6, 6, 0), (.putfield 32, 6, 6, 0), (.return_, 0, 0, 0)]
def bk_37_0 : List mIns := [(.aload_n 0, 0, 0, 0), (.getfield 21, 6, 3, 1), (.ifCond .ne 5, 9, 0, 0), (.iconst 0, 0, 0, 0), (.ireturn, 0, 0, 0)]
def bk_37_9 : List mIns := [(.aload_n 0, 0, 0, 0), (.getfield 25, 6, 4, 1), (.ifCond .eq 12, 25, 0, 0), (.aload_n 0, 0, 0, 0), (.getfield 28, 6, 5, 0), (.iconst 2, 0, 0, 2), (.iadd, 0, 0, 0), (.goto 9, 31, 0, 0)]
def bk_37_25 : List mIns := [(.aload_n 0, 0, 0, 0), (.getfield 28, 6, 5, 0), (.iconst 1, 0, 0, 1), (.iadd, 0, 0, 0), (.nop, 31, 0, 0)]
def bk_37_31 : List mIns := [(.bipush 32, 0, 0, 32), (.invokestatic 41, 0, 0, 1), (.ireturn, 0, 0, 0)]
def bk_38_0 : List mIns := [(.iload_n 1, 1, 0, 0), (.ifCond .lt 15, 16, 0, 0), (.iload_n 1, 1, 0, 0), (.aload_n 0, 0, 0, 0), (.invokevirtual 47, 37, 1, 0), (.if_icmp .ge 7, 16, 0, 0), (.iconst 1, 0, 0, 1), (.goto 4, 17, 0, 0)]
def bk_38_16 : List mIns := [(.iconst 0, 0, 0, 0), (.nop, 17, 0, 0)]
def bk_38_17 : List mIns := [(.ireturn, 0, 0, 1)]
def bk_39_0 : List mIns := [(.iload_n 1, 1, 0, 0), (.ifCond .lt 15, 16, 0, 0), (.iload_n 1, 1, 0, 0), (.aload_n 0, 0, 0, 0), (.getfield 28, 6, 5, 0), (.if_icmp .ge 7, 16, 0, 0), (.iconst 1, 0, 0, 1), (.goto 4, 17, 0, 0)]
def bk_39_16 : List mIns := [(.iconst 0, 0, 0, 0), (.nop, 17, 0, 0)]
def bk_39_17 : List mIns := [(.ireturn, 0, 0, 1)]
def bk_40_0 : List mIns := [(.aload_n 0, 0, 0, 0), (.getfield 21, 6, 3, 1), (.ifCond .eq 19, 23, 0, 0), (.iload_n 1, 1, 0, 0), (.iconst 2, 0, 0, 2), (.if_icmp .ne 10, 19, 0, 0), (.aload_n 0, 0, 0, 0), (.getfield 25, 6, 4, 1), (.ifCond .eq 7, 23, 0, 0), (.nop, 19, 0, 0)]
def bk_40_19 : List mIns := [(.iconst 1, 0, 0, 1), (.goto 4, 24, 0, 0)]
def bk_40_23 : List mIns := [(.iconst 0, 0, 0, 0), (.nop, 24, 0, 0)]
def bk_40_24 : List mIns := [(.ireturn, 0, 0, 1)]
def bk_41_0 : List mIns := [(.aload_n 0, 0, 0, 0), (.iconst 0, 0, 0, 0), (.putfield 21, 6, 3, 1), (.aload_n 0, 0, 0, 0), (.iconst 0, 0, 0, 0), (.putfield 25, 6, 4, 1), (.aload_n 0, 0, 0, 0), (.iconst 0, 0, 0, 0), (.putfield 28, 6, 5, 0), (.aload_n 0, 0, 0, 0), (.iconst 0, 0, 0, 0), (.putfield 32, 6, 6, 0), (.return_, 0, 0, 0)]
def bk_42_0 : List mIns := [(.aload_n 0, 0, 0, 0), (.invokevirtual 51, 41, 1, 0), (.aload_n 0, 0, 0, 0), (.iconst 1, 0, 0, 1), (.putfield 21, 6, 3, 1), (.aload_n 0, 0, 0, 0), (.iconst 0, 0, 0, 0), (.sipush 5000, 0, 0, 5000), (.iconst (-1), 0, 0, (-1)), (.invokevirtual 54, 45, 4, 0), (.return_, 0, 0, 0)]
def bk_43_0 : List mIns := [(.aload_n 0, 0, 0, 0), (.getfield 28, 6, 5, 0), (.bipush 30, 0, 0, 30), (.if_icmp .ge 26, 32, 0, 0), (.aload_n 0, 0, 0, 0), (.dup, 0, 0, 0), (.getfield 28, 6, 5, 0), (.iconst 1, 0, 0, 1), (.iadd, 0, 0, 0), (.putfield 28, 6, 5, 0), (.aload_n 0, 0, 0, 0), (.aload_n 0, 0, 0, 0), (.getfield 28, 6, 5, 0), (.iload_n 1, 1, 0, 0), (.invokestatic 58, 86, 1, 0), (.iload_n 1, 1, 0, 0), (.invokevirtual 54, 45, 4, 0), (.nop, 32, 0, 0)]
def bk_43_32 : List mIns := [(.return_, 0, 0, 0)]
def bk_44_0 : List mIns := [(.aload_n 0, 0, 0, 0), (.iconst 1, 0, 0, 1), (.putfield 25, 6, 4, 1), (.aload_n 0, 0, 0, 0), (.aload_n 0, 0, 0, 0), (.getfield 28, 6, 5, 0), (.iconst 1, 0, 0, 1), (.iadd, 0, 0, 0), (.sipush 5000, 0, 0, 5000), (.iconst (-1), 0, 0, (-1)), (.invokevirtual 54, 45, 4, 0), (.return_, 0, 0, 0)]
def bk_45_0 : List mIns := [(.iload_n 1, 1, 0, 0), (.ifCond .lt 9, 10, 0, 0), (.iload_n 1, 1, 0, 0), (.bipush 32, 0, 0, 32), (.if_icmp .lt 4, 11, 0, 0), (.nop, 10, 0, 0)]
def bk_45_10 : List mIns := [(.return_, 0, 0, 0)]
def bk_45_11 : List mIns := [(.aload_n 0, 0, 0, 0), (.getfield 9, 6, 0, 2), (.iload_n 1, 1, 0, 0), (.iload_n 2, 2, 0, 0), (.iastore, 0, 0, 0), (.aload_n 0, 0, 0, 0), (.getfield 15, 6, 1, 2), (.iload_n 1, 1, 0, 0), (.iload_n 2, 2, 0, 0), (.iastore, 0, 0, 0), (.aload_n 0, 0, 0, 0), (.getfield 18, 6, 2, 2), (.iload_n 1, 1, 0, 0), (.iload_n 3, 3, 0, 0), (.iastore, 0, 0, 0), (.return_, 0, 0, 0)]
def bk_46_0 : List mIns := [(.aload_n 0, 0, 0, 0), (.getfield 9, 6, 0, 2), (.iload_n 3, 3, 0, 0), (.aload_n 1, 1, 0, 0), (.getfield 9, 6, 0, 2), (.iload_n 2, 2, 0, 0), (.iaload, 0, 0, 0), (.iastore, 0, 0, 0), (.aload_n 0, 0, 0, 0), (.getfield 15, 6, 1, 2), (.iload_n 3, 3, 0, 0), (.aload_n 1, 1, 0, 0), (.getfield 15, 6, 1, 2), (.iload_n 2, 2, 0, 0), (.iaload, 0, 0, 0), (.iastore, 0, 0, 0), (.aload_n 0, 0, 0, 0), (.getfield 18, 6, 2, 2), (.iload_n 3, 3, 0, 0), (.aload_n 1, 1, 0, 0), (.getfield 18, 6, 2, 2), (.iload_n 2, 2, 0, 0), (.iaload, 0, 0, 0), (.iastore, 0, 0, 0), (.return_, 0, 0, 0)]
def bk_47_0 : List mIns := [(.aload_n 0, 0, 0, 0), (.invokevirtual 62, 42, 1, 0), (.aload_n 0, 0, 0, 0), (.aload_n 1, 1, 0, 0), (.iload_n 2, 2, 0, 0), (.invokevirtual 65, 49, 3, 0), (.aload_n 1, 1, 0, 0), (.iload_n 2, 2, 0, 0), (.putfield 28, 6, 5, 0), (.aload_n 1, 1, 0, 0), (.iconst 0, 0, 0, 0), (.putfield 25, 6, 4, 1), (.return_, 0, 0, 0)]
def bk_48_0 : List mIns := [(.aload_n 0, 0, 0, 0), (.aload_n 1, 1, 0, 0), (.iconst 0, 0, 0, 0), (.invokevirtual 65, 49, 3, 0), (.aload_n 1, 1, 0, 0), (.invokevirtual 51, 41, 1, 0), (.return_, 0, 0, 0)]
def bk_49_0 : List mIns := [(.aload_n 1, 1, 0, 0), (.invokevirtual 47, 37, 1, 0), (.istore_n 3, 3, 0, 0), (.aload_n 0, 0, 0, 0), (.getfield 28, 6, 5, 0), (.iconst 1, 0, 0, 1), (.iadd, 0, 0, 0), (.istore 4, 4, 0, 0), (.iload_n 2, 2, 0, 0), (.iconst 1, 0, 0, 1), (.iadd, 0, 0, 0), (.istore 5, 5, 0, 0), (.nop, 18, 0, 0)]
def bk_49_18 : List mIns := [(.iload 5, 5, 0, 0), (.iload_n 3, 3, 0, 0), (.if_icmp .ge 28, 49, 0, 0), (.iload 4, 4, 0, 0), (.bipush 32, 0, 0, 32), (.if_icmp .ge 21, 49, 0, 0), (.aload_n 0, 0, 0, 0), (.aload_n 1, 1, 0, 0), (.iload 5, 5, 0, 0), (.iload 4, 4, 0, 0), (.invokevirtual 69, 46, 4, 0), (.iinc 4 1, 4, 0, 1), (.iinc 5 1, 5, 0, 1), (.goto (-28), 18, 0, 0)]
def bk_49_49 : List mIns := [(.aload_n 0, 0, 0, 0), (.dup, 0, 0, 0), (.getfield 28, 6, 5, 0), (.aload_n 1, 1, 0, 0), (.getfield 28, 6, 5, 0), (.iload_n 2, 2, 0, 0), (.isub, 0, 0, 0), (.iadd, 0, 0, 0), (.putfield 28, 6, 5, 0), (.aload_n 0, 0, 0, 0), (.aload_n 1, 1, 0, 0), (.getfield 25, 6, 4, 1), (.putfield 25, 6, 4, 1), (.return_, 0, 0, 0)]
def bk_50_0 : List mIns := [(.aload_n 0, 0, 0, 0), (.iconst 0, 0, 0, 0), (.sipush 5000, 0, 0, 5000), (.iconst (-1), 0, 0, (-1)), (.invokevirtual 54, 45, 4, 0), (.iconst 0, 0, 0, 0), (.istore_n 2, 2, 0, 0), (.nop, 11, 0, 0)]
def bk_50_11 : List mIns := [(.iload_n 2, 2, 0, 0), (.aload_n 0, 0, 0, 0), (.getfield 28, 6, 5, 0), (.if_icmp .ge 36, 52, 0, 0), (.iload_n 2, 2, 0, 0), (.aload_n 1, 1, 0, 0), (.arraylength, 0, 0, 0), (.if_icmp .ge 30, 52, 0, 0), (.aload_n 0, 0, 0, 0), (.iload_n 2, 2, 0, 0), (.iconst 1, 0, 0, 1), (.iadd, 0, 0, 0), (.aload_n 1, 1, 0, 0), (.iload_n 2, 2, 0, 0), (.iaload, 0, 0, 0), (.invokestatic 58, 86, 1, 0), (.aload_n 0, 0, 0, 0), (.getfield 18, 6, 2, 2), (.iload_n 2, 2, 0, 0), (.iconst 1, 0, 0, 1), (.iadd, 0, 0, 0), (.iaload, 0, 0, 0), (.invokevirtual 54, 45, 4, 0), (.iinc 2 1, 2, 0, 1), (.goto (-38), 11, 0, 0)]
def bk_50_52 : List mIns := [(.aload_n 0, 0, 0, 0), (.getfield 25, 6, 4, 1), (.ifCond .eq 7, 63, 0, 0), (.aload_n 0, 0, 0, 0), (.invokevirtual 73, 44, 1, 0), (.nop, 63, 0, 0)]
def bk_50_63 : List mIns := [(.aload_n 0, 0, 0, 0), (.iconst 0, 0, 0, 0), (.putfield 32, 6, 6, 0), (.return_, 0, 0, 0)]
def bk_51_0 : List mIns := [(.aload_n 0, 0, 0, 0), (.invokevirtual 47, 37, 1, 0), (.istore 4, 4, 0, 0), (.iconst (-1), 0, 0, (-1)), (.istore 5, 5, 0, 0), (.iconst 0, 0, 0, 0), (.istore 6, 6, 0, 0), (.nop, 12, 0, 0)]
def bk_51_12 : List mIns := [(.iload 6, 6, 0, 0), (.iload 4, 4, 0, 0), (.if_icmp .ge 72, 88, 0, 0), (.aload_n 0, 0, 0, 0), (.getfield 9, 6, 0, 2), (.iload 6, 6, 0, 0), (.dup2, 0, 0, 0), (.iaload, 0, 0, 0), (.aload_n 0, 0, 0, 0), (.getfield 9, 6, 0, 2), (.iload 6, 6, 0, 0), (.iaload, 0, 0, 0), (.iload_n 1, 1, 0, 0), (.iload_n 3, 3, 0, 0), (.iload 6, 6, 0, 0), (.iload 4, 4, 0, 0), (.invokestatic 76, 87, 4, 0), (.imul, 0, 0, 0), (.sipush 10000, 0, 0, 10000), (.idiv, 0, 0, 0), (.iadd, 0, 0, 0), (.iastore, 0, 0, 0), (.iload 5, 5, 0, 0), (.iconst (-1), 0, 0, (-1)), (.if_icmp .ne 29, 82, 0, 0), (.aload_n 0, 0, 0, 0), (.getfield 9, 6, 0, 2), (.iload 6, 6, 0, 0), (.iaload, 0, 0, 0), (.bipush 100, 0, 0, 100), (.imul, 0, 0, 0), (.aload_n 0, 0, 0, 0), (.getfield 15, 6, 1, 2), (.iload 6, 6, 0, 0), (.iaload, 0, 0, 0), (.iload_n 2, 2, 0, 0), (.imul, 0, 0, 0), (.if_icmp .le 7, 82, 0, 0), (.iload 6, 6, 0, 0), (.istore 5, 5, 0, 0), (.nop, 82, 0, 0)]
def bk_51_82 : List mIns := [(.iinc 6 1, 6, 0, 1), (.goto (-73), 12, 0, 0)]
def bk_51_88 : List mIns := [(.iload 5, 5, 0, 0), (.ireturn, 0, 0, 0)]
def bk_52_0 : List mIns := [(.iload_n 1, 1, 0, 0), (.ifCond .gt 8, 9, 0, 0), (.aload_n 0, 0, 0, 0), (.invokevirtual 51, 41, 1, 0), (.return_, 0, 0, 0)]
def bk_52_9 : List mIns := [(.aload_n 0, 0, 0, 0), (.aload_n 0, 0, 0, 0), (.getfield 28, 6, 5, 0), (.iload_n 1, 1, 0, 0), (.iconst 1, 0, 0, 1), (.isub, 0, 0, 0), (.invokestatic 41, 0, 0, 1), (.putfield 28, 6, 5, 0), (.aload_n 0, 0, 0, 0), (.iconst 0, 0, 0, 0), (.putfield 25, 6, 4, 1), (.return_, 0, 0, 0)]
def bk_53_0 : List mIns := [(.aload_n 0, 0, 0, 0), (.aload_n 0, 0, 0, 0), (.getfield 9, 6, 0, 2), (.invokevirtual 80, 55, 2, 0), (.ireturn, 0, 0, 0)]
def bk_54_0 : List mIns := [(.aload_n 0, 0, 0, 0), (.aload_n 0, 0, 0, 0), (.getfield 15, 6, 1, 2), (.invokevirtual 80, 55, 2, 0), (.ireturn, 0, 0, 0)]
def bk_55_0 : List mIns := [(.iconst 0, 0, 0, 0), (.istore_n 2, 2, 0, 0), (.aload_n 0, 0, 0, 0), (.invokevirtual 47, 37, 1, 0), (.istore_n 3, 3, 0, 0), (.iconst 0, 0, 0, 0), (.istore 4, 4, 0, 0), (.nop, 10, 0, 0)]
def bk_55_10 : List mIns := [(.iload 4, 4, 0, 0), (.iload_n 3, 3, 0, 0), (.if_icmp .ge 23, 36, 0, 0), (.iload 4, 4, 0, 0), (.aload_n 1, 1, 0, 0), (.arraylength, 0, 0, 0), (.if_icmp .ge 16, 36, 0, 0), (.iload_n 2, 2, 0, 0), (.aload_n 1, 1, 0, 0), (.iload 4, 4, 0, 0), (.iaload, 0, 0, 0), (.iadd, 0, 0, 0), (.istore_n 2, 2, 0, 0), (.iinc 4 1, 4, 0, 1), (.goto (-23), 10, 0, 0)]
def bk_55_36 : List mIns := [(.iload_n 2, 2, 0, 0), (.ireturn, 0, 0, 0)]
def bk_56_0 : List mIns := [(.iconst 0, 0, 0, 0), (.istore_n 1, 1, 0, 0), (.aload_n 0, 0, 0, 0), (.invokevirtual 47, 37, 1, 0), (.istore_n 2, 2, 0, 0), (.iconst 1, 0, 0, 1), (.istore_n 3, 3, 0, 0), (.nop, 9, 0, 0)]
def bk_56_9 : List mIns := [(.iload_n 3, 3, 0, 0), (.iload_n 2, 2, 0, 0), (.if_icmp .ge 24, 35, 0, 0), (.aload_n 0, 0, 0, 0), (.iload_n 3, 3, 0, 0), (.invokevirtual 84, 57, 2, 0), (.aload_n 0, 0, 0, 0), (.iload_n 1, 1, 0, 0), (.invokevirtual 84, 57, 2, 0), (.if_icmp .le 5, 29, 0, 0), (.iload_n 3, 3, 0, 0), (.istore_n 1, 1, 0, 0), (.nop, 29, 0, 0)]
def bk_56_29 : List mIns := [(.iinc 3 1, 3, 0, 1), (.goto (-23), 9, 0, 0)]
def bk_56_35 : List mIns := [(.iload_n 1, 1, 0, 0), (.ireturn, 0, 0, 0)]
def bk_57_0 : List mIns := [(.aload_n 0, 0, 0, 0), (.iload_n 1, 1, 0, 0), (.invokevirtual 87, 38, 2, 0), (.ifCond .eq 12, 17, 0, 0), (.aload_n 0, 0, 0, 0), (.getfield 15, 6, 1, 2), (.iload_n 1, 1, 0, 0), (.iaload, 0, 0, 0), (.ifCond .gt 5, 19, 0, 0), (.nop, 17, 0, 0)]
def bk_57_17 : List mIns := [(.iconst 0, 0, 0, 0), (.ireturn, 0, 0, 0)]
def bk_57_19 : List mIns := [(.aload_n 0, 0, 0, 0), (.getfield 9, 6, 0, 2), (.iload_n 1, 1, 0, 0), (.iaload, 0, 0, 0), (.sipush 1000, 0, 0, 1000), (.imul, 0, 0, 0), (.aload_n 0, 0, 0, 0), (.getfield 15, 6, 1, 2), (.iload_n 1, 1, 0, 0), (.iaload, 0, 0, 0), (.idiv, 0, 0, 0), (.ireturn, 0, 0, 0)]
def bk_58_0 : List mIns := [(.aload_n 0, 0, 0, 0), (.invokespecial 3, 0, 0, 0), (.aload_n 0, 0, 0, 0), (.new 9, 4, 9, 0), (.dup, 0, 0, 0), (.invokespecial 11, 24, 1, 1), (.putfield 12, 7, 0, 5), (.aload_n 0, 0, 0, 0), (.new 16, 1, 2, 0), (.dup, 0, 0, 0), (.invokespecial 18, 8, 1, 1), (.putfield 19, 7, 1, 5), (.aload_n 0, 0, 0, 0), (.new 9, 4, 9, 0), (.dup, 0, 0, 0), (.invokespecial 11, 24, 1, 1), (.putfield 23, 7, 2, 5), (.aload_n 0, 0, 0, 0), (.iconst 0, 0, 0, 0), (.putfield 26, 7, 3, 1), (.aload_n 0, 0, 0, 0), (.new 30, 5, 2, 0), (.dup, 0, 0, 0), (.invokespecial 32, 31, 1, 1), (.putfield 33, 7, 4, 5), (.aload_n 0, 0, 0, 0), (.new 37, 0, 6, 0), (.dup, 0, 0, 0), (.invokespecial 39, 0, 1, 1), (.putfield 40, 7, 5, 5), (.aload_n 0, 0, 0, 0), (.new 44, 3, 4, 0), (.dup, 0, 0, 0), (.invokespecial 46, 17, 1, 1), (.putfield 47, 7, 6, 5), (.aload_n 0, 0, 0, 0), (.new 44, 3, 4, 0), (.dup, 0, 0, 0), (.invokespecial 46, 17, 1, 1), (.putfield 51, 7, 7, 5), (.aload_n 0, 0, 0, 0), (.new 54, 6, 7, 0), (.dup, 0, 0, 0), (.invokespecial 56, 35, 1, 1), (.putfield 57, 7, 8, 5), (.return_, 0, 0, 0)]
def bk_59_0 : List mIns := [(.iload_n 1, 1, 0, 0), (.ifCond .lt 8, 9, 0, 0), (.iload_n 1, 1, 0, 0), (.iconst 2, 0, 0, 2), (.if_icmp .le 6, 12, 0, 0), (.nop, 9, 0, 0)]
def bk_59_9 : List mIns := [(.bipush (-2), 0, 0, (-2)), (.ireturn, 0, 0, 0)]
def bk_59_12 : List mIns := [(.aload_n 0, 0, 0, 0), (.getfield 12, 7, 0, 2), (.getfield 61, 4, 2, 0), (.istore_n 2, 2, 0, 0), (.iload_n 1, 1, 0, 0), (.iload_n 2, 2, 0, 0), (.if_icmp .ne 6, 28, 0, 0), (.bipush (-5), 0, 0, (-5)), (.ireturn, 0, 0, 0)]
def bk_59_28 : List mIns := [(.aload_n 0, 0, 0, 0), (.getfield 19, 7, 1, 2), (.aload_n 0, 0, 0, 0), (.getfield 12, 7, 0, 2), (.invokevirtual 65, 9, 2, 0), (.aload_n 0, 0, 0, 0), (.getfield 12, 7, 0, 2), (.iload_n 1, 1, 0, 0), (.putfield 61, 4, 2, 0), (.iload_n 2, 2, 0, 0), (.ireturn, 0, 0, 0)]
def bk_60_0 : List mIns := [(.iload_n 1, 1, 0, 0), (.bipush 101, 0, 0, 101), (.if_icmp .lt 10, 13, 0, 0), (.iload_n 1, 1, 0, 0), (.sipush 200, 0, 0, 200), (.if_icmp .le 6, 16, 0, 0), (.nop, 13, 0, 0)]
def bk_60_13 : List mIns := [(.bipush (-2), 0, 0, (-2)), (.ireturn, 0, 0, 0)]
def bk_60_16 : List mIns := [(.aload_n 0, 0, 0, 0), (.getfield 12, 7, 0, 2), (.getfield 69, 4, 3, 0), (.istore_n 2, 2, 0, 0), (.iload_n 1, 1, 0, 0), (.iload_n 2, 2, 0, 0), (.if_icmp .ne 6, 32, 0, 0), (.bipush (-5), 0, 0, (-5)), (.ireturn, 0, 0, 0)]
def bk_60_32 : List mIns := [(.aload_n 0, 0, 0, 0), (.getfield 19, 7, 1, 2), (.aload_n 0, 0, 0, 0), (.getfield 12, 7, 0, 2), (.invokevirtual 65, 9, 2, 0), (.aload_n 0, 0, 0, 0), (.getfield 12, 7, 0, 2), (.iload_n 1, 1, 0, 0), (.putfield 69, 4, 3, 0), (.iload_n 2, 2, 0, 0), (.ireturn, 0, 0, 0)]
def bk_61_0 : List mIns := [(.iload_n 1, 1, 0, 0), (.invokestatic 72, 82, 1, 0), (.ifCond .ne 5, 9, 0, 0), (.iconst (-1), 0, 0, (-1)), (.ireturn, 0, 0, 0)]
def bk_61_9 : List mIns := [(.iload_n 2, 2, 0, 0), (.invokestatic 76, 83, 1, 0), (.ifCond .eq 14, 27, 0, 0), (.iload_n 3, 3, 0, 0), (.iconst 1, 0, 0, 1), (.if_icmp .lt 9, 27, 0, 0), (.iload_n 3, 3, 0, 0), (.bipush 30, 0, 0, 30), (.if_icmp .le 6, 30, 0, 0), (.nop, 27, 0, 0)]
def bk_61_27 : List mIns := [(.bipush (-2), 0, 0, (-2)), (.ireturn, 0, 0, 0)]
def bk_61_30 : List mIns := [(.aload_n 0, 0, 0, 0), (.getfield 12, 7, 0, 2), (.getfield 79, 4, 0, 2), (.iload_n 1, 1, 0, 0), (.aaload, 4, 6, 0), (.getfield 83, 6, 3, 1), (.ifCond .ne 6, 48, 0, 0), (.bipush (-4), 0, 0, (-4)), (.ireturn, 0, 0, 0)]
def bk_61_48 : List mIns := [(.aload_n 0, 0, 0, 0), (.getfield 19, 7, 1, 2), (.aload_n 0, 0, 0, 0), (.getfield 12, 7, 0, 2), (.invokevirtual 65, 9, 2, 0), (.aload_n 0, 0, 0, 0), (.getfield 12, 7, 0, 2), (.iload_n 1, 1, 0, 0), (.iload_n 2, 2, 0, 0), (.iload_n 3, 3, 0, 0), (.invokevirtual 86, 29, 4, 0), (.ireturn, 0, 0, 0)]
def bk_62_0 : List mIns := [(.iload_n 1, 1, 0, 0), (.invokestatic 72, 82, 1, 0), (.ifCond .eq 19, 23, 0, 0), (.aload_n 0, 0, 0, 0), (.getfield 12, 7, 0, 2), (.getfield 79, 4, 0, 2), (.iload_n 1, 1, 0, 0), (.aaload, 4, 6, 0), (.iload_n 2, 2, 0, 0), (.invokevirtual 90, 39, 2, 0), (.ifCond .ne 5, 25, 0, 0), (.nop, 23, 0, 0)]
def bk_62_23 : List mIns := [(.iconst (-1), 0, 0, (-1)), (.ireturn, 0, 0, 0)]
def bk_62_25 : List mIns := [(.aload_n 0, 0, 0, 0), (.getfield 12, 7, 0, 2), (.invokevirtual 93, 28, 1, 0), (.istore_n 3, 3, 0, 0), (.iload_n 3, 3, 0, 0), (.invokestatic 72, 82, 1, 0), (.ifCond .ne 6, 43, 0, 0), (.bipush (-3), 0, 0, (-3)), (.ireturn, 0, 0, 0)]
def bk_62_43 : List mIns := [(.aload_n 0, 0, 0, 0), (.getfield 19, 7, 1, 2), (.aload_n 0, 0, 0, 0), (.getfield 12, 7, 0, 2), (.invokevirtual 65, 9, 2, 0), (.aload_n 0, 0, 0, 0), (.getfield 12, 7, 0, 2), (.getfield 79, 4, 0, 2), (.iload_n 3, 3, 0, 0), (.aaload, 4, 6, 0), (.aload_n 0, 0, 0, 0), (.getfield 12, 7, 0, 2), (.getfield 79, 4, 0, 2), (.iload_n 1, 1, 0, 0), (.aaload, 4, 6, 0), (.iload_n 2, 2, 0, 0), (.invokevirtual 97, 47, 3, 0), (.aload_n 0, 0, 0, 0), (.getfield 12, 7, 0, 2), (.dup, 0, 0, 0), (.getfield 101, 4, 5, 0), (.sipush 5000, 0, 0, 5000), (.iadd, 0, 0, 0), (.putfield 101, 4, 5, 0), (.aload_n 0, 0, 0, 0), (.getfield 12, 7, 0, 2), (.getfield 104, 4, 1, 2), (.iconst 3, 0, 0, 3), (.iload_n 1, 1, 0, 0), (.iload_n 3, 3, 0, 0), (.invokevirtual 108, 14, 4, 0), (.iload_n 3, 3, 0, 0), (.ireturn, 0, 0, 0)]
def bk_63_0 : List mIns := [(.iload_n 1, 1, 0, 0), (.invokestatic 72, 82, 1, 0), (.ifCond .eq 10, 14, 0, 0), (.iload_n 2, 2, 0, 0), (.invokestatic 72, 82, 1, 0), (.ifCond .ne 5, 16, 0, 0), (.nop, 14, 0, 0)]
def bk_63_14 : List mIns := [(.iconst (-1), 0, 0, (-1)), (.ireturn, 0, 0, 0)]
def bk_63_16 : List mIns := [(.iload_n 1, 1, 0, 0), (.iload_n 2, 2, 0, 0), (.if_icmp .ne 6, 24, 0, 0), (.bipush (-2), 0, 0, (-2)), (.ireturn, 0, 0, 0)]
def bk_63_24 : List mIns := [(.aload_n 0, 0, 0, 0), (.getfield 12, 7, 0, 2), (.getfield 79, 4, 0, 2), (.iload_n 1, 1, 0, 0), (.aaload, 4, 6, 0), (.astore_n 3, 3, 0, 0), (.aload_n 0, 0, 0, 0), (.getfield 12, 7, 0, 2), (.getfield 79, 4, 0, 2), (.iload_n 2, 2, 0, 0), (.aaload, 4, 6, 0), (.astore 4, 4, 0, 0), (.aload_n 3, 3, 0, 0), (.getfield 83, 6, 3, 1), (.ifCond .eq 11, 60, 0, 0), (.aload 4, 4, 0, 0), (.getfield 83, 6, 3, 1), (.ifCond .ne 6, 63, 0, 0), (.nop, 60, 0, 0)]
def bk_63_60 : List mIns := [(.bipush (-4), 0, 0, (-4)), (.ireturn, 0, 0, 0)]
def bk_63_63 : List mIns := [(.aload_n 3, 3, 0, 0), (.getfield 114, 6, 5, 0), (.aload 4, 4, 0, 0), (.getfield 114, 6, 5, 0), (.iadd, 0, 0, 0), (.bipush 30, 0, 0, 30), (.if_icmp .le 6, 81, 0, 0), (.bipush (-3), 0, 0, (-3)), (.ireturn, 0, 0, 0)]
def bk_63_81 : List mIns := [(.aload_n 0, 0, 0, 0), (.getfield 19, 7, 1, 2), (.aload_n 0, 0, 0, 0), (.getfield 12, 7, 0, 2), (.invokevirtual 65, 9, 2, 0), (.aload_n 3, 3, 0, 0), (.aload 4, 4, 0, 0), (.invokevirtual 117, 48, 2, 0), (.aload_n 0, 0, 0, 0), (.getfield 12, 7, 0, 2), (.getfield 104, 4, 1, 2), (.iconst 4, 0, 0, 4), (.iload_n 1, 1, 0, 0), (.aload_n 3, 3, 0, 0), (.getfield 114, 6, 5, 0), (.invokevirtual 108, 14, 4, 0), (.aload_n 3, 3, 0, 0), (.getfield 114, 6, 5, 0), (.ireturn, 0, 0, 0)]
def bk_64_0 : List mIns := [(.iload_n 1, 1, 0, 0), (.invokestatic 72, 82, 1, 0), (.ifCond .ne 5, 9, 0, 0), (.iconst (-1), 0, 0, (-1)), (.ireturn, 0, 0, 0)]
def bk_64_9 : List mIns := [(.aload_n 0, 0, 0, 0), (.getfield 12, 7, 0, 2), (.getfield 79, 4, 0, 2), (.iload_n 1, 1, 0, 0), (.aaload, 4, 6, 0), (.astore_n 2, 2, 0, 0), (.aload_n 2, 2, 0, 0), (.getfield 83, 6, 3, 1), (.ifCond .ne 6, 29, 0, 0), (.bipush (-4), 0, 0, (-4)), (.ireturn, 0, 0, 0)]
def bk_64_29 : List mIns := [(.aload_n 2, 2, 0, 0), (.getfield 121, 6, 4, 1), (.ifCond .eq 6, 39, 0, 0), (.bipush (-5), 0, 0, (-5)), (.ireturn, 0, 0, 0)]
def bk_64_39 : List mIns := [(.aload_n 0, 0, 0, 0), (.getfield 19, 7, 1, 2), (.aload_n 0, 0, 0, 0), (.getfield 12, 7, 0, 2), (.invokevirtual 65, 9, 2, 0), (.aload_n 2, 2, 0, 0), (.invokevirtual 124, 44, 1, 0), (.aload_n 0, 0, 0, 0), (.getfield 12, 7, 0, 2), (.dup, 0, 0, 0), (.getfield 101, 4, 5, 0), (.sipush 5000, 0, 0, 5000), (.iadd, 0, 0, 0), (.putfield 101, 4, 5, 0), (.aload_n 0, 0, 0, 0), (.getfield 12, 7, 0, 2), (.getfield 104, 4, 1, 2), (.iconst 5, 0, 0, 5), (.iload_n 1, 1, 0, 0), (.aload_n 2, 2, 0, 0), (.getfield 114, 6, 5, 0), (.invokevirtual 108, 14, 4, 0), (.aload_n 2, 2, 0, 0), (.getfield 114, 6, 5, 0), (.ireturn, 0, 0, 0)]
def bk_65_0 : List mIns := [(.iload_n 1, 1, 0, 0), (.invokestatic 72, 82, 1, 0), (.ifCond .ne 5, 9, 0, 0), (.iconst (-1), 0, 0, (-1)), (.ireturn, 0, 0, 0)]
def bk_65_9 : List mIns := [(.iload_n 2, 2, 0, 0), (.invokestatic 127, 84, 1, 0), (.ifCond .ne 6, 19, 0, 0), (.bipush (-2), 0, 0, (-2)), (.ireturn, 0, 0, 0)]
def bk_65_19 : List mIns := [(.aload_n 0, 0, 0, 0), (.getfield 12, 7, 0, 2), (.getfield 79, 4, 0, 2), (.iload_n 1, 1, 0, 0), (.aaload, 4, 6, 0), (.astore_n 3, 3, 0, 0), (.aload_n 3, 3, 0, 0), (.iload_n 2, 2, 0, 0), (.invokevirtual 130, 40, 2, 0), (.ifCond .ne 6, 40, 0, 0), (.bipush (-4), 0, 0, (-4)), (.ireturn, 0, 0, 0)]
def bk_65_40 : List mIns := [(.aload_n 0, 0, 0, 0), (.getfield 47, 7, 6, 2), (.aload_n 3, 3, 0, 0), (.iload_n 2, 2, 0, 0), (.invokevirtual 133, 18, 3, 0), (.aload_n 0, 0, 0, 0), (.getfield 47, 7, 6, 2), (.getfield 136, 3, 2, 0), (.ifCond .le 6, 62, 0, 0), (.bipush (-4), 0, 0, (-4)), (.ireturn, 0, 0, 0)]
def bk_65_62 : List mIns := [(.aload_n 0, 0, 0, 0), (.getfield 19, 7, 1, 2), (.aload_n 0, 0, 0, 0), (.getfield 12, 7, 0, 2), (.invokevirtual 65, 9, 2, 0), (.aload_n 3, 3, 0, 0), (.aload_n 0, 0, 0, 0), (.getfield 47, 7, 6, 2), (.getfield 139, 3, 0, 2), (.invokevirtual 143, 50, 2, 0), (.aload_n 0, 0, 0, 0), (.getfield 12, 7, 0, 2), (.dup, 0, 0, 0), (.getfield 101, 4, 5, 0), (.aload_n 3, 3, 0, 0), (.invokevirtual 147, 54, 1, 0), (.iadd, 0, 0, 0), (.putfield 101, 4, 5, 0), (.aload_n 0, 0, 0, 0), (.getfield 12, 7, 0, 2), (.getfield 104, 4, 1, 2), (.bipush 6, 0, 0, 6), (.iload_n 1, 1, 0, 0), (.iload_n 2, 2, 0, 0), (.invokevirtual 108, 14, 4, 0), (.aload_n 0, 0, 0, 0), (.getfield 47, 7, 6, 2), (.getfield 150, 3, 1, 0), (.ireturn, 0, 0, 0)]
def bk_66_0 : List mIns := [(.aload_n 0, 0, 0, 0), (.getfield 33, 7, 4, 2), (.iload_n 1, 1, 0, 0), (.invokevirtual 153, 32, 2, 0), (.ifCond .ne 6, 14, 0, 0), (.bipush (-3), 0, 0, (-3)), (.ireturn, 0, 0, 0)]
def bk_66_14 : List mIns := [(.aload_n 0, 0, 0, 0), (.getfield 33, 7, 4, 2), (.getfield 156, 5, 1, 0), (.ireturn, 0, 0, 0)]
def bk_67_0 : List mIns := [(.aload_n 0, 0, 0, 0), (.getfield 33, 7, 4, 2), (.getfield 156, 5, 1, 0), (.istore_n 1, 1, 0, 0), (.aload_n 0, 0, 0, 0), (.getfield 33, 7, 4, 2), (.iconst 0, 0, 0, 0), (.putfield 156, 5, 1, 0), (.iload_n 1, 1, 0, 0), (.ireturn, 0, 0, 0)]
def bk_68_0 : List mIns := [(.aload_n 0, 0, 0, 0), (.getfield 40, 7, 5, 2), (.aload_n 0, 0, 0, 0), (.getfield 33, 7, 4, 2), (.invokevirtual 159, 1, 2, 0), (.aload_n 0, 0, 0, 0), (.getfield 40, 7, 5, 2), (.getfield 163, 0, 4, 0), (.iconst (-1), 0, 0, (-1)), (.if_icmp .eq 14, 33, 0, 0), (.bipush (-100), 0, 0, (-100)), (.aload_n 0, 0, 0, 0), (.getfield 40, 7, 5, 2), (.getfield 163, 0, 4, 0), (.isub, 0, 0, 0), (.ireturn, 0, 0, 0)]
def bk_68_33 : List mIns := [(.aload_n 0, 0, 0, 0), (.getfield 40, 7, 5, 2), (.getfield 166, 0, 0, 0), (.tableswitch 132 1 5 #[36, 62, 82, 101, 120], 40, 36, 0)]
def bk_68_76 : List mIns := [(.aload_n 0, 0, 0, 0), (.aload_n 0, 0, 0, 0), (.getfield 40, 7, 5, 2), (.getfield 169, 0, 1, 0), (.aload_n 0, 0, 0, 0), (.getfield 40, 7, 5, 2), (.getfield 172, 0, 3, 0), (.aload_n 0, 0, 0, 0), (.getfield 33, 7, 4, 2), (.getfield 156, 5, 1, 0), (.invokevirtual 175, 69, 4, 0), (.ireturn, 0, 0, 0)]
def bk_68_102 : List mIns := [(.aload_n 0, 0, 0, 0), (.aload_n 0, 0, 0, 0), (.getfield 40, 7, 5, 2), (.getfield 169, 0, 1, 0), (.aload_n 0, 0, 0, 0), (.getfield 40, 7, 5, 2), (.getfield 178, 0, 2, 0), (.iconst 1, 0, 0, 1), (.invokevirtual 181, 61, 4, 0), (.ireturn, 0, 0, 0)]
def bk_68_122 : List mIns := [(.aload_n 0, 0, 0, 0), (.aload_n 0, 0, 0, 0), (.getfield 40, 7, 5, 2), (.getfield 169, 0, 1, 0), (.aload_n 0, 0, 0, 0), (.getfield 40, 7, 5, 2), (.getfield 178, 0, 2, 0), (.invokevirtual 184, 62, 3, 0), (.ireturn, 0, 0, 0)]
def bk_68_141 : List mIns := [(.aload_n 0, 0, 0, 0), (.aload_n 0, 0, 0, 0), (.getfield 40, 7, 5, 2), (.getfield 169, 0, 1, 0), (.aload_n 0, 0, 0, 0), (.getfield 40, 7, 5, 2), (.getfield 178, 0, 2, 0), (.invokevirtual 188, 63, 3, 0), (.ireturn, 0, 0, 0)]
def bk_68_160 : List mIns := [(.aload_n 0, 0, 0, 0), (.aload_n 0, 0, 0, 0), (.getfield 40, 7, 5, 2), (.getfield 169, 0, 1, 0), (.invokevirtual 191, 64, 2, 0), (.ireturn, 0, 0, 0)]
def bk_68_172 : List mIns := [(.aload_n 0, 0, 0, 0), (.aload_n 0, 0, 0, 0), (.getfield 40, 7, 5, 2), (.getfield 169, 0, 1, 0), (.aload_n 0, 0, 0, 0), (.getfield 40, 7, 5, 2), (.getfield 178, 0, 2, 0), (.invokevirtual 195, 65, 3, 0), (.ireturn, 0, 0, 0)]
def bk_69_0 : List mIns := [(.iload_n 1, 1, 0, 0), (.invokestatic 72, 82, 1, 0), (.ifCond .ne 5, 9, 0, 0), (.iconst (-1), 0, 0, (-1)), (.ireturn, 0, 0, 0)]
def bk_69_9 : List mIns := [(.aload_n 0, 0, 0, 0), (.getfield 12, 7, 0, 2), (.getfield 79, 4, 0, 2), (.iload_n 1, 1, 0, 0), (.aaload, 4, 6, 0), (.astore 4, 4, 0, 0), (.aload 4, 4, 0, 0), (.getfield 83, 6, 3, 1), (.ifCond .eq 6, 31, 0, 0), (.bipush (-4), 0, 0, (-4)), (.ireturn, 0, 0, 0)]
def bk_69_31 : List mIns := [(.iload_n 3, 3, 0, 0), (.iload_n 2, 2, 0, 0), (.isub, 0, 0, 0), (.bipush 30, 0, 0, 30), (.if_icmp .le 6, 42, 0, 0), (.bipush (-3), 0, 0, (-3)), (.ireturn, 0, 0, 0)]
def bk_69_42 : List mIns := [(.aload_n 0, 0, 0, 0), (.getfield 19, 7, 1, 2), (.aload_n 0, 0, 0, 0), (.getfield 12, 7, 0, 2), (.invokevirtual 65, 9, 2, 0), (.aload 4, 4, 0, 0), (.invokevirtual 198, 42, 1, 0), (.iload_n 2, 2, 0, 0), (.istore 5, 5, 0, 0), (.nop, 61, 0, 0)]
def bk_69_61 : List mIns := [(.iload 5, 5, 0, 0), (.iload_n 3, 3, 0, 0), (.if_icmp .ge 26, 90, 0, 0), (.aload 4, 4, 0, 0), (.aload_n 0, 0, 0, 0), (.getfield 33, 7, 4, 2), (.iload 5, 5, 0, 0), (.invokevirtual 201, 33, 2, 0), (.bipush 97, 0, 0, 97), (.isub, 0, 0, 0), (.invokevirtual 204, 43, 2, 0), (.iinc 5 1, 5, 0, 1), (.goto (-26), 61, 0, 0)]
def bk_69_90 : List mIns := [(.aload 4, 4, 0, 0), (.invokevirtual 124, 44, 1, 0), (.aload_n 0, 0, 0, 0), (.getfield 12, 7, 0, 2), (.dup, 0, 0, 0), (.getfield 101, 4, 5, 0), (.aload 4, 4, 0, 0), (.invokevirtual 147, 54, 1, 0), (.iadd, 0, 0, 0), (.putfield 101, 4, 5, 0), (.aload_n 0, 0, 0, 0), (.getfield 12, 7, 0, 2), (.getfield 104, 4, 1, 2), (.iconst 0, 0, 0, 0), (.iload_n 1, 1, 0, 0), (.aload 4, 4, 0, 0), (.getfield 114, 6, 5, 0), (.invokevirtual 108, 14, 4, 0), (.aload 4, 4, 0, 0), (.getfield 114, 6, 5, 0), (.ireturn, 0, 0, 0)]
def bk_70_0 : List mIns := [(.aload_n 0, 0, 0, 0), (.getfield 19, 7, 1, 2), (.aload_n 0, 0, 0, 0), (.getfield 12, 7, 0, 2), (.invokevirtual 208, 11, 2, 0), (.ifCond .ne 6, 17, 0, 0), (.bipush (-5), 0, 0, (-5)), (.ireturn, 0, 0, 0)]
def bk_70_17 : List mIns := [(.aload_n 0, 0, 0, 0), (.getfield 19, 7, 1, 2), (.getfield 212, 1, 1, 0), (.ireturn, 0, 0, 0)]
def bk_71_0 : List mIns := [(.aload_n 0, 0, 0, 0), (.getfield 23, 7, 2, 2), (.aload_n 0, 0, 0, 0), (.getfield 12, 7, 0, 2), (.invokevirtual 213, 25, 2, 0), (.aload_n 0, 0, 0, 0), (.iconst 1, 0, 0, 1), (.putfield 26, 7, 3, 1), (.aload_n 0, 0, 0, 0), (.getfield 12, 7, 0, 2), (.invokevirtual 216, 26, 1, 0), (.ireturn, 0, 0, 0)]
def bk_72_0 : List mIns := [(.aload_n 0, 0, 0, 0), (.getfield 26, 7, 3, 1), (.ifCond .ne 6, 10, 0, 0), (.bipush (-5), 0, 0, (-5)), (.ireturn, 0, 0, 0)]
def bk_72_10 : List mIns := [(.aload_n 0, 0, 0, 0), (.getfield 19, 7, 1, 2), (.aload_n 0, 0, 0, 0), (.getfield 12, 7, 0, 2), (.invokevirtual 65, 9, 2, 0), (.aload_n 0, 0, 0, 0), (.getfield 12, 7, 0, 2), (.aload_n 0, 0, 0, 0), (.getfield 23, 7, 2, 2), (.invokevirtual 213, 25, 2, 0), (.aload_n 0, 0, 0, 0), (.getfield 12, 7, 0, 2), (.invokevirtual 216, 26, 1, 0), (.ireturn, 0, 0, 0)]
def bk_73_0 : List mIns := [(.iload_n 1, 1, 0, 0), (.invokestatic 72, 82, 1, 0), (.ifCond .ne 5, 9, 0, 0), (.iconst (-1), 0, 0, (-1)), (.ireturn, 0, 0, 0)]
def bk_73_9 : List mIns := [(.iload_n 2, 2, 0, 0), (.ifCond .lt 9, 19, 0, 0), (.iload_n 2, 2, 0, 0), (.bipush 6, 0, 0, 6), (.if_icmp .le 6, 22, 0, 0), (.nop, 19, 0, 0)]
def bk_73_19 : List mIns := [(.bipush (-2), 0, 0, (-2)), (.ireturn, 0, 0, 0)]
def bk_73_22 : List mIns := [(.aload_n 0, 0, 0, 0), (.getfield 12, 7, 0, 2), (.getfield 79, 4, 0, 2), (.iload_n 1, 1, 0, 0), (.aaload, 4, 6, 0), (.astore_n 3, 3, 0, 0), (.aload_n 3, 3, 0, 0), (.getfield 83, 6, 3, 1), (.ifCond .ne 6, 42, 0, 0), (.bipush (-4), 0, 0, (-4)), (.ireturn, 0, 0, 0)]
def bk_73_42 : List mIns := [(.iload_n 2, 2, 0, 0), (.tableswitch 75 0 5 #[37, 42, 55, 60, 65, 70], 43, 37, 0)]
def bk_73_80 : List mIns := [(.aload_n 3, 3, 0, 0), (.getfield 114, 6, 5, 0), (.ireturn, 0, 0, 0)]
def bk_73_85 : List mIns := [(.aload_n 3, 3, 0, 0), (.getfield 121, 6, 4, 1), (.ifCond .eq 7, 96, 0, 0), (.iconst 1, 0, 0, 1), (.goto 4, 97, 0, 0)]
def bk_73_96 : List mIns := [(.iconst 0, 0, 0, 0), (.nop, 97, 0, 0)]
def bk_73_97 : List mIns := [(.ireturn, 0, 0, 0)]
def bk_73_98 : List mIns := [(.aload_n 3, 3, 0, 0), (.invokevirtual 219, 53, 1, 0), (.ireturn, 0, 0, 0)]
def bk_73_103 : List mIns := [(.aload_n 3, 3, 0, 0), (.invokevirtual 147, 54, 1, 0), (.ireturn, 0, 0, 0)]
def bk_73_108 : List mIns := [(.aload_n 3, 3, 0, 0), (.getfield 222, 6, 6, 0), (.ireturn, 0, 0, 0)]
def bk_73_113 : List mIns := [(.aload_n 3, 3, 0, 0), (.invokevirtual 225, 56, 1, 0), (.ireturn, 0, 0, 0)]
def bk_73_118 : List mIns := [(.aload_n 3, 3, 0, 0), (.aload_n 3, 3, 0, 0), (.invokevirtual 225, 56, 1, 0), (.invokevirtual 228, 57, 2, 0), (.ireturn, 0, 0, 0)]
def bk_74_0 : List mIns := [(.iload_n 1, 1, 0, 0), (.invokestatic 72, 82, 1, 0), (.ifCond .eq 19, 23, 0, 0), (.aload_n 0, 0, 0, 0), (.getfield 12, 7, 0, 2), (.getfield 79, 4, 0, 2), (.iload_n 1, 1, 0, 0), (.aaload, 4, 6, 0), (.iload_n 2, 2, 0, 0), (.invokevirtual 231, 38, 2, 0), (.ifCond .ne 5, 25, 0, 0), (.nop, 23, 0, 0)]
def bk_74_23 : List mIns := [(.iconst (-1), 0, 0, (-1)), (.ireturn, 0, 0, 0)]
def bk_74_25 : List mIns := [(.aload_n 0, 0, 0, 0), (.getfield 12, 7, 0, 2), (.getfield 79, 4, 0, 2), (.iload_n 1, 1, 0, 0), (.aaload, 4, 6, 0), (.astore 4, 4, 0, 0), (.iload_n 3, 3, 0, 0), (.tableswitch 93 0 3 #[31, 39, 47, 74], 37, 31, 0)]
def bk_74_68 : List mIns := [(.aload 4, 4, 0, 0), (.getfield 234, 6, 0, 2), (.iload_n 2, 2, 0, 0), (.iaload, 0, 0, 0), (.ireturn, 0, 0, 0)]
def bk_74_76 : List mIns := [(.aload 4, 4, 0, 0), (.getfield 237, 6, 1, 2), (.iload_n 2, 2, 0, 0), (.iaload, 0, 0, 0), (.ireturn, 0, 0, 0)]
def bk_74_84 : List mIns := [(.aload 4, 4, 0, 0), (.getfield 240, 6, 2, 2), (.iload_n 2, 2, 0, 0), (.iaload, 0, 0, 0), (.iconst (-1), 0, 0, (-1)), (.if_icmp .ne 8, 100, 0, 0), (.bipush (-5), 0, 0, (-5)), (.goto 13, 110, 0, 0)]
def bk_74_100 : List mIns := [(.bipush 97, 0, 0, 97), (.aload 4, 4, 0, 0), (.getfield 240, 6, 2, 2), (.iload_n 2, 2, 0, 0), (.iaload, 0, 0, 0), (.iadd, 0, 0, 0), (.nop, 110, 0, 0)]
def bk_74_110 : List mIns := [(.ireturn, 0, 0, 0)]
def bk_74_111 : List mIns := [(.aload_n 0, 0, 0, 0), (.getfield 12, 7, 0, 2), (.getfield 61, 4, 2, 0), (.bipush 9, 0, 0, 9), (.iload_n 2, 2, 0, 0), (.aload 4, 4, 0, 0), (.invokevirtual 243, 37, 1, 0), (.invokestatic 246, 87, 4, 0), (.ireturn, 0, 0, 0)]
def bk_74_130 : List mIns := [(.bipush (-2), 0, 0, (-2)), (.ireturn, 0, 0, 0)]
def bk_75_0 : List mIns := [(.iload_n 1, 1, 0, 0), (.invokestatic 72, 82, 1, 0), (.ifCond .eq 19, 23, 0, 0), (.aload_n 0, 0, 0, 0), (.getfield 12, 7, 0, 2), (.getfield 79, 4, 0, 2), (.iload_n 1, 1, 0, 0), (.aaload, 4, 6, 0), (.iload_n 3, 3, 0, 0), (.invokevirtual 90, 39, 2, 0), (.ifCond .ne 5, 25, 0, 0), (.nop, 23, 0, 0)]
def bk_75_23 : List mIns := [(.iconst (-1), 0, 0, (-1)), (.ireturn, 0, 0, 0)]
def bk_75_25 : List mIns := [(.iload_n 2, 2, 0, 0), (.invokestatic 127, 84, 1, 0), (.ifCond .ne 6, 35, 0, 0), (.bipush (-2), 0, 0, (-2)), (.ireturn, 0, 0, 0)]
def bk_75_35 : List mIns := [(.aload_n 0, 0, 0, 0), (.getfield 12, 7, 0, 2), (.getfield 79, 4, 0, 2), (.iload_n 1, 1, 0, 0), (.aaload, 4, 6, 0), (.astore 4, 4, 0, 0), (.aload 4, 4, 0, 0), (.iload_n 2, 2, 0, 0), (.invokevirtual 130, 40, 2, 0), (.ifCond .ne 6, 58, 0, 0), (.bipush (-4), 0, 0, (-4)), (.ireturn, 0, 0, 0)]
def bk_75_58 : List mIns := [(.aload_n 0, 0, 0, 0), (.getfield 47, 7, 6, 2), (.aload 4, 4, 0, 0), (.iload_n 2, 2, 0, 0), (.invokevirtual 133, 18, 3, 0), (.aload_n 0, 0, 0, 0), (.getfield 47, 7, 6, 2), (.getfield 139, 3, 0, 2), (.iload_n 3, 3, 0, 0), (.iaload, 0, 0, 0), (.istore 5, 5, 0, 0), (.iload 5, 5, 0, 0), (.iconst (-1), 0, 0, (-1)), (.if_icmp .ne 8, 90, 0, 0), (.bipush 63, 0, 0, 63), (.goto 8, 95, 0, 0)]
def bk_75_90 : List mIns := [(.bipush 97, 0, 0, 97), (.iload 5, 5, 0, 0), (.iadd, 0, 0, 0), (.nop, 95, 0, 0)]
def bk_75_95 : List mIns := [(.ireturn, 0, 0, 0)]
def bk_76_0 : List mIns := [(.iload_n 1, 1, 0, 0), (.invokestatic 72, 82, 1, 0), (.ifCond .ne 5, 9, 0, 0), (.iconst (-1), 0, 0, (-1)), (.ireturn, 0, 0, 0)]
def bk_76_9 : List mIns := [(.iload_n 2, 2, 0, 0), (.invokestatic 127, 84, 1, 0), (.ifCond .eq 12, 25, 0, 0), (.iload_n 3, 3, 0, 0), (.ifCond .lt 8, 25, 0, 0), (.iload_n 3, 3, 0, 0), (.iconst 2, 0, 0, 2), (.if_icmp .le 6, 28, 0, 0), (.nop, 25, 0, 0)]
def bk_76_25 : List mIns := [(.bipush (-2), 0, 0, (-2)), (.ireturn, 0, 0, 0)]
def bk_76_28 : List mIns := [(.aload_n 0, 0, 0, 0), (.getfield 12, 7, 0, 2), (.getfield 79, 4, 0, 2), (.iload_n 1, 1, 0, 0), (.aaload, 4, 6, 0), (.astore 4, 4, 0, 0), (.aload 4, 4, 0, 0), (.iload_n 2, 2, 0, 0), (.invokevirtual 130, 40, 2, 0), (.ifCond .ne 6, 51, 0, 0), (.bipush (-4), 0, 0, (-4)), (.ireturn, 0, 0, 0)]
def bk_76_51 : List mIns := [(.aload_n 0, 0, 0, 0), (.getfield 47, 7, 6, 2), (.aload 4, 4, 0, 0), (.iload_n 2, 2, 0, 0), (.invokevirtual 133, 18, 3, 0), (.iload_n 3, 3, 0, 0), (.ifCond .ne 11, 73, 0, 0), (.aload_n 0, 0, 0, 0), (.getfield 47, 7, 6, 2), (.getfield 150, 3, 1, 0), (.ireturn, 0, 0, 0)]
def bk_76_73 : List mIns := [(.iload_n 3, 3, 0, 0), (.iconst 1, 0, 0, 1), (.if_icmp .ne 11, 86, 0, 0), (.aload_n 0, 0, 0, 0), (.getfield 47, 7, 6, 2), (.getfield 136, 3, 2, 0), (.ireturn, 0, 0, 0)]
def bk_76_86 : List mIns := [(.aload_n 0, 0, 0, 0), (.getfield 47, 7, 6, 2), (.getfield 250, 3, 3, 0), (.iconst (-1), 0, 0, (-1)), (.if_icmp .ne 8, 102, 0, 0), (.bipush (-5), 0, 0, (-5)), (.goto 10, 109, 0, 0)]
def bk_76_102 : List mIns := [(.aload_n 0, 0, 0, 0), (.getfield 47, 7, 6, 2), (.getfield 250, 3, 3, 0), (.nop, 109, 0, 0)]
def bk_76_109 : List mIns := [(.ireturn, 0, 0, 0)]
def bk_77_0 : List mIns := [(.iload_n 1, 1, 0, 0), (.invokestatic 72, 82, 1, 0), (.ifCond .ne 5, 9, 0, 0), (.iconst (-1), 0, 0, (-1)), (.ireturn, 0, 0, 0)]
def bk_77_9 : List mIns := [(.aload_n 0, 0, 0, 0), (.getfield 12, 7, 0, 2), (.getfield 79, 4, 0, 2), (.iload_n 1, 1, 0, 0), (.aaload, 4, 6, 0), (.astore_n 2, 2, 0, 0), (.aload_n 2, 2, 0, 0), (.getfield 83, 6, 3, 1), (.ifCond .ne 6, 29, 0, 0), (.bipush (-4), 0, 0, (-4)), (.ireturn, 0, 0, 0)]
def bk_77_29 : List mIns := [(.iconst 0, 0, 0, 0), (.istore_n 3, 3, 0, 0), (.bipush 31, 0, 0, 31), (.istore 4, 4, 0, 0), (.iconst 0, 0, 0, 0), (.istore 5, 5, 0, 0), (.nop, 38, 0, 0)]
def bk_77_38 : List mIns := [(.iload 5, 5, 0, 0), (.iconst 2, 0, 0, 2), (.if_icmp .gt 52, 93, 0, 0), (.aload_n 2, 2, 0, 0), (.iload 5, 5, 0, 0), (.invokevirtual 130, 40, 2, 0), (.ifCond .eq 37, 87, 0, 0), (.aload_n 0, 0, 0, 0), (.getfield 47, 7, 6, 2), (.aload_n 2, 2, 0, 0), (.iload 5, 5, 0, 0), (.invokevirtual 133, 18, 3, 0), (.aload_n 0, 0, 0, 0), (.getfield 47, 7, 6, 2), (.invokevirtual 253, 22, 1, 0), (.iload 4, 4, 0, 0), (.if_icmp .ge 15, 87, 0, 0), (.aload_n 0, 0, 0, 0), (.getfield 47, 7, 6, 2), (.invokevirtual 253, 22, 1, 0), (.istore 4, 4, 0, 0), (.iload 5, 5, 0, 0), (.istore_n 3, 3, 0, 0), (.nop, 87, 0, 0)]
def bk_77_87 : List mIns := [(.iinc 5 1, 5, 0, 1), (.goto (-52), 38, 0, 0)]
def bk_77_93 : List mIns := [(.iload_n 3, 3, 0, 0), (.ireturn, 0, 0, 0)]
def bk_78_0 : List mIns := [(.iload_n 1, 1, 0, 0), (.invokestatic 72, 82, 1, 0), (.ifCond .ne 5, 9, 0, 0), (.iconst (-1), 0, 0, (-1)), (.ireturn, 0, 0, 0)]
def bk_78_9 : List mIns := [(.iload_n 2, 2, 0, 0), (.invokestatic 256, 85, 1, 0), (.ifCond .eq 22, 35, 0, 0), (.iload_n 3, 3, 0, 0), (.invokestatic 76, 83, 1, 0), (.ifCond .eq 15, 35, 0, 0), (.iload 4, 4, 0, 0), (.ifCond .lt 10, 35, 0, 0), (.iload 4, 4, 0, 0), (.bipush 30, 0, 0, 30), (.if_icmp .le 6, 38, 0, 0), (.nop, 35, 0, 0)]
def bk_78_35 : List mIns := [(.bipush (-2), 0, 0, (-2)), (.ireturn, 0, 0, 0)]
def bk_78_38 : List mIns := [(.aload_n 0, 0, 0, 0), (.getfield 12, 7, 0, 2), (.getfield 79, 4, 0, 2), (.iload_n 1, 1, 0, 0), (.aaload, 4, 6, 0), (.astore 5, 5, 0, 0), (.aload 5, 5, 0, 0), (.getfield 83, 6, 3, 1), (.ifCond .ne 6, 60, 0, 0), (.bipush (-4), 0, 0, (-4)), (.ireturn, 0, 0, 0)]
def bk_78_60 : List mIns := [(.aload_n 0, 0, 0, 0), (.getfield 57, 7, 8, 2), (.aload 5, 5, 0, 0), (.invokevirtual 259, 36, 2, 0), (.iconst 1, 0, 0, 1), (.istore 6, 6, 0, 0), (.iconst 0, 0, 0, 0), (.istore 7, 7, 0, 0), (.nop, 75, 0, 0)]
def bk_78_75 : List mIns := [(.iload 7, 7, 0, 0), (.iload 4, 4, 0, 0), (.if_icmp .ge 56, 135, 0, 0), (.iload 6, 6, 0, 0), (.ifCond .eq 51, 135, 0, 0), (.aload_n 0, 0, 0, 0), (.getfield 57, 7, 8, 2), (.aload_n 0, 0, 0, 0), (.getfield 12, 7, 0, 2), (.getfield 61, 4, 2, 0), (.aload_n 0, 0, 0, 0), (.getfield 12, 7, 0, 2), (.getfield 69, 4, 3, 0), (.iload_n 3, 3, 0, 0), (.invokevirtual 261, 51, 4, 0), (.istore 8, 8, 0, 0), (.iload 8, 8, 0, 0), (.iconst (-1), 0, 0, (-1)), (.if_icmp .eq 15, 129, 0, 0), (.aload_n 0, 0, 0, 0), (.getfield 57, 7, 8, 2), (.iload 8, 8, 0, 0), (.invokevirtual 264, 52, 2, 0), (.iconst 0, 0, 0, 0), (.istore 6, 6, 0, 0), (.nop, 129, 0, 0)]
def bk_78_129 : List mIns := [(.iinc 7 1, 7, 0, 1), (.goto (-57), 75, 0, 0)]
def bk_78_135 : List mIns := [(.aload_n 0, 0, 0, 0), (.getfield 51, 7, 7, 2), (.aload_n 0, 0, 0, 0), (.getfield 57, 7, 8, 2), (.iload_n 2, 2, 0, 0), (.invokevirtual 133, 18, 3, 0), (.aload_n 0, 0, 0, 0), (.getfield 51, 7, 7, 2), (.invokevirtual 253, 22, 1, 0), (.aload 5, 5, 0, 0), (.getfield 114, 6, 5, 0), (.iadd, 0, 0, 0), (.aload_n 0, 0, 0, 0), (.getfield 57, 7, 8, 2), (.getfield 114, 6, 5, 0), (.isub, 0, 0, 0), (.ireturn, 0, 0, 0)]
def bk_79_0 : List mIns := [(.iload_n 1, 1, 0, 0), (.invokestatic 72, 82, 1, 0), (.ifCond .ne 5, 9, 0, 0), (.iconst (-1), 0, 0, (-1)), (.ireturn, 0, 0, 0)]
def bk_79_9 : List mIns := [(.iload_n 2, 2, 0, 0), (.invokestatic 256, 85, 1, 0), (.ifCond .eq 10, 23, 0, 0), (.iload_n 3, 3, 0, 0), (.invokestatic 76, 83, 1, 0), (.ifCond .ne 6, 26, 0, 0), (.nop, 23, 0, 0)]
def bk_79_23 : List mIns := [(.bipush (-2), 0, 0, (-2)), (.ireturn, 0, 0, 0)]
def bk_79_26 : List mIns := [(.aload_n 0, 0, 0, 0), (.getfield 12, 7, 0, 2), (.getfield 79, 4, 0, 2), (.iload_n 1, 1, 0, 0), (.aaload, 4, 6, 0), (.astore 4, 4, 0, 0), (.aload 4, 4, 0, 0), (.getfield 83, 6, 3, 1), (.ifCond .ne 6, 48, 0, 0), (.bipush (-4), 0, 0, (-4)), (.ireturn, 0, 0, 0)]
def bk_79_48 : List mIns := [(.aload_n 0, 0, 0, 0), (.getfield 47, 7, 6, 2), (.aload 4, 4, 0, 0), (.iload_n 2, 2, 0, 0), (.invokevirtual 133, 18, 3, 0), (.aload_n 0, 0, 0, 0), (.getfield 57, 7, 8, 2), (.aload 4, 4, 0, 0), (.invokevirtual 259, 36, 2, 0), (.iconst 0, 0, 0, 0), (.istore 5, 5, 0, 0), (.nop, 70, 0, 0)]
def bk_79_70 : List mIns := [(.iload 5, 5, 0, 0), (.bipush 30, 0, 0, 30), (.if_icmp .ge 72, 146, 0, 0), (.aload_n 0, 0, 0, 0), (.getfield 57, 7, 8, 2), (.aload_n 0, 0, 0, 0), (.getfield 12, 7, 0, 2), (.getfield 61, 4, 2, 0), (.aload_n 0, 0, 0, 0), (.getfield 12, 7, 0, 2), (.getfield 69, 4, 3, 0), (.iload_n 3, 3, 0, 0), (.invokevirtual 261, 51, 4, 0), (.iconst (-1), 0, 0, (-1)), (.if_icmp .eq 6, 106, 0, 0), (.iload 5, 5, 0, 0), (.ireturn, 0, 0, 0)]
def bk_79_106 : List mIns := [(.aload_n 0, 0, 0, 0), (.getfield 51, 7, 7, 2), (.aload_n 0, 0, 0, 0), (.getfield 57, 7, 8, 2), (.iload_n 2, 2, 0, 0), (.invokevirtual 133, 18, 3, 0), (.aload_n 0, 0, 0, 0), (.getfield 51, 7, 7, 2), (.aload_n 0, 0, 0, 0), (.getfield 47, 7, 6, 2), (.aload 4, 4, 0, 0), (.getfield 114, 6, 5, 0), (.invokevirtual 267, 23, 3, 0), (.ifCond .ne 6, 140, 0, 0), (.iload 5, 5, 0, 0), (.ireturn, 0, 0, 0)]
def bk_79_140 : List mIns := [(.iinc 5 1, 5, 0, 1), (.goto (-73), 70, 0, 0)]
def bk_79_146 : List mIns := [(.bipush 30, 0, 0, 30), (.ireturn, 0, 0, 0)]
def bk_80_0 : List mIns := [(.iload_n 1, 1, 0, 0), (.ifCond .lt 12, 13, 0, 0), (.iload_n 2, 2, 0, 0), (.ifCond .lt 8, 13, 0, 0), (.iload_n 2, 2, 0, 0), (.iconst 2, 0, 0, 2), (.if_icmp .le 6, 16, 0, 0), (.nop, 13, 0, 0)]
def bk_80_13 : List mIns := [(.bipush (-2), 0, 0, (-2)), (.ireturn, 0, 0, 0)]
def bk_80_16 : List mIns := [(.aload_n 0, 0, 0, 0), (.getfield 12, 7, 0, 2), (.getfield 104, 4, 1, 2), (.iload_n 1, 1, 0, 0), (.iload_n 2, 2, 0, 0), (.invokevirtual 271, 16, 3, 0), (.ireturn, 0, 0, 0)]
def bk_81_0 : List mIns := [(.iload_n 1, 1, 0, 0), (.tableswitch 147 0 10 #[59, 67, 75, 83, 91, 99, 107, 115, 123, 131, 139], 1, 59, 0)]
def bk_81_60 : List mIns := [(.aload_n 0, 0, 0, 0), (.getfield 12, 7, 0, 2), (.invokevirtual 216, 26, 1, 0), (.ireturn, 0, 0, 0)]
def bk_81_68 : List mIns := [(.aload_n 0, 0, 0, 0), (.getfield 12, 7, 0, 2), (.invokevirtual 274, 27, 1, 0), (.ireturn, 0, 0, 0)]
def bk_81_76 : List mIns := [(.aload_n 0, 0, 0, 0), (.getfield 12, 7, 0, 2), (.getfield 277, 4, 4, 0), (.ireturn, 0, 0, 0)]
def bk_81_84 : List mIns := [(.aload_n 0, 0, 0, 0), (.getfield 12, 7, 0, 2), (.getfield 101, 4, 5, 0), (.ireturn, 0, 0, 0)]
def bk_81_92 : List mIns := [(.aload_n 0, 0, 0, 0), (.getfield 12, 7, 0, 2), (.getfield 280, 4, 6, 0), (.ireturn, 0, 0, 0)]
def bk_81_100 : List mIns := [(.aload_n 0, 0, 0, 0), (.getfield 12, 7, 0, 2), (.getfield 281, 4, 7, 0), (.ireturn, 0, 0, 0)]
def bk_81_108 : List mIns := [(.aload_n 0, 0, 0, 0), (.getfield 12, 7, 0, 2), (.getfield 284, 4, 8, 0), (.ireturn, 0, 0, 0)]
def bk_81_116 : List mIns := [(.aload_n 0, 0, 0, 0), (.getfield 12, 7, 0, 2), (.getfield 61, 4, 2, 0), (.ireturn, 0, 0, 0)]
def bk_81_124 : List mIns := [(.aload_n 0, 0, 0, 0), (.getfield 12, 7, 0, 2), (.getfield 69, 4, 3, 0), (.ireturn, 0, 0, 0)]
def bk_81_132 : List mIns := [(.aload_n 0, 0, 0, 0), (.getfield 19, 7, 1, 2), (.getfield 212, 1, 1, 0), (.ireturn, 0, 0, 0)]
def bk_81_140 : List mIns := [(.aload_n 0, 0, 0, 0), (.getfield 33, 7, 4, 2), (.getfield 156, 5, 1, 0), (.ireturn, 0, 0, 0)]
def bk_81_148 : List mIns := [(.bipush (-2), 0, 0, (-2)), (.ireturn, 0, 0, 0)]
def bk_82_0 : List mIns := [(.iload_n 0, 0, 0, 0), (.ifCond .lt 13, 14, 0, 0), (.iload_n 0, 0, 0, 0), (.bipush 6, 0, 0, 6), (.if_icmp .ge 7, 14, 0, 0), (.iconst 1, 0, 0, 1), (.goto 4, 15, 0, 0)]
def bk_82_14 : List mIns := [(.iconst 0, 0, 0, 0), (.nop, 15, 0, 0)]
def bk_82_15 : List mIns := [(.ireturn, 0, 0, 1)]
def bk_83_0 : List mIns := [(.iload_n 0, 0, 0, 0), (.ifCond .lt 13, 14, 0, 0), (.iload_n 0, 0, 0, 0), (.bipush 9, 0, 0, 9), (.if_icmp .gt 7, 14, 0, 0), (.iconst 1, 0, 0, 1), (.goto 4, 15, 0, 0)]
def bk_83_14 : List mIns := [(.iconst 0, 0, 0, 0), (.nop, 15, 0, 0)]
def bk_83_15 : List mIns := [(.ireturn, 0, 0, 1)]
def bk_84_0 : List mIns := [(.iload_n 0, 0, 0, 0), (.ifCond .lt 12, 13, 0, 0), (.iload_n 0, 0, 0, 0), (.iconst 2, 0, 0, 2), (.if_icmp .gt 7, 13, 0, 0), (.iconst 1, 0, 0, 1), (.goto 4, 14, 0, 0)]
def bk_84_13 : List mIns := [(.iconst 0, 0, 0, 0), (.nop, 14, 0, 0)]
def bk_84_14 : List mIns := [(.ireturn, 0, 0, 1)]
def bk_85_0 : List mIns := [(.iload_n 0, 0, 0, 0), (.ifCond .eq 8, 9, 0, 0), (.iload_n 0, 0, 0, 0), (.iconst 1, 0, 0, 1), (.if_icmp .ne 7, 13, 0, 0), (.nop, 9, 0, 0)]
def bk_85_9 : List mIns := [(.iconst 1, 0, 0, 1), (.goto 4, 14, 0, 0)]
def bk_85_13 : List mIns := [(.iconst 0, 0, 0, 0), (.nop, 14, 0, 0)]
def bk_85_14 : List mIns := [(.ireturn, 0, 0, 1)]
def bk_86_0 : List mIns := [(.sipush 2000, 0, 0, 2000), (.sipush 1000, 0, 0, 1000), (.iload_n 0, 0, 0, 0), (.imul, 0, 0, 0), (.iadd, 0, 0, 0), (.ireturn, 0, 0, 0)]
def bk_87_0 : List mIns := [(.iload_n 0, 0, 0, 0), (.iconst 1, 0, 0, 1), (.if_icmp .ne 13, 15, 0, 0), (.iconst 2, 0, 0, 2), (.iload_n 1, 1, 0, 0), (.imul, 0, 0, 0), (.iload_n 1, 1, 0, 0), (.imul, 0, 0, 0), (.iload_n 1, 1, 0, 0), (.iload_n 2, 2, 0, 0), (.imul, 0, 0, 0), (.iadd, 0, 0, 0), (.ireturn, 0, 0, 0)]
def bk_87_15 : List mIns := [(.iload_n 0, 0, 0, 0), (.iconst 2, 0, 0, 2), (.if_icmp .ne 17, 34, 0, 0), (.iconst 2, 0, 0, 2), (.iload_n 1, 1, 0, 0), (.imul, 0, 0, 0), (.iload_n 1, 1, 0, 0), (.imul, 0, 0, 0), (.iload_n 1, 1, 0, 0), (.iload_n 3, 3, 0, 0), (.iconst 1, 0, 0, 1), (.isub, 0, 0, 0), (.iload_n 2, 2, 0, 0), (.isub, 0, 0, 0), (.imul, 0, 0, 0), (.iadd, 0, 0, 0), (.ireturn, 0, 0, 0)]
def bk_87_34 : List mIns := [(.iconst 4, 0, 0, 4), (.iload_n 1, 1, 0, 0), (.imul, 0, 0, 0), (.iload_n 1, 1, 0, 0), (.imul, 0, 0, 0), (.ireturn, 0, 0, 0)]
def bk_88_0 : List mIns := [(.aload_n 0, 0, 0, 0), (.invokespecial 1, 0, 0, 0), (.aload_n 0, 0, 0, 0), (.sipush 626, 0, 0, 626), (.newarray .int, 2, 0, 0), (.putfield 7, 8, 0, 5), (.aload_n 0, 0, 0, 0), (.sipush 2504, 0, 0, 2504), (.newarray .int, 2, 0, 0), (.putfield 13, 8, 1, 5), (.aload_n 0, 0, 0, 0), (.sipush 626, 0, 0, 626), (.newarray .int, 2, 0, 0), (.putfield 16, 8, 3, 5), (.aload_n 0, 0, 0, 0), (.sipush 626, 0, 0, 626), (.newarray .int, 2, 0, 0), (.putfield 19, 8, 5, 5), (.aload_n 0, 0, 0, 0), (.bipush 30, 0, 0, 30), (.newarray .int, 2, 0, 0), (.putfield 22, 8, 6, 5), (.aload_n 0, 0, 0, 0), (.bipush 50, 0, 0, 50), (.newarray .char, 3, 0, 0), (.putfield 25, 8, 8, 5), (.aload_n 0, 0, 0, 0), (.bipush 30, 0, 0, 30), (.newarray .int, 2, 0, 0), (.putfield 29, 8, 14, 5), (.aload_n 0, 0, 0, 0), (.getfield 7, 8, 0, 2), (.sipush 589, 0, 0, 589), (.sipush 130, 0, 0, 130), (.iastore, 0, 0, 0), (.return_, 0, 0, 0)]
def bk_89_0 : List mIns := [(.iload_n 0, 0, 0, 0), (.iload_n 1, 1, 0, 0), (.if_icmp .lt 12, 14, 0, 0), (.iload_n 0, 0, 0, 0), (.iload_n 2, 2, 0, 0), (.if_icmp .gt 7, 14, 0, 0), (.iconst 1, 0, 0, 1), (.goto 4, 15, 0, 0)]
def bk_89_14 : List mIns := [(.iconst 0, 0, 0, 0), (.nop, 15, 0, 0)]
def bk_89_15 : List mIns := [(.ireturn, 0, 0, 1)]
def bk_90_0 : List mIns := [(.iload_n 0, 0, 0, 0), (.iconst 0, 0, 0, 0), (.iconst 5, 0, 0, 5), (.invokestatic 32, 89, 3, 0), (.ifCond .ne 7, 13, 0, 0), (.iconst 1, 0, 0, 1), (.goto 4, 14, 0, 0)]
def bk_90_13 : List mIns := [(.iconst 0, 0, 0, 0), (.nop, 14, 0, 0)]
def bk_90_14 : List mIns := [(.ireturn, 0, 0, 1)]
def bk_91_0 : List mIns := [(.aload_n 0, 0, 0, 0), (.getfield 7, 8, 0, 2), (.bipush 98, 0, 0, 98), (.iload_n 1, 1, 0, 0), (.imul, 0, 0, 0), (.iload_n 2, 2, 0, 0), (.iadd, 0, 0, 0), (.iaload, 0, 0, 0), (.ireturn, 0, 0, 0)]
def bk_92_0 : List mIns := [(.aload_n 0, 0, 0, 0), (.getfield 7, 8, 0, 2), (.bipush 98, 0, 0, 98), (.iload_n 1, 1, 0, 0), (.imul, 0, 0, 0), (.iload_n 2, 2, 0, 0), (.iadd, 0, 0, 0), (.iload_n 3, 3, 0, 0), (.iastore, 0, 0, 0), (.return_, 0, 0, 0)]
def bk_93_0 : List mIns := [(.aload_n 0, 0, 0, 0), (.iload_n 1, 1, 0, 0), (.iconst 0, 0, 0, 0), (.invokevirtual 36, 91, 3, 0), (.ifCond .ne 7, 13, 0, 0), (.iconst 1, 0, 0, 1), (.goto 4, 14, 0, 0)]
def bk_93_13 : List mIns := [(.iconst 0, 0, 0, 0), (.nop, 14, 0, 0)]
def bk_93_14 : List mIns := [(.ireturn, 0, 0, 1)]
def bk_94_0 : List mIns := [(.aload_n 0, 0, 0, 0), (.iload_n 1, 1, 0, 0), (.iconst 2, 0, 0, 2), (.invokevirtual 36, 91, 3, 0), (.iconst 1, 0, 0, 1), (.iadd, 0, 0, 0), (.aload_n 0, 0, 0, 0), (.iload_n 1, 1, 0, 0), (.iconst 1, 0, 0, 1), (.invokevirtual 36, 91, 3, 0), (.iadd, 0, 0, 0), (.ireturn, 0, 0, 0)]
def bk_95_0 : List mIns := [(.aload_n 0, 0, 0, 0), (.getfield 40, 8, 2, 0), (.iconst 4, 0, 0, 4), (.if_icmp .ne 44, 49, 0, 0), (.iconst 0, 0, 0, 0), (.istore_n 1, 1, 0, 0), (.nop, 10, 0, 0)]
def bk_95_10 : List mIns := [(.iload_n 1, 1, 0, 0), (.sipush 1878, 0, 0, 1878), (.if_icmp .ge 25, 39, 0, 0), (.aload_n 0, 0, 0, 0), (.getfield 13, 8, 1, 2), (.iload_n 1, 1, 0, 0), (.aload_n 0, 0, 0, 0), (.getfield 13, 8, 1, 2), (.iload_n 1, 1, 0, 0), (.sipush 626, 0, 0, 626), (.iadd, 0, 0, 0), (.iaload, 0, 0, 0), (.iastore, 0, 0, 0), (.iinc 1 1, 1, 0, 1), (.goto (-26), 10, 0, 0)]
def bk_95_39 : List mIns := [(.aload_n 0, 0, 0, 0), (.dup, 0, 0, 0), (.getfield 40, 8, 2, 0), (.iconst 1, 0, 0, 1), (.isub, 0, 0, 0), (.putfield 40, 8, 2, 0), (.nop, 49, 0, 0)]
def bk_95_49 : List mIns := [(.iconst 0, 0, 0, 0), (.istore_n 1, 1, 0, 0), (.nop, 51, 0, 0)]
def bk_95_51 : List mIns := [(.iload_n 1, 1, 0, 0), (.sipush 626, 0, 0, 626), (.if_icmp .ge 30, 85, 0, 0), (.aload_n 0, 0, 0, 0), (.getfield 13, 8, 1, 2), (.sipush 626, 0, 0, 626), (.aload_n 0, 0, 0, 0), (.getfield 40, 8, 2, 0), (.imul, 0, 0, 0), (.iload_n 1, 1, 0, 0), (.iadd, 0, 0, 0), (.aload_n 0, 0, 0, 0), (.getfield 7, 8, 0, 2), (.iload_n 1, 1, 0, 0), (.iaload, 0, 0, 0), (.iastore, 0, 0, 0), (.iinc 1 1, 1, 0, 1), (.goto (-31), 51, 0, 0)]
def bk_95_85 : List mIns := [(.aload_n 0, 0, 0, 0), (.dup, 0, 0, 0), (.getfield 40, 8, 2, 0), (.iconst 1, 0, 0, 1), (.iadd, 0, 0, 0), (.putfield 40, 8, 2, 0), (.return_, 0, 0, 0)]
def bk_96_0 : List mIns := [(.aload_n 0, 0, 0, 0), (.getfield 7, 8, 0, 2), (.sipush 595, 0, 0, 595), (.iaload, 0, 0, 0), (.bipush 10, 0, 0, 10), (.if_icmp .ne 55, 65, 0, 0), (.iconst 0, 0, 0, 0), (.istore 4, 4, 0, 0), (.nop, 16, 0, 0)]
def bk_96_16 : List mIns := [(.iload 4, 4, 0, 0), (.bipush 27, 0, 0, 27), (.if_icmp .ge 33, 53, 0, 0), (.aload_n 0, 0, 0, 0), (.getfield 7, 8, 0, 2), (.sipush 596, 0, 0, 596), (.iload 4, 4, 0, 0), (.iadd, 0, 0, 0), (.aload_n 0, 0, 0, 0), (.getfield 7, 8, 0, 2), (.sipush 596, 0, 0, 596), (.iload 4, 4, 0, 0), (.iadd, 0, 0, 0), (.iconst 3, 0, 0, 3), (.iadd, 0, 0, 0), (.iaload, 0, 0, 0), (.iastore, 0, 0, 0), (.iinc 4 1, 4, 0, 1), (.goto (-34), 16, 0, 0)]
def bk_96_53 : List mIns := [(.aload_n 0, 0, 0, 0), (.getfield 7, 8, 0, 2), (.sipush 595, 0, 0, 595), (.dup2, 0, 0, 0), (.iaload, 0, 0, 0), (.iconst 1, 0, 0, 1), (.isub, 0, 0, 0), (.iastore, 0, 0, 0), (.nop, 65, 0, 0)]
def bk_96_65 : List mIns := [(.sipush 596, 0, 0, 596), (.iconst 3, 0, 0, 3), (.aload_n 0, 0, 0, 0), (.getfield 7, 8, 0, 2), (.sipush 595, 0, 0, 595), (.iaload, 0, 0, 0), (.imul, 0, 0, 0), (.iadd, 0, 0, 0), (.istore 4, 4, 0, 0), (.aload_n 0, 0, 0, 0), (.getfield 7, 8, 0, 2), (.iload 4, 4, 0, 0), (.iload_n 1, 1, 0, 0), (.iastore, 0, 0, 0), (.aload_n 0, 0, 0, 0), (.getfield 7, 8, 0, 2), (.iload 4, 4, 0, 0), (.iconst 1, 0, 0, 1), (.iadd, 0, 0, 0), (.iload_n 2, 2, 0, 0), (.iastore, 0, 0, 0), (.aload_n 0, 0, 0, 0), (.getfield 7, 8, 0, 2), (.iload 4, 4, 0, 0), (.iconst 2, 0, 0, 2), (.iadd, 0, 0, 0), (.iload_n 3, 3, 0, 0), (.iastore, 0, 0, 0), (.aload_n 0, 0, 0, 0), (.getfield 7, 8, 0, 2), (.sipush 595, 0, 0, 595), (.dup2, 0, 0, 0), (.iaload, 0, 0, 0), (.iconst 1, 0, 0, 1), (.iadd, 0, 0, 0), (.iastore, 0, 0, 0), (.return_, 0, 0, 0)]
def bk_97_0 : List mIns := [(.iload_n 1, 1, 0, 0), (.iconst 0, 0, 0, 0), (.iconst 2, 0, 0, 2), (.invokestatic 32, 89, 3, 0), (.ifCond .ne 6, 12, 0, 0), (.bipush (-2), 0, 0, (-2)), (.ireturn, 0, 0, 0)]
def bk_97_12 : List mIns := [(.aload_n 0, 0, 0, 0), (.getfield 7, 8, 0, 2), (.sipush 588, 0, 0, 588), (.iaload, 0, 0, 0), (.istore_n 2, 2, 0, 0), (.iload_n 2, 2, 0, 0), (.iload_n 1, 1, 0, 0), (.if_icmp .ne 6, 29, 0, 0), (.bipush (-5), 0, 0, (-5)), (.ireturn, 0, 0, 0)]
def bk_97_29 : List mIns := [(.aload_n 0, 0, 0, 0), (.invokevirtual 44, 95, 1, 0), (.aload_n 0, 0, 0, 0), (.getfield 7, 8, 0, 2), (.sipush 588, 0, 0, 588), (.iload_n 1, 1, 0, 0), (.iastore, 0, 0, 0), (.iload_n 2, 2, 0, 0), (.ireturn, 0, 0, 0)]
def bk_98_0 : List mIns := [(.iload_n 1, 1, 0, 0), (.bipush 101, 0, 0, 101), (.sipush 200, 0, 0, 200), (.invokestatic 32, 89, 3, 0), (.ifCond .ne 6, 15, 0, 0), (.bipush (-2), 0, 0, (-2)), (.ireturn, 0, 0, 0)]
def bk_98_15 : List mIns := [(.aload_n 0, 0, 0, 0), (.getfield 7, 8, 0, 2), (.sipush 589, 0, 0, 589), (.iaload, 0, 0, 0), (.istore_n 2, 2, 0, 0), (.iload_n 2, 2, 0, 0), (.iload_n 1, 1, 0, 0), (.if_icmp .ne 6, 32, 0, 0), (.bipush (-5), 0, 0, (-5)), (.ireturn, 0, 0, 0)]
def bk_98_32 : List mIns := [(.aload_n 0, 0, 0, 0), (.invokevirtual 44, 95, 1, 0), (.aload_n 0, 0, 0, 0), (.getfield 7, 8, 0, 2), (.sipush 589, 0, 0, 589), (.iload_n 1, 1, 0, 0), (.iastore, 0, 0, 0), (.iload_n 2, 2, 0, 0), (.ireturn, 0, 0, 0)]
def bk_99_0 : List mIns := [(.aload_n 0, 0, 0, 0), (.iload_n 1, 1, 0, 0), (.iconst 4, 0, 0, 4), (.iload_n 2, 2, 0, 0), (.iadd, 0, 0, 0), (.iload_n 3, 3, 0, 0), (.invokevirtual 47, 92, 4, 0), (.aload_n 0, 0, 0, 0), (.iload_n 1, 1, 0, 0), (.bipush 36, 0, 0, 36), (.iload_n 2, 2, 0, 0), (.iadd, 0, 0, 0), (.iload_n 3, 3, 0, 0), (.invokevirtual 47, 92, 4, 0), (.aload_n 0, 0, 0, 0), (.getfield 7, 8, 0, 2), (.sipush 591, 0, 0, 591), (.dup2, 0, 0, 0), (.iaload, 0, 0, 0), (.iload_n 3, 3, 0, 0), (.iadd, 0, 0, 0), (.iastore, 0, 0, 0), (.return_, 0, 0, 0)]
def bk_100_0 : List mIns := [(.aload_n 0, 0, 0, 0), (.iload_n 3, 3, 0, 0), (.iconst 4, 0, 0, 4), (.iload 4, 4, 0, 0), (.iadd, 0, 0, 0), (.aload_n 0, 0, 0, 0), (.iload_n 1, 1, 0, 0), (.iconst 4, 0, 0, 4), (.iload_n 2, 2, 0, 0), (.iadd, 0, 0, 0), (.invokevirtual 36, 91, 3, 0), (.invokevirtual 47, 92, 4, 0), (.aload_n 0, 0, 0, 0), (.iload_n 3, 3, 0, 0), (.bipush 36, 0, 0, 36), (.iload 4, 4, 0, 0), (.iadd, 0, 0, 0), (.aload_n 0, 0, 0, 0), (.iload_n 1, 1, 0, 0), (.bipush 36, 0, 0, 36), (.iload_n 2, 2, 0, 0), (.iadd, 0, 0, 0), (.invokevirtual 36, 91, 3, 0), (.invokevirtual 47, 92, 4, 0), (.return_, 0, 0, 0)]
def bk_101_0 : List mIns := [(.aload_n 0, 0, 0, 0), (.getfield 7, 8, 0, 2), (.sipush 588, 0, 0, 588), (.iaload, 0, 0, 0), (.ifCond .ne 9, 17, 0, 0), (.iconst 4, 0, 0, 4), (.iload_n 3, 3, 0, 0), (.imul, 0, 0, 0), (.iload_n 3, 3, 0, 0), (.imul, 0, 0, 0), (.ireturn, 0, 0, 0)]
def bk_101_17 : List mIns := [(.aload_n 0, 0, 0, 0), (.getfield 7, 8, 0, 2), (.sipush 588, 0, 0, 588), (.iaload, 0, 0, 0), (.iconst 1, 0, 0, 1), (.if_icmp .ne 7, 33, 0, 0), (.iload_n 2, 2, 0, 0), (.goto 12, 42, 0, 0)]
def bk_101_33 : List mIns := [(.aload_n 0, 0, 0, 0), (.iload_n 1, 1, 0, 0), (.invokevirtual 51, 94, 2, 0), (.iconst 1, 0, 0, 1), (.isub, 0, 0, 0), (.iload_n 2, 2, 0, 0), (.isub, 0, 0, 0), (.nop, 42, 0, 0)]
def bk_101_42 : List mIns := [(.istore 4, 4, 0, 0), (.iconst 2, 0, 0, 2), (.iload_n 3, 3, 0, 0), (.imul, 0, 0, 0), (.iload_n 3, 3, 0, 0), (.imul, 0, 0, 0), (.iload_n 3, 3, 0, 0), (.iload 4, 4, 0, 0), (.imul, 0, 0, 0), (.iadd, 0, 0, 0), (.ireturn, 0, 0, 0)]
def bk_102_0 : List mIns := [(.aload_n 0, 0, 0, 0), (.iload_n 1, 1, 0, 0), (.invokevirtual 51, 94, 2, 0), (.istore_n 3, 3, 0, 0), (.iload_n 3, 3, 0, 0), (.istore 4, 4, 0, 0), (.iconst 0, 0, 0, 0), (.istore 5, 5, 0, 0), (.nop, 12, 0, 0)]
def bk_102_12 : List mIns := [(.iload 5, 5, 0, 0), (.iload_n 3, 3, 0, 0), (.if_icmp .ge 88, 103, 0, 0), (.aload_n 0, 0, 0, 0), (.iload_n 1, 1, 0, 0), (.iconst 4, 0, 0, 4), (.iload 5, 5, 0, 0), (.iadd, 0, 0, 0), (.invokevirtual 36, 91, 3, 0), (.istore 6, 6, 0, 0), (.iload 6, 6, 0, 0), (.iload 6, 6, 0, 0), (.aload_n 0, 0, 0, 0), (.iload_n 1, 1, 0, 0), (.iload 5, 5, 0, 0), (.iload_n 2, 2, 0, 0), (.invokevirtual 55, 101, 4, 0), (.imul, 0, 0, 0), (.sipush 10000, 0, 0, 10000), (.idiv, 0, 0, 0), (.iadd, 0, 0, 0), (.istore 6, 6, 0, 0), (.aload_n 0, 0, 0, 0), (.iload_n 1, 1, 0, 0), (.iconst 4, 0, 0, 4), (.iload 5, 5, 0, 0), (.iadd, 0, 0, 0), (.iload 6, 6, 0, 0), (.invokevirtual 47, 92, 4, 0), (.iload 4, 4, 0, 0), (.iload_n 3, 3, 0, 0), (.if_icmp .ne 34, 97, 0, 0), (.iload 6, 6, 0, 0), (.bipush 100, 0, 0, 100), (.imul, 0, 0, 0), (.aload_n 0, 0, 0, 0), (.iload_n 1, 1, 0, 0), (.bipush 36, 0, 0, 36), (.iload 5, 5, 0, 0), (.iadd, 0, 0, 0), (.invokevirtual 36, 91, 3, 0), (.aload_n 0, 0, 0, 0), (.getfield 7, 8, 0, 2), (.sipush 589, 0, 0, 589), (.iaload, 0, 0, 0), (.imul, 0, 0, 0), (.if_icmp .le 7, 97, 0, 0), (.iload 5, 5, 0, 0), (.istore 4, 4, 0, 0), (.nop, 97, 0, 0)]
def bk_102_97 : List mIns := [(.iinc 5 1, 5, 0, 1), (.goto (-88), 12, 0, 0)]
def bk_102_103 : List mIns := [(.aload_n 0, 0, 0, 0), (.iload_n 1, 1, 0, 0), (.iconst 3, 0, 0, 3), (.aload_n 0, 0, 0, 0), (.iload_n 1, 1, 0, 0), (.iconst 3, 0, 0, 3), (.invokevirtual 36, 91, 3, 0), (.iconst 1, 0, 0, 1), (.iadd, 0, 0, 0), (.invokevirtual 47, 92, 4, 0), (.aload_n 0, 0, 0, 0), (.getfield 7, 8, 0, 2), (.sipush 590, 0, 0, 590), (.dup2, 0, 0, 0), (.iaload, 0, 0, 0), (.bipush 10, 0, 0, 10), (.iload_n 2, 2, 0, 0), (.isub, 0, 0, 0), (.iadd, 0, 0, 0), (.iastore, 0, 0, 0), (.aload_n 0, 0, 0, 0), (.getfield 7, 8, 0, 2), (.sipush 592, 0, 0, 592), (.dup2, 0, 0, 0), (.iaload, 0, 0, 0), (.iconst 1, 0, 0, 1), (.iadd, 0, 0, 0), (.iastore, 0, 0, 0), (.aload_n 0, 0, 0, 0), (.iconst 1, 0, 0, 1), (.iload_n 1, 1, 0, 0), (.iload_n 2, 2, 0, 0), (.invokevirtual 59, 96, 4, 0), (.iload 4, 4, 0, 0), (.iload_n 3, 3, 0, 0), (.if_icmp .ne 5, 159, 0, 0), (.iconst 0, 0, 0, 0), (.ireturn, 0, 0, 1)]
def bk_102_159 : List mIns := [(.iload 4, 4, 0, 0), (.ifCond .ne 7, 168, 0, 0), (.iconst 0, 0, 0, 0), (.goto 7, 172, 0, 0)]
def bk_102_168 : List mIns := [(.iload 4, 4, 0, 0), (.iconst 1, 0, 0, 1), (.isub, 0, 0, 0), (.nop, 172, 0, 0)]
def bk_102_172 : List mIns := [(.istore 5, 5, 0, 0), (.aload_n 0, 0, 0, 0), (.getfield 7, 8, 0, 2), (.sipush 593, 0, 0, 593), (.dup2, 0, 0, 0), (.iaload, 0, 0, 0), (.iconst 1, 0, 0, 1), (.iadd, 0, 0, 0), (.iastore, 0, 0, 0), (.aload_n 0, 0, 0, 0), (.getfield 7, 8, 0, 2), (.sipush 594, 0, 0, 594), (.dup2, 0, 0, 0), (.iaload, 0, 0, 0), (.iload 4, 4, 0, 0), (.iload_n 3, 3, 0, 0), (.iconst 1, 0, 0, 1), (.isub, 0, 0, 0), (.if_icmp .ne 17, 217, 0, 0), (.aload_n 0, 0, 0, 0), (.iload_n 1, 1, 0, 0), (.iconst 1, 0, 0, 1), (.invokevirtual 36, 91, 3, 0), (.iconst 1, 0, 0, 1), (.if_icmp .ne 7, 217, 0, 0), (.iconst 0, 0, 0, 0), (.goto 12, 226, 0, 0)]
def bk_102_217 : List mIns := [(.aload_n 0, 0, 0, 0), (.iload_n 1, 1, 0, 0), (.iconst 2, 0, 0, 2), (.invokevirtual 36, 91, 3, 0), (.iload 5, 5, 0, 0), (.isub, 0, 0, 0), (.nop, 226, 0, 0)]
def bk_102_226 : List mIns := [(.iadd, 0, 0, 0), (.iastore, 0, 0, 0), (.aload_n 0, 0, 0, 0), (.iconst 2, 0, 0, 2), (.iload_n 1, 1, 0, 0), (.iload_n 3, 3, 0, 0), (.iload 4, 4, 0, 0), (.isub, 0, 0, 0), (.invokevirtual 59, 96, 4, 0), (.aload_n 0, 0, 0, 0), (.iload_n 1, 1, 0, 0), (.iconst 0, 0, 0, 0), (.iload 4, 4, 0, 0), (.ifCond .ne 7, 250, 0, 0), (.iconst 0, 0, 0, 0), (.goto 4, 251, 0, 0)]
def bk_102_250 : List mIns := [(.iconst 1, 0, 0, 1), (.nop, 251, 0, 0)]
def bk_102_251 : List mIns := [(.invokevirtual 47, 92, 4, 0), (.aload_n 0, 0, 0, 0), (.iload_n 1, 1, 0, 0), (.iconst 1, 0, 0, 1), (.iconst 0, 0, 0, 0), (.invokevirtual 47, 92, 4, 0), (.aload_n 0, 0, 0, 0), (.iload_n 1, 1, 0, 0), (.iconst 2, 0, 0, 2), (.iload 4, 4, 0, 0), (.aload_n 0, 0, 0, 0), (.iload_n 1, 1, 0, 0), (.iconst 2, 0, 0, 2), (.invokevirtual 36, 91, 3, 0), (.if_icmp .le 12, 284, 0, 0), (.aload_n 0, 0, 0, 0), (.iload_n 1, 1, 0, 0), (.iconst 2, 0, 0, 2), (.invokevirtual 36, 91, 3, 0), (.goto 5, 286, 0, 0)]
def bk_102_284 : List mIns := [(.iload 5, 5, 0, 0), (.nop, 286, 0, 0)]
def bk_102_286 : List mIns := [(.invokevirtual 47, 92, 4, 0), (.iconst 1, 0, 0, 1), (.ireturn, 0, 0, 1)]
def bk_103_0 : List mIns := [(.iload_n 1, 1, 0, 0), (.invokestatic 62, 90, 1, 0), (.ifCond .eq 5, 9, 0, 0), (.iconst (-1), 0, 0, (-1)), (.ireturn, 0, 0, 0)]
def bk_103_9 : List mIns := [(.iload_n 2, 2, 0, 0), (.iconst 0, 0, 0, 0), (.bipush 9, 0, 0, 9), (.invokestatic 32, 89, 3, 0), (.ifCond .eq 13, 29, 0, 0), (.iload_n 3, 3, 0, 0), (.iconst 1, 0, 0, 1), (.bipush 30, 0, 0, 30), (.invokestatic 32, 89, 3, 0), (.ifCond .ne 6, 32, 0, 0), (.nop, 29, 0, 0)]
def bk_103_29 : List mIns := [(.bipush (-2), 0, 0, (-2)), (.ireturn, 0, 0, 0)]
def bk_103_32 : List mIns := [(.aload_n 0, 0, 0, 0), (.iload_n 1, 1, 0, 0), (.invokevirtual 66, 93, 2, 0), (.ifCond .eq 6, 43, 0, 0), (.bipush (-4), 0, 0, (-4)), (.ireturn, 0, 0, 0)]
def bk_103_43 : List mIns := [(.aload_n 0, 0, 0, 0), (.invokevirtual 44, 95, 1, 0), (.iconst 1, 0, 0, 1), (.istore 4, 4, 0, 0), (.aload_n 0, 0, 0, 0), (.iload_n 1, 1, 0, 0), (.iload_n 2, 2, 0, 0), (.invokevirtual 69, 102, 3, 0), (.istore 5, 5, 0, 0), (.nop, 58, 0, 0)]
def bk_103_58 : List mIns := [(.iload 5, 5, 0, 0), (.ifCond .ne 23, 83, 0, 0), (.iload 4, 4, 0, 0), (.iload_n 3, 3, 0, 0), (.if_icmp .ge 17, 83, 0, 0), (.aload_n 0, 0, 0, 0), (.iload_n 1, 1, 0, 0), (.iload_n 2, 2, 0, 0), (.invokevirtual 69, 102, 3, 0), (.istore 5, 5, 0, 0), (.iinc 4 1, 4, 0, 1), (.goto (-22), 58, 0, 0)]
def bk_103_83 : List mIns := [(.iload 4, 4, 0, 0), (.ireturn, 0, 0, 0)]
def bk_104_0 : List mIns := [(.iload_n 1, 1, 0, 0), (.invokestatic 62, 90, 1, 0), (.ifCond .ne 27, 31, 0, 0), (.iload_n 2, 2, 0, 0), (.iconst 0, 0, 0, 0), (.aload_n 0, 0, 0, 0), (.iload_n 1, 1, 0, 0), (.iconst 2, 0, 0, 2), (.invokevirtual 36, 91, 3, 0), (.iconst 1, 0, 0, 1), (.isub, 0, 0, 0), (.invokestatic 32, 89, 3, 0), (.ifCond .eq 11, 31, 0, 0), (.aload_n 0, 0, 0, 0), (.iload_n 1, 1, 0, 0), (.invokevirtual 66, 93, 2, 0), (.ifCond .eq 5, 33, 0, 0), (.nop, 31, 0, 0)]
def bk_104_31 : List mIns := [(.iconst (-1), 0, 0, (-1)), (.ireturn, 0, 0, 0)]
def bk_104_33 : List mIns := [(.iconst 0, 0, 0, 0), (.istore_n 3, 3, 0, 0), (.nop, 35, 0, 0)]
def bk_104_35 : List mIns := [(.iload_n 3, 3, 0, 0), (.bipush 6, 0, 0, 6), (.if_icmp .ge 17, 55, 0, 0), (.aload_n 0, 0, 0, 0), (.iload_n 3, 3, 0, 0), (.invokevirtual 66, 93, 2, 0), (.ifCond .ne 9, 55, 0, 0), (.iinc 3 1, 3, 0, 1), (.goto (-17), 35, 0, 0)]
def bk_104_55 : List mIns := [(.iload_n 3, 3, 0, 0), (.bipush 6, 0, 0, 6), (.if_icmp .ne 6, 64, 0, 0), (.bipush (-3), 0, 0, (-3)), (.ireturn, 0, 0, 0)]
def bk_104_64 : List mIns := [(.aload_n 0, 0, 0, 0), (.invokevirtual 44, 95, 1, 0), (.aload_n 0, 0, 0, 0), (.iload_n 1, 1, 0, 0), (.iconst 2, 0, 0, 2), (.invokevirtual 36, 91, 3, 0), (.iload_n 2, 2, 0, 0), (.isub, 0, 0, 0), (.istore 4, 4, 0, 0), (.iconst 0, 0, 0, 0), (.istore 5, 5, 0, 0), (.nop, 81, 0, 0)]
def bk_104_81 : List mIns := [(.iload 5, 5, 0, 0), (.iload 4, 4, 0, 0), (.aload_n 0, 0, 0, 0), (.iload_n 1, 1, 0, 0), (.iconst 1, 0, 0, 1), (.invokevirtual 36, 91, 3, 0), (.iadd, 0, 0, 0), (.if_icmp .ge 25, 117, 0, 0), (.aload_n 0, 0, 0, 0), (.iload_n 1, 1, 0, 0), (.iload_n 2, 2, 0, 0), (.iconst 1, 0, 0, 1), (.iadd, 0, 0, 0), (.iload 5, 5, 0, 0), (.iadd, 0, 0, 0), (.iload_n 3, 3, 0, 0), (.iconst 1, 0, 0, 1), (.iload 5, 5, 0, 0), (.iadd, 0, 0, 0), (.invokevirtual 73, 100, 5, 0), (.iinc 5 1, 5, 0, 1), (.goto (-33), 81, 0, 0)]
def bk_104_117 : List mIns := [(.iconst 0, 0, 0, 0), (.istore 5, 5, 0, 0), (.nop, 120, 0, 0)]
def bk_104_120 : List mIns := [(.iload 5, 5, 0, 0), (.iload 4, 4, 0, 0), (.if_icmp .ge 31, 155, 0, 0), (.aload_n 0, 0, 0, 0), (.iload_n 3, 3, 0, 0), (.bipush 68, 0, 0, 68), (.iload 5, 5, 0, 0), (.iadd, 0, 0, 0), (.aload_n 0, 0, 0, 0), (.iload_n 1, 1, 0, 0), (.bipush 68, 0, 0, 68), (.iload_n 2, 2, 0, 0), (.iadd, 0, 0, 0), (.iload 5, 5, 0, 0), (.iadd, 0, 0, 0), (.invokevirtual 36, 91, 3, 0), (.invokevirtual 47, 92, 4, 0), (.iinc 5 1, 5, 0, 1), (.goto (-32), 120, 0, 0)]
def bk_104_155 : List mIns := [(.aload_n 0, 0, 0, 0), (.iload_n 3, 3, 0, 0), (.iconst 0, 0, 0, 0), (.sipush 5000, 0, 0, 5000), (.invokevirtual 77, 99, 4, 0), (.aload_n 0, 0, 0, 0), (.iload_n 3, 3, 0, 0), (.iconst 0, 0, 0, 0), (.iconst 1, 0, 0, 1), (.invokevirtual 47, 92, 4, 0), (.aload_n 0, 0, 0, 0), (.iload_n 3, 3, 0, 0), (.iconst 1, 0, 0, 1), (.aload_n 0, 0, 0, 0), (.iload_n 1, 1, 0, 0), (.iconst 1, 0, 0, 1), (.invokevirtual 36, 91, 3, 0), (.invokevirtual 47, 92, 4, 0), (.aload_n 0, 0, 0, 0), (.iload_n 3, 3, 0, 0), (.iconst 2, 0, 0, 2), (.iload 4, 4, 0, 0), (.invokevirtual 47, 92, 4, 0), (.aload_n 0, 0, 0, 0), (.iload_n 3, 3, 0, 0), (.iconst 3, 0, 0, 3), (.iconst 0, 0, 0, 0), (.invokevirtual 47, 92, 4, 0), (.aload_n 0, 0, 0, 0), (.iload_n 1, 1, 0, 0), (.iconst 1, 0, 0, 1), (.iconst 0, 0, 0, 0), (.invokevirtual 47, 92, 4, 0), (.aload_n 0, 0, 0, 0), (.iload_n 1, 1, 0, 0), (.iconst 2, 0, 0, 2), (.iload_n 2, 2, 0, 0), (.invokevirtual 47, 92, 4, 0), (.aload_n 0, 0, 0, 0), (.iconst 3, 0, 0, 3), (.iload_n 1, 1, 0, 0), (.iload_n 3, 3, 0, 0), (.invokevirtual 59, 96, 4, 0), (.iload_n 3, 3, 0, 0), (.ireturn, 0, 0, 0)]
def bk_105_0 : List mIns := [(.iload_n 1, 1, 0, 0), (.invokestatic 62, 90, 1, 0), (.ifCond .ne 10, 14, 0, 0), (.iload_n 2, 2, 0, 0), (.invokestatic 62, 90, 1, 0), (.ifCond .eq 5, 16, 0, 0), (.nop, 14, 0, 0)]
def bk_105_14 : List mIns := [(.iconst (-1), 0, 0, (-1)), (.ireturn, 0, 0, 0)]
def bk_105_16 : List mIns := [(.iload_n 1, 1, 0, 0), (.iload_n 2, 2, 0, 0), (.if_icmp .ne 6, 24, 0, 0), (.bipush (-2), 0, 0, (-2)), (.ireturn, 0, 0, 0)]
def bk_105_24 : List mIns := [(.aload_n 0, 0, 0, 0), (.iload_n 1, 1, 0, 0), (.invokevirtual 66, 93, 2, 0), (.ifCond .ne 11, 40, 0, 0), (.aload_n 0, 0, 0, 0), (.iload_n 2, 2, 0, 0), (.invokevirtual 66, 93, 2, 0), (.ifCond .eq 6, 43, 0, 0), (.nop, 40, 0, 0)]
def bk_105_40 : List mIns := [(.bipush (-4), 0, 0, (-4)), (.ireturn, 0, 0, 0)]
def bk_105_43 : List mIns := [(.aload_n 0, 0, 0, 0), (.iload_n 1, 1, 0, 0), (.iconst 2, 0, 0, 2), (.invokevirtual 36, 91, 3, 0), (.istore_n 3, 3, 0, 0), (.aload_n 0, 0, 0, 0), (.iload_n 2, 2, 0, 0), (.iconst 2, 0, 0, 2), (.invokevirtual 36, 91, 3, 0), (.istore 4, 4, 0, 0), (.iload_n 3, 3, 0, 0), (.iload 4, 4, 0, 0), (.iadd, 0, 0, 0), (.bipush 30, 0, 0, 30), (.if_icmp .le 6, 70, 0, 0), (.bipush (-3), 0, 0, (-3)), (.ireturn, 0, 0, 0)]
def bk_105_70 : List mIns := [(.aload_n 0, 0, 0, 0), (.invokevirtual 44, 95, 1, 0), (.iconst 0, 0, 0, 0), (.istore 5, 5, 0, 0), (.nop, 77, 0, 0)]
def bk_105_77 : List mIns := [(.iload 5, 5, 0, 0), (.iload 4, 4, 0, 0), (.aload_n 0, 0, 0, 0), (.iload_n 2, 2, 0, 0), (.iconst 1, 0, 0, 1), (.invokevirtual 36, 91, 3, 0), (.iadd, 0, 0, 0), (.if_icmp .ge 25, 113, 0, 0), (.aload_n 0, 0, 0, 0), (.iload_n 2, 2, 0, 0), (.iconst 1, 0, 0, 1), (.iload 5, 5, 0, 0), (.iadd, 0, 0, 0), (.iload_n 1, 1, 0, 0), (.iload_n 3, 3, 0, 0), (.iconst 1, 0, 0, 1), (.iadd, 0, 0, 0), (.iload 5, 5, 0, 0), (.iadd, 0, 0, 0), (.invokevirtual 73, 100, 5, 0), (.iinc 5 1, 5, 0, 1), (.goto (-33), 77, 0, 0)]
def bk_105_113 : List mIns := [(.iconst 0, 0, 0, 0), (.istore 5, 5, 0, 0), (.nop, 116, 0, 0)]
def bk_105_116 : List mIns := [(.iload 5, 5, 0, 0), (.iload 4, 4, 0, 0), (.if_icmp .ge 31, 151, 0, 0), (.aload_n 0, 0, 0, 0), (.iload_n 1, 1, 0, 0), (.bipush 68, 0, 0, 68), (.iload_n 3, 3, 0, 0), (.iadd, 0, 0, 0), (.iload 5, 5, 0, 0), (.iadd, 0, 0, 0), (.aload_n 0, 0, 0, 0), (.iload_n 2, 2, 0, 0), (.bipush 68, 0, 0, 68), (.iload 5, 5, 0, 0), (.iadd, 0, 0, 0), (.invokevirtual 36, 91, 3, 0), (.invokevirtual 47, 92, 4, 0), (.iinc 5 1, 5, 0, 1), (.goto (-32), 116, 0, 0)]
def bk_105_151 : List mIns := [(.aload_n 0, 0, 0, 0), (.iload_n 1, 1, 0, 0), (.iconst 1, 0, 0, 1), (.aload_n 0, 0, 0, 0), (.iload_n 2, 2, 0, 0), (.iconst 1, 0, 0, 1), (.invokevirtual 36, 91, 3, 0), (.invokevirtual 47, 92, 4, 0), (.aload_n 0, 0, 0, 0), (.iload_n 1, 1, 0, 0), (.iconst 2, 0, 0, 2), (.iload_n 3, 3, 0, 0), (.iload 4, 4, 0, 0), (.iadd, 0, 0, 0), (.invokevirtual 47, 92, 4, 0), (.aload_n 0, 0, 0, 0), (.iload_n 2, 2, 0, 0), (.iconst 0, 0, 0, 0), (.iconst 0, 0, 0, 0), (.invokevirtual 47, 92, 4, 0), (.aload_n 0, 0, 0, 0), (.iload_n 2, 2, 0, 0), (.iconst 1, 0, 0, 1), (.iconst 0, 0, 0, 0), (.invokevirtual 47, 92, 4, 0), (.aload_n 0, 0, 0, 0), (.iload_n 2, 2, 0, 0), (.iconst 2, 0, 0, 2), (.iconst 0, 0, 0, 0), (.invokevirtual 47, 92, 4, 0), (.aload_n 0, 0, 0, 0), (.iconst 4, 0, 0, 4), (.iload_n 1, 1, 0, 0), (.iload_n 3, 3, 0, 0), (.iload 4, 4, 0, 0), (.iadd, 0, 0, 0), (.invokevirtual 59, 96, 4, 0), (.iload_n 3, 3, 0, 0), (.iload 4, 4, 0, 0), (.iadd, 0, 0, 0), (.ireturn, 0, 0, 0)]
def bk_106_0 : List mIns := [(.iload_n 1, 1, 0, 0), (.invokestatic 62, 90, 1, 0), (.ifCond .eq 5, 9, 0, 0), (.iconst (-1), 0, 0, (-1)), (.ireturn, 0, 0, 0)]
def bk_106_9 : List mIns := [(.aload_n 0, 0, 0, 0), (.iload_n 1, 1, 0, 0), (.invokevirtual 66, 93, 2, 0), (.ifCond .eq 6, 20, 0, 0), (.bipush (-4), 0, 0, (-4)), (.ireturn, 0, 0, 0)]
def bk_106_20 : List mIns := [(.aload_n 0, 0, 0, 0), (.iload_n 1, 1, 0, 0), (.iconst 1, 0, 0, 1), (.invokevirtual 36, 91, 3, 0), (.iconst 1, 0, 0, 1), (.if_icmp .ne 6, 33, 0, 0), (.bipush (-5), 0, 0, (-5)), (.ireturn, 0, 0, 0)]
def bk_106_33 : List mIns := [(.aload_n 0, 0, 0, 0), (.invokevirtual 44, 95, 1, 0), (.aload_n 0, 0, 0, 0), (.iload_n 1, 1, 0, 0), (.iconst 1, 0, 0, 1), (.iconst 1, 0, 0, 1), (.invokevirtual 47, 92, 4, 0), (.aload_n 0, 0, 0, 0), (.iload_n 1, 1, 0, 0), (.aload_n 0, 0, 0, 0), (.iload_n 1, 1, 0, 0), (.iconst 2, 0, 0, 2), (.invokevirtual 36, 91, 3, 0), (.iconst 1, 0, 0, 1), (.iadd, 0, 0, 0), (.sipush 5000, 0, 0, 5000), (.invokevirtual 77, 99, 4, 0), (.aload_n 0, 0, 0, 0), (.iconst 5, 0, 0, 5), (.iload_n 1, 1, 0, 0), (.aload_n 0, 0, 0, 0), (.iload_n 1, 1, 0, 0), (.iconst 2, 0, 0, 2), (.invokevirtual 36, 91, 3, 0), (.invokevirtual 59, 96, 4, 0), (.aload_n 0, 0, 0, 0), (.iload_n 1, 1, 0, 0), (.iconst 2, 0, 0, 2), (.invokevirtual 36, 91, 3, 0), (.ireturn, 0, 0, 0)]
def bk_107_0 : List mIns := [(.bipush 10, 0, 0, 10), (.iload_n 0, 0, 0, 0), (.imul, 0, 0, 0), (.iload_n 1, 1, 0, 0), (.iadd, 0, 0, 0), (.iconst 2, 0, 0, 2), (.iload_n 1, 1, 0, 0), (.imul, 0, 0, 0), (.idiv, 0, 0, 0), (.iconst 2, 0, 0, 2), (.isub, 0, 0, 0), (.istore_n 2, 2, 0, 0), (.iload_n 2, 2, 0, 0), (.iconst 0, 0, 0, 0), (.bipush 7, 0, 0, 7), (.invokestatic 32, 89, 3, 0), (.ifCond .eq 7, 27, 0, 0), (.iload_n 2, 2, 0, 0), (.goto 5, 29, 0, 0)]
def bk_107_27 : List mIns := [(.bipush (-5), 0, 0, (-5)), (.nop, 29, 0, 0)]
def bk_107_29 : List mIns := [(.ireturn, 0, 0, 0)]
def bk_108_0 : List mIns := [(.aload_n 0, 0, 0, 0), (.iload_n 1, 1, 0, 0), (.iconst 4, 0, 0, 4), (.invokevirtual 36, 91, 3, 0), (.istore_n 3, 3, 0, 0), (.aload_n 0, 0, 0, 0), (.iload_n 1, 1, 0, 0), (.iconst 2, 0, 0, 2), (.invokevirtual 36, 91, 3, 0), (.istore 4, 4, 0, 0), (.iload_n 3, 3, 0, 0), (.istore 5, 5, 0, 0), (.iconst 0, 0, 0, 0), (.istore 6, 6, 0, 0), (.nop, 21, 0, 0)]
def bk_108_21 : List mIns := [(.iload 6, 6, 0, 0), (.iload 4, 4, 0, 0), (.if_icmp .ge 98, 123, 0, 0), (.aload_n 0, 0, 0, 0), (.iload_n 1, 1, 0, 0), (.iconst 5, 0, 0, 5), (.iload 6, 6, 0, 0), (.iadd, 0, 0, 0), (.invokevirtual 36, 91, 3, 0), (.istore 7, 7, 0, 0), (.iload_n 2, 2, 0, 0), (.iconst 2, 0, 0, 2), (.if_icmp .ne 28, 69, 0, 0), (.iload_n 3, 3, 0, 0), (.aload_n 0, 0, 0, 0), (.iload_n 1, 1, 0, 0), (.iconst 5, 0, 0, 5), (.iload 4, 4, 0, 0), (.iadd, 0, 0, 0), (.invokevirtual 36, 91, 3, 0), (.iload_n 3, 3, 0, 0), (.isub, 0, 0, 0), (.iload 6, 6, 0, 0), (.iconst 1, 0, 0, 1), (.iadd, 0, 0, 0), (.imul, 0, 0, 0), (.iload 4, 4, 0, 0), (.iconst 1, 0, 0, 1), (.iadd, 0, 0, 0), (.idiv, 0, 0, 0), (.iadd, 0, 0, 0), (.istore 5, 5, 0, 0), (.nop, 69, 0, 0)]
def bk_108_69 : List mIns := [(.iload 7, 7, 0, 0), (.iload 5, 5, 0, 0), (.invokestatic 80, 107, 2, 0), (.istore 8, 8, 0, 0), (.aload_n 0, 0, 0, 0), (.getfield 22, 8, 6, 2), (.iload 6, 6, 0, 0), (.iload 8, 8, 0, 0), (.iastore, 0, 0, 0), (.iload_n 2, 2, 0, 0), (.iconst 1, 0, 0, 1), (.if_icmp .ne 28, 117, 0, 0), (.iload 8, 8, 0, 0), (.bipush (-5), 0, 0, (-5)), (.if_icmp .eq 21, 117, 0, 0), (.iconst 3, 0, 0, 3), (.iload 5, 5, 0, 0), (.imul, 0, 0, 0), (.iconst 5, 0, 0, 5), (.iload 7, 7, 0, 0), (.imul, 0, 0, 0), (.iload 8, 8, 0, 0), (.iconst 2, 0, 0, 2), (.iadd, 0, 0, 0), (.idiv, 0, 0, 0), (.iadd, 0, 0, 0), (.iconst 4, 0, 0, 4), (.idiv, 0, 0, 0), (.istore 5, 5, 0, 0), (.nop, 117, 0, 0)]
def bk_108_117 : List mIns := [(.iinc 6 1, 6, 0, 1), (.goto (-99), 21, 0, 0)]
def bk_108_123 : List mIns := [(.return_, 0, 0, 0)]
def bk_109_0 : List mIns := [(.iload_n 2, 2, 0, 0), (.iconst 2, 0, 0, 2), (.if_icmp .ne 16, 18, 0, 0), (.aload_n 0, 0, 0, 0), (.iload_n 1, 1, 0, 0), (.iconst 1, 0, 0, 1), (.invokevirtual 36, 91, 3, 0), (.ifCond .ne 7, 18, 0, 0), (.iconst 1, 0, 0, 1), (.goto 4, 19, 0, 0)]
def bk_109_18 : List mIns := [(.iconst 0, 0, 0, 0), (.nop, 19, 0, 0)]
def bk_109_19 : List mIns := [(.ireturn, 0, 0, 1)]
def bk_110_0 : List mIns := [(.iconst 0, 0, 0, 0), (.istore_n 3, 3, 0, 0), (.iconst 0, 0, 0, 0), (.istore 4, 4, 0, 0), (.bipush (-5), 0, 0, (-5)), (.istore 5, 5, 0, 0), (.iconst 0, 0, 0, 0), (.istore 6, 6, 0, 0), (.nop, 12, 0, 0)]
def bk_110_12 : List mIns := [(.iload 6, 6, 0, 0), (.aload_n 0, 0, 0, 0), (.iload_n 1, 1, 0, 0), (.iconst 2, 0, 0, 2), (.invokevirtual 36, 91, 3, 0), (.if_icmp .ge 90, 110, 0, 0), (.aload_n 0, 0, 0, 0), (.getfield 22, 8, 6, 2), (.iload 6, 6, 0, 0), (.iaload, 0, 0, 0), (.aload_n 0, 0, 0, 0), (.iload_n 1, 1, 0, 0), (.bipush 68, 0, 0, 68), (.iload 6, 6, 0, 0), (.iadd, 0, 0, 0), (.invokevirtual 36, 91, 3, 0), (.if_icmp .ne 6, 46, 0, 0), (.goto 61, 104, 0, 0)]
def bk_110_46 : List mIns := [(.iload_n 3, 3, 0, 0), (.aload_n 0, 0, 0, 0), (.getfield 22, 8, 6, 2), (.iload 6, 6, 0, 0), (.iaload, 0, 0, 0), (.bipush (-5), 0, 0, (-5)), (.if_icmp .ne 7, 63, 0, 0), (.iconst 0, 0, 0, 0), (.goto 4, 64, 0, 0)]
def bk_110_63 : List mIns := [(.iconst 1, 0, 0, 1), (.nop, 64, 0, 0)]
def bk_110_64 : List mIns := [(.iadd, 0, 0, 0), (.istore_n 3, 3, 0, 0), (.iload 4, 4, 0, 0), (.aload_n 0, 0, 0, 0), (.getfield 22, 8, 6, 2), (.iload 6, 6, 0, 0), (.iaload, 0, 0, 0), (.bipush (-5), 0, 0, (-5)), (.if_icmp .ne 7, 84, 0, 0), (.iconst 1, 0, 0, 1), (.goto 4, 85, 0, 0)]
def bk_110_84 : List mIns := [(.iconst 0, 0, 0, 0), (.nop, 85, 0, 0)]
def bk_110_85 : List mIns := [(.iadd, 0, 0, 0), (.istore 4, 4, 0, 0), (.iload 5, 5, 0, 0), (.bipush (-5), 0, 0, (-5)), (.if_icmp .ne 8, 100, 0, 0), (.iload 6, 6, 0, 0), (.goto 5, 102, 0, 0)]
def bk_110_100 : List mIns := [(.iload 5, 5, 0, 0), (.nop, 102, 0, 0)]
def bk_110_102 : List mIns := [(.istore 5, 5, 0, 0), (.nop, 104, 0, 0)]
def bk_110_104 : List mIns := [(.iinc 6 1, 6, 0, 1), (.goto (-95), 12, 0, 0)]
def bk_110_110 : List mIns := [(.iload_n 2, 2, 0, 0), (.ifCond .ne 7, 118, 0, 0), (.iload_n 3, 3, 0, 0), (.goto 15, 130, 0, 0)]
def bk_110_118 : List mIns := [(.iload_n 2, 2, 0, 0), (.iconst 1, 0, 0, 1), (.if_icmp .ne 8, 128, 0, 0), (.iload 4, 4, 0, 0), (.goto 5, 130, 0, 0)]
def bk_110_128 : List mIns := [(.iload 5, 5, 0, 0), (.nop, 130, 0, 0)]
def bk_110_130 : List mIns := [(.ireturn, 0, 0, 0)]
def bk_111_0 : List mIns := [(.aload_n 0, 0, 0, 0), (.iload_n 1, 1, 0, 0), (.iload_n 2, 2, 0, 0), (.invokevirtual 83, 108, 3, 0), (.aload_n 0, 0, 0, 0), (.iload_n 1, 1, 0, 0), (.iconst 0, 0, 0, 0), (.invokevirtual 87, 110, 3, 0), (.aload_n 0, 0, 0, 0), (.iload_n 1, 1, 0, 0), (.iconst 1, 0, 0, 1), (.invokevirtual 87, 110, 3, 0), (.iadd, 0, 0, 0), (.ireturn, 0, 0, 0)]
def bk_112_0 : List mIns := [(.iload_n 1, 1, 0, 0), (.invokestatic 62, 90, 1, 0), (.ifCond .eq 5, 9, 0, 0), (.iconst (-1), 0, 0, (-1)), (.ireturn, 0, 0, 0)]
def bk_112_9 : List mIns := [(.iload_n 2, 2, 0, 0), (.iconst 0, 0, 0, 0), (.iconst 2, 0, 0, 2), (.invokestatic 32, 89, 3, 0), (.ifCond .ne 6, 21, 0, 0), (.bipush (-2), 0, 0, (-2)), (.ireturn, 0, 0, 0)]
def bk_112_21 : List mIns := [(.aload_n 0, 0, 0, 0), (.iload_n 1, 1, 0, 0), (.invokevirtual 66, 93, 2, 0), (.ifCond .ne 12, 38, 0, 0), (.aload_n 0, 0, 0, 0), (.iload_n 1, 1, 0, 0), (.iload_n 2, 2, 0, 0), (.invokevirtual 90, 109, 3, 0), (.ifCond .eq 6, 41, 0, 0), (.nop, 38, 0, 0)]
def bk_112_38 : List mIns := [(.bipush (-4), 0, 0, (-4)), (.ireturn, 0, 0, 0)]
def bk_112_41 : List mIns := [(.aload_n 0, 0, 0, 0), (.iload_n 1, 1, 0, 0), (.iload_n 2, 2, 0, 0), (.invokevirtual 83, 108, 3, 0), (.aload_n 0, 0, 0, 0), (.iload_n 1, 1, 0, 0), (.iconst 1, 0, 0, 1), (.invokevirtual 87, 110, 3, 0), (.ifCond .le 6, 59, 0, 0), (.bipush (-4), 0, 0, (-4)), (.ireturn, 0, 0, 0)]
def bk_112_59 : List mIns := [(.aload_n 0, 0, 0, 0), (.iload_n 1, 1, 0, 0), (.iconst 0, 0, 0, 0), (.invokevirtual 87, 110, 3, 0), (.istore_n 3, 3, 0, 0), (.aload_n 0, 0, 0, 0), (.invokevirtual 44, 95, 1, 0), (.aload_n 0, 0, 0, 0), (.iload_n 1, 1, 0, 0), (.iconst 0, 0, 0, 0), (.sipush 5000, 0, 0, 5000), (.invokevirtual 77, 99, 4, 0), (.iconst 0, 0, 0, 0), (.istore 4, 4, 0, 0), (.nop, 82, 0, 0)]
def bk_112_82 : List mIns := [(.iload 4, 4, 0, 0), (.aload_n 0, 0, 0, 0), (.iload_n 1, 1, 0, 0), (.iconst 2, 0, 0, 2), (.invokevirtual 36, 91, 3, 0), (.if_icmp .ge 33, 123, 0, 0), (.aload_n 0, 0, 0, 0), (.iload_n 1, 1, 0, 0), (.iconst 1, 0, 0, 1), (.iload 4, 4, 0, 0), (.iadd, 0, 0, 0), (.sipush 2000, 0, 0, 2000), (.sipush 1000, 0, 0, 1000), (.aload_n 0, 0, 0, 0), (.getfield 22, 8, 6, 2), (.iload 4, 4, 0, 0), (.iaload, 0, 0, 0), (.imul, 0, 0, 0), (.iadd, 0, 0, 0), (.invokevirtual 77, 99, 4, 0), (.iinc 4 1, 4, 0, 1), (.goto (-38), 82, 0, 0)]
def bk_112_123 : List mIns := [(.aload_n 0, 0, 0, 0), (.iload_n 1, 1, 0, 0), (.iconst 1, 0, 0, 1), (.invokevirtual 36, 91, 3, 0), (.iconst 1, 0, 0, 1), (.if_icmp .ne 19, 149, 0, 0), (.aload_n 0, 0, 0, 0), (.iload_n 1, 1, 0, 0), (.iconst 1, 0, 0, 1), (.aload_n 0, 0, 0, 0), (.iload_n 1, 1, 0, 0), (.iconst 2, 0, 0, 2), (.invokevirtual 36, 91, 3, 0), (.iadd, 0, 0, 0), (.sipush 5000, 0, 0, 5000), (.invokevirtual 77, 99, 4, 0), (.nop, 149, 0, 0)]
def bk_112_149 : List mIns := [(.aload_n 0, 0, 0, 0), (.iload_n 1, 1, 0, 0), (.iconst 3, 0, 0, 3), (.iconst 0, 0, 0, 0), (.invokevirtual 47, 92, 4, 0), (.aload_n 0, 0, 0, 0), (.bipush 6, 0, 0, 6), (.iload_n 1, 1, 0, 0), (.iload_n 2, 2, 0, 0), (.invokevirtual 59, 96, 4, 0), (.iload_n 3, 3, 0, 0), (.ireturn, 0, 0, 0)]
def bk_113_0 : List mIns := [(.aload_n 0, 0, 0, 0), (.getfield 93, 8, 7, 0), (.bipush 50, 0, 0, 50), (.if_icmp .ne 6, 12, 0, 0), (.bipush (-3), 0, 0, (-3)), (.ireturn, 0, 0, 0)]
def bk_113_12 : List mIns := [(.aload_n 0, 0, 0, 0), (.getfield 25, 8, 8, 2), (.aload_n 0, 0, 0, 0), (.getfield 93, 8, 7, 0), (.iload_n 1, 1, 0, 0), (.castore, 0, 0, 0), (.aload_n 0, 0, 0, 0), (.dup, 0, 0, 0), (.getfield 93, 8, 7, 0), (.iconst 1, 0, 0, 1), (.iadd, 0, 0, 0), (.putfield 93, 8, 7, 0), (.aload_n 0, 0, 0, 0), (.getfield 93, 8, 7, 0), (.ireturn, 0, 0, 0)]
def bk_114_0 : List mIns := [(.aload_n 0, 0, 0, 0), (.getfield 93, 8, 7, 0), (.istore_n 1, 1, 0, 0), (.aload_n 0, 0, 0, 0), (.iconst 0, 0, 0, 0), (.putfield 93, 8, 7, 0), (.iload_n 1, 1, 0, 0), (.ireturn, 0, 0, 0)]
def bk_115_0 : List mIns := [(.iload 5, 5, 0, 0), (.ifCond .ne 7, 9, 0, 0), (.iconst 3, 0, 0, 3), (.goto 4, 10, 0, 0)]
def bk_115_9 : List mIns := [(.iconst 5, 0, 0, 5), (.nop, 10, 0, 0)]
def bk_115_10 : List mIns := [(.istore 6, 6, 0, 0), (.aload_n 0, 0, 0, 0), (.getfield 96, 8, 9, 0), (.iload 6, 6, 0, 0), (.if_icmp .ne 33, 51, 0, 0), (.aload_n 0, 0, 0, 0), (.getfield 25, 8, 8, 2), (.iconst 0, 0, 0, 0), (.caload, 0, 0, 0), (.iload_n 1, 1, 0, 0), (.if_icmp .ne 23, 51, 0, 0), (.aload_n 0, 0, 0, 0), (.getfield 25, 8, 8, 2), (.iconst 1, 0, 0, 1), (.caload, 0, 0, 0), (.iload_n 2, 2, 0, 0), (.if_icmp .ne 13, 51, 0, 0), (.aload_n 0, 0, 0, 0), (.getfield 25, 8, 8, 2), (.iconst 2, 0, 0, 2), (.caload, 0, 0, 0), (.iload_n 3, 3, 0, 0), (.if_icmp .eq 5, 53, 0, 0), (.nop, 51, 0, 0)]
def bk_115_51 : List mIns := [(.iconst 0, 0, 0, 0), (.ireturn, 0, 0, 1)]
def bk_115_53 : List mIns := [(.iload 5, 5, 0, 0), (.ifCond .eq 25, 80, 0, 0), (.aload_n 0, 0, 0, 0), (.getfield 25, 8, 8, 2), (.iconst 3, 0, 0, 3), (.caload, 0, 0, 0), (.iload 4, 4, 0, 0), (.if_icmp .ne 18, 84, 0, 0), (.aload_n 0, 0, 0, 0), (.getfield 25, 8, 8, 2), (.iconst 4, 0, 0, 4), (.caload, 0, 0, 0), (.iload 5, 5, 0, 0), (.if_icmp .ne 7, 84, 0, 0), (.nop, 80, 0, 0)]
def bk_115_80 : List mIns := [(.iconst 1, 0, 0, 1), (.goto 4, 85, 0, 0)]
def bk_115_84 : List mIns := [(.iconst 0, 0, 0, 0), (.nop, 85, 0, 0)]
def bk_115_85 : List mIns := [(.ireturn, 0, 0, 1)]
def bk_116_0 : List mIns := [(.aload_n 0, 0, 0, 0), (.getfield 96, 8, 9, 0), (.bipush 6, 0, 0, 6), (.if_icmp .ne 70, 76, 0, 0), (.aload_n 0, 0, 0, 0), (.getfield 25, 8, 8, 2), (.iconst 0, 0, 0, 0), (.caload, 0, 0, 0), (.iload_n 1, 1, 0, 0), (.if_icmp .ne 60, 76, 0, 0), (.aload_n 0, 0, 0, 0), (.getfield 25, 8, 8, 2), (.iconst 1, 0, 0, 1), (.caload, 0, 0, 0), (.iload_n 2, 2, 0, 0), (.if_icmp .ne 50, 76, 0, 0), (.aload_n 0, 0, 0, 0), (.getfield 25, 8, 8, 2), (.iconst 2, 0, 0, 2), (.caload, 0, 0, 0), (.iload_n 3, 3, 0, 0), (.if_icmp .ne 40, 76, 0, 0), (.aload_n 0, 0, 0, 0), (.getfield 25, 8, 8, 2), (.iconst 3, 0, 0, 3), (.caload, 0, 0, 0), (.iload 4, 4, 0, 0), (.if_icmp .ne 29, 76, 0, 0), (.aload_n 0, 0, 0, 0), (.getfield 25, 8, 8, 2), (.iconst 4, 0, 0, 4), (.caload, 0, 0, 0), (.iload 5, 5, 0, 0), (.if_icmp .ne 18, 76, 0, 0), (.aload_n 0, 0, 0, 0), (.getfield 25, 8, 8, 2), (.iconst 5, 0, 0, 5), (.caload, 0, 0, 0), (.iload 6, 6, 0, 0), (.if_icmp .ne 7, 76, 0, 0), (.iconst 1, 0, 0, 1), (.goto 4, 77, 0, 0)]
def bk_116_76 : List mIns := [(.iconst 0, 0, 0, 0), (.nop, 77, 0, 0)]
def bk_116_77 : List mIns := [(.ireturn, 0, 0, 1)]
def bk_117_0 : List mIns := [(.aload_n 0, 0, 0, 0), (.iconst 0, 0, 0, 0), (.putfield 96, 8, 9, 0), (.nop, 5, 0, 0)]
def bk_117_5 : List mIns := [(.aload_n 0, 0, 0, 0), (.getfield 96, 8, 9, 0), (.aload_n 0, 0, 0, 0), (.getfield 93, 8, 7, 0), (.if_icmp .ge 35, 48, 0, 0), (.aload_n 0, 0, 0, 0), (.getfield 25, 8, 8, 2), (.aload_n 0, 0, 0, 0), (.getfield 96, 8, 9, 0), (.caload, 0, 0, 0), (.bipush 97, 0, 0, 97), (.bipush 122, 0, 0, 122), (.invokestatic 32, 89, 3, 0), (.ifCond .eq 16, 48, 0, 0), (.aload_n 0, 0, 0, 0), (.dup, 0, 0, 0), (.getfield 96, 8, 9, 0), (.iconst 1, 0, 0, 1), (.iadd, 0, 0, 0), (.putfield 96, 8, 9, 0), (.goto (-40), 5, 0, 0)]
def bk_117_48 : List mIns := [(.aload_n 0, 0, 0, 0), (.bipush 99, 0, 0, 99), (.bipush 117, 0, 0, 117), (.bipush 116, 0, 0, 116), (.iconst 0, 0, 0, 0), (.iconst 0, 0, 0, 0), (.invokevirtual 99, 115, 6, 0), (.ifCond .eq 5, 65, 0, 0), (.iconst 2, 0, 0, 2), (.ireturn, 0, 0, 0)]
def bk_117_65 : List mIns := [(.aload_n 0, 0, 0, 0), (.bipush 119, 0, 0, 119), (.bipush 114, 0, 0, 114), (.bipush 105, 0, 0, 105), (.bipush 116, 0, 0, 116), (.bipush 101, 0, 0, 101), (.invokevirtual 99, 115, 6, 0), (.ifCond .eq 5, 84, 0, 0), (.iconst 0, 0, 0, 0), (.ireturn, 0, 0, 0)]
def bk_117_84 : List mIns := [(.aload_n 0, 0, 0, 0), (.bipush 99, 0, 0, 99), (.bipush 108, 0, 0, 108), (.bipush 111, 0, 0, 111), (.bipush 115, 0, 0, 115), (.bipush 101, 0, 0, 101), (.invokevirtual 99, 115, 6, 0), (.ifCond .eq 5, 103, 0, 0), (.iconst 4, 0, 0, 4), (.ireturn, 0, 0, 0)]
def bk_117_103 : List mIns := [(.aload_n 0, 0, 0, 0), (.bipush 112, 0, 0, 112), (.bipush 117, 0, 0, 117), (.bipush 110, 0, 0, 110), (.bipush 99, 0, 0, 99), (.bipush 104, 0, 0, 104), (.invokevirtual 99, 115, 6, 0), (.ifCond .eq 5, 122, 0, 0), (.iconst 5, 0, 0, 5), (.ireturn, 0, 0, 0)]
def bk_117_122 : List mIns := [(.aload_n 0, 0, 0, 0), (.bipush 114, 0, 0, 114), (.bipush 101, 0, 0, 101), (.bipush 119, 0, 0, 119), (.bipush 105, 0, 0, 105), (.bipush 110, 0, 0, 110), (.bipush 100, 0, 0, 100), (.invokevirtual 103, 116, 7, 0), (.ifCond .eq 7, 145, 0, 0), (.iconst 1, 0, 0, 1), (.goto 28, 170, 0, 0)]
def bk_117_145 : List mIns := [(.aload_n 0, 0, 0, 0), (.bipush 115, 0, 0, 115), (.bipush 112, 0, 0, 112), (.bipush 108, 0, 0, 108), (.bipush 105, 0, 0, 105), (.bipush 99, 0, 0, 99), (.bipush 101, 0, 0, 101), (.invokevirtual 103, 116, 7, 0), (.ifCond .eq 7, 168, 0, 0), (.iconst 3, 0, 0, 3), (.goto 5, 170, 0, 0)]
def bk_117_168 : List mIns := [(.bipush (-5), 0, 0, (-5)), (.nop, 170, 0, 0)]
def bk_117_170 : List mIns := [(.ireturn, 0, 0, 0)]
def bk_118_0 : List mIns := [(.aload_n 0, 0, 0, 0), (.getfield 96, 8, 9, 0), (.aload_n 0, 0, 0, 0), (.getfield 93, 8, 7, 0), (.if_icmp .eq 17, 25, 0, 0), (.aload_n 0, 0, 0, 0), (.getfield 25, 8, 8, 2), (.aload_n 0, 0, 0, 0), (.getfield 96, 8, 9, 0), (.caload, 0, 0, 0), (.bipush 32, 0, 0, 32), (.if_icmp .eq 5, 27, 0, 0), (.nop, 25, 0, 0)]
def bk_118_25 : List mIns := [(.iconst 0, 0, 0, 0), (.ireturn, 0, 0, 1)]
def bk_118_27 : List mIns := [(.aload_n 0, 0, 0, 0), (.dup, 0, 0, 0), (.getfield 96, 8, 9, 0), (.iconst 1, 0, 0, 1), (.iadd, 0, 0, 0), (.putfield 96, 8, 9, 0), (.iconst 1, 0, 0, 1), (.ireturn, 0, 0, 1)]
def bk_119_0 : List mIns := [(.aload_n 0, 0, 0, 0), (.getfield 96, 8, 9, 0), (.aload_n 0, 0, 0, 0), (.getfield 93, 8, 7, 0), (.if_icmp .eq 22, 30, 0, 0), (.aload_n 0, 0, 0, 0), (.getfield 25, 8, 8, 2), (.aload_n 0, 0, 0, 0), (.getfield 96, 8, 9, 0), (.caload, 0, 0, 0), (.bipush 48, 0, 0, 48), (.bipush 57, 0, 0, 57), (.invokestatic 32, 89, 3, 0), (.ifCond .ne 5, 32, 0, 0), (.nop, 30, 0, 0)]
def bk_119_30 : List mIns := [(.iconst 0, 0, 0, 0), (.ireturn, 0, 0, 1)]
def bk_119_32 : List mIns := [(.aload_n 0, 0, 0, 0), (.aload_n 0, 0, 0, 0), (.getfield 25, 8, 8, 2), (.aload_n 0, 0, 0, 0), (.getfield 96, 8, 9, 0), (.caload, 0, 0, 0), (.bipush 48, 0, 0, 48), (.isub, 0, 0, 0), (.putfield 107, 8, 10, 0), (.aload_n 0, 0, 0, 0), (.dup, 0, 0, 0), (.getfield 96, 8, 9, 0), (.iconst 1, 0, 0, 1), (.iadd, 0, 0, 0), (.putfield 96, 8, 9, 0), (.aload_n 0, 0, 0, 0), (.getfield 107, 8, 10, 0), (.ifCond .le 67, 129, 0, 0), (.aload_n 0, 0, 0, 0), (.getfield 96, 8, 9, 0), (.aload_n 0, 0, 0, 0), (.getfield 93, 8, 7, 0), (.if_icmp .ge 56, 129, 0, 0), (.aload_n 0, 0, 0, 0), (.getfield 25, 8, 8, 2), (.aload_n 0, 0, 0, 0), (.getfield 96, 8, 9, 0), (.caload, 0, 0, 0), (.bipush 48, 0, 0, 48), (.bipush 57, 0, 0, 57), (.invokestatic 32, 89, 3, 0), (.ifCond .eq 37, 129, 0, 0), (.aload_n 0, 0, 0, 0), (.bipush 10, 0, 0, 10), (.aload_n 0, 0, 0, 0), (.getfield 107, 8, 10, 0), (.imul, 0, 0, 0), (.aload_n 0, 0, 0, 0), (.getfield 25, 8, 8, 2), (.aload_n 0, 0, 0, 0), (.getfield 96, 8, 9, 0), (.caload, 0, 0, 0), (.iadd, 0, 0, 0), (.bipush 48, 0, 0, 48), (.isub, 0, 0, 0), (.putfield 107, 8, 10, 0), (.aload_n 0, 0, 0, 0), (.dup, 0, 0, 0), (.getfield 96, 8, 9, 0), (.iconst 1, 0, 0, 1), (.iadd, 0, 0, 0), (.putfield 96, 8, 9, 0), (.nop, 129, 0, 0)]
def bk_119_129 : List mIns := [(.iconst 1, 0, 0, 1), (.ireturn, 0, 0, 1)]
def bk_120_0 : List mIns := [(.aload_n 0, 0, 0, 0), (.aload_n 0, 0, 0, 0), (.invokevirtual 110, 117, 1, 0), (.putfield 114, 8, 11, 0), (.aload_n 0, 0, 0, 0), (.getfield 114, 8, 11, 0), (.bipush (-5), 0, 0, (-5)), (.if_icmp .ne 10, 24, 0, 0), (.aload_n 0, 0, 0, 0), (.iconst 0, 0, 0, 0), (.putfield 96, 8, 9, 0), (.iconst 0, 0, 0, 0), (.ireturn, 0, 0, 1)]
def bk_120_24 : List mIns := [(.aload_n 0, 0, 0, 0), (.invokevirtual 117, 118, 1, 0), (.ifCond .eq 10, 38, 0, 0), (.aload_n 0, 0, 0, 0), (.invokevirtual 121, 119, 1, 0), (.ifCond .ne 5, 40, 0, 0), (.nop, 38, 0, 0)]
def bk_120_38 : List mIns := [(.iconst 0, 0, 0, 0), (.ireturn, 0, 0, 1)]
def bk_120_40 : List mIns := [(.aload_n 0, 0, 0, 0), (.aload_n 0, 0, 0, 0), (.getfield 107, 8, 10, 0), (.putfield 124, 8, 12, 0), (.aload_n 0, 0, 0, 0), (.getfield 114, 8, 11, 0), (.iconst 4, 0, 0, 4), (.if_icmp .ne 20, 73, 0, 0), (.aload_n 0, 0, 0, 0), (.getfield 96, 8, 9, 0), (.aload_n 0, 0, 0, 0), (.getfield 93, 8, 7, 0), (.if_icmp .ne 7, 71, 0, 0), (.iconst 1, 0, 0, 1), (.goto 4, 72, 0, 0)]
def bk_120_71 : List mIns := [(.iconst 0, 0, 0, 0), (.nop, 72, 0, 0)]
def bk_120_72 : List mIns := [(.ireturn, 0, 0, 1)]
def bk_120_73 : List mIns := [(.aload_n 0, 0, 0, 0), (.invokevirtual 117, 118, 1, 0), (.ifCond .ne 5, 82, 0, 0), (.iconst 0, 0, 0, 0), (.ireturn, 0, 0, 1)]
def bk_120_82 : List mIns := [(.aload_n 0, 0, 0, 0), (.aload_n 0, 0, 0, 0), (.getfield 96, 8, 9, 0), (.putfield 127, 8, 13, 0), (.aload_n 0, 0, 0, 0), (.getfield 114, 8, 11, 0), (.ifCond .le 37, 131, 0, 0), (.aload_n 0, 0, 0, 0), (.invokevirtual 121, 119, 1, 0), (.ifCond .ne 5, 106, 0, 0), (.iconst 0, 0, 0, 0), (.ireturn, 0, 0, 1)]
def bk_120_106 : List mIns := [(.aload_n 0, 0, 0, 0), (.aload_n 0, 0, 0, 0), (.getfield 107, 8, 10, 0), (.putfield 127, 8, 13, 0), (.aload_n 0, 0, 0, 0), (.getfield 96, 8, 9, 0), (.aload_n 0, 0, 0, 0), (.getfield 93, 8, 7, 0), (.if_icmp .ne 7, 129, 0, 0), (.iconst 1, 0, 0, 1), (.goto 4, 130, 0, 0)]
def bk_120_129 : List mIns := [(.iconst 0, 0, 0, 0), (.nop, 130, 0, 0)]
def bk_120_130 : List mIns := [(.ireturn, 0, 0, 1)]
def bk_120_131 : List mIns := [(.aload_n 0, 0, 0, 0), (.getfield 96, 8, 9, 0), (.aload_n 0, 0, 0, 0), (.getfield 93, 8, 7, 0), (.if_icmp .ge 35, 174, 0, 0), (.aload_n 0, 0, 0, 0), (.getfield 25, 8, 8, 2), (.aload_n 0, 0, 0, 0), (.getfield 96, 8, 9, 0), (.caload, 0, 0, 0), (.bipush 97, 0, 0, 97), (.bipush 104, 0, 0, 104), (.invokestatic 32, 89, 3, 0), (.ifCond .eq 16, 174, 0, 0), (.aload_n 0, 0, 0, 0), (.dup, 0, 0, 0), (.getfield 96, 8, 9, 0), (.iconst 1, 0, 0, 1), (.iadd, 0, 0, 0), (.putfield 96, 8, 9, 0), (.goto (-40), 131, 0, 0)]
def bk_120_174 : List mIns := [(.aload_n 0, 0, 0, 0), (.getfield 96, 8, 9, 0), (.aload_n 0, 0, 0, 0), (.getfield 93, 8, 7, 0), (.if_icmp .ne 18, 200, 0, 0), (.aload_n 0, 0, 0, 0), (.getfield 96, 8, 9, 0), (.aload_n 0, 0, 0, 0), (.getfield 127, 8, 13, 0), (.if_icmp .le 7, 200, 0, 0), (.iconst 1, 0, 0, 1), (.goto 4, 201, 0, 0)]
def bk_120_200 : List mIns := [(.iconst 0, 0, 0, 0), (.nop, 201, 0, 0)]
def bk_120_201 : List mIns := [(.ireturn, 0, 0, 1)]
def bk_121_0 : List mIns := [(.aload_n 0, 0, 0, 0), (.getfield 124, 8, 12, 0), (.invokestatic 62, 90, 1, 0), (.ifCond .eq 5, 12, 0, 0), (.iconst (-1), 0, 0, (-1)), (.ireturn, 0, 0, 0)]
def bk_121_12 : List mIns := [(.aload_n 0, 0, 0, 0), (.aload_n 0, 0, 0, 0), (.getfield 124, 8, 12, 0), (.invokevirtual 66, 93, 2, 0), (.ifCond .ne 6, 26, 0, 0), (.bipush (-4), 0, 0, (-4)), (.ireturn, 0, 0, 0)]
def bk_121_26 : List mIns := [(.aload_n 0, 0, 0, 0), (.getfield 93, 8, 7, 0), (.aload_n 0, 0, 0, 0), (.getfield 127, 8, 13, 0), (.isub, 0, 0, 0), (.istore_n 1, 1, 0, 0), (.iload_n 1, 1, 0, 0), (.bipush 30, 0, 0, 30), (.if_icmp .le 6, 45, 0, 0), (.bipush (-3), 0, 0, (-3)), (.ireturn, 0, 0, 0)]
def bk_121_45 : List mIns := [(.aload_n 0, 0, 0, 0), (.invokevirtual 44, 95, 1, 0), (.aload_n 0, 0, 0, 0), (.aload_n 0, 0, 0, 0), (.getfield 124, 8, 12, 0), (.iconst 0, 0, 0, 0), (.sipush 5000, 0, 0, 5000), (.invokevirtual 77, 99, 4, 0), (.iconst 0, 0, 0, 0), (.istore_n 2, 2, 0, 0), (.nop, 63, 0, 0)]
def bk_121_63 : List mIns := [(.iload_n 2, 2, 0, 0), (.iload_n 1, 1, 0, 0), (.if_icmp .ge 57, 122, 0, 0), (.aload_n 0, 0, 0, 0), (.getfield 25, 8, 8, 2), (.aload_n 0, 0, 0, 0), (.getfield 127, 8, 13, 0), (.iload_n 2, 2, 0, 0), (.iadd, 0, 0, 0), (.caload, 0, 0, 0), (.bipush 97, 0, 0, 97), (.isub, 0, 0, 0), (.istore_n 3, 3, 0, 0), (.aload_n 0, 0, 0, 0), (.aload_n 0, 0, 0, 0), (.getfield 124, 8, 12, 0), (.iconst 1, 0, 0, 1), (.iload_n 2, 2, 0, 0), (.iadd, 0, 0, 0), (.sipush 2000, 0, 0, 2000), (.sipush 1000, 0, 0, 1000), (.iload_n 3, 3, 0, 0), (.imul, 0, 0, 0), (.iadd, 0, 0, 0), (.invokevirtual 77, 99, 4, 0), (.aload_n 0, 0, 0, 0), (.aload_n 0, 0, 0, 0), (.getfield 124, 8, 12, 0), (.bipush 68, 0, 0, 68), (.iload_n 2, 2, 0, 0), (.iadd, 0, 0, 0), (.iload_n 3, 3, 0, 0), (.invokevirtual 47, 92, 4, 0), (.iinc 2 1, 2, 0, 1), (.goto (-56), 63, 0, 0)]
def bk_121_122 : List mIns := [(.aload_n 0, 0, 0, 0), (.aload_n 0, 0, 0, 0), (.getfield 124, 8, 12, 0), (.iconst 1, 0, 0, 1), (.iload_n 1, 1, 0, 0), (.iadd, 0, 0, 0), (.sipush 5000, 0, 0, 5000), (.invokevirtual 77, 99, 4, 0), (.aload_n 0, 0, 0, 0), (.aload_n 0, 0, 0, 0), (.getfield 124, 8, 12, 0), (.iconst 0, 0, 0, 0), (.iconst 1, 0, 0, 1), (.invokevirtual 47, 92, 4, 0), (.aload_n 0, 0, 0, 0), (.aload_n 0, 0, 0, 0), (.getfield 124, 8, 12, 0), (.iconst 1, 0, 0, 1), (.iconst 1, 0, 0, 1), (.invokevirtual 47, 92, 4, 0), (.aload_n 0, 0, 0, 0), (.aload_n 0, 0, 0, 0), (.getfield 124, 8, 12, 0), (.iconst 2, 0, 0, 2), (.iload_n 1, 1, 0, 0), (.invokevirtual 47, 92, 4, 0), (.aload_n 0, 0, 0, 0), (.aload_n 0, 0, 0, 0), (.getfield 124, 8, 12, 0), (.iconst 3, 0, 0, 3), (.iconst 0, 0, 0, 0), (.invokevirtual 47, 92, 4, 0), (.aload_n 0, 0, 0, 0), (.iconst 0, 0, 0, 0), (.aload_n 0, 0, 0, 0), (.getfield 124, 8, 12, 0), (.iload_n 1, 1, 0, 0), (.invokevirtual 59, 96, 4, 0), (.iload_n 1, 1, 0, 0), (.ireturn, 0, 0, 0)]
def bk_122_0 : List mIns := [(.aload_n 0, 0, 0, 0), (.invokevirtual 130, 120, 1, 0), (.ifCond .ne 11, 15, 0, 0), (.bipush (-100), 0, 0, (-100)), (.aload_n 0, 0, 0, 0), (.getfield 96, 8, 9, 0), (.isub, 0, 0, 0), (.ireturn, 0, 0, 0)]
def bk_122_15 : List mIns := [(.aload_n 0, 0, 0, 0), (.getfield 114, 8, 11, 0), (.tableswitch 87 0 4 #[33, 38, 52, 65, 78], 19, 33, 0)]
def bk_122_52 : List mIns := [(.aload_n 0, 0, 0, 0), (.invokevirtual 133, 121, 1, 0), (.ireturn, 0, 0, 0)]
def bk_122_57 : List mIns := [(.aload_n 0, 0, 0, 0), (.aload_n 0, 0, 0, 0), (.getfield 124, 8, 12, 0), (.aload_n 0, 0, 0, 0), (.getfield 127, 8, 13, 0), (.iconst 1, 0, 0, 1), (.invokevirtual 136, 103, 4, 0), (.ireturn, 0, 0, 0)]
def bk_122_71 : List mIns := [(.aload_n 0, 0, 0, 0), (.aload_n 0, 0, 0, 0), (.getfield 124, 8, 12, 0), (.aload_n 0, 0, 0, 0), (.getfield 127, 8, 13, 0), (.invokevirtual 139, 104, 3, 0), (.ireturn, 0, 0, 0)]
def bk_122_84 : List mIns := [(.aload_n 0, 0, 0, 0), (.aload_n 0, 0, 0, 0), (.getfield 124, 8, 12, 0), (.aload_n 0, 0, 0, 0), (.getfield 127, 8, 13, 0), (.invokevirtual 142, 105, 3, 0), (.ireturn, 0, 0, 0)]
def bk_122_97 : List mIns := [(.aload_n 0, 0, 0, 0), (.aload_n 0, 0, 0, 0), (.getfield 124, 8, 12, 0), (.invokevirtual 145, 106, 2, 0), (.ireturn, 0, 0, 0)]
def bk_122_106 : List mIns := [(.aload_n 0, 0, 0, 0), (.aload_n 0, 0, 0, 0), (.getfield 124, 8, 12, 0), (.aload_n 0, 0, 0, 0), (.getfield 127, 8, 13, 0), (.invokevirtual 148, 112, 3, 0), (.ireturn, 0, 0, 0)]
def bk_123_0 : List mIns := [(.iconst 0, 0, 0, 0), (.istore_n 1, 1, 0, 0), (.iconst 0, 0, 0, 0), (.istore_n 2, 2, 0, 0), (.nop, 4, 0, 0)]
def bk_123_4 : List mIns := [(.iload_n 2, 2, 0, 0), (.bipush 6, 0, 0, 6), (.if_icmp .ge 25, 32, 0, 0), (.iload_n 1, 1, 0, 0), (.aload_n 0, 0, 0, 0), (.iload_n 2, 2, 0, 0), (.invokevirtual 66, 93, 2, 0), (.ifCond .eq 7, 23, 0, 0), (.iconst 0, 0, 0, 0), (.goto 4, 24, 0, 0)]
def bk_123_23 : List mIns := [(.iconst 1, 0, 0, 1), (.nop, 24, 0, 0)]
def bk_123_24 : List mIns := [(.iadd, 0, 0, 0), (.istore_n 1, 1, 0, 0), (.iinc 2 1, 2, 0, 1), (.goto (-25), 4, 0, 0)]
def bk_123_32 : List mIns := [(.iload_n 1, 1, 0, 0), (.ireturn, 0, 0, 0)]
def bk_124_0 : List mIns := [(.aload_n 0, 0, 0, 0), (.getfield 40, 8, 2, 0), (.ifCond .ne 6, 10, 0, 0), (.bipush (-5), 0, 0, (-5)), (.ireturn, 0, 0, 0)]
def bk_124_10 : List mIns := [(.aload_n 0, 0, 0, 0), (.dup, 0, 0, 0), (.getfield 40, 8, 2, 0), (.iconst 1, 0, 0, 1), (.isub, 0, 0, 0), (.putfield 40, 8, 2, 0), (.iconst 0, 0, 0, 0), (.istore_n 1, 1, 0, 0), (.nop, 22, 0, 0)]
def bk_124_22 : List mIns := [(.iload_n 1, 1, 0, 0), (.sipush 626, 0, 0, 626), (.if_icmp .ge 30, 56, 0, 0), (.aload_n 0, 0, 0, 0), (.getfield 7, 8, 0, 2), (.iload_n 1, 1, 0, 0), (.aload_n 0, 0, 0, 0), (.getfield 13, 8, 1, 2), (.sipush 626, 0, 0, 626), (.aload_n 0, 0, 0, 0), (.getfield 40, 8, 2, 0), (.imul, 0, 0, 0), (.iload_n 1, 1, 0, 0), (.iadd, 0, 0, 0), (.iaload, 0, 0, 0), (.iastore, 0, 0, 0), (.iinc 1 1, 1, 0, 1), (.goto (-31), 22, 0, 0)]
def bk_124_56 : List mIns := [(.aload_n 0, 0, 0, 0), (.getfield 40, 8, 2, 0), (.ireturn, 0, 0, 0)]
def bk_125_0 : List mIns := [(.iconst 0, 0, 0, 0), (.istore_n 1, 1, 0, 0), (.nop, 2, 0, 0)]
def bk_125_2 : List mIns := [(.iload_n 1, 1, 0, 0), (.sipush 626, 0, 0, 626), (.if_icmp .ge 21, 27, 0, 0), (.aload_n 0, 0, 0, 0), (.getfield 16, 8, 3, 2), (.iload_n 1, 1, 0, 0), (.aload_n 0, 0, 0, 0), (.getfield 7, 8, 0, 2), (.iload_n 1, 1, 0, 0), (.iaload, 0, 0, 0), (.iastore, 0, 0, 0), (.iinc 1 1, 1, 0, 1), (.goto (-22), 2, 0, 0)]
def bk_125_27 : List mIns := [(.aload_n 0, 0, 0, 0), (.iconst 1, 0, 0, 1), (.putfield 151, 8, 4, 1), (.aload_n 0, 0, 0, 0), (.invokevirtual 155, 123, 1, 0), (.ireturn, 0, 0, 0)]
def bk_126_0 : List mIns := [(.aload_n 0, 0, 0, 0), (.getfield 151, 8, 4, 1), (.ifCond .ne 6, 10, 0, 0), (.bipush (-5), 0, 0, (-5)), (.ireturn, 0, 0, 0)]
def bk_126_10 : List mIns := [(.aload_n 0, 0, 0, 0), (.invokevirtual 44, 95, 1, 0), (.iconst 0, 0, 0, 0), (.istore_n 1, 1, 0, 0), (.nop, 16, 0, 0)]
def bk_126_16 : List mIns := [(.iload_n 1, 1, 0, 0), (.sipush 626, 0, 0, 626), (.if_icmp .ge 21, 41, 0, 0), (.aload_n 0, 0, 0, 0), (.getfield 7, 8, 0, 2), (.iload_n 1, 1, 0, 0), (.aload_n 0, 0, 0, 0), (.getfield 16, 8, 3, 2), (.iload_n 1, 1, 0, 0), (.iaload, 0, 0, 0), (.iastore, 0, 0, 0), (.iinc 1 1, 1, 0, 1), (.goto (-22), 16, 0, 0)]
def bk_126_41 : List mIns := [(.aload_n 0, 0, 0, 0), (.invokevirtual 155, 123, 1, 0), (.ireturn, 0, 0, 0)]
def bk_127_0 : List mIns := [(.aload_n 0, 0, 0, 0), (.iload_n 1, 1, 0, 0), (.iconst 4, 0, 0, 4), (.iload_n 2, 2, 0, 0), (.iadd, 0, 0, 0), (.invokevirtual 36, 91, 3, 0), (.sipush 1000, 0, 0, 1000), (.imul, 0, 0, 0), (.aload_n 0, 0, 0, 0), (.iload_n 1, 1, 0, 0), (.bipush 36, 0, 0, 36), (.iload_n 2, 2, 0, 0), (.iadd, 0, 0, 0), (.invokevirtual 36, 91, 3, 0), (.idiv, 0, 0, 0), (.ireturn, 0, 0, 0)]
def bk_128_0 : List mIns := [(.iconst 0, 0, 0, 0), (.istore_n 2, 2, 0, 0), (.iconst 1, 0, 0, 1), (.istore_n 3, 3, 0, 0), (.nop, 4, 0, 0)]
def bk_128_4 : List mIns := [(.iload_n 3, 3, 0, 0), (.aload_n 0, 0, 0, 0), (.iload_n 1, 1, 0, 0), (.invokevirtual 51, 94, 2, 0), (.if_icmp .ge 30, 40, 0, 0), (.aload_n 0, 0, 0, 0), (.iload_n 1, 1, 0, 0), (.iload_n 3, 3, 0, 0), (.invokevirtual 158, 127, 3, 0), (.aload_n 0, 0, 0, 0), (.iload_n 1, 1, 0, 0), (.iload_n 2, 2, 0, 0), (.invokevirtual 158, 127, 3, 0), (.if_icmp .le 7, 32, 0, 0), (.iload_n 3, 3, 0, 0), (.goto 4, 33, 0, 0)]
def bk_128_32 : List mIns := [(.iload_n 2, 2, 0, 0), (.nop, 33, 0, 0)]
def bk_128_33 : List mIns := [(.istore_n 2, 2, 0, 0), (.iinc 3 1, 3, 0, 1), (.goto (-33), 4, 0, 0)]
def bk_128_40 : List mIns := [(.iload_n 2, 2, 0, 0), (.ireturn, 0, 0, 0)]
def bk_129_0 : List mIns := [(.iconst 0, 0, 0, 0), (.istore_n 3, 3, 0, 0), (.iconst 0, 0, 0, 0), (.istore 4, 4, 0, 0), (.nop, 5, 0, 0)]
def bk_129_5 : List mIns := [(.iload 4, 4, 0, 0), (.aload_n 0, 0, 0, 0), (.iload_n 1, 1, 0, 0), (.invokevirtual 51, 94, 2, 0), (.if_icmp .ge 21, 33, 0, 0), (.iload_n 3, 3, 0, 0), (.aload_n 0, 0, 0, 0), (.iload_n 1, 1, 0, 0), (.iload_n 2, 2, 0, 0), (.iload 4, 4, 0, 0), (.iadd, 0, 0, 0), (.invokevirtual 36, 91, 3, 0), (.iadd, 0, 0, 0), (.istore_n 3, 3, 0, 0), (.iinc 4 1, 4, 0, 1), (.goto (-25), 5, 0, 0)]
def bk_129_33 : List mIns := [(.iload_n 3, 3, 0, 0), (.ireturn, 0, 0, 0)]
def bk_130_0 : List mIns := [(.iload_n 1, 1, 0, 0), (.invokestatic 62, 90, 1, 0), (.ifCond .eq 5, 9, 0, 0), (.iconst (-1), 0, 0, (-1)), (.ireturn, 0, 0, 0)]
def bk_130_9 : List mIns := [(.iload_n 2, 2, 0, 0), (.iconst 0, 0, 0, 0), (.bipush 6, 0, 0, 6), (.invokestatic 32, 89, 3, 0), (.ifCond .ne 6, 22, 0, 0), (.bipush (-2), 0, 0, (-2)), (.ireturn, 0, 0, 0)]
def bk_130_22 : List mIns := [(.aload_n 0, 0, 0, 0), (.iload_n 1, 1, 0, 0), (.invokevirtual 66, 93, 2, 0), (.ifCond .eq 6, 33, 0, 0), (.bipush (-4), 0, 0, (-4)), (.ireturn, 0, 0, 0)]
def bk_130_33 : List mIns := [(.iload_n 2, 2, 0, 0), (.tableswitch 80 0 5 #[38, 45, 52, 59, 67, 74], 34, 38, 0)]
def bk_130_72 : List mIns := [(.aload_n 0, 0, 0, 0), (.iload_n 1, 1, 0, 0), (.iconst 2, 0, 0, 2), (.invokevirtual 36, 91, 3, 0), (.ireturn, 0, 0, 0)]
def bk_130_79 : List mIns := [(.aload_n 0, 0, 0, 0), (.iload_n 1, 1, 0, 0), (.iconst 1, 0, 0, 1), (.invokevirtual 36, 91, 3, 0), (.ireturn, 0, 0, 0)]
def bk_130_86 : List mIns := [(.aload_n 0, 0, 0, 0), (.iload_n 1, 1, 0, 0), (.iconst 4, 0, 0, 4), (.invokevirtual 161, 129, 3, 0), (.ireturn, 0, 0, 0)]
def bk_130_93 : List mIns := [(.aload_n 0, 0, 0, 0), (.iload_n 1, 1, 0, 0), (.bipush 36, 0, 0, 36), (.invokevirtual 161, 129, 3, 0), (.ireturn, 0, 0, 0)]
def bk_130_101 : List mIns := [(.aload_n 0, 0, 0, 0), (.iload_n 1, 1, 0, 0), (.iconst 3, 0, 0, 3), (.invokevirtual 36, 91, 3, 0), (.ireturn, 0, 0, 0)]
def bk_130_108 : List mIns := [(.aload_n 0, 0, 0, 0), (.iload_n 1, 1, 0, 0), (.invokevirtual 164, 128, 2, 0), (.ireturn, 0, 0, 0)]
def bk_130_114 : List mIns := [(.aload_n 0, 0, 0, 0), (.iload_n 1, 1, 0, 0), (.aload_n 0, 0, 0, 0), (.iload_n 1, 1, 0, 0), (.invokevirtual 164, 128, 2, 0), (.invokevirtual 158, 127, 3, 0), (.ireturn, 0, 0, 0)]
def bk_131_0 : List mIns := [(.iload_n 1, 1, 0, 0), (.invokestatic 62, 90, 1, 0), (.ifCond .ne 26, 30, 0, 0), (.aload_n 0, 0, 0, 0), (.iload_n 1, 1, 0, 0), (.invokevirtual 66, 93, 2, 0), (.ifCond .ne 18, 30, 0, 0), (.iload_n 2, 2, 0, 0), (.iconst 0, 0, 0, 0), (.aload_n 0, 0, 0, 0), (.iload_n 1, 1, 0, 0), (.invokevirtual 51, 94, 2, 0), (.iconst 1, 0, 0, 1), (.isub, 0, 0, 0), (.invokestatic 32, 89, 3, 0), (.ifCond .ne 5, 32, 0, 0), (.nop, 30, 0, 0)]
def bk_131_30 : List mIns := [(.iconst (-1), 0, 0, (-1)), (.ireturn, 0, 0, 0)]
def bk_131_32 : List mIns := [(.iload_n 3, 3, 0, 0), (.tableswitch 93 0 3 #[31, 40, 50, 84], 33, 31, 0)]
def bk_131_64 : List mIns := [(.aload_n 0, 0, 0, 0), (.iload_n 1, 1, 0, 0), (.iconst 4, 0, 0, 4), (.iload_n 2, 2, 0, 0), (.iadd, 0, 0, 0), (.invokevirtual 36, 91, 3, 0), (.ireturn, 0, 0, 0)]
def bk_131_73 : List mIns := [(.aload_n 0, 0, 0, 0), (.iload_n 1, 1, 0, 0), (.bipush 36, 0, 0, 36), (.iload_n 2, 2, 0, 0), (.iadd, 0, 0, 0), (.invokevirtual 36, 91, 3, 0), (.ireturn, 0, 0, 0)]
def bk_131_83 : List mIns := [(.iload_n 2, 2, 0, 0), (.iconst 1, 0, 0, 1), (.aload_n 0, 0, 0, 0), (.iload_n 1, 1, 0, 0), (.iconst 2, 0, 0, 2), (.invokevirtual 36, 91, 3, 0), (.invokestatic 32, 89, 3, 0), (.ifCond .eq 20, 114, 0, 0), (.bipush 97, 0, 0, 97), (.aload_n 0, 0, 0, 0), (.iload_n 1, 1, 0, 0), (.bipush 68, 0, 0, 68), (.iload_n 2, 2, 0, 0), (.iadd, 0, 0, 0), (.iconst 1, 0, 0, 1), (.isub, 0, 0, 0), (.invokevirtual 36, 91, 3, 0), (.iadd, 0, 0, 0), (.goto 5, 116, 0, 0)]
def bk_131_114 : List mIns := [(.bipush (-5), 0, 0, (-5)), (.nop, 116, 0, 0)]
def bk_131_116 : List mIns := [(.ireturn, 0, 0, 0)]
def bk_131_117 : List mIns := [(.aload_n 0, 0, 0, 0), (.iload_n 1, 1, 0, 0), (.iload_n 2, 2, 0, 0), (.bipush 9, 0, 0, 9), (.invokevirtual 55, 101, 4, 0), (.ireturn, 0, 0, 0)]
def bk_131_126 : List mIns := [(.bipush (-2), 0, 0, (-2)), (.ireturn, 0, 0, 0)]
def bk_132_0 : List mIns := [(.iload_n 1, 1, 0, 0), (.invokestatic 62, 90, 1, 0), (.ifCond .ne 27, 31, 0, 0), (.aload_n 0, 0, 0, 0), (.iload_n 1, 1, 0, 0), (.invokevirtual 66, 93, 2, 0), (.ifCond .ne 19, 31, 0, 0), (.iload_n 3, 3, 0, 0), (.iconst 0, 0, 0, 0), (.aload_n 0, 0, 0, 0), (.iload_n 1, 1, 0, 0), (.iconst 2, 0, 0, 2), (.invokevirtual 36, 91, 3, 0), (.iconst 1, 0, 0, 1), (.isub, 0, 0, 0), (.invokestatic 32, 89, 3, 0), (.ifCond .ne 5, 33, 0, 0), (.nop, 31, 0, 0)]
def bk_132_31 : List mIns := [(.iconst (-1), 0, 0, (-1)), (.ireturn, 0, 0, 0)]
def bk_132_33 : List mIns := [(.iload_n 2, 2, 0, 0), (.iconst 0, 0, 0, 0), (.iconst 2, 0, 0, 2), (.invokestatic 32, 89, 3, 0), (.ifCond .ne 6, 45, 0, 0), (.bipush (-2), 0, 0, (-2)), (.ireturn, 0, 0, 0)]
def bk_132_45 : List mIns := [(.aload_n 0, 0, 0, 0), (.iload_n 1, 1, 0, 0), (.iload_n 2, 2, 0, 0), (.invokevirtual 90, 109, 3, 0), (.ifCond .eq 6, 57, 0, 0), (.bipush (-4), 0, 0, (-4)), (.ireturn, 0, 0, 0)]
def bk_132_57 : List mIns := [(.aload_n 0, 0, 0, 0), (.iload_n 1, 1, 0, 0), (.iload_n 2, 2, 0, 0), (.invokevirtual 83, 108, 3, 0), (.aload_n 0, 0, 0, 0), (.getfield 22, 8, 6, 2), (.iload_n 3, 3, 0, 0), (.iaload, 0, 0, 0), (.bipush (-5), 0, 0, (-5)), (.if_icmp .ne 8, 79, 0, 0), (.bipush 63, 0, 0, 63), (.goto 12, 88, 0, 0)]
def bk_132_79 : List mIns := [(.bipush 97, 0, 0, 97), (.aload_n 0, 0, 0, 0), (.getfield 22, 8, 6, 2), (.iload_n 3, 3, 0, 0), (.iaload, 0, 0, 0), (.iadd, 0, 0, 0), (.nop, 88, 0, 0)]
def bk_132_88 : List mIns := [(.ireturn, 0, 0, 0)]
def bk_133_0 : List mIns := [(.iload_n 1, 1, 0, 0), (.invokestatic 62, 90, 1, 0), (.ifCond .eq 5, 9, 0, 0), (.iconst (-1), 0, 0, (-1)), (.ireturn, 0, 0, 0)]
def bk_133_9 : List mIns := [(.iload_n 2, 2, 0, 0), (.iconst 0, 0, 0, 0), (.iconst 2, 0, 0, 2), (.invokestatic 32, 89, 3, 0), (.ifCond .eq 12, 27, 0, 0), (.iload_n 3, 3, 0, 0), (.iconst 0, 0, 0, 0), (.iconst 2, 0, 0, 2), (.invokestatic 32, 89, 3, 0), (.ifCond .ne 6, 30, 0, 0), (.nop, 27, 0, 0)]
def bk_133_27 : List mIns := [(.bipush (-2), 0, 0, (-2)), (.ireturn, 0, 0, 0)]
def bk_133_30 : List mIns := [(.aload_n 0, 0, 0, 0), (.iload_n 1, 1, 0, 0), (.invokevirtual 66, 93, 2, 0), (.ifCond .ne 12, 47, 0, 0), (.aload_n 0, 0, 0, 0), (.iload_n 1, 1, 0, 0), (.iload_n 2, 2, 0, 0), (.invokevirtual 90, 109, 3, 0), (.ifCond .eq 6, 50, 0, 0), (.nop, 47, 0, 0)]
def bk_133_47 : List mIns := [(.bipush (-4), 0, 0, (-4)), (.ireturn, 0, 0, 0)]
def bk_133_50 : List mIns := [(.aload_n 0, 0, 0, 0), (.iload_n 1, 1, 0, 0), (.iload_n 2, 2, 0, 0), (.invokevirtual 83, 108, 3, 0), (.aload_n 0, 0, 0, 0), (.iload_n 1, 1, 0, 0), (.iload_n 3, 3, 0, 0), (.invokevirtual 87, 110, 3, 0), (.ireturn, 0, 0, 0)]
def bk_134_0 : List mIns := [(.iload_n 1, 1, 0, 0), (.invokestatic 62, 90, 1, 0), (.ifCond .eq 5, 9, 0, 0), (.iconst (-1), 0, 0, (-1)), (.ireturn, 0, 0, 0)]
def bk_134_9 : List mIns := [(.aload_n 0, 0, 0, 0), (.iload_n 1, 1, 0, 0), (.invokevirtual 66, 93, 2, 0), (.ifCond .eq 6, 20, 0, 0), (.bipush (-4), 0, 0, (-4)), (.ireturn, 0, 0, 0)]
def bk_134_20 : List mIns := [(.iconst 0, 0, 0, 0), (.istore_n 2, 2, 0, 0), (.aload_n 0, 0, 0, 0), (.iload_n 1, 1, 0, 0), (.iconst 0, 0, 0, 0), (.invokevirtual 167, 111, 3, 0), (.istore_n 3, 3, 0, 0), (.iconst 1, 0, 0, 1), (.istore 4, 4, 0, 0), (.nop, 32, 0, 0)]
def bk_134_32 : List mIns := [(.iload 4, 4, 0, 0), (.iconst 2, 0, 0, 2), (.aload_n 0, 0, 0, 0), (.iload_n 1, 1, 0, 0), (.iconst 1, 0, 0, 1), (.invokevirtual 36, 91, 3, 0), (.iadd, 0, 0, 0), (.if_icmp .ge 30, 72, 0, 0), (.aload_n 0, 0, 0, 0), (.iload_n 1, 1, 0, 0), (.iload 4, 4, 0, 0), (.invokevirtual 167, 111, 3, 0), (.istore 5, 5, 0, 0), (.iload 5, 5, 0, 0), (.iload_n 3, 3, 0, 0), (.if_icmp .ge 9, 66, 0, 0), (.iload 4, 4, 0, 0), (.istore_n 2, 2, 0, 0), (.iload 5, 5, 0, 0), (.istore_n 3, 3, 0, 0), (.nop, 66, 0, 0)]
def bk_134_66 : List mIns := [(.iinc 4 1, 4, 0, 1), (.goto (-37), 32, 0, 0)]
def bk_134_72 : List mIns := [(.iload_n 2, 2, 0, 0), (.ireturn, 0, 0, 0)]
def bk_135_0 : List mIns := [(.iconst 0, 0, 0, 0), (.istore_n 1, 1, 0, 0), (.nop, 2, 0, 0)]
def bk_135_2 : List mIns := [(.iload_n 1, 1, 0, 0), (.sipush 626, 0, 0, 626), (.if_icmp .ge 21, 27, 0, 0), (.aload_n 0, 0, 0, 0), (.getfield 19, 8, 5, 2), (.iload_n 1, 1, 0, 0), (.aload_n 0, 0, 0, 0), (.getfield 7, 8, 0, 2), (.iload_n 1, 1, 0, 0), (.iaload, 0, 0, 0), (.iastore, 0, 0, 0), (.iinc 1 1, 1, 0, 1), (.goto (-22), 2, 0, 0)]
def bk_135_27 : List mIns := [(.return_, 0, 0, 0)]
def bk_136_0 : List mIns := [(.iconst 0, 0, 0, 0), (.istore_n 1, 1, 0, 0), (.nop, 2, 0, 0)]
def bk_136_2 : List mIns := [(.iload_n 1, 1, 0, 0), (.sipush 626, 0, 0, 626), (.if_icmp .ge 21, 27, 0, 0), (.aload_n 0, 0, 0, 0), (.getfield 7, 8, 0, 2), (.iload_n 1, 1, 0, 0), (.aload_n 0, 0, 0, 0), (.getfield 19, 8, 5, 2), (.iload_n 1, 1, 0, 0), (.iaload, 0, 0, 0), (.iastore, 0, 0, 0), (.iinc 1 1, 1, 0, 1), (.goto (-22), 2, 0, 0)]
def bk_136_27 : List mIns := [(.return_, 0, 0, 0)]
def bk_137_0 : List mIns := [(.iload_n 1, 1, 0, 0), (.invokestatic 62, 90, 1, 0), (.ifCond .eq 5, 9, 0, 0), (.iconst (-1), 0, 0, (-1)), (.ireturn, 0, 0, 0)]
def bk_137_9 : List mIns := [(.iload_n 2, 2, 0, 0), (.iconst 0, 0, 0, 0), (.iconst 1, 0, 0, 1), (.invokestatic 32, 89, 3, 0), (.ifCond .eq 24, 39, 0, 0), (.iload_n 3, 3, 0, 0), (.iconst 0, 0, 0, 0), (.bipush 9, 0, 0, 9), (.invokestatic 32, 89, 3, 0), (.ifCond .eq 14, 39, 0, 0), (.iload 4, 4, 0, 0), (.iconst 0, 0, 0, 0), (.bipush 30, 0, 0, 30), (.invokestatic 32, 89, 3, 0), (.ifCond .ne 6, 42, 0, 0), (.nop, 39, 0, 0)]
def bk_137_39 : List mIns := [(.bipush (-2), 0, 0, (-2)), (.ireturn, 0, 0, 0)]
def bk_137_42 : List mIns := [(.aload_n 0, 0, 0, 0), (.iload_n 1, 1, 0, 0), (.invokevirtual 66, 93, 2, 0), (.ifCond .eq 8, 55, 0, 0), (.bipush (-4), 0, 0, (-4)), (.goto 4, 56, 0, 0)]
def bk_137_55 : List mIns := [(.iconst 0, 0, 0, 0), (.nop, 56, 0, 0)]
def bk_137_56 : List mIns := [(.ireturn, 0, 0, 0)]
def bk_138_0 : List mIns := [(.aload_n 0, 0, 0, 0), (.iload_n 1, 1, 0, 0), (.iload_n 2, 2, 0, 0), (.iload_n 3, 3, 0, 0), (.iload 4, 4, 0, 0), (.invokevirtual 170, 137, 5, 0), (.istore 5, 5, 0, 0), (.iload 5, 5, 0, 0), (.ifCond .eq 6, 19, 0, 0), (.iload 5, 5, 0, 0), (.ireturn, 0, 0, 0)]
def bk_138_19 : List mIns := [(.aload_n 0, 0, 0, 0), (.invokevirtual 174, 135, 1, 0), (.aload_n 0, 0, 0, 0), (.iload_n 1, 1, 0, 0), (.iconst 2, 0, 0, 2), (.invokevirtual 36, 91, 3, 0), (.istore 6, 6, 0, 0), (.iconst 0, 0, 0, 0), (.istore 7, 7, 0, 0), (.iconst 0, 0, 0, 0), (.istore 8, 8, 0, 0), (.nop, 37, 0, 0)]
def bk_138_37 : List mIns := [(.iload 8, 8, 0, 0), (.iload 4, 4, 0, 0), (.if_icmp .ge 22, 63, 0, 0), (.iload 7, 7, 0, 0), (.ifCond .ne 17, 63, 0, 0), (.aload_n 0, 0, 0, 0), (.iload_n 1, 1, 0, 0), (.iload_n 3, 3, 0, 0), (.invokevirtual 69, 102, 3, 0), (.istore 7, 7, 0, 0), (.iinc 8 1, 8, 0, 1), (.goto (-23), 37, 0, 0)]
def bk_138_63 : List mIns := [(.iload 6, 6, 0, 0), (.aload_n 0, 0, 0, 0), (.iload_n 1, 1, 0, 0), (.iconst 2, 0, 0, 2), (.invokevirtual 36, 91, 3, 0), (.isub, 0, 0, 0), (.aload_n 0, 0, 0, 0), (.iload_n 1, 1, 0, 0), (.iload_n 2, 2, 0, 0), (.invokevirtual 167, 111, 3, 0), (.iadd, 0, 0, 0), (.istore 8, 8, 0, 0), (.aload_n 0, 0, 0, 0), (.invokevirtual 177, 136, 1, 0), (.iload 8, 8, 0, 0), (.ireturn, 0, 0, 0)]
def bk_139_0 : List mIns := [(.aload_n 0, 0, 0, 0), (.iload_n 1, 1, 0, 0), (.iload_n 2, 2, 0, 0), (.invokevirtual 83, 108, 3, 0), (.iconst 0, 0, 0, 0), (.istore_n 3, 3, 0, 0), (.nop, 8, 0, 0)]
def bk_139_8 : List mIns := [(.iload_n 3, 3, 0, 0), (.aload_n 0, 0, 0, 0), (.iload_n 1, 1, 0, 0), (.iconst 2, 0, 0, 2), (.invokevirtual 36, 91, 3, 0), (.if_icmp .ge 26, 41, 0, 0), (.aload_n 0, 0, 0, 0), (.getfield 22, 8, 6, 2), (.iload_n 3, 3, 0, 0), (.iaload, 0, 0, 0), (.aload_n 0, 0, 0, 0), (.getfield 29, 8, 14, 2), (.iload_n 3, 3, 0, 0), (.iaload, 0, 0, 0), (.if_icmp .eq 5, 35, 0, 0), (.iconst 0, 0, 0, 0), (.ireturn, 0, 0, 1)]
def bk_139_35 : List mIns := [(.iinc 3 1, 3, 0, 1), (.goto (-30), 8, 0, 0)]
def bk_139_41 : List mIns := [(.iconst 1, 0, 0, 1), (.ireturn, 0, 0, 1)]
def bk_140_0 : List mIns := [(.aload_n 0, 0, 0, 0), (.iload_n 1, 1, 0, 0), (.iload_n 2, 2, 0, 0), (.iload_n 3, 3, 0, 0), (.iconst 0, 0, 0, 0), (.invokevirtual 170, 137, 5, 0), (.istore 4, 4, 0, 0), (.iload 4, 4, 0, 0), (.ifCond .eq 6, 18, 0, 0), (.iload 4, 4, 0, 0), (.ireturn, 0, 0, 0)]
def bk_140_18 : List mIns := [(.aload_n 0, 0, 0, 0), (.iload_n 1, 1, 0, 0), (.iload_n 2, 2, 0, 0), (.invokevirtual 83, 108, 3, 0), (.iconst 0, 0, 0, 0), (.istore 5, 5, 0, 0), (.nop, 27, 0, 0)]
def bk_140_27 : List mIns := [(.iload 5, 5, 0, 0), (.bipush 30, 0, 0, 30), (.if_icmp .ge 23, 54, 0, 0), (.aload_n 0, 0, 0, 0), (.getfield 29, 8, 14, 2), (.iload 5, 5, 0, 0), (.aload_n 0, 0, 0, 0), (.getfield 22, 8, 6, 2), (.iload 5, 5, 0, 0), (.iaload, 0, 0, 0), (.iastore, 0, 0, 0), (.iinc 5 1, 5, 0, 1), (.goto (-24), 27, 0, 0)]
def bk_140_54 : List mIns := [(.aload_n 0, 0, 0, 0), (.invokevirtual 174, 135, 1, 0), (.iconst 0, 0, 0, 0), (.istore 5, 5, 0, 0), (.nop, 61, 0, 0)]
def bk_140_61 : List mIns := [(.iload 5, 5, 0, 0), (.bipush 30, 0, 0, 30), (.if_icmp .ge 27, 92, 0, 0), (.aload_n 0, 0, 0, 0), (.iload_n 1, 1, 0, 0), (.iload_n 3, 3, 0, 0), (.invokevirtual 69, 102, 3, 0), (.ifCond .ne 18, 92, 0, 0), (.aload_n 0, 0, 0, 0), (.iload_n 1, 1, 0, 0), (.iload_n 2, 2, 0, 0), (.invokevirtual 180, 139, 3, 0), (.ifCond .eq 9, 92, 0, 0), (.iinc 5 1, 5, 0, 1), (.goto (-28), 61, 0, 0)]
def bk_140_92 : List mIns := [(.aload_n 0, 0, 0, 0), (.invokevirtual 177, 136, 1, 0), (.iload 5, 5, 0, 0), (.ireturn, 0, 0, 0)]
def bk_141_0 : List mIns := [(.iload_n 1, 1, 0, 0), (.ifCond .lt 12, 13, 0, 0), (.iload_n 2, 2, 0, 0), (.iconst 0, 0, 0, 0), (.iconst 2, 0, 0, 2), (.invokestatic 32, 89, 3, 0), (.ifCond .ne 6, 16, 0, 0), (.nop, 13, 0, 0)]
def bk_141_13 : List mIns := [(.bipush (-2), 0, 0, (-2)), (.ireturn, 0, 0, 0)]
def bk_141_16 : List mIns := [(.iload_n 1, 1, 0, 0), (.aload_n 0, 0, 0, 0), (.getfield 7, 8, 0, 2), (.sipush 595, 0, 0, 595), (.iaload, 0, 0, 0), (.if_icmp .ge 31, 56, 0, 0), (.aload_n 0, 0, 0, 0), (.getfield 7, 8, 0, 2), (.sipush 596, 0, 0, 596), (.iconst 3, 0, 0, 3), (.aload_n 0, 0, 0, 0), (.getfield 7, 8, 0, 2), (.sipush 595, 0, 0, 595), (.iaload, 0, 0, 0), (.iconst 1, 0, 0, 1), (.isub, 0, 0, 0), (.iload_n 1, 1, 0, 0), (.isub, 0, 0, 0), (.imul, 0, 0, 0), (.iadd, 0, 0, 0), (.iload_n 2, 2, 0, 0), (.iadd, 0, 0, 0), (.iaload, 0, 0, 0), (.goto 5, 58, 0, 0)]
def bk_141_56 : List mIns := [(.bipush (-5), 0, 0, (-5)), (.nop, 58, 0, 0)]
def bk_141_58 : List mIns := [(.ireturn, 0, 0, 0)]
def bk_142_0 : List mIns := [(.iconst 0, 0, 0, 0), (.istore_n 1, 1, 0, 0), (.iconst 0, 0, 0, 0), (.istore_n 2, 2, 0, 0), (.nop, 4, 0, 0)]
def bk_142_4 : List mIns := [(.iload_n 2, 2, 0, 0), (.bipush 6, 0, 0, 6), (.if_icmp .ge 30, 37, 0, 0), (.iload_n 1, 1, 0, 0), (.aload_n 0, 0, 0, 0), (.iload_n 2, 2, 0, 0), (.invokevirtual 66, 93, 2, 0), (.ifCond .eq 7, 23, 0, 0), (.iconst 0, 0, 0, 0), (.goto 9, 29, 0, 0)]
def bk_142_23 : List mIns := [(.aload_n 0, 0, 0, 0), (.iload_n 2, 2, 0, 0), (.iconst 2, 0, 0, 2), (.invokevirtual 36, 91, 3, 0), (.nop, 29, 0, 0)]
def bk_142_29 : List mIns := [(.iadd, 0, 0, 0), (.istore_n 1, 1, 0, 0), (.iinc 2 1, 2, 0, 1), (.goto (-30), 4, 0, 0)]
def bk_142_37 : List mIns := [(.iload_n 1, 1, 0, 0), (.ireturn, 0, 0, 0)]
def bk_143_0 : List mIns := [(.iload_n 1, 1, 0, 0), (.tableswitch 142 0 10 #[59, 64, 69, 78, 87, 96, 105, 114, 123, 132, 137], 1, 59, 0)]
def bk_143_60 : List mIns := [(.aload_n 0, 0, 0, 0), (.invokevirtual 155, 123, 1, 0), (.ireturn, 0, 0, 0)]
def bk_143_65 : List mIns := [(.aload_n 0, 0, 0, 0), (.invokevirtual 183, 142, 1, 0), (.ireturn, 0, 0, 0)]
def bk_143_70 : List mIns := [(.aload_n 0, 0, 0, 0), (.getfield 7, 8, 0, 2), (.sipush 590, 0, 0, 590), (.iaload, 0, 0, 0), (.ireturn, 0, 0, 0)]
def bk_143_79 : List mIns := [(.aload_n 0, 0, 0, 0), (.getfield 7, 8, 0, 2), (.sipush 591, 0, 0, 591), (.iaload, 0, 0, 0), (.ireturn, 0, 0, 0)]
def bk_143_88 : List mIns := [(.aload_n 0, 0, 0, 0), (.getfield 7, 8, 0, 2), (.sipush 592, 0, 0, 592), (.iaload, 0, 0, 0), (.ireturn, 0, 0, 0)]
def bk_143_97 : List mIns := [(.aload_n 0, 0, 0, 0), (.getfield 7, 8, 0, 2), (.sipush 593, 0, 0, 593), (.iaload, 0, 0, 0), (.ireturn, 0, 0, 0)]
def bk_143_106 : List mIns := [(.aload_n 0, 0, 0, 0), (.getfield 7, 8, 0, 2), (.sipush 594, 0, 0, 594), (.iaload, 0, 0, 0), (.ireturn, 0, 0, 0)]
def bk_143_115 : List mIns := [(.aload_n 0, 0, 0, 0), (.getfield 7, 8, 0, 2), (.sipush 588, 0, 0, 588), (.iaload, 0, 0, 0), (.ireturn, 0, 0, 0)]
def bk_143_124 : List mIns := [(.aload_n 0, 0, 0, 0), (.getfield 7, 8, 0, 2), (.sipush 589, 0, 0, 589), (.iaload, 0, 0, 0), (.ireturn, 0, 0, 0)]
def bk_143_133 : List mIns := [(.aload_n 0, 0, 0, 0), (.getfield 40, 8, 2, 0), (.ireturn, 0, 0, 0)]
def bk_143_138 : List mIns := [(.aload_n 0, 0, 0, 0), (.getfield 93, 8, 7, 0), (.ireturn, 0, 0, 0)]
def bk_143_143 : List mIns := [(.bipush (-2), 0, 0, (-2)), (.ireturn, 0, 0, 0)]
def bk_144_0 : List mIns := [(.aload_n 0, 0, 0, 0), (.getfield 9, 0, 0, 4), (.arraylength, 0, 0, 2), (.aload_n 0, 0, 0, 0), (.invokevirtual 335, 146, 1, 0), (.ishr, 0, 0, 0), (.ireturn, 0, 0, 0)]
def bk_145_0 : List mIns := [(.aload_n 0, 0, 0, 0), (.invokevirtual 492, 147, 1, 0), (.ifCond .eq 12, 16, 0, 0), (.aload_n 0, 0, 0, 0), (.getfield 9, 0, 0, 4), (.iload_n 1, 1, 0, 0), (.invokestatic 495, 149, 2, 0), (.ireturn, 0, 0, 3)]
def bk_145_16 : List mIns := [(.aload_n 0, 0, 0, 0), (.getfield 9, 0, 0, 4), (.iload_n 1, 1, 0, 0), (.invokestatic 498, 0, 0, 7), (.ireturn, 0, 0, 3)]
def bk_146_0 : List mIns := [(.getstatic 38, 0, 0, 0), (.ifCond .eq 10, 13, 0, 0), (.aload_n 0, 0, 0, 0), (.getfield 15, 0, 0, 5), (.goto 4, 14, 0, 0)]
def bk_146_13 : List mIns := [(.iconst 1, 0, 0, 1), (.nop, 14, 0, 0)]
def bk_146_14 : List mIns := [(.ireturn, 0, 0, 2)]
def bk_147_0 : List mIns := [(.getstatic 38, 0, 0, 0), (.ifCond .eq 14, 17, 0, 0), (.aload_n 0, 0, 0, 0), (.getfield 15, 0, 0, 5), (.ifCond .ne 7, 17, 0, 0), (.iconst 1, 0, 0, 1), (.goto 4, 18, 0, 0)]
def bk_147_17 : List mIns := [(.iconst 0, 0, 0, 0), (.nop, 18, 0, 0)]
def bk_147_18 : List mIns := [(.ireturn, 0, 0, 1)]
def bk_148_0 : List mIns := [(.iload_n 0, 0, 0, 0), (.iload_n 1, 1, 0, 0), (.getstatic 1053, 0, 0, 1), (.invokestatic 1059, 150, 3, 0), (.pop, 0, 0, 0), (.return_, 0, 0, 0)]
def bk_149_0 : List mIns := [(.iload_n 1, 1, 0, 0), (.aload_n 0, 0, 0, 0), (.arraylength, 0, 0, 2), (.invokestatic 9, 148, 2, 0), (.aload_n 0, 0, 0, 0), (.iload_n 1, 1, 0, 0), (.baload, 0, 0, 0), (.sipush 255, 0, 0, 255), (.iand, 0, 0, 0), (.i2c, 0, 0, 0), (.ireturn, 0, 0, 3)]
def bk_150_0 : List mIns := [(.iload_n 0, 0, 0, 0), (.ifCond .lt 8, 9, 0, 0), (.iload_n 0, 0, 0, 0), (.iload_n 1, 1, 0, 0), (.if_icmp .lt 10, 16, 0, 0), (.nop, 9, 0, 0)]
def bk_150_9 : List mIns := [(.aload_n 2, 2, 0, 0), (.iload_n 0, 0, 0, 0), (.iload_n 1, 1, 0, 0), (.invokestatic 95, 0, 0, 7), (.athrow, 0, 0, 0)]
def bk_150_16 : List mIns := [(.iload_n 0, 0, 0, 0), (.ireturn, 0, 0, 0)]
def bk_151_0 : List mIns := [(.new 7, 7, 9, 0), (.dup, 0, 0, 0), (.invokespecial 9, 58, 1, 1), (.astore_n 1, 1, 0, 0), (.new 10, 8, 15, 0), (.dup, 0, 0, 0), (.invokespecial 12, 88, 1, 1), (.astore_n 2, 2, 0, 0), (.iconst 0, 0, 0, 0), (.istore_n 3, 3, 0, 0), (.nop, 18, 0, 0)]
def bk_151_18 : List mIns := [(.iload_n 3, 3, 0, 0), (.aload_n 0, 0, 0, 0), (.arraylength, 0, 0, 1), (.iconst 5, 0, 0, 5), (.isub, 0, 0, 0), (.if_icmp .gt 757, 780, 0, 0), (.aload_n 0, 0, 0, 0), (.iload_n 3, 3, 0, 0), (.iaload, 0, 0, 1), (.bipush 31, 0, 0, 31), (.iand, 0, 0, 0), (.tableswitch 742 0 21 #[104, 127, 150, 193, 226, 259, 282, 315, 340, 353, 366, 379, 392, 405, 438, 481, 524, 567, 590, 643, 686, 719], 32, 104, 0)]
def bk_151_136 : List mIns := [(.aload_n 1, 1, 0, 0), (.aload_n 0, 0, 0, 0), (.iload_n 3, 3, 0, 0), (.iconst 1, 0, 0, 1), (.iadd, 0, 0, 0), (.iaload, 0, 0, 1), (.invokevirtual 13, 59, 2, 0), (.aload_n 2, 2, 0, 0), (.aload_n 0, 0, 0, 0), (.iload_n 3, 3, 0, 0), (.iconst 1, 0, 0, 1), (.iadd, 0, 0, 0), (.iaload, 0, 0, 1), (.invokevirtual 17, 97, 2, 0), (.if_icmp .eq 620, 774, 0, 0), (.iconst 0, 0, 0, 0), (.ireturn, 0, 0, 1)]
def bk_151_159 : List mIns := [(.aload_n 1, 1, 0, 0), (.aload_n 0, 0, 0, 0), (.iload_n 3, 3, 0, 0), (.iconst 1, 0, 0, 1), (.iadd, 0, 0, 0), (.iaload, 0, 0, 1), (.invokevirtual 18, 60, 2, 0), (.aload_n 2, 2, 0, 0), (.aload_n 0, 0, 0, 0), (.iload_n 3, 3, 0, 0), (.iconst 1, 0, 0, 1), (.iadd, 0, 0, 0), (.iaload, 0, 0, 1), (.invokevirtual 21, 98, 2, 0), (.if_icmp .eq 597, 774, 0, 0), (.iconst 0, 0, 0, 0), (.ireturn, 0, 0, 1)]
def bk_151_182 : List mIns := [(.aload_n 1, 1, 0, 0), (.aload_n 0, 0, 0, 0), (.iload_n 3, 3, 0, 0), (.iconst 1, 0, 0, 1), (.iadd, 0, 0, 0), (.iaload, 0, 0, 1), (.aload_n 0, 0, 0, 0), (.iload_n 3, 3, 0, 0), (.iconst 2, 0, 0, 2), (.iadd, 0, 0, 0), (.iaload, 0, 0, 1), (.aload_n 0, 0, 0, 0), (.iload_n 3, 3, 0, 0), (.iconst 3, 0, 0, 3), (.iadd, 0, 0, 0), (.iaload, 0, 0, 1), (.invokevirtual 22, 61, 4, 0), (.aload_n 2, 2, 0, 0), (.aload_n 0, 0, 0, 0), (.iload_n 3, 3, 0, 0), (.iconst 1, 0, 0, 1), (.iadd, 0, 0, 0), (.iaload, 0, 0, 1), (.aload_n 0, 0, 0, 0), (.iload_n 3, 3, 0, 0), (.iconst 2, 0, 0, 2), (.iadd, 0, 0, 0), (.iaload, 0, 0, 1), (.aload_n 0, 0, 0, 0), (.iload_n 3, 3, 0, 0), (.iconst 3, 0, 0, 3), (.iadd, 0, 0, 0), (.iaload, 0, 0, 1), (.invokevirtual 26, 103, 4, 0), (.if_icmp .eq 554, 774, 0, 0), (.iconst 0, 0, 0, 0), (.ireturn, 0, 0, 1)]
def bk_151_225 : List mIns := [(.aload_n 1, 1, 0, 0), (.aload_n 0, 0, 0, 0), (.iload_n 3, 3, 0, 0), (.iconst 1, 0, 0, 1), (.iadd, 0, 0, 0), (.iaload, 0, 0, 1), (.aload_n 0, 0, 0, 0), (.iload_n 3, 3, 0, 0), (.iconst 2, 0, 0, 2), (.iadd, 0, 0, 0), (.iaload, 0, 0, 1), (.invokevirtual 27, 62, 3, 0), (.aload_n 2, 2, 0, 0), (.aload_n 0, 0, 0, 0), (.iload_n 3, 3, 0, 0), (.iconst 1, 0, 0, 1), (.iadd, 0, 0, 0), (.iaload, 0, 0, 1), (.aload_n 0, 0, 0, 0), (.iload_n 3, 3, 0, 0), (.iconst 2, 0, 0, 2), (.iadd, 0, 0, 0), (.iaload, 0, 0, 1), (.invokevirtual 31, 104, 3, 0), (.if_icmp .eq 521, 774, 0, 0), (.iconst 0, 0, 0, 0), (.ireturn, 0, 0, 1)]
def bk_151_258 : List mIns := [(.aload_n 1, 1, 0, 0), (.aload_n 0, 0, 0, 0), (.iload_n 3, 3, 0, 0), (.iconst 1, 0, 0, 1), (.iadd, 0, 0, 0), (.iaload, 0, 0, 1), (.aload_n 0, 0, 0, 0), (.iload_n 3, 3, 0, 0), (.iconst 2, 0, 0, 2), (.iadd, 0, 0, 0), (.iaload, 0, 0, 1), (.invokevirtual 32, 63, 3, 0), (.aload_n 2, 2, 0, 0), (.aload_n 0, 0, 0, 0), (.iload_n 3, 3, 0, 0), (.iconst 1, 0, 0, 1), (.iadd, 0, 0, 0), (.iaload, 0, 0, 1), (.aload_n 0, 0, 0, 0), (.iload_n 3, 3, 0, 0), (.iconst 2, 0, 0, 2), (.iadd, 0, 0, 0), (.iaload, 0, 0, 1), (.invokevirtual 35, 105, 3, 0), (.if_icmp .eq 488, 774, 0, 0), (.iconst 0, 0, 0, 0), (.ireturn, 0, 0, 1)]
def bk_151_291 : List mIns := [(.aload_n 1, 1, 0, 0), (.aload_n 0, 0, 0, 0), (.iload_n 3, 3, 0, 0), (.iconst 1, 0, 0, 1), (.iadd, 0, 0, 0), (.iaload, 0, 0, 1), (.invokevirtual 36, 64, 2, 0), (.aload_n 2, 2, 0, 0), (.aload_n 0, 0, 0, 0), (.iload_n 3, 3, 0, 0), (.iconst 1, 0, 0, 1), (.iadd, 0, 0, 0), (.iaload, 0, 0, 1), (.invokevirtual 39, 106, 2, 0), (.if_icmp .eq 465, 774, 0, 0), (.iconst 0, 0, 0, 0), (.ireturn, 0, 0, 1)]
def bk_151_314 : List mIns := [(.aload_n 1, 1, 0, 0), (.aload_n 0, 0, 0, 0), (.iload_n 3, 3, 0, 0), (.iconst 1, 0, 0, 1), (.iadd, 0, 0, 0), (.iaload, 0, 0, 1), (.aload_n 0, 0, 0, 0), (.iload_n 3, 3, 0, 0), (.iconst 2, 0, 0, 2), (.iadd, 0, 0, 0), (.iaload, 0, 0, 1), (.invokevirtual 40, 65, 3, 0), (.aload_n 2, 2, 0, 0), (.aload_n 0, 0, 0, 0), (.iload_n 3, 3, 0, 0), (.iconst 1, 0, 0, 1), (.iadd, 0, 0, 0), (.iaload, 0, 0, 1), (.aload_n 0, 0, 0, 0), (.iload_n 3, 3, 0, 0), (.iconst 2, 0, 0, 2), (.iadd, 0, 0, 0), (.iaload, 0, 0, 1), (.invokevirtual 43, 112, 3, 0), (.if_icmp .eq 432, 774, 0, 0), (.iconst 0, 0, 0, 0), (.ireturn, 0, 0, 1)]
def bk_151_347 : List mIns := [(.aload_n 1, 1, 0, 0), (.aload_n 0, 0, 0, 0), (.iload_n 3, 3, 0, 0), (.iconst 1, 0, 0, 1), (.iadd, 0, 0, 0), (.iaload, 0, 0, 1), (.i2c, 0, 0, 0), (.invokevirtual 44, 66, 2, 0), (.aload_n 2, 2, 0, 0), (.aload_n 0, 0, 0, 0), (.iload_n 3, 3, 0, 0), (.iconst 1, 0, 0, 1), (.iadd, 0, 0, 0), (.iaload, 0, 0, 1), (.i2c, 0, 0, 0), (.invokevirtual 48, 113, 2, 0), (.if_icmp .eq 407, 774, 0, 0), (.iconst 0, 0, 0, 0), (.ireturn, 0, 0, 1)]
def bk_151_372 : List mIns := [(.aload_n 1, 1, 0, 0), (.invokevirtual 49, 67, 1, 0), (.aload_n 2, 2, 0, 0), (.invokevirtual 53, 114, 1, 0), (.if_icmp .eq 394, 774, 0, 0), (.iconst 0, 0, 0, 0), (.ireturn, 0, 0, 1)]
def bk_151_385 : List mIns := [(.aload_n 1, 1, 0, 0), (.invokevirtual 54, 68, 1, 0), (.aload_n 2, 2, 0, 0), (.invokevirtual 57, 122, 1, 0), (.if_icmp .eq 381, 774, 0, 0), (.iconst 0, 0, 0, 0), (.ireturn, 0, 0, 1)]
def bk_151_398 : List mIns := [(.aload_n 1, 1, 0, 0), (.invokevirtual 58, 70, 1, 0), (.aload_n 2, 2, 0, 0), (.invokevirtual 61, 124, 1, 0), (.if_icmp .eq 368, 774, 0, 0), (.iconst 0, 0, 0, 0), (.ireturn, 0, 0, 1)]
def bk_151_411 : List mIns := [(.aload_n 1, 1, 0, 0), (.invokevirtual 62, 71, 1, 0), (.aload_n 2, 2, 0, 0), (.invokevirtual 65, 125, 1, 0), (.if_icmp .eq 355, 774, 0, 0), (.iconst 0, 0, 0, 0), (.ireturn, 0, 0, 1)]
def bk_151_424 : List mIns := [(.aload_n 1, 1, 0, 0), (.invokevirtual 66, 72, 1, 0), (.aload_n 2, 2, 0, 0), (.invokevirtual 69, 126, 1, 0), (.if_icmp .eq 342, 774, 0, 0), (.iconst 0, 0, 0, 0), (.ireturn, 0, 0, 1)]
def bk_151_437 : List mIns := [(.aload_n 1, 1, 0, 0), (.aload_n 0, 0, 0, 0), (.iload_n 3, 3, 0, 0), (.iconst 1, 0, 0, 1), (.iadd, 0, 0, 0), (.iaload, 0, 0, 1), (.aload_n 0, 0, 0, 0), (.iload_n 3, 3, 0, 0), (.iconst 2, 0, 0, 2), (.iadd, 0, 0, 0), (.iaload, 0, 0, 1), (.invokevirtual 70, 73, 3, 0), (.aload_n 2, 2, 0, 0), (.aload_n 0, 0, 0, 0), (.iload_n 3, 3, 0, 0), (.iconst 1, 0, 0, 1), (.iadd, 0, 0, 0), (.iaload, 0, 0, 1), (.aload_n 0, 0, 0, 0), (.iload_n 3, 3, 0, 0), (.iconst 2, 0, 0, 2), (.iadd, 0, 0, 0), (.iaload, 0, 0, 1), (.invokevirtual 73, 130, 3, 0), (.if_icmp .eq 309, 774, 0, 0), (.iconst 0, 0, 0, 0), (.ireturn, 0, 0, 1)]
def bk_151_470 : List mIns := [(.aload_n 1, 1, 0, 0), (.aload_n 0, 0, 0, 0), (.iload_n 3, 3, 0, 0), (.iconst 1, 0, 0, 1), (.iadd, 0, 0, 0), (.iaload, 0, 0, 1), (.aload_n 0, 0, 0, 0), (.iload_n 3, 3, 0, 0), (.iconst 2, 0, 0, 2), (.iadd, 0, 0, 0), (.iaload, 0, 0, 1), (.aload_n 0, 0, 0, 0), (.iload_n 3, 3, 0, 0), (.iconst 3, 0, 0, 3), (.iadd, 0, 0, 0), (.iaload, 0, 0, 1), (.invokevirtual 74, 74, 4, 0), (.aload_n 2, 2, 0, 0), (.aload_n 0, 0, 0, 0), (.iload_n 3, 3, 0, 0), (.iconst 1, 0, 0, 1), (.iadd, 0, 0, 0), (.iaload, 0, 0, 1), (.aload_n 0, 0, 0, 0), (.iload_n 3, 3, 0, 0), (.iconst 2, 0, 0, 2), (.iadd, 0, 0, 0), (.iaload, 0, 0, 1), (.aload_n 0, 0, 0, 0), (.iload_n 3, 3, 0, 0), (.iconst 3, 0, 0, 3), (.iadd, 0, 0, 0), (.iaload, 0, 0, 1), (.invokevirtual 77, 131, 4, 0), (.if_icmp .eq 266, 774, 0, 0), (.iconst 0, 0, 0, 0), (.ireturn, 0, 0, 1)]
def bk_151_513 : List mIns := [(.aload_n 1, 1, 0, 0), (.aload_n 0, 0, 0, 0), (.iload_n 3, 3, 0, 0), (.iconst 1, 0, 0, 1), (.iadd, 0, 0, 0), (.iaload, 0, 0, 1), (.aload_n 0, 0, 0, 0), (.iload_n 3, 3, 0, 0), (.iconst 2, 0, 0, 2), (.iadd, 0, 0, 0), (.iaload, 0, 0, 1), (.aload_n 0, 0, 0, 0), (.iload_n 3, 3, 0, 0), (.iconst 3, 0, 0, 3), (.iadd, 0, 0, 0), (.iaload, 0, 0, 1), (.invokevirtual 78, 75, 4, 0), (.aload_n 2, 2, 0, 0), (.aload_n 0, 0, 0, 0), (.iload_n 3, 3, 0, 0), (.iconst 1, 0, 0, 1), (.iadd, 0, 0, 0), (.iaload, 0, 0, 1), (.aload_n 0, 0, 0, 0), (.iload_n 3, 3, 0, 0), (.iconst 2, 0, 0, 2), (.iadd, 0, 0, 0), (.iaload, 0, 0, 1), (.aload_n 0, 0, 0, 0), (.iload_n 3, 3, 0, 0), (.iconst 3, 0, 0, 3), (.iadd, 0, 0, 0), (.iaload, 0, 0, 1), (.invokevirtual 81, 132, 4, 0), (.if_icmp .eq 223, 774, 0, 0), (.iconst 0, 0, 0, 0), (.ireturn, 0, 0, 1)]
def bk_151_556 : List mIns := [(.aload_n 1, 1, 0, 0), (.aload_n 0, 0, 0, 0), (.iload_n 3, 3, 0, 0), (.iconst 1, 0, 0, 1), (.iadd, 0, 0, 0), (.iaload, 0, 0, 1), (.aload_n 0, 0, 0, 0), (.iload_n 3, 3, 0, 0), (.iconst 2, 0, 0, 2), (.iadd, 0, 0, 0), (.iaload, 0, 0, 1), (.aload_n 0, 0, 0, 0), (.iload_n 3, 3, 0, 0), (.iconst 3, 0, 0, 3), (.iadd, 0, 0, 0), (.iaload, 0, 0, 1), (.invokevirtual 82, 76, 4, 0), (.aload_n 2, 2, 0, 0), (.aload_n 0, 0, 0, 0), (.iload_n 3, 3, 0, 0), (.iconst 1, 0, 0, 1), (.iadd, 0, 0, 0), (.iaload, 0, 0, 1), (.aload_n 0, 0, 0, 0), (.iload_n 3, 3, 0, 0), (.iconst 2, 0, 0, 2), (.iadd, 0, 0, 0), (.iaload, 0, 0, 1), (.aload_n 0, 0, 0, 0), (.iload_n 3, 3, 0, 0), (.iconst 3, 0, 0, 3), (.iadd, 0, 0, 0), (.iaload, 0, 0, 1), (.invokevirtual 85, 133, 4, 0), (.if_icmp .eq 180, 774, 0, 0), (.iconst 0, 0, 0, 0), (.ireturn, 0, 0, 1)]
def bk_151_599 : List mIns := [(.aload_n 1, 1, 0, 0), (.aload_n 0, 0, 0, 0), (.iload_n 3, 3, 0, 0), (.iconst 1, 0, 0, 1), (.iadd, 0, 0, 0), (.iaload, 0, 0, 1), (.invokevirtual 86, 77, 2, 0), (.aload_n 2, 2, 0, 0), (.aload_n 0, 0, 0, 0), (.iload_n 3, 3, 0, 0), (.iconst 1, 0, 0, 1), (.iadd, 0, 0, 0), (.iaload, 0, 0, 1), (.invokevirtual 89, 134, 2, 0), (.if_icmp .eq 157, 774, 0, 0), (.iconst 0, 0, 0, 0), (.ireturn, 0, 0, 1)]
def bk_151_622 : List mIns := [(.aload_n 1, 1, 0, 0), (.aload_n 0, 0, 0, 0), (.iload_n 3, 3, 0, 0), (.iconst 1, 0, 0, 1), (.iadd, 0, 0, 0), (.iaload, 0, 0, 1), (.aload_n 0, 0, 0, 0), (.iload_n 3, 3, 0, 0), (.iconst 2, 0, 0, 2), (.iadd, 0, 0, 0), (.iaload, 0, 0, 1), (.aload_n 0, 0, 0, 0), (.iload_n 3, 3, 0, 0), (.iconst 3, 0, 0, 3), (.iadd, 0, 0, 0), (.iaload, 0, 0, 1), (.aload_n 0, 0, 0, 0), (.iload_n 3, 3, 0, 0), (.iconst 4, 0, 0, 4), (.iadd, 0, 0, 0), (.iaload, 0, 0, 1), (.invokevirtual 90, 78, 5, 0), (.aload_n 2, 2, 0, 0), (.aload_n 0, 0, 0, 0), (.iload_n 3, 3, 0, 0), (.iconst 1, 0, 0, 1), (.iadd, 0, 0, 0), (.iaload, 0, 0, 1), (.aload_n 0, 0, 0, 0), (.iload_n 3, 3, 0, 0), (.iconst 2, 0, 0, 2), (.iadd, 0, 0, 0), (.iaload, 0, 0, 1), (.aload_n 0, 0, 0, 0), (.iload_n 3, 3, 0, 0), (.iconst 3, 0, 0, 3), (.iadd, 0, 0, 0), (.iaload, 0, 0, 1), (.aload_n 0, 0, 0, 0), (.iload_n 3, 3, 0, 0), (.iconst 4, 0, 0, 4), (.iadd, 0, 0, 0), (.iaload, 0, 0, 1), (.invokevirtual 94, 138, 5, 0), (.if_icmp .eq 104, 774, 0, 0), (.iconst 0, 0, 0, 0), (.ireturn, 0, 0, 1)]
def bk_151_675 : List mIns := [(.aload_n 1, 1, 0, 0), (.aload_n 0, 0, 0, 0), (.iload_n 3, 3, 0, 0), (.iconst 1, 0, 0, 1), (.iadd, 0, 0, 0), (.iaload, 0, 0, 1), (.aload_n 0, 0, 0, 0), (.iload_n 3, 3, 0, 0), (.iconst 2, 0, 0, 2), (.iadd, 0, 0, 0), (.iaload, 0, 0, 1), (.aload_n 0, 0, 0, 0), (.iload_n 3, 3, 0, 0), (.iconst 3, 0, 0, 3), (.iadd, 0, 0, 0), (.iaload, 0, 0, 1), (.invokevirtual 95, 79, 4, 0), (.aload_n 2, 2, 0, 0), (.aload_n 0, 0, 0, 0), (.iload_n 3, 3, 0, 0), (.iconst 1, 0, 0, 1), (.iadd, 0, 0, 0), (.iaload, 0, 0, 1), (.aload_n 0, 0, 0, 0), (.iload_n 3, 3, 0, 0), (.iconst 2, 0, 0, 2), (.iadd, 0, 0, 0), (.iaload, 0, 0, 1), (.aload_n 0, 0, 0, 0), (.iload_n 3, 3, 0, 0), (.iconst 3, 0, 0, 3), (.iadd, 0, 0, 0), (.iaload, 0, 0, 1), (.invokevirtual 98, 140, 4, 0), (.if_icmp .eq 61, 774, 0, 0), (.iconst 0, 0, 0, 0), (.ireturn, 0, 0, 1)]
def bk_151_718 : List mIns := [(.aload_n 1, 1, 0, 0), (.aload_n 0, 0, 0, 0), (.iload_n 3, 3, 0, 0), (.iconst 1, 0, 0, 1), (.iadd, 0, 0, 0), (.iaload, 0, 0, 1), (.aload_n 0, 0, 0, 0), (.iload_n 3, 3, 0, 0), (.iconst 2, 0, 0, 2), (.iadd, 0, 0, 0), (.iaload, 0, 0, 1), (.invokevirtual 99, 80, 3, 0), (.aload_n 2, 2, 0, 0), (.aload_n 0, 0, 0, 0), (.iload_n 3, 3, 0, 0), (.iconst 1, 0, 0, 1), (.iadd, 0, 0, 0), (.iaload, 0, 0, 1), (.aload_n 0, 0, 0, 0), (.iload_n 3, 3, 0, 0), (.iconst 2, 0, 0, 2), (.iadd, 0, 0, 0), (.iaload, 0, 0, 1), (.invokevirtual 102, 141, 3, 0), (.if_icmp .eq 28, 774, 0, 0), (.iconst 0, 0, 0, 0), (.ireturn, 0, 0, 1)]
def bk_151_751 : List mIns := [(.aload_n 1, 1, 0, 0), (.aload_n 0, 0, 0, 0), (.iload_n 3, 3, 0, 0), (.iconst 1, 0, 0, 1), (.iadd, 0, 0, 0), (.iaload, 0, 0, 1), (.invokevirtual 103, 81, 2, 0), (.aload_n 2, 2, 0, 0), (.aload_n 0, 0, 0, 0), (.iload_n 3, 3, 0, 0), (.iconst 1, 0, 0, 1), (.iadd, 0, 0, 0), (.iaload, 0, 0, 1), (.invokevirtual 106, 143, 2, 0), (.if_icmp .eq 5, 774, 0, 0), (.iconst 0, 0, 0, 0), (.ireturn, 0, 0, 1)]
def bk_151_774 : List mIns := [(.iinc 3 5, 3, 0, 5), (.goto (-759), 18, 0, 0)]
def bk_151_780 : List mIns := [(.iconst 1, 0, 0, 1), (.ireturn, 0, 0, 1)]
def bl_0 : List (Nat × List mIns) := [(0, bk_0_0)]
def bl_1 : List (Nat × List mIns) := [(0, bk_1_0), (53, bk_1_53), (78, bk_1_78), (95, bk_1_95), (123, bk_1_123)]
def bl_2 : List (Nat × List mIns) := [(0, bk_2_0), (2, bk_2_2), (29, bk_2_29)]
def bl_3 : List (Nat × List mIns) := [(0, bk_3_0), (12, bk_3_12), (24, bk_3_24), (36, bk_3_36), (48, bk_3_48), (60, bk_3_60), (75, bk_3_75), (76, bk_3_76)]
def bl_4 : List (Nat × List mIns) := [(0, bk_4_0), (15, bk_4_15), (43, bk_4_43), (114, bk_4_114)]
def bl_5 : List (Nat × List mIns) := [(0, bk_5_0), (14, bk_5_14), (22, bk_5_22), (62, bk_5_62), (81, bk_5_81)]
def bl_6 : List (Nat × List mIns) := [(0, bk_6_0), (9, bk_6_9), (31, bk_6_31)]
def bl_7 : List (Nat × List mIns) := [(0, bk_7_0), (14, bk_7_14), (15, bk_7_15)]
def bl_8 : List (Nat × List mIns) := [(0, bk_8_0), (19, bk_8_19), (43, bk_8_43)]
def bl_9 : List (Nat × List mIns) := [(0, bk_9_0), (12, bk_9_12)]
def bl_10 : List (Nat × List mIns) := [(0, bk_10_0), (9, bk_10_9), (34, bk_10_34)]
def bl_11 : List (Nat × List mIns) := [(0, bk_11_0), (9, bk_11_9)]
def bl_12 : List (Nat × List mIns) := [(0, bk_12_0)]
def bl_13 : List (Nat × List mIns) := [(0, bk_13_0)]
def bl_14 : List (Nat × List mIns) := [(0, bk_14_0), (13, bk_14_13)]
def bl_15 : List (Nat × List mIns) := [(0, bk_15_0)]
def bl_16 : List (Nat × List mIns) := [(0, bk_16_0), (12, bk_16_12), (15, bk_16_15), (35, bk_16_35), (49, bk_16_49), (55, bk_16_55)]
def bl_17 : List (Nat × List mIns) := [(0, bk_17_0)]
def bl_18 : List (Nat × List mIns) := [(0, bk_18_0), (25, bk_18_25), (64, bk_18_64), (99, bk_18_99), (131, bk_18_131)]
def bl_19 : List (Nat × List mIns) := [(0, bk_19_0), (26, bk_19_26), (28, bk_19_28)]
def bl_20 : List (Nat × List mIns) := [(0, bk_20_0), (6, bk_20_6), (33, bk_20_33), (34, bk_20_34)]
def bl_21 : List (Nat × List mIns) := [(0, bk_21_0), (6, bk_21_6), (24, bk_21_24), (34, bk_21_34), (47, bk_21_47)]
def bl_22 : List (Nat × List mIns) := [(0, bk_22_0)]
def bl_23 : List (Nat × List mIns) := [(0, bk_23_0), (2, bk_23_2), (30, bk_23_30), (36, bk_23_36)]
def bl_24 : List (Nat × List mIns) := [(0, bk_24_0), (63, bk_24_63), (88, bk_24_88)]
def bl_25 : List (Nat × List mIns) := [(0, bk_25_0), (2, bk_25_2), (29, bk_25_29)]
def bl_26 : List (Nat × List mIns) := [(0, bk_26_0), (4, bk_26_4), (25, bk_26_25), (31, bk_26_31)]
def bl_27 : List (Nat × List mIns) := [(0, bk_27_0), (4, bk_27_4), (28, bk_27_28)]
def bl_28 : List (Nat × List mIns) := [(0, bk_28_0), (2, bk_28_2), (22, bk_28_22), (28, bk_28_28)]
def bl_29 : List (Nat × List mIns) := [(0, bk_29_0), (3, bk_29_3), (93, bk_29_93), (99, bk_29_99)]
def bl_30 : List (Nat × List mIns) := [(0, bk_30_0)]
def bl_31 : List (Nat × List mIns) := [(0, bk_31_0)]
def bl_32 : List (Nat × List mIns) := [(0, bk_32_0), (11, bk_32_11)]
def bl_33 : List (Nat × List mIns) := [(0, bk_33_0), (12, bk_33_12), (14, bk_33_14)]
def bl_34 : List (Nat × List mIns) := [(0, bk_34_0), (10, bk_34_10), (12, bk_34_12), (32, bk_34_32), (38, bk_34_38)]
def bl_35 : List (Nat × List mIns) := [(0, bk_35_0)]
def bl_36 : List (Nat × List mIns) := [(0, bk_36_0)]
def bl_37 : List (Nat × List mIns) := [(0, bk_37_0), (9, bk_37_9), (25, bk_37_25), (31, bk_37_31)]
def bl_38 : List (Nat × List mIns) := [(0, bk_38_0), (16, bk_38_16), (17, bk_38_17)]
def bl_39 : List (Nat × List mIns) := [(0, bk_39_0), (16, bk_39_16), (17, bk_39_17)]
def bl_40 : List (Nat × List mIns) := [(0, bk_40_0), (19, bk_40_19), (23, bk_40_23), (24, bk_40_24)]
def bl_41 : List (Nat × List mIns) := [(0, bk_41_0)]
def bl_42 : List (Nat × List mIns) := [(0, bk_42_0)]
def bl_43 : List (Nat × List mIns) := [(0, bk_43_0), (32, bk_43_32)]
def bl_44 : List (Nat × List mIns) := [(0, bk_44_0)]
def bl_45 : List (Nat × List mIns) := [(0, bk_45_0), (10, bk_45_10), (11, bk_45_11)]
def bl_46 : List (Nat × List mIns) := [(0, bk_46_0)]
def bl_47 : List (Nat × List mIns) := [(0, bk_47_0)]
def bl_48 : List (Nat × List mIns) := [(0, bk_48_0)]
def bl_49 : List (Nat × List mIns) := [(0, bk_49_0), (18, bk_49_18), (49, bk_49_49)]
def bl_50 : List (Nat × List mIns) := [(0, bk_50_0), (11, bk_50_11), (52, bk_50_52), (63, bk_50_63)]
def bl_51 : List (Nat × List mIns) := [(0, bk_51_0), (12, bk_51_12), (82, bk_51_82), (88, bk_51_88)]
def bl_52 : List (Nat × List mIns) := [(0, bk_52_0), (9, bk_52_9)]
def bl_53 : List (Nat × List mIns) := [(0, bk_53_0)]
def bl_54 : List (Nat × List mIns) := [(0, bk_54_0)]
def bl_55 : List (Nat × List mIns) := [(0, bk_55_0), (10, bk_55_10), (36, bk_55_36)]
def bl_56 : List (Nat × List mIns) := [(0, bk_56_0), (9, bk_56_9), (29, bk_56_29), (35, bk_56_35)]
def bl_57 : List (Nat × List mIns) := [(0, bk_57_0), (17, bk_57_17), (19, bk_57_19)]
def bl_58 : List (Nat × List mIns) := [(0, bk_58_0)]
def bl_59 : List (Nat × List mIns) := [(0, bk_59_0), (9, bk_59_9), (12, bk_59_12), (28, bk_59_28)]
def bl_60 : List (Nat × List mIns) := [(0, bk_60_0), (13, bk_60_13), (16, bk_60_16), (32, bk_60_32)]
def bl_61 : List (Nat × List mIns) := [(0, bk_61_0), (9, bk_61_9), (27, bk_61_27), (30, bk_61_30), (48, bk_61_48)]
def bl_62 : List (Nat × List mIns) := [(0, bk_62_0), (23, bk_62_23), (25, bk_62_25), (43, bk_62_43)]
def bl_63 : List (Nat × List mIns) := [(0, bk_63_0), (14, bk_63_14), (16, bk_63_16), (24, bk_63_24), (60, bk_63_60), (63, bk_63_63), (81, bk_63_81)]
def bl_64 : List (Nat × List mIns) := [(0, bk_64_0), (9, bk_64_9), (29, bk_64_29), (39, bk_64_39)]
def bl_65 : List (Nat × List mIns) := [(0, bk_65_0), (9, bk_65_9), (19, bk_65_19), (40, bk_65_40), (62, bk_65_62)]
def bl_66 : List (Nat × List mIns) := [(0, bk_66_0), (14, bk_66_14)]
def bl_67 : List (Nat × List mIns) := [(0, bk_67_0)]
def bl_68 : List (Nat × List mIns) := [(0, bk_68_0), (33, bk_68_33), (76, bk_68_76), (102, bk_68_102), (122, bk_68_122), (141, bk_68_141), (160, bk_68_160), (172, bk_68_172)]
def bl_69 : List (Nat × List mIns) := [(0, bk_69_0), (9, bk_69_9), (31, bk_69_31), (42, bk_69_42), (61, bk_69_61), (90, bk_69_90)]
def bl_70 : List (Nat × List mIns) := [(0, bk_70_0), (17, bk_70_17)]
def bl_71 : List (Nat × List mIns) := [(0, bk_71_0)]
def bl_72 : List (Nat × List mIns) := [(0, bk_72_0), (10, bk_72_10)]
def bl_73 : List (Nat × List mIns) := [(0, bk_73_0), (9, bk_73_9), (19, bk_73_19), (22, bk_73_22), (42, bk_73_42), (80, bk_73_80), (85, bk_73_85), (96, bk_73_96), (97, bk_73_97), (98, bk_73_98), (103, bk_73_103), (108, bk_73_108), (113, bk_73_113), (118, bk_73_118)]
def bl_74 : List (Nat × List mIns) := [(0, bk_74_0), (23, bk_74_23), (25, bk_74_25), (68, bk_74_68), (76, bk_74_76), (84, bk_74_84), (100, bk_74_100), (110, bk_74_110), (111, bk_74_111), (130, bk_74_130)]
def bl_75 : List (Nat × List mIns) := [(0, bk_75_0), (23, bk_75_23), (25, bk_75_25), (35, bk_75_35), (58, bk_75_58), (90, bk_75_90), (95, bk_75_95)]
def bl_76 : List (Nat × List mIns) := [(0, bk_76_0), (9, bk_76_9), (25, bk_76_25), (28, bk_76_28), (51, bk_76_51), (73, bk_76_73), (86, bk_76_86), (102, bk_76_102), (109, bk_76_109)]
def bl_77 : List (Nat × List mIns) := [(0, bk_77_0), (9, bk_77_9), (29, bk_77_29), (38, bk_77_38), (87, bk_77_87), (93, bk_77_93)]
def bl_78 : List (Nat × List mIns) := [(0, bk_78_0), (9, bk_78_9), (35, bk_78_35), (38, bk_78_38), (60, bk_78_60), (75, bk_78_75), (129, bk_78_129), (135, bk_78_135)]
def bl_79 : List (Nat × List mIns) := [(0, bk_79_0), (9, bk_79_9), (23, bk_79_23), (26, bk_79_26), (48, bk_79_48), (70, bk_79_70), (106, bk_79_106), (140, bk_79_140), (146, bk_79_146)]
def bl_80 : List (Nat × List mIns) := [(0, bk_80_0), (13, bk_80_13), (16, bk_80_16)]
def bl_81 : List (Nat × List mIns) := [(0, bk_81_0), (60, bk_81_60), (68, bk_81_68), (76, bk_81_76), (84, bk_81_84), (92, bk_81_92), (100, bk_81_100), (108, bk_81_108), (116, bk_81_116), (124, bk_81_124), (132, bk_81_132), (140, bk_81_140), (148, bk_81_148)]
def bl_82 : List (Nat × List mIns) := [(0, bk_82_0), (14, bk_82_14), (15, bk_82_15)]
def bl_83 : List (Nat × List mIns) := [(0, bk_83_0), (14, bk_83_14), (15, bk_83_15)]
def bl_84 : List (Nat × List mIns) := [(0, bk_84_0), (13, bk_84_13), (14, bk_84_14)]
def bl_85 : List (Nat × List mIns) := [(0, bk_85_0), (9, bk_85_9), (13, bk_85_13), (14, bk_85_14)]
def bl_86 : List (Nat × List mIns) := [(0, bk_86_0)]
def bl_87 : List (Nat × List mIns) := [(0, bk_87_0), (15, bk_87_15), (34, bk_87_34)]
def bl_88 : List (Nat × List mIns) := [(0, bk_88_0)]
def bl_89 : List (Nat × List mIns) := [(0, bk_89_0), (14, bk_89_14), (15, bk_89_15)]
def bl_90 : List (Nat × List mIns) := [(0, bk_90_0), (13, bk_90_13), (14, bk_90_14)]
def bl_91 : List (Nat × List mIns) := [(0, bk_91_0)]
def bl_92 : List (Nat × List mIns) := [(0, bk_92_0)]
def bl_93 : List (Nat × List mIns) := [(0, bk_93_0), (13, bk_93_13), (14, bk_93_14)]
def bl_94 : List (Nat × List mIns) := [(0, bk_94_0)]
def bl_95 : List (Nat × List mIns) := [(0, bk_95_0), (10, bk_95_10), (39, bk_95_39), (49, bk_95_49), (51, bk_95_51), (85, bk_95_85)]
def bl_96 : List (Nat × List mIns) := [(0, bk_96_0), (16, bk_96_16), (53, bk_96_53), (65, bk_96_65)]
def bl_97 : List (Nat × List mIns) := [(0, bk_97_0), (12, bk_97_12), (29, bk_97_29)]
def bl_98 : List (Nat × List mIns) := [(0, bk_98_0), (15, bk_98_15), (32, bk_98_32)]
def bl_99 : List (Nat × List mIns) := [(0, bk_99_0)]
def bl_100 : List (Nat × List mIns) := [(0, bk_100_0)]
def bl_101 : List (Nat × List mIns) := [(0, bk_101_0), (17, bk_101_17), (33, bk_101_33), (42, bk_101_42)]
def bl_102 : List (Nat × List mIns) := [(0, bk_102_0), (12, bk_102_12), (97, bk_102_97), (103, bk_102_103), (159, bk_102_159), (168, bk_102_168), (172, bk_102_172), (217, bk_102_217), (226, bk_102_226), (250, bk_102_250), (251, bk_102_251), (284, bk_102_284), (286, bk_102_286)]
def bl_103 : List (Nat × List mIns) := [(0, bk_103_0), (9, bk_103_9), (29, bk_103_29), (32, bk_103_32), (43, bk_103_43), (58, bk_103_58), (83, bk_103_83)]
def bl_104 : List (Nat × List mIns) := [(0, bk_104_0), (31, bk_104_31), (33, bk_104_33), (35, bk_104_35), (55, bk_104_55), (64, bk_104_64), (81, bk_104_81), (117, bk_104_117), (120, bk_104_120), (155, bk_104_155)]
def bl_105 : List (Nat × List mIns) := [(0, bk_105_0), (14, bk_105_14), (16, bk_105_16), (24, bk_105_24), (40, bk_105_40), (43, bk_105_43), (70, bk_105_70), (77, bk_105_77), (113, bk_105_113), (116, bk_105_116), (151, bk_105_151)]
def bl_106 : List (Nat × List mIns) := [(0, bk_106_0), (9, bk_106_9), (20, bk_106_20), (33, bk_106_33)]
def bl_107 : List (Nat × List mIns) := [(0, bk_107_0), (27, bk_107_27), (29, bk_107_29)]
def bl_108 : List (Nat × List mIns) := [(0, bk_108_0), (21, bk_108_21), (69, bk_108_69), (117, bk_108_117), (123, bk_108_123)]
def bl_109 : List (Nat × List mIns) := [(0, bk_109_0), (18, bk_109_18), (19, bk_109_19)]
def bl_110 : List (Nat × List mIns) := [(0, bk_110_0), (12, bk_110_12), (46, bk_110_46), (63, bk_110_63), (64, bk_110_64), (84, bk_110_84), (85, bk_110_85), (100, bk_110_100), (102, bk_110_102), (104, bk_110_104), (110, bk_110_110), (118, bk_110_118), (128, bk_110_128), (130, bk_110_130)]
def bl_111 : List (Nat × List mIns) := [(0, bk_111_0)]
def bl_112 : List (Nat × List mIns) := [(0, bk_112_0), (9, bk_112_9), (21, bk_112_21), (38, bk_112_38), (41, bk_112_41), (59, bk_112_59), (82, bk_112_82), (123, bk_112_123), (149, bk_112_149)]
def bl_113 : List (Nat × List mIns) := [(0, bk_113_0), (12, bk_113_12)]
def bl_114 : List (Nat × List mIns) := [(0, bk_114_0)]
def bl_115 : List (Nat × List mIns) := [(0, bk_115_0), (9, bk_115_9), (10, bk_115_10), (51, bk_115_51), (53, bk_115_53), (80, bk_115_80), (84, bk_115_84), (85, bk_115_85)]
def bl_116 : List (Nat × List mIns) := [(0, bk_116_0), (76, bk_116_76), (77, bk_116_77)]
def bl_117 : List (Nat × List mIns) := [(0, bk_117_0), (5, bk_117_5), (48, bk_117_48), (65, bk_117_65), (84, bk_117_84), (103, bk_117_103), (122, bk_117_122), (145, bk_117_145), (168, bk_117_168), (170, bk_117_170)]
def bl_118 : List (Nat × List mIns) := [(0, bk_118_0), (25, bk_118_25), (27, bk_118_27)]
def bl_119 : List (Nat × List mIns) := [(0, bk_119_0), (30, bk_119_30), (32, bk_119_32), (129, bk_119_129)]
def bl_120 : List (Nat × List mIns) := [(0, bk_120_0), (24, bk_120_24), (38, bk_120_38), (40, bk_120_40), (71, bk_120_71), (72, bk_120_72), (73, bk_120_73), (82, bk_120_82), (106, bk_120_106), (129, bk_120_129), (130, bk_120_130), (131, bk_120_131), (174, bk_120_174), (200, bk_120_200), (201, bk_120_201)]
def bl_121 : List (Nat × List mIns) := [(0, bk_121_0), (12, bk_121_12), (26, bk_121_26), (45, bk_121_45), (63, bk_121_63), (122, bk_121_122)]
def bl_122 : List (Nat × List mIns) := [(0, bk_122_0), (15, bk_122_15), (52, bk_122_52), (57, bk_122_57), (71, bk_122_71), (84, bk_122_84), (97, bk_122_97), (106, bk_122_106)]
def bl_123 : List (Nat × List mIns) := [(0, bk_123_0), (4, bk_123_4), (23, bk_123_23), (24, bk_123_24), (32, bk_123_32)]
def bl_124 : List (Nat × List mIns) := [(0, bk_124_0), (10, bk_124_10), (22, bk_124_22), (56, bk_124_56)]
def bl_125 : List (Nat × List mIns) := [(0, bk_125_0), (2, bk_125_2), (27, bk_125_27)]
def bl_126 : List (Nat × List mIns) := [(0, bk_126_0), (10, bk_126_10), (16, bk_126_16), (41, bk_126_41)]
def bl_127 : List (Nat × List mIns) := [(0, bk_127_0)]
def bl_128 : List (Nat × List mIns) := [(0, bk_128_0), (4, bk_128_4), (32, bk_128_32), (33, bk_128_33), (40, bk_128_40)]
def bl_129 : List (Nat × List mIns) := [(0, bk_129_0), (5, bk_129_5), (33, bk_129_33)]
def bl_130 : List (Nat × List mIns) := [(0, bk_130_0), (9, bk_130_9), (22, bk_130_22), (33, bk_130_33), (72, bk_130_72), (79, bk_130_79), (86, bk_130_86), (93, bk_130_93), (101, bk_130_101), (108, bk_130_108), (114, bk_130_114)]
def bl_131 : List (Nat × List mIns) := [(0, bk_131_0), (30, bk_131_30), (32, bk_131_32), (64, bk_131_64), (73, bk_131_73), (83, bk_131_83), (114, bk_131_114), (116, bk_131_116), (117, bk_131_117), (126, bk_131_126)]
def bl_132 : List (Nat × List mIns) := [(0, bk_132_0), (31, bk_132_31), (33, bk_132_33), (45, bk_132_45), (57, bk_132_57), (79, bk_132_79), (88, bk_132_88)]
def bl_133 : List (Nat × List mIns) := [(0, bk_133_0), (9, bk_133_9), (27, bk_133_27), (30, bk_133_30), (47, bk_133_47), (50, bk_133_50)]
def bl_134 : List (Nat × List mIns) := [(0, bk_134_0), (9, bk_134_9), (20, bk_134_20), (32, bk_134_32), (66, bk_134_66), (72, bk_134_72)]
def bl_135 : List (Nat × List mIns) := [(0, bk_135_0), (2, bk_135_2), (27, bk_135_27)]
def bl_136 : List (Nat × List mIns) := [(0, bk_136_0), (2, bk_136_2), (27, bk_136_27)]
def bl_137 : List (Nat × List mIns) := [(0, bk_137_0), (9, bk_137_9), (39, bk_137_39), (42, bk_137_42), (55, bk_137_55), (56, bk_137_56)]
def bl_138 : List (Nat × List mIns) := [(0, bk_138_0), (19, bk_138_19), (37, bk_138_37), (63, bk_138_63)]
def bl_139 : List (Nat × List mIns) := [(0, bk_139_0), (8, bk_139_8), (35, bk_139_35), (41, bk_139_41)]
def bl_140 : List (Nat × List mIns) := [(0, bk_140_0), (18, bk_140_18), (27, bk_140_27), (54, bk_140_54), (61, bk_140_61), (92, bk_140_92)]
def bl_141 : List (Nat × List mIns) := [(0, bk_141_0), (13, bk_141_13), (16, bk_141_16), (56, bk_141_56), (58, bk_141_58)]
def bl_142 : List (Nat × List mIns) := [(0, bk_142_0), (4, bk_142_4), (23, bk_142_23), (29, bk_142_29), (37, bk_142_37)]
def bl_143 : List (Nat × List mIns) := [(0, bk_143_0), (60, bk_143_60), (65, bk_143_65), (70, bk_143_70), (79, bk_143_79), (88, bk_143_88), (97, bk_143_97), (106, bk_143_106), (115, bk_143_115), (124, bk_143_124), (133, bk_143_133), (138, bk_143_138), (143, bk_143_143)]
def bl_144 : List (Nat × List mIns) := [(0, bk_144_0)]
def bl_145 : List (Nat × List mIns) := [(0, bk_145_0), (16, bk_145_16)]
def bl_146 : List (Nat × List mIns) := [(0, bk_146_0), (13, bk_146_13), (14, bk_146_14)]
def bl_147 : List (Nat × List mIns) := [(0, bk_147_0), (17, bk_147_17), (18, bk_147_18)]
def bl_148 : List (Nat × List mIns) := [(0, bk_148_0)]
def bl_149 : List (Nat × List mIns) := [(0, bk_149_0)]
def bl_150 : List (Nat × List mIns) := [(0, bk_150_0), (9, bk_150_9), (16, bk_150_16)]
def bl_151 : List (Nat × List mIns) := [(0, bk_151_0), (18, bk_151_18), (136, bk_151_136), (159, bk_151_159), (182, bk_151_182), (225, bk_151_225), (258, bk_151_258), (291, bk_151_291), (314, bk_151_314), (347, bk_151_347), (372, bk_151_372), (385, bk_151_385), (398, bk_151_398), (411, bk_151_411), (424, bk_151_424), (437, bk_151_437), (470, bk_151_470), (513, bk_151_513), (556, bk_151_556), (599, bk_151_599), (622, bk_151_622), (675, bk_151_675), (718, bk_151_718), (751, bk_151_751), (774, bk_151_774), (780, bk_151_780)]
def mBL : List (List (Nat × List mIns)) := [bl_0, bl_1, bl_2, bl_3, bl_4, bl_5, bl_6, bl_7, bl_8, bl_9, bl_10, bl_11, bl_12, bl_13, bl_14, bl_15, bl_16, bl_17, bl_18, bl_19, bl_20, bl_21, bl_22, bl_23, bl_24, bl_25, bl_26, bl_27, bl_28, bl_29, bl_30, bl_31, bl_32, bl_33, bl_34, bl_35, bl_36, bl_37, bl_38, bl_39, bl_40, bl_41, bl_42, bl_43, bl_44, bl_45, bl_46, bl_47, bl_48, bl_49, bl_50, bl_51, bl_52, bl_53, bl_54, bl_55, bl_56, bl_57, bl_58, bl_59, bl_60, bl_61, bl_62, bl_63, bl_64, bl_65, bl_66, bl_67, bl_68, bl_69, bl_70, bl_71, bl_72, bl_73, bl_74, bl_75, bl_76, bl_77, bl_78, bl_79, bl_80, bl_81, bl_82, bl_83, bl_84, bl_85, bl_86, bl_87, bl_88, bl_89, bl_90, bl_91, bl_92, bl_93, bl_94, bl_95, bl_96, bl_97, bl_98, bl_99, bl_100, bl_101, bl_102, bl_103, bl_104, bl_105, bl_106, bl_107, bl_108, bl_109, bl_110, bl_111, bl_112, bl_113, bl_114, bl_115, bl_116, bl_117, bl_118, bl_119, bl_120, bl_121, bl_122, bl_123, bl_124, bl_125, bl_126, bl_127, bl_128, bl_129, bl_130, bl_131, bl_132, bl_133, bl_134, bl_135, bl_136, bl_137, bl_138, bl_139, bl_140, bl_141, bl_142, bl_143, bl_144, bl_145, bl_146, bl_147, bl_148, bl_149, bl_150, bl_151]
def mNL : List Nat := [1, 2, 2, 2, 3, 2, 2, 3, 2, 2, 3, 2, 1, 2, 4, 1, 4, 1, 7, 4, 3, 4, 1, 4, 2, 3, 3, 3, 2, 6, 6, 1, 2, 2, 4, 1, 2, 1, 2, 2, 2, 1, 1, 2, 1, 4, 4, 3, 2, 6, 3, 7, 2, 1, 1, 5, 4, 2, 1, 3, 3, 4, 4, 5, 3, 4, 2, 2, 1, 6, 1, 1, 1, 4, 5, 6, 5, 6, 9, 6, 3, 2, 1, 1, 1, 1, 1, 4, 1, 3, 1, 3, 4, 2, 2, 2, 5, 3, 3, 4, 5, 5, 7, 6, 6, 6, 2, 3, 9, 3, 7, 3, 5, 2, 2, 7, 7, 1, 1, 1, 1, 4, 1, 3, 2, 2, 2, 3, 4, 5, 3, 4, 4, 4, 6, 2, 2, 5, 9, 4, 6, 3, 3, 2, 1, 2, 1, 1, 2, 2, 3, 4]
def mRL : List Nat := [0, 0, 0, 0, 0, 0, 0, 0, 1, 1, 1, 1, 2, 2, 2, 2, 2, 3, 3, 3, 3, 3, 3, 3, 4, 4, 4, 4, 4, 4, 4, 5, 5, 5, 5, 6, 6, 6, 6, 6, 6, 6, 6, 6, 6, 6, 6, 6, 6, 6, 6, 6, 6, 6, 6, 6, 6, 6, 7, 7, 7, 7, 7, 7, 7, 7, 7, 7, 7, 7, 7, 7, 7, 7, 7, 7, 7, 7, 7, 7, 7, 7, 7, 7, 7, 7, 7, 7, 8, 8, 8, 8, 8, 8, 8, 8, 8, 8, 8, 8, 8, 8, 8, 8, 8, 8, 8, 8, 8, 8, 8, 8, 8, 8, 8, 8, 8, 8, 8, 8, 8, 8, 8, 8, 8, 8, 8, 8, 8, 8, 8, 8, 8, 8, 8, 8, 8, 8, 8, 8, 8, 8, 8, 8, 10, 10, 10, 10, 10, 11, 12, 9]
def mB (y pc : Nat) : List mIns := ((mBL.getD y []).lookup pc).getD []
def mN (y : Nat) : Nat := mNL.getD y 0
def mRc (y : Nat) : Nat := mRL.getD y 0
theorem B_0_0 : mB 0 0 = bk_0_0 := rfl
theorem N_0 : mN 0 = 1 := rfl
theorem C_0 : mRc 0 = 0 := rfl
theorem B_1_0 : mB 1 0 = bk_1_0 := rfl
theorem B_1_53 : mB 1 53 = bk_1_53 := rfl
theorem B_1_78 : mB 1 78 = bk_1_78 := rfl
theorem B_1_95 : mB 1 95 = bk_1_95 := rfl
theorem B_1_123 : mB 1 123 = bk_1_123 := rfl
theorem N_1 : mN 1 = 2 := rfl
theorem C_1 : mRc 1 = 0 := rfl
theorem B_2_0 : mB 2 0 = bk_2_0 := rfl
theorem B_2_2 : mB 2 2 = bk_2_2 := rfl
theorem B_2_29 : mB 2 29 = bk_2_29 := rfl
theorem N_2 : mN 2 = 2 := rfl
theorem C_2 : mRc 2 = 0 := rfl
theorem B_3_0 : mB 3 0 = bk_3_0 := rfl
theorem B_3_12 : mB 3 12 = bk_3_12 := rfl
theorem B_3_24 : mB 3 24 = bk_3_24 := rfl
theorem B_3_36 : mB 3 36 = bk_3_36 := rfl
theorem B_3_48 : mB 3 48 = bk_3_48 := rfl
theorem B_3_60 : mB 3 60 = bk_3_60 := rfl
theorem B_3_75 : mB 3 75 = bk_3_75 := rfl
theorem B_3_76 : mB 3 76 = bk_3_76 := rfl
theorem N_3 : mN 3 = 2 := rfl
theorem C_3 : mRc 3 = 0 := rfl
theorem B_4_0 : mB 4 0 = bk_4_0 := rfl
theorem B_4_15 : mB 4 15 = bk_4_15 := rfl
theorem B_4_43 : mB 4 43 = bk_4_43 := rfl
theorem B_4_114 : mB 4 114 = bk_4_114 := rfl
theorem N_4 : mN 4 = 3 := rfl
theorem C_4 : mRc 4 = 0 := rfl
theorem B_5_0 : mB 5 0 = bk_5_0 := rfl
theorem B_5_14 : mB 5 14 = bk_5_14 := rfl
theorem B_5_22 : mB 5 22 = bk_5_22 := rfl
theorem B_5_62 : mB 5 62 = bk_5_62 := rfl
theorem B_5_81 : mB 5 81 = bk_5_81 := rfl
theorem N_5 : mN 5 = 2 := rfl
theorem C_5 : mRc 5 = 0 := rfl
theorem B_6_0 : mB 6 0 = bk_6_0 := rfl
theorem B_6_9 : mB 6 9 = bk_6_9 := rfl
theorem B_6_31 : mB 6 31 = bk_6_31 := rfl
theorem N_6 : mN 6 = 2 := rfl
theorem C_6 : mRc 6 = 0 := rfl
theorem B_7_0 : mB 7 0 = bk_7_0 := rfl
theorem B_7_14 : mB 7 14 = bk_7_14 := rfl
theorem B_7_15 : mB 7 15 = bk_7_15 := rfl
theorem N_7 : mN 7 = 3 := rfl
theorem C_7 : mRc 7 = 0 := rfl
theorem B_8_0 : mB 8 0 = bk_8_0 := rfl
theorem B_8_19 : mB 8 19 = bk_8_19 := rfl
theorem B_8_43 : mB 8 43 = bk_8_43 := rfl
theorem N_8 : mN 8 = 2 := rfl
theorem C_8 : mRc 8 = 1 := rfl
theorem B_9_0 : mB 9 0 = bk_9_0 := rfl
theorem B_9_12 : mB 9 12 = bk_9_12 := rfl
theorem N_9 : mN 9 = 2 := rfl
theorem C_9 : mRc 9 = 1 := rfl
theorem B_10_0 : mB 10 0 = bk_10_0 := rfl
theorem B_10_9 : mB 10 9 = bk_10_9 := rfl
theorem B_10_34 : mB 10 34 = bk_10_34 := rfl
theorem N_10 : mN 10 = 3 := rfl
theorem C_10 : mRc 10 = 1 := rfl
theorem B_11_0 : mB 11 0 = bk_11_0 := rfl
theorem B_11_9 : mB 11 9 = bk_11_9 := rfl
theorem N_11 : mN 11 = 2 := rfl
theorem C_11 : mRc 11 = 1 := rfl
theorem B_12_0 : mB 12 0 = bk_12_0 := rfl
theorem N_12 : mN 12 = 1 := rfl
theorem C_12 : mRc 12 = 2 := rfl
theorem B_13_0 : mB 13 0 = bk_13_0 := rfl
theorem N_13 : mN 13 = 2 := rfl
theorem C_13 : mRc 13 = 2 := rfl
theorem B_14_0 : mB 14 0 = bk_14_0 := rfl
theorem B_14_13 : mB 14 13 = bk_14_13 := rfl
theorem N_14 : mN 14 = 4 := rfl
theorem C_14 : mRc 14 = 2 := rfl
theorem B_15_0 : mB 15 0 = bk_15_0 := rfl
theorem N_15 : mN 15 = 1 := rfl
theorem C_15 : mRc 15 = 2 := rfl
theorem B_16_0 : mB 16 0 = bk_16_0 := rfl
theorem B_16_12 : mB 16 12 = bk_16_12 := rfl
theorem B_16_15 : mB 16 15 = bk_16_15 := rfl
theorem B_16_35 : mB 16 35 = bk_16_35 := rfl
theorem B_16_49 : mB 16 49 = bk_16_49 := rfl
theorem B_16_55 : mB 16 55 = bk_16_55 := rfl
theorem N_16 : mN 16 = 4 := rfl
theorem C_16 : mRc 16 = 2 := rfl
theorem B_17_0 : mB 17 0 = bk_17_0 := rfl
theorem N_17 : mN 17 = 1 := rfl
theorem C_17 : mRc 17 = 3 := rfl
theorem B_18_0 : mB 18 0 = bk_18_0 := rfl
theorem B_18_25 : mB 18 25 = bk_18_25 := rfl
theorem B_18_64 : mB 18 64 = bk_18_64 := rfl
theorem B_18_99 : mB 18 99 = bk_18_99 := rfl
theorem B_18_131 : mB 18 131 = bk_18_131 := rfl
theorem N_18 : mN 18 = 7 := rfl
theorem C_18 : mRc 18 = 3 := rfl
theorem B_19_0 : mB 19 0 = bk_19_0 := rfl
theorem B_19_26 : mB 19 26 = bk_19_26 := rfl
theorem B_19_28 : mB 19 28 = bk_19_28 := rfl
theorem N_19 : mN 19 = 4 := rfl
theorem C_19 : mRc 19 = 3 := rfl
theorem B_20_0 : mB 20 0 = bk_20_0 := rfl
theorem B_20_6 : mB 20 6 = bk_20_6 := rfl
theorem B_20_33 : mB 20 33 = bk_20_33 := rfl
theorem B_20_34 : mB 20 34 = bk_20_34 := rfl
theorem N_20 : mN 20 = 3 := rfl
theorem C_20 : mRc 20 = 3 := rfl
theorem B_21_0 : mB 21 0 = bk_21_0 := rfl
theorem B_21_6 : mB 21 6 = bk_21_6 := rfl
theorem B_21_24 : mB 21 24 = bk_21_24 := rfl
theorem B_21_34 : mB 21 34 = bk_21_34 := rfl
theorem B_21_47 : mB 21 47 = bk_21_47 := rfl
theorem N_21 : mN 21 = 4 := rfl
theorem C_21 : mRc 21 = 3 := rfl
theorem B_22_0 : mB 22 0 = bk_22_0 := rfl
theorem N_22 : mN 22 = 1 := rfl
theorem C_22 : mRc 22 = 3 := rfl
theorem B_23_0 : mB 23 0 = bk_23_0 := rfl
theorem B_23_2 : mB 23 2 = bk_23_2 := rfl
theorem B_23_30 : mB 23 30 = bk_23_30 := rfl
theorem B_23_36 : mB 23 36 = bk_23_36 := rfl
theorem N_23 : mN 23 = 4 := rfl
theorem C_23 : mRc 23 = 3 := rfl
theorem B_24_0 : mB 24 0 = bk_24_0 := rfl
theorem B_24_63 : mB 24 63 = bk_24_63 := rfl
theorem B_24_88 : mB 24 88 = bk_24_88 := rfl
theorem N_24 : mN 24 = 2 := rfl
theorem C_24 : mRc 24 = 4 := rfl
theorem B_25_0 : mB 25 0 = bk_25_0 := rfl
theorem B_25_2 : mB 25 2 = bk_25_2 := rfl
theorem B_25_29 : mB 25 29 = bk_25_29 := rfl
theorem N_25 : mN 25 = 3 := rfl
theorem C_25 : mRc 25 = 4 := rfl
theorem B_26_0 : mB 26 0 = bk_26_0 := rfl
theorem B_26_4 : mB 26 4 = bk_26_4 := rfl
theorem B_26_25 : mB 26 25 = bk_26_25 := rfl
theorem B_26_31 : mB 26 31 = bk_26_31 := rfl
theorem N_26 : mN 26 = 3 := rfl
theorem C_26 : mRc 26 = 4 := rfl
theorem B_27_0 : mB 27 0 = bk_27_0 := rfl
theorem B_27_4 : mB 27 4 = bk_27_4 := rfl
theorem B_27_28 : mB 27 28 = bk_27_28 := rfl
theorem N_27 : mN 27 = 3 := rfl
theorem C_27 : mRc 27 = 4 := rfl
theorem B_28_0 : mB 28 0 = bk_28_0 := rfl
theorem B_28_2 : mB 28 2 = bk_28_2 := rfl
theorem B_28_22 : mB 28 22 = bk_28_22 := rfl
theorem B_28_28 : mB 28 28 = bk_28_28 := rfl
theorem N_28 : mN 28 = 2 := rfl
theorem C_28 : mRc 28 = 4 := rfl
theorem B_29_0 : mB 29 0 = bk_29_0 := rfl
theorem B_29_3 : mB 29 3 = bk_29_3 := rfl
theorem B_29_93 : mB 29 93 = bk_29_93 := rfl
theorem B_29_99 : mB 29 99 = bk_29_99 := rfl
theorem N_29 : mN 29 = 6 := rfl
theorem C_29 : mRc 29 = 4 := rfl
theorem B_30_0 : mB 30 0 = bk_30_0 := rfl
theorem N_30 : mN 30 = 6 := rfl
theorem C_30 : mRc 30 = 4 := rfl
theorem B_31_0 : mB 31 0 = bk_31_0 := rfl
theorem N_31 : mN 31 = 1 := rfl
theorem C_31 : mRc 31 = 5 := rfl
theorem B_32_0 : mB 32 0 = bk_32_0 := rfl
theorem B_32_11 : mB 32 11 = bk_32_11 := rfl
theorem N_32 : mN 32 = 2 := rfl
theorem C_32 : mRc 32 = 5 := rfl
theorem B_33_0 : mB 33 0 = bk_33_0 := rfl
theorem B_33_12 : mB 33 12 = bk_33_12 := rfl
theorem B_33_14 : mB 33 14 = bk_33_14 := rfl
theorem N_33 : mN 33 = 2 := rfl
theorem C_33 : mRc 33 = 5 := rfl
theorem B_34_0 : mB 34 0 = bk_34_0 := rfl
theorem B_34_10 : mB 34 10 = bk_34_10 := rfl
theorem B_34_12 : mB 34 12 = bk_34_12 := rfl
theorem B_34_32 : mB 34 32 = bk_34_32 := rfl
theorem B_34_38 : mB 34 38 = bk_34_38 := rfl
theorem N_34 : mN 34 = 4 := rfl
theorem C_34 : mRc 34 = 5 := rfl
theorem B_35_0 : mB 35 0 = bk_35_0 := rfl
theorem N_35 : mN 35 = 1 := rfl
theorem C_35 : mRc 35 = 6 := rfl
theorem B_36_0 : mB 36 0 = bk_36_0 := rfl
theorem N_36 : mN 36 = 2 := rfl
theorem C_36 : mRc 36 = 6 := rfl
theorem B_37_0 : mB 37 0 = bk_37_0 := rfl
theorem B_37_9 : mB 37 9 = bk_37_9 := rfl
theorem B_37_25 : mB 37 25 = bk_37_25 := rfl
theorem B_37_31 : mB 37 31 = bk_37_31 := rfl
theorem N_37 : mN 37 = 1 := rfl
theorem C_37 : mRc 37 = 6 := rfl
theorem B_38_0 : mB 38 0 = bk_38_0 := rfl
theorem B_38_16 : mB 38 16 = bk_38_16 := rfl
theorem B_38_17 : mB 38 17 = bk_38_17 := rfl
theorem N_38 : mN 38 = 2 := rfl
theorem C_38 : mRc 38 = 6 := rfl
theorem B_39_0 : mB 39 0 = bk_39_0 := rfl
theorem B_39_16 : mB 39 16 = bk_39_16 := rfl
theorem B_39_17 : mB 39 17 = bk_39_17 := rfl
theorem N_39 : mN 39 = 2 := rfl
theorem C_39 : mRc 39 = 6 := rfl
theorem B_40_0 : mB 40 0 = bk_40_0 := rfl
theorem B_40_19 : mB 40 19 = bk_40_19 := rfl
theorem B_40_23 : mB 40 23 = bk_40_23 := rfl
theorem B_40_24 : mB 40 24 = bk_40_24 := rfl
theorem N_40 : mN 40 = 2 := rfl
theorem C_40 : mRc 40 = 6 := rfl
theorem B_41_0 : mB 41 0 = bk_41_0 := rfl
theorem N_41 : mN 41 = 1 := rfl
theorem C_41 : mRc 41 = 6 := rfl
theorem B_42_0 : mB 42 0 = bk_42_0 := rfl
theorem N_42 : mN 42 = 1 := rfl
theorem C_42 : mRc 42 = 6 := rfl
theorem B_43_0 : mB 43 0 = bk_43_0 := rfl
theorem B_43_32 : mB 43 32 = bk_43_32 := rfl
theorem N_43 : mN 43 = 2 := rfl
theorem C_43 : mRc 43 = 6 := rfl
theorem B_44_0 : mB 44 0 = bk_44_0 := rfl
theorem N_44 : mN 44 = 1 := rfl
theorem C_44 : mRc 44 = 6 := rfl
theorem B_45_0 : mB 45 0 = bk_45_0 := rfl
theorem B_45_10 : mB 45 10 = bk_45_10 := rfl
theorem B_45_11 : mB 45 11 = bk_45_11 := rfl
theorem N_45 : mN 45 = 4 := rfl
theorem C_45 : mRc 45 = 6 := rfl
theorem B_46_0 : mB 46 0 = bk_46_0 := rfl
theorem N_46 : mN 46 = 4 := rfl
theorem C_46 : mRc 46 = 6 := rfl
theorem B_47_0 : mB 47 0 = bk_47_0 := rfl
theorem N_47 : mN 47 = 3 := rfl
theorem C_47 : mRc 47 = 6 := rfl
theorem B_48_0 : mB 48 0 = bk_48_0 := rfl
theorem N_48 : mN 48 = 2 := rfl
theorem C_48 : mRc 48 = 6 := rfl
theorem B_49_0 : mB 49 0 = bk_49_0 := rfl
theorem B_49_18 : mB 49 18 = bk_49_18 := rfl
theorem B_49_49 : mB 49 49 = bk_49_49 := rfl
theorem N_49 : mN 49 = 6 := rfl
theorem C_49 : mRc 49 = 6 := rfl
theorem B_50_0 : mB 50 0 = bk_50_0 := rfl
theorem B_50_11 : mB 50 11 = bk_50_11 := rfl
theorem B_50_52 : mB 50 52 = bk_50_52 := rfl
theorem B_50_63 : mB 50 63 = bk_50_63 := rfl
theorem N_50 : mN 50 = 3 := rfl
theorem C_50 : mRc 50 = 6 := rfl
theorem B_51_0 : mB 51 0 = bk_51_0 := rfl
theorem B_51_12 : mB 51 12 = bk_51_12 := rfl
theorem B_51_82 : mB 51 82 = bk_51_82 := rfl
theorem B_51_88 : mB 51 88 = bk_51_88 := rfl
theorem N_51 : mN 51 = 7 := rfl
theorem C_51 : mRc 51 = 6 := rfl
theorem B_52_0 : mB 52 0 = bk_52_0 := rfl
theorem B_52_9 : mB 52 9 = bk_52_9 := rfl
theorem N_52 : mN 52 = 2 := rfl
theorem C_52 : mRc 52 = 6 := rfl
theorem B_53_0 : mB 53 0 = bk_53_0 := rfl
theorem N_53 : mN 53 = 1 := rfl
theorem C_53 : mRc 53 = 6 := rfl
theorem B_54_0 : mB 54 0 = bk_54_0 := rfl
theorem N_54 : mN 54 = 1 := rfl
theorem C_54 : mRc 54 = 6 := rfl
theorem B_55_0 : mB 55 0 = bk_55_0 := rfl
theorem B_55_10 : mB 55 10 = bk_55_10 := rfl
theorem B_55_36 : mB 55 36 = bk_55_36 := rfl
theorem N_55 : mN 55 = 5 := rfl
theorem C_55 : mRc 55 = 6 := rfl
theorem B_56_0 : mB 56 0 = bk_56_0 := rfl
theorem B_56_9 : mB 56 9 = bk_56_9 := rfl
theorem B_56_29 : mB 56 29 = bk_56_29 := rfl
theorem B_56_35 : mB 56 35 = bk_56_35 := rfl
theorem N_56 : mN 56 = 4 := rfl
theorem C_56 : mRc 56 = 6 := rfl
theorem B_57_0 : mB 57 0 = bk_57_0 := rfl
theorem B_57_17 : mB 57 17 = bk_57_17 := rfl
theorem B_57_19 : mB 57 19 = bk_57_19 := rfl
theorem N_57 : mN 57 = 2 := rfl
theorem C_57 : mRc 57 = 6 := rfl
theorem B_58_0 : mB 58 0 = bk_58_0 := rfl
theorem N_58 : mN 58 = 1 := rfl
theorem C_58 : mRc 58 = 7 := rfl
theorem B_59_0 : mB 59 0 = bk_59_0 := rfl
theorem B_59_9 : mB 59 9 = bk_59_9 := rfl
theorem B_59_12 : mB 59 12 = bk_59_12 := rfl
theorem B_59_28 : mB 59 28 = bk_59_28 := rfl
theorem N_59 : mN 59 = 3 := rfl
theorem C_59 : mRc 59 = 7 := rfl
theorem B_60_0 : mB 60 0 = bk_60_0 := rfl
theorem B_60_13 : mB 60 13 = bk_60_13 := rfl
theorem B_60_16 : mB 60 16 = bk_60_16 := rfl
theorem B_60_32 : mB 60 32 = bk_60_32 := rfl
theorem N_60 : mN 60 = 3 := rfl
theorem C_60 : mRc 60 = 7 := rfl
theorem B_61_0 : mB 61 0 = bk_61_0 := rfl
theorem B_61_9 : mB 61 9 = bk_61_9 := rfl
theorem B_61_27 : mB 61 27 = bk_61_27 := rfl
theorem B_61_30 : mB 61 30 = bk_61_30 := rfl
theorem B_61_48 : mB 61 48 = bk_61_48 := rfl
theorem N_61 : mN 61 = 4 := rfl
theorem C_61 : mRc 61 = 7 := rfl
theorem B_62_0 : mB 62 0 = bk_62_0 := rfl
theorem B_62_23 : mB 62 23 = bk_62_23 := rfl
theorem B_62_25 : mB 62 25 = bk_62_25 := rfl
theorem B_62_43 : mB 62 43 = bk_62_43 := rfl
theorem N_62 : mN 62 = 4 := rfl
theorem C_62 : mRc 62 = 7 := rfl
theorem B_63_0 : mB 63 0 = bk_63_0 := rfl
theorem B_63_14 : mB 63 14 = bk_63_14 := rfl
theorem B_63_16 : mB 63 16 = bk_63_16 := rfl
theorem B_63_24 : mB 63 24 = bk_63_24 := rfl
theorem B_63_60 : mB 63 60 = bk_63_60 := rfl
theorem B_63_63 : mB 63 63 = bk_63_63 := rfl
theorem B_63_81 : mB 63 81 = bk_63_81 := rfl
theorem N_63 : mN 63 = 5 := rfl
theorem C_63 : mRc 63 = 7 := rfl
theorem B_64_0 : mB 64 0 = bk_64_0 := rfl
theorem B_64_9 : mB 64 9 = bk_64_9 := rfl
theorem B_64_29 : mB 64 29 = bk_64_29 := rfl
theorem B_64_39 : mB 64 39 = bk_64_39 := rfl
theorem N_64 : mN 64 = 3 := rfl
theorem C_64 : mRc 64 = 7 := rfl
theorem B_65_0 : mB 65 0 = bk_65_0 := rfl
theorem B_65_9 : mB 65 9 = bk_65_9 := rfl
theorem B_65_19 : mB 65 19 = bk_65_19 := rfl
theorem B_65_40 : mB 65 40 = bk_65_40 := rfl
theorem B_65_62 : mB 65 62 = bk_65_62 := rfl
theorem N_65 : mN 65 = 4 := rfl
theorem C_65 : mRc 65 = 7 := rfl
theorem B_66_0 : mB 66 0 = bk_66_0 := rfl
theorem B_66_14 : mB 66 14 = bk_66_14 := rfl
theorem N_66 : mN 66 = 2 := rfl
theorem C_66 : mRc 66 = 7 := rfl
theorem B_67_0 : mB 67 0 = bk_67_0 := rfl
theorem N_67 : mN 67 = 2 := rfl
theorem C_67 : mRc 67 = 7 := rfl
theorem B_68_0 : mB 68 0 = bk_68_0 := rfl
theorem B_68_33 : mB 68 33 = bk_68_33 := rfl
theorem B_68_76 : mB 68 76 = bk_68_76 := rfl
theorem B_68_102 : mB 68 102 = bk_68_102 := rfl
theorem B_68_122 : mB 68 122 = bk_68_122 := rfl
theorem B_68_141 : mB 68 141 = bk_68_141 := rfl
theorem B_68_160 : mB 68 160 = bk_68_160 := rfl
theorem B_68_172 : mB 68 172 = bk_68_172 := rfl
theorem N_68 : mN 68 = 1 := rfl
theorem C_68 : mRc 68 = 7 := rfl
theorem B_69_0 : mB 69 0 = bk_69_0 := rfl
theorem B_69_9 : mB 69 9 = bk_69_9 := rfl
theorem B_69_31 : mB 69 31 = bk_69_31 := rfl
theorem B_69_42 : mB 69 42 = bk_69_42 := rfl
theorem B_69_61 : mB 69 61 = bk_69_61 := rfl
theorem B_69_90 : mB 69 90 = bk_69_90 := rfl
theorem N_69 : mN 69 = 6 := rfl
theorem C_69 : mRc 69 = 7 := rfl
theorem B_70_0 : mB 70 0 = bk_70_0 := rfl
theorem B_70_17 : mB 70 17 = bk_70_17 := rfl
theorem N_70 : mN 70 = 1 := rfl
theorem C_70 : mRc 70 = 7 := rfl
theorem B_71_0 : mB 71 0 = bk_71_0 := rfl
theorem N_71 : mN 71 = 1 := rfl
theorem C_71 : mRc 71 = 7 := rfl
theorem B_72_0 : mB 72 0 = bk_72_0 := rfl
theorem B_72_10 : mB 72 10 = bk_72_10 := rfl
theorem N_72 : mN 72 = 1 := rfl
theorem C_72 : mRc 72 = 7 := rfl
theorem B_73_0 : mB 73 0 = bk_73_0 := rfl
theorem B_73_9 : mB 73 9 = bk_73_9 := rfl
theorem B_73_19 : mB 73 19 = bk_73_19 := rfl
theorem B_73_22 : mB 73 22 = bk_73_22 := rfl
theorem B_73_42 : mB 73 42 = bk_73_42 := rfl
theorem B_73_80 : mB 73 80 = bk_73_80 := rfl
theorem B_73_85 : mB 73 85 = bk_73_85 := rfl
theorem B_73_96 : mB 73 96 = bk_73_96 := rfl
theorem B_73_97 : mB 73 97 = bk_73_97 := rfl
theorem B_73_98 : mB 73 98 = bk_73_98 := rfl
theorem B_73_103 : mB 73 103 = bk_73_103 := rfl
theorem B_73_108 : mB 73 108 = bk_73_108 := rfl
theorem B_73_113 : mB 73 113 = bk_73_113 := rfl
theorem B_73_118 : mB 73 118 = bk_73_118 := rfl
theorem N_73 : mN 73 = 4 := rfl
theorem C_73 : mRc 73 = 7 := rfl
theorem B_74_0 : mB 74 0 = bk_74_0 := rfl
theorem B_74_23 : mB 74 23 = bk_74_23 := rfl
theorem B_74_25 : mB 74 25 = bk_74_25 := rfl
theorem B_74_68 : mB 74 68 = bk_74_68 := rfl
theorem B_74_76 : mB 74 76 = bk_74_76 := rfl
theorem B_74_84 : mB 74 84 = bk_74_84 := rfl
theorem B_74_100 : mB 74 100 = bk_74_100 := rfl
theorem B_74_110 : mB 74 110 = bk_74_110 := rfl
theorem B_74_111 : mB 74 111 = bk_74_111 := rfl
theorem B_74_130 : mB 74 130 = bk_74_130 := rfl
theorem N_74 : mN 74 = 5 := rfl
theorem C_74 : mRc 74 = 7 := rfl
theorem B_75_0 : mB 75 0 = bk_75_0 := rfl
theorem B_75_23 : mB 75 23 = bk_75_23 := rfl
theorem B_75_25 : mB 75 25 = bk_75_25 := rfl
theorem B_75_35 : mB 75 35 = bk_75_35 := rfl
theorem B_75_58 : mB 75 58 = bk_75_58 := rfl
theorem B_75_90 : mB 75 90 = bk_75_90 := rfl
theorem B_75_95 : mB 75 95 = bk_75_95 := rfl
theorem N_75 : mN 75 = 6 := rfl
theorem C_75 : mRc 75 = 7 := rfl
theorem B_76_0 : mB 76 0 = bk_76_0 := rfl
theorem B_76_9 : mB 76 9 = bk_76_9 := rfl
theorem B_76_25 : mB 76 25 = bk_76_25 := rfl
theorem B_76_28 : mB 76 28 = bk_76_28 := rfl
theorem B_76_51 : mB 76 51 = bk_76_51 := rfl
theorem B_76_73 : mB 76 73 = bk_76_73 := rfl
theorem B_76_86 : mB 76 86 = bk_76_86 := rfl
theorem B_76_102 : mB 76 102 = bk_76_102 := rfl
theorem B_76_109 : mB 76 109 = bk_76_109 := rfl
theorem N_76 : mN 76 = 5 := rfl
theorem C_76 : mRc 76 = 7 := rfl
theorem B_77_0 : mB 77 0 = bk_77_0 := rfl
theorem B_77_9 : mB 77 9 = bk_77_9 := rfl
theorem B_77_29 : mB 77 29 = bk_77_29 := rfl
theorem B_77_38 : mB 77 38 = bk_77_38 := rfl
theorem B_77_87 : mB 77 87 = bk_77_87 := rfl
theorem B_77_93 : mB 77 93 = bk_77_93 := rfl
theorem N_77 : mN 77 = 6 := rfl
theorem C_77 : mRc 77 = 7 := rfl
theorem B_78_0 : mB 78 0 = bk_78_0 := rfl
theorem B_78_9 : mB 78 9 = bk_78_9 := rfl
theorem B_78_35 : mB 78 35 = bk_78_35 := rfl
theorem B_78_38 : mB 78 38 = bk_78_38 := rfl
theorem B_78_60 : mB 78 60 = bk_78_60 := rfl
theorem B_78_75 : mB 78 75 = bk_78_75 := rfl
theorem B_78_129 : mB 78 129 = bk_78_129 := rfl
theorem B_78_135 : mB 78 135 = bk_78_135 := rfl
theorem N_78 : mN 78 = 9 := rfl
theorem C_78 : mRc 78 = 7 := rfl
theorem B_79_0 : mB 79 0 = bk_79_0 := rfl
theorem B_79_9 : mB 79 9 = bk_79_9 := rfl
theorem B_79_23 : mB 79 23 = bk_79_23 := rfl
theorem B_79_26 : mB 79 26 = bk_79_26 := rfl
theorem B_79_48 : mB 79 48 = bk_79_48 := rfl
theorem B_79_70 : mB 79 70 = bk_79_70 := rfl
theorem B_79_106 : mB 79 106 = bk_79_106 := rfl
theorem B_79_140 : mB 79 140 = bk_79_140 := rfl
theorem B_79_146 : mB 79 146 = bk_79_146 := rfl
theorem N_79 : mN 79 = 6 := rfl
theorem C_79 : mRc 79 = 7 := rfl
theorem B_80_0 : mB 80 0 = bk_80_0 := rfl
theorem B_80_13 : mB 80 13 = bk_80_13 := rfl
theorem B_80_16 : mB 80 16 = bk_80_16 := rfl
theorem N_80 : mN 80 = 3 := rfl
theorem C_80 : mRc 80 = 7 := rfl
theorem B_81_0 : mB 81 0 = bk_81_0 := rfl
theorem B_81_60 : mB 81 60 = bk_81_60 := rfl
theorem B_81_68 : mB 81 68 = bk_81_68 := rfl
theorem B_81_76 : mB 81 76 = bk_81_76 := rfl
theorem B_81_84 : mB 81 84 = bk_81_84 := rfl
theorem B_81_92 : mB 81 92 = bk_81_92 := rfl
theorem B_81_100 : mB 81 100 = bk_81_100 := rfl
theorem B_81_108 : mB 81 108 = bk_81_108 := rfl
theorem B_81_116 : mB 81 116 = bk_81_116 := rfl
theorem B_81_124 : mB 81 124 = bk_81_124 := rfl
theorem B_81_132 : mB 81 132 = bk_81_132 := rfl
theorem B_81_140 : mB 81 140 = bk_81_140 := rfl
theorem B_81_148 : mB 81 148 = bk_81_148 := rfl
theorem N_81 : mN 81 = 2 := rfl
theorem C_81 : mRc 81 = 7 := rfl
theorem B_82_0 : mB 82 0 = bk_82_0 := rfl
theorem B_82_14 : mB 82 14 = bk_82_14 := rfl
theorem B_82_15 : mB 82 15 = bk_82_15 := rfl
theorem N_82 : mN 82 = 1 := rfl
theorem C_82 : mRc 82 = 7 := rfl
theorem B_83_0 : mB 83 0 = bk_83_0 := rfl
theorem B_83_14 : mB 83 14 = bk_83_14 := rfl
theorem B_83_15 : mB 83 15 = bk_83_15 := rfl
theorem N_83 : mN 83 = 1 := rfl
theorem C_83 : mRc 83 = 7 := rfl
theorem B_84_0 : mB 84 0 = bk_84_0 := rfl
theorem B_84_13 : mB 84 13 = bk_84_13 := rfl
theorem B_84_14 : mB 84 14 = bk_84_14 := rfl
theorem N_84 : mN 84 = 1 := rfl
theorem C_84 : mRc 84 = 7 := rfl
theorem B_85_0 : mB 85 0 = bk_85_0 := rfl
theorem B_85_9 : mB 85 9 = bk_85_9 := rfl
theorem B_85_13 : mB 85 13 = bk_85_13 := rfl
theorem B_85_14 : mB 85 14 = bk_85_14 := rfl
theorem N_85 : mN 85 = 1 := rfl
theorem C_85 : mRc 85 = 7 := rfl
theorem B_86_0 : mB 86 0 = bk_86_0 := rfl
theorem N_86 : mN 86 = 1 := rfl
theorem C_86 : mRc 86 = 7 := rfl
theorem B_87_0 : mB 87 0 = bk_87_0 := rfl
theorem B_87_15 : mB 87 15 = bk_87_15 := rfl
theorem B_87_34 : mB 87 34 = bk_87_34 := rfl
theorem N_87 : mN 87 = 4 := rfl
theorem C_87 : mRc 87 = 7 := rfl
theorem B_88_0 : mB 88 0 = bk_88_0 := rfl
theorem N_88 : mN 88 = 1 := rfl
theorem C_88 : mRc 88 = 8 := rfl
theorem B_89_0 : mB 89 0 = bk_89_0 := rfl
theorem B_89_14 : mB 89 14 = bk_89_14 := rfl
theorem B_89_15 : mB 89 15 = bk_89_15 := rfl
theorem N_89 : mN 89 = 3 := rfl
theorem C_89 : mRc 89 = 8 := rfl
theorem B_90_0 : mB 90 0 = bk_90_0 := rfl
theorem B_90_13 : mB 90 13 = bk_90_13 := rfl
theorem B_90_14 : mB 90 14 = bk_90_14 := rfl
theorem N_90 : mN 90 = 1 := rfl
theorem C_90 : mRc 90 = 8 := rfl
theorem B_91_0 : mB 91 0 = bk_91_0 := rfl
theorem N_91 : mN 91 = 3 := rfl
theorem C_91 : mRc 91 = 8 := rfl
theorem B_92_0 : mB 92 0 = bk_92_0 := rfl
theorem N_92 : mN 92 = 4 := rfl
theorem C_92 : mRc 92 = 8 := rfl
theorem B_93_0 : mB 93 0 = bk_93_0 := rfl
theorem B_93_13 : mB 93 13 = bk_93_13 := rfl
theorem B_93_14 : mB 93 14 = bk_93_14 := rfl
theorem N_93 : mN 93 = 2 := rfl
theorem C_93 : mRc 93 = 8 := rfl
theorem B_94_0 : mB 94 0 = bk_94_0 := rfl
theorem N_94 : mN 94 = 2 := rfl
theorem C_94 : mRc 94 = 8 := rfl
theorem B_95_0 : mB 95 0 = bk_95_0 := rfl
theorem B_95_10 : mB 95 10 = bk_95_10 := rfl
theorem B_95_39 : mB 95 39 = bk_95_39 := rfl
theorem B_95_49 : mB 95 49 = bk_95_49 := rfl
theorem B_95_51 : mB 95 51 = bk_95_51 := rfl
theorem B_95_85 : mB 95 85 = bk_95_85 := rfl
theorem N_95 : mN 95 = 2 := rfl
theorem C_95 : mRc 95 = 8 := rfl
theorem B_96_0 : mB 96 0 = bk_96_0 := rfl
theorem B_96_16 : mB 96 16 = bk_96_16 := rfl
theorem B_96_53 : mB 96 53 = bk_96_53 := rfl
theorem B_96_65 : mB 96 65 = bk_96_65 := rfl
theorem N_96 : mN 96 = 5 := rfl
theorem C_96 : mRc 96 = 8 := rfl
theorem B_97_0 : mB 97 0 = bk_97_0 := rfl
theorem B_97_12 : mB 97 12 = bk_97_12 := rfl
theorem B_97_29 : mB 97 29 = bk_97_29 := rfl
theorem N_97 : mN 97 = 3 := rfl
theorem C_97 : mRc 97 = 8 := rfl
theorem B_98_0 : mB 98 0 = bk_98_0 := rfl
theorem B_98_15 : mB 98 15 = bk_98_15 := rfl
theorem B_98_32 : mB 98 32 = bk_98_32 := rfl
theorem N_98 : mN 98 = 3 := rfl
theorem C_98 : mRc 98 = 8 := rfl
theorem B_99_0 : mB 99 0 = bk_99_0 := rfl
theorem N_99 : mN 99 = 4 := rfl
theorem C_99 : mRc 99 = 8 := rfl
theorem B_100_0 : mB 100 0 = bk_100_0 := rfl
theorem N_100 : mN 100 = 5 := rfl
theorem C_100 : mRc 100 = 8 := rfl
theorem B_101_0 : mB 101 0 = bk_101_0 := rfl
theorem B_101_17 : mB 101 17 = bk_101_17 := rfl
theorem B_101_33 : mB 101 33 = bk_101_33 := rfl
theorem B_101_42 : mB 101 42 = bk_101_42 := rfl
theorem N_101 : mN 101 = 5 := rfl
theorem C_101 : mRc 101 = 8 := rfl
theorem B_102_0 : mB 102 0 = bk_102_0 := rfl
theorem B_102_12 : mB 102 12 = bk_102_12 := rfl
theorem B_102_97 : mB 102 97 = bk_102_97 := rfl
theorem B_102_103 : mB 102 103 = bk_102_103 := rfl
theorem B_102_159 : mB 102 159 = bk_102_159 := rfl
theorem B_102_168 : mB 102 168 = bk_102_168 := rfl
theorem B_102_172 : mB 102 172 = bk_102_172 := rfl
theorem B_102_217 : mB 102 217 = bk_102_217 := rfl
theorem B_102_226 : mB 102 226 = bk_102_226 := rfl
theorem B_102_250 : mB 102 250 = bk_102_250 := rfl
theorem B_102_251 : mB 102 251 = bk_102_251 := rfl
theorem B_102_284 : mB 102 284 = bk_102_284 := rfl
theorem B_102_286 : mB 102 286 = bk_102_286 := rfl
theorem N_102 : mN 102 = 7 := rfl
theorem C_102 : mRc 102 = 8 := rfl
theorem B_103_0 : mB 103 0 = bk_103_0 := rfl
theorem B_103_9 : mB 103 9 = bk_103_9 := rfl
theorem B_103_29 : mB 103 29 = bk_103_29 := rfl
theorem B_103_32 : mB 103 32 = bk_103_32 := rfl
theorem B_103_43 : mB 103 43 = bk_103_43 := rfl
theorem B_103_58 : mB 103 58 = bk_103_58 := rfl
theorem B_103_83 : mB 103 83 = bk_103_83 := rfl
theorem N_103 : mN 103 = 6 := rfl
theorem C_103 : mRc 103 = 8 := rfl
theorem B_104_0 : mB 104 0 = bk_104_0 := rfl
theorem B_104_31 : mB 104 31 = bk_104_31 := rfl
theorem B_104_33 : mB 104 33 = bk_104_33 := rfl
theorem B_104_35 : mB 104 35 = bk_104_35 := rfl
theorem B_104_55 : mB 104 55 = bk_104_55 := rfl
theorem B_104_64 : mB 104 64 = bk_104_64 := rfl
theorem B_104_81 : mB 104 81 = bk_104_81 := rfl
theorem B_104_117 : mB 104 117 = bk_104_117 := rfl
theorem B_104_120 : mB 104 120 = bk_104_120 := rfl
theorem B_104_155 : mB 104 155 = bk_104_155 := rfl
theorem N_104 : mN 104 = 6 := rfl
theorem C_104 : mRc 104 = 8 := rfl
theorem B_105_0 : mB 105 0 = bk_105_0 := rfl
theorem B_105_14 : mB 105 14 = bk_105_14 := rfl
theorem B_105_16 : mB 105 16 = bk_105_16 := rfl
theorem B_105_24 : mB 105 24 = bk_105_24 := rfl
theorem B_105_40 : mB 105 40 = bk_105_40 := rfl
theorem B_105_43 : mB 105 43 = bk_105_43 := rfl
theorem B_105_70 : mB 105 70 = bk_105_70 := rfl
theorem B_105_77 : mB 105 77 = bk_105_77 := rfl
theorem B_105_113 : mB 105 113 = bk_105_113 := rfl
theorem B_105_116 : mB 105 116 = bk_105_116 := rfl
theorem B_105_151 : mB 105 151 = bk_105_151 := rfl
theorem N_105 : mN 105 = 6 := rfl
theorem C_105 : mRc 105 = 8 := rfl
theorem B_106_0 : mB 106 0 = bk_106_0 := rfl
theorem B_106_9 : mB 106 9 = bk_106_9 := rfl
theorem B_106_20 : mB 106 20 = bk_106_20 := rfl
theorem B_106_33 : mB 106 33 = bk_106_33 := rfl
theorem N_106 : mN 106 = 2 := rfl
theorem C_106 : mRc 106 = 8 := rfl
theorem B_107_0 : mB 107 0 = bk_107_0 := rfl
theorem B_107_27 : mB 107 27 = bk_107_27 := rfl
theorem B_107_29 : mB 107 29 = bk_107_29 := rfl
theorem N_107 : mN 107 = 3 := rfl
theorem C_107 : mRc 107 = 8 := rfl
theorem B_108_0 : mB 108 0 = bk_108_0 := rfl
theorem B_108_21 : mB 108 21 = bk_108_21 := rfl
theorem B_108_69 : mB 108 69 = bk_108_69 := rfl
theorem B_108_117 : mB 108 117 = bk_108_117 := rfl
theorem B_108_123 : mB 108 123 = bk_108_123 := rfl
theorem N_108 : mN 108 = 9 := rfl
theorem C_108 : mRc 108 = 8 := rfl
theorem B_109_0 : mB 109 0 = bk_109_0 := rfl
theorem B_109_18 : mB 109 18 = bk_109_18 := rfl
theorem B_109_19 : mB 109 19 = bk_109_19 := rfl
theorem N_109 : mN 109 = 3 := rfl
theorem C_109 : mRc 109 = 8 := rfl
theorem B_110_0 : mB 110 0 = bk_110_0 := rfl
theorem B_110_12 : mB 110 12 = bk_110_12 := rfl
theorem B_110_46 : mB 110 46 = bk_110_46 := rfl
theorem B_110_63 : mB 110 63 = bk_110_63 := rfl
theorem B_110_64 : mB 110 64 = bk_110_64 := rfl
theorem B_110_84 : mB 110 84 = bk_110_84 := rfl
theorem B_110_85 : mB 110 85 = bk_110_85 := rfl
theorem B_110_100 : mB 110 100 = bk_110_100 := rfl
theorem B_110_102 : mB 110 102 = bk_110_102 := rfl
theorem B_110_104 : mB 110 104 = bk_110_104 := rfl
theorem B_110_110 : mB 110 110 = bk_110_110 := rfl
theorem B_110_118 : mB 110 118 = bk_110_118 := rfl
theorem B_110_128 : mB 110 128 = bk_110_128 := rfl
theorem B_110_130 : mB 110 130 = bk_110_130 := rfl
theorem N_110 : mN 110 = 7 := rfl
theorem C_110 : mRc 110 = 8 := rfl
theorem B_111_0 : mB 111 0 = bk_111_0 := rfl
theorem N_111 : mN 111 = 3 := rfl
theorem C_111 : mRc 111 = 8 := rfl
theorem B_112_0 : mB 112 0 = bk_112_0 := rfl
theorem B_112_9 : mB 112 9 = bk_112_9 := rfl
theorem B_112_21 : mB 112 21 = bk_112_21 := rfl
theorem B_112_38 : mB 112 38 = bk_112_38 := rfl
theorem B_112_41 : mB 112 41 = bk_112_41 := rfl
theorem B_112_59 : mB 112 59 = bk_112_59 := rfl
theorem B_112_82 : mB 112 82 = bk_112_82 := rfl
theorem B_112_123 : mB 112 123 = bk_112_123 := rfl
theorem B_112_149 : mB 112 149 = bk_112_149 := rfl
theorem N_112 : mN 112 = 5 := rfl
theorem C_112 : mRc 112 = 8 := rfl
theorem B_113_0 : mB 113 0 = bk_113_0 := rfl
theorem B_113_12 : mB 113 12 = bk_113_12 := rfl
theorem N_113 : mN 113 = 2 := rfl
theorem C_113 : mRc 113 = 8 := rfl
theorem B_114_0 : mB 114 0 = bk_114_0 := rfl
theorem N_114 : mN 114 = 2 := rfl
theorem C_114 : mRc 114 = 8 := rfl
theorem B_115_0 : mB 115 0 = bk_115_0 := rfl
theorem B_115_9 : mB 115 9 = bk_115_9 := rfl
theorem B_115_10 : mB 115 10 = bk_115_10 := rfl
theorem B_115_51 : mB 115 51 = bk_115_51 := rfl
theorem B_115_53 : mB 115 53 = bk_115_53 := rfl
theorem B_115_80 : mB 115 80 = bk_115_80 := rfl
theorem B_115_84 : mB 115 84 = bk_115_84 := rfl
theorem B_115_85 : mB 115 85 = bk_115_85 := rfl
theorem N_115 : mN 115 = 7 := rfl
theorem C_115 : mRc 115 = 8 := rfl
theorem B_116_0 : mB 116 0 = bk_116_0 := rfl
theorem B_116_76 : mB 116 76 = bk_116_76 := rfl
theorem B_116_77 : mB 116 77 = bk_116_77 := rfl
theorem N_116 : mN 116 = 7 := rfl
theorem C_116 : mRc 116 = 8 := rfl
theorem B_117_0 : mB 117 0 = bk_117_0 := rfl
theorem B_117_5 : mB 117 5 = bk_117_5 := rfl
theorem B_117_48 : mB 117 48 = bk_117_48 := rfl
theorem B_117_65 : mB 117 65 = bk_117_65 := rfl
theorem B_117_84 : mB 117 84 = bk_117_84 := rfl
theorem B_117_103 : mB 117 103 = bk_117_103 := rfl
theorem B_117_122 : mB 117 122 = bk_117_122 := rfl
theorem B_117_145 : mB 117 145 = bk_117_145 := rfl
theorem B_117_168 : mB 117 168 = bk_117_168 := rfl
theorem B_117_170 : mB 117 170 = bk_117_170 := rfl
theorem N_117 : mN 117 = 1 := rfl
theorem C_117 : mRc 117 = 8 := rfl
theorem B_118_0 : mB 118 0 = bk_118_0 := rfl
theorem B_118_25 : mB 118 25 = bk_118_25 := rfl
theorem B_118_27 : mB 118 27 = bk_118_27 := rfl
theorem N_118 : mN 118 = 1 := rfl
theorem C_118 : mRc 118 = 8 := rfl
theorem B_119_0 : mB 119 0 = bk_119_0 := rfl
theorem B_119_30 : mB 119 30 = bk_119_30 := rfl
theorem B_119_32 : mB 119 32 = bk_119_32 := rfl
theorem B_119_129 : mB 119 129 = bk_119_129 := rfl
theorem N_119 : mN 119 = 1 := rfl
theorem C_119 : mRc 119 = 8 := rfl
theorem B_120_0 : mB 120 0 = bk_120_0 := rfl
theorem B_120_24 : mB 120 24 = bk_120_24 := rfl
theorem B_120_38 : mB 120 38 = bk_120_38 := rfl
theorem B_120_40 : mB 120 40 = bk_120_40 := rfl
theorem B_120_71 : mB 120 71 = bk_120_71 := rfl
theorem B_120_72 : mB 120 72 = bk_120_72 := rfl
theorem B_120_73 : mB 120 73 = bk_120_73 := rfl
theorem B_120_82 : mB 120 82 = bk_120_82 := rfl
theorem B_120_106 : mB 120 106 = bk_120_106 := rfl
theorem B_120_129 : mB 120 129 = bk_120_129 := rfl
theorem B_120_130 : mB 120 130 = bk_120_130 := rfl
theorem B_120_131 : mB 120 131 = bk_120_131 := rfl
theorem B_120_174 : mB 120 174 = bk_120_174 := rfl
theorem B_120_200 : mB 120 200 = bk_120_200 := rfl
theorem B_120_201 : mB 120 201 = bk_120_201 := rfl
theorem N_120 : mN 120 = 1 := rfl
theorem C_120 : mRc 120 = 8 := rfl
theorem B_121_0 : mB 121 0 = bk_121_0 := rfl
theorem B_121_12 : mB 121 12 = bk_121_12 := rfl
theorem B_121_26 : mB 121 26 = bk_121_26 := rfl
theorem B_121_45 : mB 121 45 = bk_121_45 := rfl
theorem B_121_63 : mB 121 63 = bk_121_63 := rfl
theorem B_121_122 : mB 121 122 = bk_121_122 := rfl
theorem N_121 : mN 121 = 4 := rfl
theorem C_121 : mRc 121 = 8 := rfl
theorem B_122_0 : mB 122 0 = bk_122_0 := rfl
theorem B_122_15 : mB 122 15 = bk_122_15 := rfl
theorem B_122_52 : mB 122 52 = bk_122_52 := rfl
theorem B_122_57 : mB 122 57 = bk_122_57 := rfl
theorem B_122_71 : mB 122 71 = bk_122_71 := rfl
theorem B_122_84 : mB 122 84 = bk_122_84 := rfl
theorem B_122_97 : mB 122 97 = bk_122_97 := rfl
theorem B_122_106 : mB 122 106 = bk_122_106 := rfl
theorem N_122 : mN 122 = 1 := rfl
theorem C_122 : mRc 122 = 8 := rfl
theorem B_123_0 : mB 123 0 = bk_123_0 := rfl
theorem B_123_4 : mB 123 4 = bk_123_4 := rfl
theorem B_123_23 : mB 123 23 = bk_123_23 := rfl
theorem B_123_24 : mB 123 24 = bk_123_24 := rfl
theorem B_123_32 : mB 123 32 = bk_123_32 := rfl
theorem N_123 : mN 123 = 3 := rfl
theorem C_123 : mRc 123 = 8 := rfl
theorem B_124_0 : mB 124 0 = bk_124_0 := rfl
theorem B_124_10 : mB 124 10 = bk_124_10 := rfl
theorem B_124_22 : mB 124 22 = bk_124_22 := rfl
theorem B_124_56 : mB 124 56 = bk_124_56 := rfl
theorem N_124 : mN 124 = 2 := rfl
theorem C_124 : mRc 124 = 8 := rfl
theorem B_125_0 : mB 125 0 = bk_125_0 := rfl
theorem B_125_2 : mB 125 2 = bk_125_2 := rfl
theorem B_125_27 : mB 125 27 = bk_125_27 := rfl
theorem N_125 : mN 125 = 2 := rfl
theorem C_125 : mRc 125 = 8 := rfl
theorem B_126_0 : mB 126 0 = bk_126_0 := rfl
theorem B_126_10 : mB 126 10 = bk_126_10 := rfl
theorem B_126_16 : mB 126 16 = bk_126_16 := rfl
theorem B_126_41 : mB 126 41 = bk_126_41 := rfl
theorem N_126 : mN 126 = 2 := rfl
theorem C_126 : mRc 126 = 8 := rfl
theorem B_127_0 : mB 127 0 = bk_127_0 := rfl
theorem N_127 : mN 127 = 3 := rfl
theorem C_127 : mRc 127 = 8 := rfl
theorem B_128_0 : mB 128 0 = bk_128_0 := rfl
theorem B_128_4 : mB 128 4 = bk_128_4 := rfl
theorem B_128_32 : mB 128 32 = bk_128_32 := rfl
theorem B_128_33 : mB 128 33 = bk_128_33 := rfl
theorem B_128_40 : mB 128 40 = bk_128_40 := rfl
theorem N_128 : mN 128 = 4 := rfl
theorem C_128 : mRc 128 = 8 := rfl
theorem B_129_0 : mB 129 0 = bk_129_0 := rfl
theorem B_129_5 : mB 129 5 = bk_129_5 := rfl
theorem B_129_33 : mB 129 33 = bk_129_33 := rfl
theorem N_129 : mN 129 = 5 := rfl
theorem C_129 : mRc 129 = 8 := rfl
theorem B_130_0 : mB 130 0 = bk_130_0 := rfl
theorem B_130_9 : mB 130 9 = bk_130_9 := rfl
theorem B_130_22 : mB 130 22 = bk_130_22 := rfl
theorem B_130_33 : mB 130 33 = bk_130_33 := rfl
theorem B_130_72 : mB 130 72 = bk_130_72 := rfl
theorem B_130_79 : mB 130 79 = bk_130_79 := rfl
theorem B_130_86 : mB 130 86 = bk_130_86 := rfl
theorem B_130_93 : mB 130 93 = bk_130_93 := rfl
theorem B_130_101 : mB 130 101 = bk_130_101 := rfl
theorem B_130_108 : mB 130 108 = bk_130_108 := rfl
theorem B_130_114 : mB 130 114 = bk_130_114 := rfl
theorem N_130 : mN 130 = 3 := rfl
theorem C_130 : mRc 130 = 8 := rfl
theorem B_131_0 : mB 131 0 = bk_131_0 := rfl
theorem B_131_30 : mB 131 30 = bk_131_30 := rfl
theorem B_131_32 : mB 131 32 = bk_131_32 := rfl
theorem B_131_64 : mB 131 64 = bk_131_64 := rfl
theorem B_131_73 : mB 131 73 = bk_131_73 := rfl
theorem B_131_83 : mB 131 83 = bk_131_83 := rfl
theorem B_131_114 : mB 131 114 = bk_131_114 := rfl
theorem B_131_116 : mB 131 116 = bk_131_116 := rfl
theorem B_131_117 : mB 131 117 = bk_131_117 := rfl
theorem B_131_126 : mB 131 126 = bk_131_126 := rfl
theorem N_131 : mN 131 = 4 := rfl
theorem C_131 : mRc 131 = 8 := rfl
theorem B_132_0 : mB 132 0 = bk_132_0 := rfl
theorem B_132_31 : mB 132 31 = bk_132_31 := rfl
theorem B_132_33 : mB 132 33 = bk_132_33 := rfl
theorem B_132_45 : mB 132 45 = bk_132_45 := rfl
theorem B_132_57 : mB 132 57 = bk_132_57 := rfl
theorem B_132_79 : mB 132 79 = bk_132_79 := rfl
theorem B_132_88 : mB 132 88 = bk_132_88 := rfl
theorem N_132 : mN 132 = 4 := rfl
theorem C_132 : mRc 132 = 8 := rfl
theorem B_133_0 : mB 133 0 = bk_133_0 := rfl
theorem B_133_9 : mB 133 9 = bk_133_9 := rfl
theorem B_133_27 : mB 133 27 = bk_133_27 := rfl
theorem B_133_30 : mB 133 30 = bk_133_30 := rfl
theorem B_133_47 : mB 133 47 = bk_133_47 := rfl
theorem B_133_50 : mB 133 50 = bk_133_50 := rfl
theorem N_133 : mN 133 = 4 := rfl
theorem C_133 : mRc 133 = 8 := rfl
theorem B_134_0 : mB 134 0 = bk_134_0 := rfl
theorem B_134_9 : mB 134 9 = bk_134_9 := rfl
theorem B_134_20 : mB 134 20 = bk_134_20 := rfl
theorem B_134_32 : mB 134 32 = bk_134_32 := rfl
theorem B_134_66 : mB 134 66 = bk_134_66 := rfl
theorem B_134_72 : mB 134 72 = bk_134_72 := rfl
theorem N_134 : mN 134 = 6 := rfl
theorem C_134 : mRc 134 = 8 := rfl
theorem B_135_0 : mB 135 0 = bk_135_0 := rfl
theorem B_135_2 : mB 135 2 = bk_135_2 := rfl
theorem B_135_27 : mB 135 27 = bk_135_27 := rfl
theorem N_135 : mN 135 = 2 := rfl
theorem C_135 : mRc 135 = 8 := rfl
theorem B_136_0 : mB 136 0 = bk_136_0 := rfl
theorem B_136_2 : mB 136 2 = bk_136_2 := rfl
theorem B_136_27 : mB 136 27 = bk_136_27 := rfl
theorem N_136 : mN 136 = 2 := rfl
theorem C_136 : mRc 136 = 8 := rfl
theorem B_137_0 : mB 137 0 = bk_137_0 := rfl
theorem B_137_9 : mB 137 9 = bk_137_9 := rfl
theorem B_137_39 : mB 137 39 = bk_137_39 := rfl
theorem B_137_42 : mB 137 42 = bk_137_42 := rfl
theorem B_137_55 : mB 137 55 = bk_137_55 := rfl
theorem B_137_56 : mB 137 56 = bk_137_56 := rfl
theorem N_137 : mN 137 = 5 := rfl
theorem C_137 : mRc 137 = 8 := rfl
theorem B_138_0 : mB 138 0 = bk_138_0 := rfl
theorem B_138_19 : mB 138 19 = bk_138_19 := rfl
theorem B_138_37 : mB 138 37 = bk_138_37 := rfl
theorem B_138_63 : mB 138 63 = bk_138_63 := rfl
theorem N_138 : mN 138 = 9 := rfl
theorem C_138 : mRc 138 = 8 := rfl
theorem B_139_0 : mB 139 0 = bk_139_0 := rfl
theorem B_139_8 : mB 139 8 = bk_139_8 := rfl
theorem B_139_35 : mB 139 35 = bk_139_35 := rfl
theorem B_139_41 : mB 139 41 = bk_139_41 := rfl
theorem N_139 : mN 139 = 4 := rfl
theorem C_139 : mRc 139 = 8 := rfl
theorem B_140_0 : mB 140 0 = bk_140_0 := rfl
theorem B_140_18 : mB 140 18 = bk_140_18 := rfl
theorem B_140_27 : mB 140 27 = bk_140_27 := rfl
theorem B_140_54 : mB 140 54 = bk_140_54 := rfl
theorem B_140_61 : mB 140 61 = bk_140_61 := rfl
theorem B_140_92 : mB 140 92 = bk_140_92 := rfl
theorem N_140 : mN 140 = 6 := rfl
theorem C_140 : mRc 140 = 8 := rfl
theorem B_141_0 : mB 141 0 = bk_141_0 := rfl
theorem B_141_13 : mB 141 13 = bk_141_13 := rfl
theorem B_141_16 : mB 141 16 = bk_141_16 := rfl
theorem B_141_56 : mB 141 56 = bk_141_56 := rfl
theorem B_141_58 : mB 141 58 = bk_141_58 := rfl
theorem N_141 : mN 141 = 3 := rfl
theorem C_141 : mRc 141 = 8 := rfl
theorem B_142_0 : mB 142 0 = bk_142_0 := rfl
theorem B_142_4 : mB 142 4 = bk_142_4 := rfl
theorem B_142_23 : mB 142 23 = bk_142_23 := rfl
theorem B_142_29 : mB 142 29 = bk_142_29 := rfl
theorem B_142_37 : mB 142 37 = bk_142_37 := rfl
theorem N_142 : mN 142 = 3 := rfl
theorem C_142 : mRc 142 = 8 := rfl
theorem B_143_0 : mB 143 0 = bk_143_0 := rfl
theorem B_143_60 : mB 143 60 = bk_143_60 := rfl
theorem B_143_65 : mB 143 65 = bk_143_65 := rfl
theorem B_143_70 : mB 143 70 = bk_143_70 := rfl
theorem B_143_79 : mB 143 79 = bk_143_79 := rfl
theorem B_143_88 : mB 143 88 = bk_143_88 := rfl
theorem B_143_97 : mB 143 97 = bk_143_97 := rfl
theorem B_143_106 : mB 143 106 = bk_143_106 := rfl
theorem B_143_115 : mB 143 115 = bk_143_115 := rfl
theorem B_143_124 : mB 143 124 = bk_143_124 := rfl
theorem B_143_133 : mB 143 133 = bk_143_133 := rfl
theorem B_143_138 : mB 143 138 = bk_143_138 := rfl
theorem B_143_143 : mB 143 143 = bk_143_143 := rfl
theorem N_143 : mN 143 = 2 := rfl
theorem C_143 : mRc 143 = 8 := rfl
theorem B_144_0 : mB 144 0 = bk_144_0 := rfl
theorem N_144 : mN 144 = 1 := rfl
theorem C_144 : mRc 144 = 10 := rfl
theorem B_145_0 : mB 145 0 = bk_145_0 := rfl
theorem B_145_16 : mB 145 16 = bk_145_16 := rfl
theorem N_145 : mN 145 = 2 := rfl
theorem C_145 : mRc 145 = 10 := rfl
theorem B_146_0 : mB 146 0 = bk_146_0 := rfl
theorem B_146_13 : mB 146 13 = bk_146_13 := rfl
theorem B_146_14 : mB 146 14 = bk_146_14 := rfl
theorem N_146 : mN 146 = 1 := rfl
theorem C_146 : mRc 146 = 10 := rfl
theorem B_147_0 : mB 147 0 = bk_147_0 := rfl
theorem B_147_17 : mB 147 17 = bk_147_17 := rfl
theorem B_147_18 : mB 147 18 = bk_147_18 := rfl
theorem N_147 : mN 147 = 1 := rfl
theorem C_147 : mRc 147 = 10 := rfl
theorem B_148_0 : mB 148 0 = bk_148_0 := rfl
theorem N_148 : mN 148 = 2 := rfl
theorem C_148 : mRc 148 = 10 := rfl
theorem B_149_0 : mB 149 0 = bk_149_0 := rfl
theorem N_149 : mN 149 = 2 := rfl
theorem C_149 : mRc 149 = 11 := rfl
theorem B_150_0 : mB 150 0 = bk_150_0 := rfl
theorem B_150_9 : mB 150 9 = bk_150_9 := rfl
theorem B_150_16 : mB 150 16 = bk_150_16 := rfl
theorem N_150 : mN 150 = 3 := rfl
theorem C_150 : mRc 150 = 12 := rfl
theorem B_151_0 : mB 151 0 = bk_151_0 := rfl
theorem B_151_18 : mB 151 18 = bk_151_18 := rfl
theorem B_151_136 : mB 151 136 = bk_151_136 := rfl
theorem B_151_159 : mB 151 159 = bk_151_159 := rfl
theorem B_151_182 : mB 151 182 = bk_151_182 := rfl
theorem B_151_225 : mB 151 225 = bk_151_225 := rfl
theorem B_151_258 : mB 151 258 = bk_151_258 := rfl
theorem B_151_291 : mB 151 291 = bk_151_291 := rfl
theorem B_151_314 : mB 151 314 = bk_151_314 := rfl
theorem B_151_347 : mB 151 347 = bk_151_347 := rfl
theorem B_151_372 : mB 151 372 = bk_151_372 := rfl
theorem B_151_385 : mB 151 385 = bk_151_385 := rfl
theorem B_151_398 : mB 151 398 = bk_151_398 := rfl
theorem B_151_411 : mB 151 411 = bk_151_411 := rfl
theorem B_151_424 : mB 151 424 = bk_151_424 := rfl
theorem B_151_437 : mB 151 437 = bk_151_437 := rfl
theorem B_151_470 : mB 151 470 = bk_151_470 := rfl
theorem B_151_513 : mB 151 513 = bk_151_513 := rfl
theorem B_151_556 : mB 151 556 = bk_151_556 := rfl
theorem B_151_599 : mB 151 599 = bk_151_599 := rfl
theorem B_151_622 : mB 151 622 = bk_151_622 := rfl
theorem B_151_675 : mB 151 675 = bk_151_675 := rfl
theorem B_151_718 : mB 151 718 = bk_151_718 := rfl
theorem B_151_751 : mB 151 751 = bk_151_751 := rfl
theorem B_151_774 : mB 151 774 = bk_151_774 := rfl
theorem B_151_780 : mB 151 780 = bk_151_780 := rfl
theorem N_151 : mN 151 = 4 := rfl
theorem C_151 : mRc 151 = 9 := rfl
