theorem d_TM_init_0 : decode b_TM_init 0 = .ok (.aload_n 0, 1) := by decide +kernel
theorem d_TM_init_1 : decode b_TM_init 1 = .ok (.invokespecial 1, 3) := by decide +kernel
theorem d_TM_init_4 : decode b_TM_init 4 = .ok (.aload_n 0, 1) := by decide +kernel
theorem d_TM_init_5 : decode b_TM_init 5 = .ok (.sipush 256, 3) := by decide +kernel
theorem d_TM_init_8 : decode b_TM_init 8 = .ok (.newarray .byte, 2) := by decide +kernel
theorem d_TM_init_10 : decode b_TM_init 10 = .ok (.putfield 7, 3) := by decide +kernel
theorem d_TM_init_13 : decode b_TM_init 13 = .ok (.aload_n 0, 1) := by decide +kernel
theorem d_TM_init_14 : decode b_TM_init 14 = .ok (.sipush 256, 3) := by decide +kernel
theorem d_TM_init_17 : decode b_TM_init 17 = .ok (.newarray .byte, 2) := by decide +kernel
theorem d_TM_init_19 : decode b_TM_init 19 = .ok (.putfield 13, 3) := by decide +kernel
theorem d_TM_init_22 : decode b_TM_init 22 = .ok (.aload_n 0, 1) := by decide +kernel
theorem d_TM_init_23 : decode b_TM_init 23 = .ok (.sipush 1024, 3) := by decide +kernel
theorem d_TM_init_26 : decode b_TM_init 26 = .ok (.newarray .int, 2) := by decide +kernel
theorem d_TM_init_28 : decode b_TM_init 28 = .ok (.putfield 16, 3) := by decide +kernel
theorem d_TM_init_31 : decode b_TM_init 31 = .ok (.aload_n 0, 1) := by decide +kernel
theorem d_TM_init_32 : decode b_TM_init 32 = .ok (.sipush 1024, 3) := by decide +kernel
theorem d_TM_init_35 : decode b_TM_init 35 = .ok (.newarray .int, 2) := by decide +kernel
theorem d_TM_init_37 : decode b_TM_init 37 = .ok (.putfield 20, 3) := by decide +kernel
theorem d_TM_init_40 : decode b_TM_init 40 = .ok (.aload_n 0, 1) := by decide +kernel
theorem d_TM_init_41 : decode b_TM_init 41 = .ok (.sipush 1024, 3) := by decide +kernel
theorem d_TM_init_44 : decode b_TM_init 44 = .ok (.newarray .int, 2) := by decide +kernel
theorem d_TM_init_46 : decode b_TM_init 46 = .ok (.putfield 23, 3) := by decide +kernel
theorem d_TM_init_49 : decode b_TM_init 49 = .ok (.aload_n 0, 1) := by decide +kernel
theorem d_TM_init_50 : decode b_TM_init 50 = .ok (.sipush 1024, 3) := by decide +kernel
theorem d_TM_init_53 : decode b_TM_init 53 = .ok (.newarray .int, 2) := by decide +kernel
theorem d_TM_init_55 : decode b_TM_init 55 = .ok (.putfield 26, 3) := by decide +kernel
theorem d_TM_init_58 : decode b_TM_init 58 = .ok (.aload_n 0, 1) := by decide +kernel
theorem d_TM_init_59 : decode b_TM_init 59 = .ok (.sipush 1024, 3) := by decide +kernel
theorem d_TM_init_62 : decode b_TM_init 62 = .ok (.newarray .boolean, 2) := by decide +kernel
theorem d_TM_init_64 : decode b_TM_init 64 = .ok (.putfield 29, 3) := by decide +kernel
theorem d_TM_init_67 : decode b_TM_init 67 = .ok (.aload_n 0, 1) := by decide +kernel
theorem d_TM_init_68 : decode b_TM_init 68 = .ok (.ldc 33, 2) := by decide +kernel
theorem d_TM_init_70 : decode b_TM_init 70 = .ok (.newarray .byte, 2) := by decide +kernel
theorem d_TM_init_72 : decode b_TM_init 72 = .ok (.putfield 34, 3) := by decide +kernel
theorem d_TM_init_75 : decode b_TM_init 75 = .ok (.aload_n 0, 1) := by decide +kernel
theorem d_TM_init_76 : decode b_TM_init 76 = .ok (.iload_n 1, 1) := by decide +kernel
theorem d_TM_init_77 : decode b_TM_init 77 = .ok (.iconst 1, 1) := by decide +kernel
theorem d_TM_init_78 : decode b_TM_init 78 = .ok (.if_icmp .ge 7, 3) := by decide +kernel
theorem d_TM_init_81 : decode b_TM_init 81 = .ok (.iconst 1, 1) := by decide +kernel
theorem d_TM_init_82 : decode b_TM_init 82 = .ok (.goto 17, 3) := by decide +kernel
theorem d_TM_init_85 : decode b_TM_init 85 = .ok (.iload_n 1, 1) := by decide +kernel
theorem d_TM_init_86 : decode b_TM_init 86 = .ok (.sipush 1024, 3) := by decide +kernel
theorem d_TM_init_89 : decode b_TM_init 89 = .ok (.if_icmp .le 9, 3) := by decide +kernel
theorem d_TM_init_92 : decode b_TM_init 92 = .ok (.sipush 1024, 3) := by decide +kernel
theorem d_TM_init_95 : decode b_TM_init 95 = .ok (.goto 4, 3) := by decide +kernel
theorem d_TM_init_98 : decode b_TM_init 98 = .ok (.iload_n 1, 1) := by decide +kernel
theorem d_TM_init_99 : decode b_TM_init 99 = .ok (.putfield 37, 3) := by decide +kernel
theorem d_TM_init_102 : decode b_TM_init 102 = .ok (.return_, 1) := by decide +kernel
theorem d_TM_put_0 : decode b_TM_put 0 = .ok (.aload_n 0, 1) := by decide +kernel
theorem d_TM_put_1 : decode b_TM_put 1 = .ok (.iconst 0, 1) := by decide +kernel
theorem d_TM_put_2 : decode b_TM_put 2 = .ok (.putfield 41, 3) := by decide +kernel
theorem d_TM_put_5 : decode b_TM_put 5 = .ok (.aload_n 0, 1) := by decide +kernel
theorem d_TM_put_6 : decode b_TM_put 6 = .ok (.getfield 47, 3) := by decide +kernel
theorem d_TM_put_9 : decode b_TM_put 9 = .ok (.sipush 256, 3) := by decide +kernel
theorem d_TM_put_12 : decode b_TM_put 12 = .ok (.if_icmp .ne 5, 3) := by decide +kernel
theorem d_TM_put_15 : decode b_TM_put 15 = .ok (.iconst (-1), 1) := by decide +kernel
theorem d_TM_put_16 : decode b_TM_put 16 = .ok (.ireturn, 1) := by decide +kernel
theorem d_TM_put_17 : decode b_TM_put 17 = .ok (.aload_n 0, 1) := by decide +kernel
theorem d_TM_put_18 : decode b_TM_put 18 = .ok (.getfield 7, 3) := by decide +kernel
theorem d_TM_put_21 : decode b_TM_put 21 = .ok (.aload_n 0, 1) := by decide +kernel
theorem d_TM_put_22 : decode b_TM_put 22 = .ok (.getfield 47, 3) := by decide +kernel
theorem d_TM_put_25 : decode b_TM_put 25 = .ok (.iload_n 1, 1) := by decide +kernel
theorem d_TM_put_26 : decode b_TM_put 26 = .ok (.i2b, 1) := by decide +kernel
theorem d_TM_put_27 : decode b_TM_put 27 = .ok (.bastore, 1) := by decide +kernel
theorem d_TM_put_28 : decode b_TM_put 28 = .ok (.aload_n 0, 1) := by decide +kernel
theorem d_TM_put_29 : decode b_TM_put 29 = .ok (.dup, 1) := by decide +kernel
theorem d_TM_put_30 : decode b_TM_put 30 = .ok (.getfield 47, 3) := by decide +kernel
theorem d_TM_put_33 : decode b_TM_put 33 = .ok (.iconst 1, 1) := by decide +kernel
theorem d_TM_put_34 : decode b_TM_put 34 = .ok (.iadd, 1) := by decide +kernel
theorem d_TM_put_35 : decode b_TM_put 35 = .ok (.putfield 47, 3) := by decide +kernel
theorem d_TM_put_38 : decode b_TM_put 38 = .ok (.aload_n 0, 1) := by decide +kernel
theorem d_TM_put_39 : decode b_TM_put 39 = .ok (.getfield 47, 3) := by decide +kernel
theorem d_TM_put_42 : decode b_TM_put 42 = .ok (.ireturn, 1) := by decide +kernel
theorem d_TM_insert_0 : decode b_TM_insert 0 = .ok (.aload_n 0, 1) := by decide +kernel
theorem d_TM_insert_1 : decode b_TM_insert 1 = .ok (.iconst 0, 1) := by decide +kernel
theorem d_TM_insert_2 : decode b_TM_insert 2 = .ok (.putfield 41, 3) := by decide +kernel
theorem d_TM_insert_5 : decode b_TM_insert 5 = .ok (.aload_n 0, 1) := by decide +kernel
theorem d_TM_insert_6 : decode b_TM_insert 6 = .ok (.getfield 47, 3) := by decide +kernel
theorem d_TM_insert_9 : decode b_TM_insert 9 = .ok (.istore_n 3, 1) := by decide +kernel
theorem d_TM_insert_10 : decode b_TM_insert 10 = .ok (.aload_n 0, 1) := by decide +kernel
theorem d_TM_insert_11 : decode b_TM_insert 11 = .ok (.iconst 0, 1) := by decide +kernel
theorem d_TM_insert_12 : decode b_TM_insert 12 = .ok (.putfield 47, 3) := by decide +kernel
theorem d_TM_insert_15 : decode b_TM_insert 15 = .ok (.iload_n 3, 1) := by decide +kernel
theorem d_TM_insert_16 : decode b_TM_insert 16 = .ok (.ifCond .ne 5, 3) := by decide +kernel
theorem d_TM_insert_19 : decode b_TM_insert 19 = .ok (.iconst 1, 1) := by decide +kernel
theorem d_TM_insert_20 : decode b_TM_insert 20 = .ok (.ireturn, 1) := by decide +kernel
theorem d_TM_insert_21 : decode b_TM_insert 21 = .ok (.iload_n 2, 1) := by decide +kernel
theorem d_TM_insert_22 : decode b_TM_insert 22 = .ok (.aload_n 0, 1) := by decide +kernel
theorem d_TM_insert_23 : decode b_TM_insert 23 = .ok (.getfield 50, 3) := by decide +kernel
theorem d_TM_insert_26 : decode b_TM_insert 26 = .ok (.if_icmp .gt 5, 3) := by decide +kernel
theorem d_TM_insert_29 : decode b_TM_insert 29 = .ok (.iconst 2, 1) := by decide +kernel
theorem d_TM_insert_30 : decode b_TM_insert 30 = .ok (.ireturn, 1) := by decide +kernel
theorem d_TM_insert_31 : decode b_TM_insert 31 = .ok (.aload_n 0, 1) := by decide +kernel
theorem d_TM_insert_32 : decode b_TM_insert 32 = .ok (.getfield 44, 3) := by decide +kernel
theorem d_TM_insert_35 : decode b_TM_insert 35 = .ok (.aload_n 0, 1) := by decide +kernel
theorem d_TM_insert_36 : decode b_TM_insert 36 = .ok (.getfield 37, 3) := by decide +kernel
theorem d_TM_insert_39 : decode b_TM_insert 39 = .ok (.if_icmp .ne 5, 3) := by decide +kernel
theorem d_TM_insert_42 : decode b_TM_insert 42 = .ok (.iconst 3, 1) := by decide +kernel
theorem d_TM_insert_43 : decode b_TM_insert 43 = .ok (.ireturn, 1) := by decide +kernel
theorem d_TM_insert_44 : decode b_TM_insert 44 = .ok (.iconst 0, 1) := by decide +kernel
theorem d_TM_insert_45 : decode b_TM_insert 45 = .ok (.istore 4, 2) := by decide +kernel
theorem d_TM_insert_47 : decode b_TM_insert 47 = .ok (.aload_n 0, 1) := by decide +kernel
theorem d_TM_insert_48 : decode b_TM_insert 48 = .ok (.getfield 29, 3) := by decide +kernel
theorem d_TM_insert_51 : decode b_TM_insert 51 = .ok (.iload 4, 2) := by decide +kernel
theorem d_TM_insert_53 : decode b_TM_insert 53 = .ok (.baload, 1) := by decide +kernel
theorem d_TM_insert_54 : decode b_TM_insert 54 = .ok (.ifCond .eq 9, 3) := by decide +kernel
theorem d_TM_insert_57 : decode b_TM_insert 57 = .ok (.iinc 4 1, 3) := by decide +kernel
theorem d_TM_insert_60 : decode b_TM_insert 60 = .ok (.goto (-13), 3) := by decide +kernel
theorem d_TM_insert_63 : decode b_TM_insert 63 = .ok (.aload_n 0, 1) := by decide +kernel
theorem d_TM_insert_64 : decode b_TM_insert 64 = .ok (.getfield 29, 3) := by decide +kernel
theorem d_TM_insert_67 : decode b_TM_insert 67 = .ok (.iload 4, 2) := by decide +kernel
theorem d_TM_insert_69 : decode b_TM_insert 69 = .ok (.iconst 1, 1) := by decide +kernel
theorem d_TM_insert_70 : decode b_TM_insert 70 = .ok (.bastore, 1) := by decide +kernel
theorem d_TM_insert_71 : decode b_TM_insert 71 = .ok (.iconst 0, 1) := by decide +kernel
theorem d_TM_insert_72 : decode b_TM_insert 72 = .ok (.istore 5, 2) := by decide +kernel
theorem d_TM_insert_74 : decode b_TM_insert 74 = .ok (.iload 5, 2) := by decide +kernel
theorem d_TM_insert_76 : decode b_TM_insert 76 = .ok (.iload_n 3, 1) := by decide +kernel
theorem d_TM_insert_77 : decode b_TM_insert 77 = .ok (.if_icmp .ge 30, 3) := by decide +kernel
theorem d_TM_insert_80 : decode b_TM_insert 80 = .ok (.aload_n 0, 1) := by decide +kernel
theorem d_TM_insert_81 : decode b_TM_insert 81 = .ok (.getfield 34, 3) := by decide +kernel
theorem d_TM_insert_84 : decode b_TM_insert 84 = .ok (.sipush 256, 3) := by decide +kernel
theorem d_TM_insert_87 : decode b_TM_insert 87 = .ok (.iload 4, 2) := by decide +kernel
theorem d_TM_insert_89 : decode b_TM_insert 89 = .ok (.imul, 1) := by decide +kernel
theorem d_TM_insert_90 : decode b_TM_insert 90 = .ok (.iload 5, 2) := by decide +kernel
theorem d_TM_insert_92 : decode b_TM_insert 92 = .ok (.iadd, 1) := by decide +kernel
theorem d_TM_insert_93 : decode b_TM_insert 93 = .ok (.aload_n 0, 1) := by decide +kernel
theorem d_TM_insert_94 : decode b_TM_insert 94 = .ok (.getfield 7, 3) := by decide +kernel
theorem d_TM_insert_97 : decode b_TM_insert 97 = .ok (.iload 5, 2) := by decide +kernel
theorem d_TM_insert_99 : decode b_TM_insert 99 = .ok (.baload, 1) := by decide +kernel
theorem d_TM_insert_100 : decode b_TM_insert 100 = .ok (.bastore, 1) := by decide +kernel
theorem d_TM_insert_101 : decode b_TM_insert 101 = .ok (.iinc 5 1, 3) := by decide +kernel
theorem d_TM_insert_104 : decode b_TM_insert 104 = .ok (.goto (-30), 3) := by decide +kernel
theorem d_TM_insert_107 : decode b_TM_insert 107 = .ok (.aload_n 0, 1) := by decide +kernel
theorem d_TM_insert_108 : decode b_TM_insert 108 = .ok (.getfield 16, 3) := by decide +kernel
theorem d_TM_insert_111 : decode b_TM_insert 111 = .ok (.aload_n 0, 1) := by decide +kernel
theorem d_TM_insert_112 : decode b_TM_insert 112 = .ok (.getfield 44, 3) := by decide +kernel
theorem d_TM_insert_115 : decode b_TM_insert 115 = .ok (.iload_n 1, 1) := by decide +kernel
theorem d_TM_insert_116 : decode b_TM_insert 116 = .ok (.iastore, 1) := by decide +kernel
theorem d_TM_insert_117 : decode b_TM_insert 117 = .ok (.aload_n 0, 1) := by decide +kernel
theorem d_TM_insert_118 : decode b_TM_insert 118 = .ok (.getfield 20, 3) := by decide +kernel
theorem d_TM_insert_121 : decode b_TM_insert 121 = .ok (.aload_n 0, 1) := by decide +kernel
theorem d_TM_insert_122 : decode b_TM_insert 122 = .ok (.getfield 44, 3) := by decide +kernel
theorem d_TM_insert_125 : decode b_TM_insert 125 = .ok (.iload_n 2, 1) := by decide +kernel
theorem d_TM_insert_126 : decode b_TM_insert 126 = .ok (.iastore, 1) := by decide +kernel
theorem d_TM_insert_127 : decode b_TM_insert 127 = .ok (.aload_n 0, 1) := by decide +kernel
theorem d_TM_insert_128 : decode b_TM_insert 128 = .ok (.getfield 23, 3) := by decide +kernel
theorem d_TM_insert_131 : decode b_TM_insert 131 = .ok (.aload_n 0, 1) := by decide +kernel
theorem d_TM_insert_132 : decode b_TM_insert 132 = .ok (.getfield 44, 3) := by decide +kernel
theorem d_TM_insert_135 : decode b_TM_insert 135 = .ok (.iload_n 3, 1) := by decide +kernel
theorem d_TM_insert_136 : decode b_TM_insert 136 = .ok (.iastore, 1) := by decide +kernel
theorem d_TM_insert_137 : decode b_TM_insert 137 = .ok (.aload_n 0, 1) := by decide +kernel
theorem d_TM_insert_138 : decode b_TM_insert 138 = .ok (.getfield 26, 3) := by decide +kernel
theorem d_TM_insert_141 : decode b_TM_insert 141 = .ok (.aload_n 0, 1) := by decide +kernel
theorem d_TM_insert_142 : decode b_TM_insert 142 = .ok (.getfield 44, 3) := by decide +kernel
theorem d_TM_insert_145 : decode b_TM_insert 145 = .ok (.iload 4, 2) := by decide +kernel
theorem d_TM_insert_147 : decode b_TM_insert 147 = .ok (.iastore, 1) := by decide +kernel
theorem d_TM_insert_148 : decode b_TM_insert 148 = .ok (.aload_n 0, 1) := by decide +kernel
theorem d_TM_insert_149 : decode b_TM_insert 149 = .ok (.dup, 1) := by decide +kernel
theorem d_TM_insert_150 : decode b_TM_insert 150 = .ok (.getfield 44, 3) := by decide +kernel
theorem d_TM_insert_153 : decode b_TM_insert 153 = .ok (.iconst 1, 1) := by decide +kernel
theorem d_TM_insert_154 : decode b_TM_insert 154 = .ok (.iadd, 1) := by decide +kernel
theorem d_TM_insert_155 : decode b_TM_insert 155 = .ok (.putfield 44, 3) := by decide +kernel
theorem d_TM_insert_158 : decode b_TM_insert 158 = .ok (.aload_n 0, 1) := by decide +kernel
theorem d_TM_insert_159 : decode b_TM_insert 159 = .ok (.dup, 1) := by decide +kernel
theorem d_TM_insert_160 : decode b_TM_insert 160 = .ok (.getfield 53, 3) := by decide +kernel
theorem d_TM_insert_163 : decode b_TM_insert 163 = .ok (.iconst 1, 1) := by decide +kernel
theorem d_TM_insert_164 : decode b_TM_insert 164 = .ok (.iadd, 1) := by decide +kernel
theorem d_TM_insert_165 : decode b_TM_insert 165 = .ok (.putfield 53, 3) := by decide +kernel
theorem d_TM_insert_168 : decode b_TM_insert 168 = .ok (.iconst 0, 1) := by decide +kernel
theorem d_TM_insert_169 : decode b_TM_insert 169 = .ok (.ireturn, 1) := by decide +kernel
theorem d_TM_remove_0 : decode b_TM_remove 0 = .ok (.aload_n 0, 1) := by decide +kernel
theorem d_TM_remove_1 : decode b_TM_remove 1 = .ok (.iconst 0, 1) := by decide +kernel
theorem d_TM_remove_2 : decode b_TM_remove 2 = .ok (.putfield 41, 3) := by decide +kernel
theorem d_TM_remove_5 : decode b_TM_remove 5 = .ok (.iconst 0, 1) := by decide +kernel
theorem d_TM_remove_6 : decode b_TM_remove 6 = .ok (.istore_n 2, 1) := by decide +kernel
theorem d_TM_remove_7 : decode b_TM_remove 7 = .ok (.aload_n 0, 1) := by decide +kernel
theorem d_TM_remove_8 : decode b_TM_remove 8 = .ok (.getfield 44, 3) := by decide +kernel
theorem d_TM_remove_11 : decode b_TM_remove 11 = .ok (.iconst 1, 1) := by decide +kernel
theorem d_TM_remove_12 : decode b_TM_remove 12 = .ok (.isub, 1) := by decide +kernel
theorem d_TM_remove_13 : decode b_TM_remove 13 = .ok (.istore_n 3, 1) := by decide +kernel
theorem d_TM_remove_14 : decode b_TM_remove 14 = .ok (.iload_n 3, 1) := by decide +kernel
theorem d_TM_remove_15 : decode b_TM_remove 15 = .ok (.ifCond .lt 27, 3) := by decide +kernel
theorem d_TM_remove_18 : decode b_TM_remove 18 = .ok (.aload_n 0, 1) := by decide +kernel
theorem d_TM_remove_19 : decode b_TM_remove 19 = .ok (.getfield 16, 3) := by decide +kernel
theorem d_TM_remove_22 : decode b_TM_remove 22 = .ok (.iload_n 3, 1) := by decide +kernel
theorem d_TM_remove_23 : decode b_TM_remove 23 = .ok (.iaload, 1) := by decide +kernel
theorem d_TM_remove_24 : decode b_TM_remove 24 = .ok (.iload_n 1, 1) := by decide +kernel
theorem d_TM_remove_25 : decode b_TM_remove 25 = .ok (.if_icmp .ne 11, 3) := by decide +kernel
theorem d_TM_remove_28 : decode b_TM_remove 28 = .ok (.aload_n 0, 1) := by decide +kernel
theorem d_TM_remove_29 : decode b_TM_remove 29 = .ok (.iload_n 3, 1) := by decide +kernel
theorem d_TM_remove_30 : decode b_TM_remove 30 = .ok (.invokevirtual 56, 3) := by decide +kernel
theorem d_TM_remove_33 : decode b_TM_remove 33 = .ok (.iinc 2 1, 3) := by decide +kernel
theorem d_TM_remove_36 : decode b_TM_remove 36 = .ok (.iinc 3 (-1), 3) := by decide +kernel
theorem d_TM_remove_39 : decode b_TM_remove 39 = .ok (.goto (-25), 3) := by decide +kernel
theorem d_TM_remove_42 : decode b_TM_remove 42 = .ok (.iload_n 2, 1) := by decide +kernel
theorem d_TM_remove_43 : decode b_TM_remove 43 = .ok (.ireturn, 1) := by decide +kernel
theorem d_TM_drop_0 : decode b_TM_drop 0 = .ok (.aload_n 0, 1) := by decide +kernel
theorem d_TM_drop_1 : decode b_TM_drop 1 = .ok (.getfield 29, 3) := by decide +kernel
theorem d_TM_drop_4 : decode b_TM_drop 4 = .ok (.aload_n 0, 1) := by decide +kernel
theorem d_TM_drop_5 : decode b_TM_drop 5 = .ok (.getfield 26, 3) := by decide +kernel
theorem d_TM_drop_8 : decode b_TM_drop 8 = .ok (.iload_n 1, 1) := by decide +kernel
theorem d_TM_drop_9 : decode b_TM_drop 9 = .ok (.iaload, 1) := by decide +kernel
theorem d_TM_drop_10 : decode b_TM_drop 10 = .ok (.iconst 0, 1) := by decide +kernel
theorem d_TM_drop_11 : decode b_TM_drop 11 = .ok (.bastore, 1) := by decide +kernel
theorem d_TM_drop_12 : decode b_TM_drop 12 = .ok (.aload_n 0, 1) := by decide +kernel
theorem d_TM_drop_13 : decode b_TM_drop 13 = .ok (.dup, 1) := by decide +kernel
theorem d_TM_drop_14 : decode b_TM_drop 14 = .ok (.getfield 44, 3) := by decide +kernel
theorem d_TM_drop_17 : decode b_TM_drop 17 = .ok (.iconst 1, 1) := by decide +kernel
theorem d_TM_drop_18 : decode b_TM_drop 18 = .ok (.isub, 1) := by decide +kernel
theorem d_TM_drop_19 : decode b_TM_drop 19 = .ok (.putfield 44, 3) := by decide +kernel
theorem d_TM_drop_22 : decode b_TM_drop 22 = .ok (.iload_n 1, 1) := by decide +kernel
theorem d_TM_drop_23 : decode b_TM_drop 23 = .ok (.istore_n 2, 1) := by decide +kernel
theorem d_TM_drop_24 : decode b_TM_drop 24 = .ok (.iload_n 2, 1) := by decide +kernel
theorem d_TM_drop_25 : decode b_TM_drop 25 = .ok (.aload_n 0, 1) := by decide +kernel
theorem d_TM_drop_26 : decode b_TM_drop 26 = .ok (.getfield 44, 3) := by decide +kernel
theorem d_TM_drop_29 : decode b_TM_drop 29 = .ok (.if_icmp .ge 65, 3) := by decide +kernel
theorem d_TM_drop_32 : decode b_TM_drop 32 = .ok (.aload_n 0, 1) := by decide +kernel
theorem d_TM_drop_33 : decode b_TM_drop 33 = .ok (.getfield 16, 3) := by decide +kernel
theorem d_TM_drop_36 : decode b_TM_drop 36 = .ok (.iload_n 2, 1) := by decide +kernel
theorem d_TM_drop_37 : decode b_TM_drop 37 = .ok (.aload_n 0, 1) := by decide +kernel
theorem d_TM_drop_38 : decode b_TM_drop 38 = .ok (.getfield 16, 3) := by decide +kernel
theorem d_TM_drop_41 : decode b_TM_drop 41 = .ok (.iload_n 2, 1) := by decide +kernel
theorem d_TM_drop_42 : decode b_TM_drop 42 = .ok (.iconst 1, 1) := by decide +kernel
theorem d_TM_drop_43 : decode b_TM_drop 43 = .ok (.iadd, 1) := by decide +kernel
theorem d_TM_drop_44 : decode b_TM_drop 44 = .ok (.iaload, 1) := by decide +kernel
theorem d_TM_drop_45 : decode b_TM_drop 45 = .ok (.iastore, 1) := by decide +kernel
theorem d_TM_drop_46 : decode b_TM_drop 46 = .ok (.aload_n 0, 1) := by decide +kernel
theorem d_TM_drop_47 : decode b_TM_drop 47 = .ok (.getfield 20, 3) := by decide +kernel
theorem d_TM_drop_50 : decode b_TM_drop 50 = .ok (.iload_n 2, 1) := by decide +kernel
theorem d_TM_drop_51 : decode b_TM_drop 51 = .ok (.aload_n 0, 1) := by decide +kernel
theorem d_TM_drop_52 : decode b_TM_drop 52 = .ok (.getfield 20, 3) := by decide +kernel
theorem d_TM_drop_55 : decode b_TM_drop 55 = .ok (.iload_n 2, 1) := by decide +kernel
theorem d_TM_drop_56 : decode b_TM_drop 56 = .ok (.iconst 1, 1) := by decide +kernel
theorem d_TM_drop_57 : decode b_TM_drop 57 = .ok (.iadd, 1) := by decide +kernel
theorem d_TM_drop_58 : decode b_TM_drop 58 = .ok (.iaload, 1) := by decide +kernel
theorem d_TM_drop_59 : decode b_TM_drop 59 = .ok (.iastore, 1) := by decide +kernel
theorem d_TM_drop_60 : decode b_TM_drop 60 = .ok (.aload_n 0, 1) := by decide +kernel
theorem d_TM_drop_61 : decode b_TM_drop 61 = .ok (.getfield 23, 3) := by decide +kernel
theorem d_TM_drop_64 : decode b_TM_drop 64 = .ok (.iload_n 2, 1) := by decide +kernel
theorem d_TM_drop_65 : decode b_TM_drop 65 = .ok (.aload_n 0, 1) := by decide +kernel
theorem d_TM_drop_66 : decode b_TM_drop 66 = .ok (.getfield 23, 3) := by decide +kernel
theorem d_TM_drop_69 : decode b_TM_drop 69 = .ok (.iload_n 2, 1) := by decide +kernel
theorem d_TM_drop_70 : decode b_TM_drop 70 = .ok (.iconst 1, 1) := by decide +kernel
theorem d_TM_drop_71 : decode b_TM_drop 71 = .ok (.iadd, 1) := by decide +kernel
theorem d_TM_drop_72 : decode b_TM_drop 72 = .ok (.iaload, 1) := by decide +kernel
theorem d_TM_drop_73 : decode b_TM_drop 73 = .ok (.iastore, 1) := by decide +kernel
theorem d_TM_drop_74 : decode b_TM_drop 74 = .ok (.aload_n 0, 1) := by decide +kernel
theorem d_TM_drop_75 : decode b_TM_drop 75 = .ok (.getfield 26, 3) := by decide +kernel
theorem d_TM_drop_78 : decode b_TM_drop 78 = .ok (.iload_n 2, 1) := by decide +kernel
theorem d_TM_drop_79 : decode b_TM_drop 79 = .ok (.aload_n 0, 1) := by decide +kernel
theorem d_TM_drop_80 : decode b_TM_drop 80 = .ok (.getfield 26, 3) := by decide +kernel
theorem d_TM_drop_83 : decode b_TM_drop 83 = .ok (.iload_n 2, 1) := by decide +kernel
theorem d_TM_drop_84 : decode b_TM_drop 84 = .ok (.iconst 1, 1) := by decide +kernel
theorem d_TM_drop_85 : decode b_TM_drop 85 = .ok (.iadd, 1) := by decide +kernel
theorem d_TM_drop_86 : decode b_TM_drop 86 = .ok (.iaload, 1) := by decide +kernel
theorem d_TM_drop_87 : decode b_TM_drop 87 = .ok (.iastore, 1) := by decide +kernel
theorem d_TM_drop_88 : decode b_TM_drop 88 = .ok (.iinc 2 1, 3) := by decide +kernel
theorem d_TM_drop_91 : decode b_TM_drop 91 = .ok (.goto (-67), 3) := by decide +kernel
theorem d_TM_drop_94 : decode b_TM_drop 94 = .ok (.return_, 1) := by decide +kernel
theorem d_TM_removeSpan_0 : decode b_TM_removeSpan 0 = .ok (.aload_n 0, 1) := by decide +kernel
theorem d_TM_removeSpan_1 : decode b_TM_removeSpan 1 = .ok (.iconst 0, 1) := by decide +kernel
theorem d_TM_removeSpan_2 : decode b_TM_removeSpan 2 = .ok (.putfield 41, 3) := by decide +kernel
theorem d_TM_removeSpan_5 : decode b_TM_removeSpan 5 = .ok (.iconst 0, 1) := by decide +kernel
theorem d_TM_removeSpan_6 : decode b_TM_removeSpan 6 = .ok (.istore_n 3, 1) := by decide +kernel
theorem d_TM_removeSpan_7 : decode b_TM_removeSpan 7 = .ok (.aload_n 0, 1) := by decide +kernel
theorem d_TM_removeSpan_8 : decode b_TM_removeSpan 8 = .ok (.getfield 44, 3) := by decide +kernel
theorem d_TM_removeSpan_11 : decode b_TM_removeSpan 11 = .ok (.iconst 1, 1) := by decide +kernel
theorem d_TM_removeSpan_12 : decode b_TM_removeSpan 12 = .ok (.isub, 1) := by decide +kernel
theorem d_TM_removeSpan_13 : decode b_TM_removeSpan 13 = .ok (.istore 4, 2) := by decide +kernel
theorem d_TM_removeSpan_15 : decode b_TM_removeSpan 15 = .ok (.iload 4, 2) := by decide +kernel
theorem d_TM_removeSpan_17 : decode b_TM_removeSpan 17 = .ok (.ifCond .lt 29, 3) := by decide +kernel
theorem d_TM_removeSpan_20 : decode b_TM_removeSpan 20 = .ok (.aload_n 0, 1) := by decide +kernel
theorem d_TM_removeSpan_21 : decode b_TM_removeSpan 21 = .ok (.iload 4, 2) := by decide +kernel
theorem d_TM_removeSpan_23 : decode b_TM_removeSpan 23 = .ok (.iload_n 1, 1) := by decide +kernel
theorem d_TM_removeSpan_24 : decode b_TM_removeSpan 24 = .ok (.iload_n 2, 1) := by decide +kernel
theorem d_TM_removeSpan_25 : decode b_TM_removeSpan 25 = .ok (.invokevirtual 60, 3) := by decide +kernel
theorem d_TM_removeSpan_28 : decode b_TM_removeSpan 28 = .ok (.ifCond .eq 12, 3) := by decide +kernel
theorem d_TM_removeSpan_31 : decode b_TM_removeSpan 31 = .ok (.aload_n 0, 1) := by decide +kernel
theorem d_TM_removeSpan_32 : decode b_TM_removeSpan 32 = .ok (.iload 4, 2) := by decide +kernel
theorem d_TM_removeSpan_34 : decode b_TM_removeSpan 34 = .ok (.invokevirtual 56, 3) := by decide +kernel
theorem d_TM_removeSpan_37 : decode b_TM_removeSpan 37 = .ok (.iinc 3 1, 3) := by decide +kernel
theorem d_TM_removeSpan_40 : decode b_TM_removeSpan 40 = .ok (.iinc 4 (-1), 3) := by decide +kernel
theorem d_TM_removeSpan_43 : decode b_TM_removeSpan 43 = .ok (.goto (-28), 3) := by decide +kernel
theorem d_TM_removeSpan_46 : decode b_TM_removeSpan 46 = .ok (.iload_n 3, 1) := by decide +kernel
theorem d_TM_removeSpan_47 : decode b_TM_removeSpan 47 = .ok (.ireturn, 1) := by decide +kernel
theorem d_TM_in_0 : decode b_TM_in 0 = .ok (.aload_n 0, 1) := by decide +kernel
theorem d_TM_in_1 : decode b_TM_in 1 = .ok (.getfield 20, 3) := by decide +kernel
theorem d_TM_in_4 : decode b_TM_in 4 = .ok (.iload_n 1, 1) := by decide +kernel
theorem d_TM_in_5 : decode b_TM_in 5 = .ok (.iaload, 1) := by decide +kernel
theorem d_TM_in_6 : decode b_TM_in 6 = .ok (.iload_n 2, 1) := by decide +kernel
theorem d_TM_in_7 : decode b_TM_in 7 = .ok (.if_icmp .lt 17, 3) := by decide +kernel
theorem d_TM_in_10 : decode b_TM_in 10 = .ok (.aload_n 0, 1) := by decide +kernel
theorem d_TM_in_11 : decode b_TM_in 11 = .ok (.getfield 20, 3) := by decide +kernel
theorem d_TM_in_14 : decode b_TM_in 14 = .ok (.iload_n 1, 1) := by decide +kernel
theorem d_TM_in_15 : decode b_TM_in 15 = .ok (.iaload, 1) := by decide +kernel
theorem d_TM_in_16 : decode b_TM_in 16 = .ok (.iload_n 3, 1) := by decide +kernel
theorem d_TM_in_17 : decode b_TM_in 17 = .ok (.if_icmp .gt 7, 3) := by decide +kernel
theorem d_TM_in_20 : decode b_TM_in 20 = .ok (.iconst 1, 1) := by decide +kernel
theorem d_TM_in_21 : decode b_TM_in 21 = .ok (.goto 4, 3) := by decide +kernel
theorem d_TM_in_24 : decode b_TM_in 24 = .ok (.iconst 0, 1) := by decide +kernel
theorem d_TM_in_25 : decode b_TM_in 25 = .ok (.ireturn, 1) := by decide +kernel
theorem d_TM_shift_0 : decode b_TM_shift 0 = .ok (.aload_n 0, 1) := by decide +kernel
theorem d_TM_shift_1 : decode b_TM_shift 1 = .ok (.iconst 0, 1) := by decide +kernel
theorem d_TM_shift_2 : decode b_TM_shift 2 = .ok (.putfield 41, 3) := by decide +kernel
theorem d_TM_shift_5 : decode b_TM_shift 5 = .ok (.aload_n 0, 1) := by decide +kernel
theorem d_TM_shift_6 : decode b_TM_shift 6 = .ok (.ldc 66, 2) := by decide +kernel
theorem d_TM_shift_8 : decode b_TM_shift 8 = .ok (.ldc 67, 2) := by decide +kernel
theorem d_TM_shift_10 : decode b_TM_shift 10 = .ok (.iload_n 1, 1) := by decide +kernel
theorem d_TM_shift_11 : decode b_TM_shift 11 = .ok (.invokevirtual 68, 3) := by decide +kernel
theorem d_TM_shift_14 : decode b_TM_shift 14 = .ok (.ireturn, 1) := by decide +kernel
theorem d_TM_move_0 : decode b_TM_move 0 = .ok (.iconst 0, 1) := by decide +kernel
theorem d_TM_move_1 : decode b_TM_move 1 = .ok (.istore 4, 2) := by decide +kernel
theorem d_TM_move_3 : decode b_TM_move 3 = .ok (.iconst 0, 1) := by decide +kernel
theorem d_TM_move_4 : decode b_TM_move 4 = .ok (.istore 5, 2) := by decide +kernel
theorem d_TM_move_6 : decode b_TM_move 6 = .ok (.iload 5, 2) := by decide +kernel
theorem d_TM_move_8 : decode b_TM_move 8 = .ok (.aload_n 0, 1) := by decide +kernel
theorem d_TM_move_9 : decode b_TM_move 9 = .ok (.getfield 44, 3) := by decide +kernel
theorem d_TM_move_12 : decode b_TM_move 12 = .ok (.if_icmp .ge 55, 3) := by decide +kernel
theorem d_TM_move_15 : decode b_TM_move 15 = .ok (.aload_n 0, 1) := by decide +kernel
theorem d_TM_move_16 : decode b_TM_move 16 = .ok (.getfield 20, 3) := by decide +kernel
theorem d_TM_move_19 : decode b_TM_move 19 = .ok (.iload 5, 2) := by decide +kernel
theorem d_TM_move_21 : decode b_TM_move 21 = .ok (.iaload, 1) := by decide +kernel
theorem d_TM_move_22 : decode b_TM_move 22 = .ok (.i2l, 1) := by decide +kernel
theorem d_TM_move_23 : decode b_TM_move 23 = .ok (.iload_n 3, 1) := by decide +kernel
theorem d_TM_move_24 : decode b_TM_move 24 = .ok (.i2l, 1) := by decide +kernel
theorem d_TM_move_25 : decode b_TM_move 25 = .ok (.ladd, 1) := by decide +kernel
theorem d_TM_move_26 : decode b_TM_move 26 = .ok (.lstore 6, 2) := by decide +kernel
theorem d_TM_move_28 : decode b_TM_move 28 = .ok (.aload_n 0, 1) := by decide +kernel
theorem d_TM_move_29 : decode b_TM_move 29 = .ok (.iload 5, 2) := by decide +kernel
theorem d_TM_move_31 : decode b_TM_move 31 = .ok (.iload_n 1, 1) := by decide +kernel
theorem d_TM_move_32 : decode b_TM_move 32 = .ok (.iload_n 2, 1) := by decide +kernel
theorem d_TM_move_33 : decode b_TM_move 33 = .ok (.invokevirtual 60, 3) := by decide +kernel
theorem d_TM_move_36 : decode b_TM_move 36 = .ok (.ifCond .eq 25, 3) := by decide +kernel
theorem d_TM_move_39 : decode b_TM_move 39 = .ok (.lload 6, 2) := by decide +kernel
theorem d_TM_move_41 : decode b_TM_move 41 = .ok (.aload_n 0, 1) := by decide +kernel
theorem d_TM_move_42 : decode b_TM_move 42 = .ok (.getfield 50, 3) := by decide +kernel
theorem d_TM_move_45 : decode b_TM_move 45 = .ok (.i2l, 1) := by decide +kernel
theorem d_TM_move_46 : decode b_TM_move 46 = .ok (.lcmp, 1) := by decide +kernel
theorem d_TM_move_47 : decode b_TM_move 47 = .ok (.ifCond .le 12, 3) := by decide +kernel
theorem d_TM_move_50 : decode b_TM_move 50 = .ok (.lload 6, 2) := by decide +kernel
theorem d_TM_move_52 : decode b_TM_move 52 = .ok (.ldc2_w 64, 3) := by decide +kernel
theorem d_TM_move_55 : decode b_TM_move 55 = .ok (.lcmp, 1) := by decide +kernel
theorem d_TM_move_56 : decode b_TM_move 56 = .ok (.ifCond .le 5, 3) := by decide +kernel
theorem d_TM_move_59 : decode b_TM_move 59 = .ok (.iconst (-1), 1) := by decide +kernel
theorem d_TM_move_60 : decode b_TM_move 60 = .ok (.ireturn, 1) := by decide +kernel
theorem d_TM_move_61 : decode b_TM_move 61 = .ok (.iinc 5 1, 3) := by decide +kernel
theorem d_TM_move_64 : decode b_TM_move 64 = .ok (.goto (-58), 3) := by decide +kernel
theorem d_TM_move_67 : decode b_TM_move 67 = .ok (.iconst 0, 1) := by decide +kernel
theorem d_TM_move_68 : decode b_TM_move 68 = .ok (.istore 5, 2) := by decide +kernel
theorem d_TM_move_70 : decode b_TM_move 70 = .ok (.iload 5, 2) := by decide +kernel
theorem d_TM_move_72 : decode b_TM_move 72 = .ok (.aload_n 0, 1) := by decide +kernel
theorem d_TM_move_73 : decode b_TM_move 73 = .ok (.getfield 44, 3) := by decide +kernel
theorem d_TM_move_76 : decode b_TM_move 76 = .ok (.if_icmp .ge 34, 3) := by decide +kernel
theorem d_TM_move_79 : decode b_TM_move 79 = .ok (.aload_n 0, 1) := by decide +kernel
theorem d_TM_move_80 : decode b_TM_move 80 = .ok (.iload 5, 2) := by decide +kernel
theorem d_TM_move_82 : decode b_TM_move 82 = .ok (.iload_n 1, 1) := by decide +kernel
theorem d_TM_move_83 : decode b_TM_move 83 = .ok (.iload_n 2, 1) := by decide +kernel
theorem d_TM_move_84 : decode b_TM_move 84 = .ok (.invokevirtual 60, 3) := by decide +kernel
theorem d_TM_move_87 : decode b_TM_move 87 = .ok (.ifCond .eq 17, 3) := by decide +kernel
theorem d_TM_move_90 : decode b_TM_move 90 = .ok (.aload_n 0, 1) := by decide +kernel
theorem d_TM_move_91 : decode b_TM_move 91 = .ok (.getfield 20, 3) := by decide +kernel
theorem d_TM_move_94 : decode b_TM_move 94 = .ok (.iload 5, 2) := by decide +kernel
theorem d_TM_move_96 : decode b_TM_move 96 = .ok (.dup2, 1) := by decide +kernel
theorem d_TM_move_97 : decode b_TM_move 97 = .ok (.iaload, 1) := by decide +kernel
theorem d_TM_move_98 : decode b_TM_move 98 = .ok (.iload_n 3, 1) := by decide +kernel
theorem d_TM_move_99 : decode b_TM_move 99 = .ok (.iadd, 1) := by decide +kernel
theorem d_TM_move_100 : decode b_TM_move 100 = .ok (.iastore, 1) := by decide +kernel
theorem d_TM_move_101 : decode b_TM_move 101 = .ok (.iinc 4 1, 3) := by decide +kernel
theorem d_TM_move_104 : decode b_TM_move 104 = .ok (.iinc 5 1, 3) := by decide +kernel
theorem d_TM_move_107 : decode b_TM_move 107 = .ok (.goto (-37), 3) := by decide +kernel
theorem d_TM_move_110 : decode b_TM_move 110 = .ok (.iload 4, 2) := by decide +kernel
theorem d_TM_move_112 : decode b_TM_move 112 = .ok (.ireturn, 1) := by decide +kernel
theorem d_TM_shiftSpan_0 : decode b_TM_shiftSpan 0 = .ok (.aload_n 0, 1) := by decide +kernel
theorem d_TM_shiftSpan_1 : decode b_TM_shiftSpan 1 = .ok (.iconst 0, 1) := by decide +kernel
theorem d_TM_shiftSpan_2 : decode b_TM_shiftSpan 2 = .ok (.putfield 41, 3) := by decide +kernel
theorem d_TM_shiftSpan_5 : decode b_TM_shiftSpan 5 = .ok (.aload_n 0, 1) := by decide +kernel
theorem d_TM_shiftSpan_6 : decode b_TM_shiftSpan 6 = .ok (.iload_n 1, 1) := by decide +kernel
theorem d_TM_shiftSpan_7 : decode b_TM_shiftSpan 7 = .ok (.iload_n 2, 1) := by decide +kernel
theorem d_TM_shiftSpan_8 : decode b_TM_shiftSpan 8 = .ok (.iload_n 3, 1) := by decide +kernel
theorem d_TM_shiftSpan_9 : decode b_TM_shiftSpan 9 = .ok (.invokevirtual 68, 3) := by decide +kernel
theorem d_TM_shiftSpan_12 : decode b_TM_shiftSpan 12 = .ok (.ireturn, 1) := by decide +kernel
theorem d_TM_enable_0 : decode b_TM_enable 0 = .ok (.aload_n 0, 1) := by decide +kernel
theorem d_TM_enable_1 : decode b_TM_enable 1 = .ok (.iconst 0, 1) := by decide +kernel
theorem d_TM_enable_2 : decode b_TM_enable 2 = .ok (.putfield 41, 3) := by decide +kernel
theorem d_TM_enable_5 : decode b_TM_enable 5 = .ok (.aload_n 0, 1) := by decide +kernel
theorem d_TM_enable_6 : decode b_TM_enable 6 = .ok (.iload_n 1, 1) := by decide +kernel
theorem d_TM_enable_7 : decode b_TM_enable 7 = .ok (.putfield 72, 3) := by decide +kernel
theorem d_TM_enable_10 : decode b_TM_enable 10 = .ok (.return_, 1) := by decide +kernel
theorem d_TM_isOn_0 : decode b_TM_isOn 0 = .ok (.aload_n 0, 1) := by decide +kernel
theorem d_TM_isOn_1 : decode b_TM_isOn 1 = .ok (.iconst 0, 1) := by decide +kernel
theorem d_TM_isOn_2 : decode b_TM_isOn 2 = .ok (.putfield 41, 3) := by decide +kernel
theorem d_TM_isOn_5 : decode b_TM_isOn 5 = .ok (.aload_n 0, 1) := by decide +kernel
theorem d_TM_isOn_6 : decode b_TM_isOn 6 = .ok (.getfield 72, 3) := by decide +kernel
theorem d_TM_isOn_9 : decode b_TM_isOn 9 = .ok (.ireturn, 1) := by decide +kernel
theorem d_TM_reset_0 : decode b_TM_reset 0 = .ok (.aload_n 0, 1) := by decide +kernel
theorem d_TM_reset_1 : decode b_TM_reset 1 = .ok (.iconst 0, 1) := by decide +kernel
theorem d_TM_reset_2 : decode b_TM_reset 2 = .ok (.putfield 41, 3) := by decide +kernel
theorem d_TM_reset_5 : decode b_TM_reset 5 = .ok (.aload_n 0, 1) := by decide +kernel
theorem d_TM_reset_6 : decode b_TM_reset 6 = .ok (.iconst 0, 1) := by decide +kernel
theorem d_TM_reset_7 : decode b_TM_reset 7 = .ok (.putfield 72, 3) := by decide +kernel
theorem d_TM_reset_10 : decode b_TM_reset 10 = .ok (.aload_n 0, 1) := by decide +kernel
theorem d_TM_reset_11 : decode b_TM_reset 11 = .ok (.getfield 44, 3) := by decide +kernel
theorem d_TM_reset_14 : decode b_TM_reset 14 = .ok (.ifCond .le 16, 3) := by decide +kernel
theorem d_TM_reset_17 : decode b_TM_reset 17 = .ok (.aload_n 0, 1) := by decide +kernel
theorem d_TM_reset_18 : decode b_TM_reset 18 = .ok (.aload_n 0, 1) := by decide +kernel
theorem d_TM_reset_19 : decode b_TM_reset 19 = .ok (.getfield 44, 3) := by decide +kernel
theorem d_TM_reset_22 : decode b_TM_reset 22 = .ok (.iconst 1, 1) := by decide +kernel
theorem d_TM_reset_23 : decode b_TM_reset 23 = .ok (.isub, 1) := by decide +kernel
theorem d_TM_reset_24 : decode b_TM_reset 24 = .ok (.invokevirtual 56, 3) := by decide +kernel
theorem d_TM_reset_27 : decode b_TM_reset 27 = .ok (.goto (-17), 3) := by decide +kernel
theorem d_TM_reset_30 : decode b_TM_reset 30 = .ok (.return_, 1) := by decide +kernel
theorem d_TM_tick_0 : decode b_TM_tick 0 = .ok (.aload_n 0, 1) := by decide +kernel
theorem d_TM_tick_1 : decode b_TM_tick 1 = .ok (.iconst 0, 1) := by decide +kernel
theorem d_TM_tick_2 : decode b_TM_tick 2 = .ok (.putfield 41, 3) := by decide +kernel
theorem d_TM_tick_5 : decode b_TM_tick 5 = .ok (.aload_n 0, 1) := by decide +kernel
theorem d_TM_tick_6 : decode b_TM_tick 6 = .ok (.getfield 50, 3) := by decide +kernel
theorem d_TM_tick_9 : decode b_TM_tick 9 = .ok (.ldc 67, 2) := by decide +kernel
theorem d_TM_tick_11 : decode b_TM_tick 11 = .ok (.if_icmp .ne 5, 3) := by decide +kernel
theorem d_TM_tick_14 : decode b_TM_tick 14 = .ok (.iconst (-1), 1) := by decide +kernel
theorem d_TM_tick_15 : decode b_TM_tick 15 = .ok (.ireturn, 1) := by decide +kernel
theorem d_TM_tick_16 : decode b_TM_tick 16 = .ok (.aload_n 0, 1) := by decide +kernel
theorem d_TM_tick_17 : decode b_TM_tick 17 = .ok (.dup, 1) := by decide +kernel
theorem d_TM_tick_18 : decode b_TM_tick 18 = .ok (.getfield 50, 3) := by decide +kernel
theorem d_TM_tick_21 : decode b_TM_tick 21 = .ok (.iconst 1, 1) := by decide +kernel
theorem d_TM_tick_22 : decode b_TM_tick 22 = .ok (.iadd, 1) := by decide +kernel
theorem d_TM_tick_23 : decode b_TM_tick 23 = .ok (.putfield 50, 3) := by decide +kernel
theorem d_TM_tick_26 : decode b_TM_tick 26 = .ok (.aload_n 0, 1) := by decide +kernel
theorem d_TM_tick_27 : decode b_TM_tick 27 = .ok (.getfield 50, 3) := by decide +kernel
theorem d_TM_tick_30 : decode b_TM_tick 30 = .ok (.ireturn, 1) := by decide +kernel
theorem d_TM_leave_0 : decode b_TM_leave 0 = .ok (.aload_n 0, 1) := by decide +kernel
theorem d_TM_leave_1 : decode b_TM_leave 1 = .ok (.iconst 0, 1) := by decide +kernel
theorem d_TM_leave_2 : decode b_TM_leave 2 = .ok (.putfield 41, 3) := by decide +kernel
theorem d_TM_leave_5 : decode b_TM_leave 5 = .ok (.aload_n 0, 1) := by decide +kernel
theorem d_TM_leave_6 : decode b_TM_leave 6 = .ok (.iconst 0, 1) := by decide +kernel
theorem d_TM_leave_7 : decode b_TM_leave 7 = .ok (.invokevirtual 76, 3) := by decide +kernel
theorem d_TM_leave_10 : decode b_TM_leave 10 = .ok (.istore_n 1, 1) := by decide +kernel
theorem d_TM_leave_11 : decode b_TM_leave 11 = .ok (.iload_n 1, 1) := by decide +kernel
theorem d_TM_leave_12 : decode b_TM_leave 12 = .ok (.ifCond .lt 16, 3) := by decide +kernel
theorem d_TM_leave_15 : decode b_TM_leave 15 = .ok (.aload_n 0, 1) := by decide +kernel
theorem d_TM_leave_16 : decode b_TM_leave 16 = .ok (.getfield 20, 3) := by decide +kernel
theorem d_TM_leave_19 : decode b_TM_leave 19 = .ok (.iload_n 1, 1) := by decide +kernel
theorem d_TM_leave_20 : decode b_TM_leave 20 = .ok (.iaload, 1) := by decide +kernel
theorem d_TM_leave_21 : decode b_TM_leave 21 = .ok (.aload_n 0, 1) := by decide +kernel
theorem d_TM_leave_22 : decode b_TM_leave 22 = .ok (.getfield 50, 3) := by decide +kernel
theorem d_TM_leave_25 : decode b_TM_leave 25 = .ok (.if_icmp .le 5, 3) := by decide +kernel
theorem d_TM_leave_28 : decode b_TM_leave 28 = .ok (.iconst (-1), 1) := by decide +kernel
theorem d_TM_leave_29 : decode b_TM_leave 29 = .ok (.ireturn, 1) := by decide +kernel
theorem d_TM_leave_30 : decode b_TM_leave 30 = .ok (.aload_n 0, 1) := by decide +kernel
theorem d_TM_leave_31 : decode b_TM_leave 31 = .ok (.aload_n 0, 1) := by decide +kernel
theorem d_TM_leave_32 : decode b_TM_leave 32 = .ok (.getfield 23, 3) := by decide +kernel
theorem d_TM_leave_35 : decode b_TM_leave 35 = .ok (.iload_n 1, 1) := by decide +kernel
theorem d_TM_leave_36 : decode b_TM_leave 36 = .ok (.iaload, 1) := by decide +kernel
theorem d_TM_leave_37 : decode b_TM_leave 37 = .ok (.putfield 80, 3) := by decide +kernel
theorem d_TM_leave_40 : decode b_TM_leave 40 = .ok (.iconst 0, 1) := by decide +kernel
theorem d_TM_leave_41 : decode b_TM_leave 41 = .ok (.istore_n 2, 1) := by decide +kernel
theorem d_TM_leave_42 : decode b_TM_leave 42 = .ok (.iload_n 2, 1) := by decide +kernel
theorem d_TM_leave_43 : decode b_TM_leave 43 = .ok (.aload_n 0, 1) := by decide +kernel
theorem d_TM_leave_44 : decode b_TM_leave 44 = .ok (.getfield 80, 3) := by decide +kernel
theorem d_TM_leave_47 : decode b_TM_leave 47 = .ok (.if_icmp .ge 32, 3) := by decide +kernel
theorem d_TM_leave_50 : decode b_TM_leave 50 = .ok (.aload_n 0, 1) := by decide +kernel
theorem d_TM_leave_51 : decode b_TM_leave 51 = .ok (.getfield 13, 3) := by decide +kernel
theorem d_TM_leave_54 : decode b_TM_leave 54 = .ok (.iload_n 2, 1) := by decide +kernel
theorem d_TM_leave_55 : decode b_TM_leave 55 = .ok (.aload_n 0, 1) := by decide +kernel
theorem d_TM_leave_56 : decode b_TM_leave 56 = .ok (.getfield 34, 3) := by decide +kernel
theorem d_TM_leave_59 : decode b_TM_leave 59 = .ok (.sipush 256, 3) := by decide +kernel
theorem d_TM_leave_62 : decode b_TM_leave 62 = .ok (.aload_n 0, 1) := by decide +kernel
theorem d_TM_leave_63 : decode b_TM_leave 63 = .ok (.getfield 26, 3) := by decide +kernel
theorem d_TM_leave_66 : decode b_TM_leave 66 = .ok (.iload_n 1, 1) := by decide +kernel
theorem d_TM_leave_67 : decode b_TM_leave 67 = .ok (.iaload, 1) := by decide +kernel
theorem d_TM_leave_68 : decode b_TM_leave 68 = .ok (.imul, 1) := by decide +kernel
theorem d_TM_leave_69 : decode b_TM_leave 69 = .ok (.iload_n 2, 1) := by decide +kernel
theorem d_TM_leave_70 : decode b_TM_leave 70 = .ok (.iadd, 1) := by decide +kernel
theorem d_TM_leave_71 : decode b_TM_leave 71 = .ok (.baload, 1) := by decide +kernel
theorem d_TM_leave_72 : decode b_TM_leave 72 = .ok (.bastore, 1) := by decide +kernel
theorem d_TM_leave_73 : decode b_TM_leave 73 = .ok (.iinc 2 1, 3) := by decide +kernel
theorem d_TM_leave_76 : decode b_TM_leave 76 = .ok (.goto (-34), 3) := by decide +kernel
theorem d_TM_leave_79 : decode b_TM_leave 79 = .ok (.aload_n 0, 1) := by decide +kernel
theorem d_TM_leave_80 : decode b_TM_leave 80 = .ok (.iload_n 1, 1) := by decide +kernel
theorem d_TM_leave_81 : decode b_TM_leave 81 = .ok (.invokevirtual 56, 3) := by decide +kernel
theorem d_TM_leave_84 : decode b_TM_leave 84 = .ok (.aload_n 0, 1) := by decide +kernel
theorem d_TM_leave_85 : decode b_TM_leave 85 = .ok (.getfield 80, 3) := by decide +kernel
theorem d_TM_leave_88 : decode b_TM_leave 88 = .ok (.ireturn, 1) := by decide +kernel
theorem d_TM_place_0 : decode b_TM_place 0 = .ok (.iconst (-1), 1) := by decide +kernel
theorem d_TM_place_1 : decode b_TM_place 1 = .ok (.istore_n 2, 1) := by decide +kernel
theorem d_TM_place_2 : decode b_TM_place 2 = .ok (.iconst 0, 1) := by decide +kernel
theorem d_TM_place_3 : decode b_TM_place 3 = .ok (.istore_n 3, 1) := by decide +kernel
theorem d_TM_place_4 : decode b_TM_place 4 = .ok (.iload_n 3, 1) := by decide +kernel
theorem d_TM_place_5 : decode b_TM_place 5 = .ok (.aload_n 0, 1) := by decide +kernel
theorem d_TM_place_6 : decode b_TM_place 6 = .ok (.getfield 44, 3) := by decide +kernel
theorem d_TM_place_9 : decode b_TM_place 9 = .ok (.if_icmp .ge 90, 3) := by decide +kernel
theorem d_TM_place_12 : decode b_TM_place 12 = .ok (.iconst 0, 1) := by decide +kernel
theorem d_TM_place_13 : decode b_TM_place 13 = .ok (.istore 4, 2) := by decide +kernel
theorem d_TM_place_15 : decode b_TM_place 15 = .ok (.iconst 0, 1) := by decide +kernel
theorem d_TM_place_16 : decode b_TM_place 16 = .ok (.istore 5, 2) := by decide +kernel
theorem d_TM_place_18 : decode b_TM_place 18 = .ok (.iload 5, 2) := by decide +kernel
theorem d_TM_place_20 : decode b_TM_place 20 = .ok (.aload_n 0, 1) := by decide +kernel
theorem d_TM_place_21 : decode b_TM_place 21 = .ok (.getfield 44, 3) := by decide +kernel
theorem d_TM_place_24 : decode b_TM_place 24 = .ok (.if_icmp .ge 57, 3) := by decide +kernel
theorem d_TM_place_27 : decode b_TM_place 27 = .ok (.iload 4, 2) := by decide +kernel
theorem d_TM_place_29 : decode b_TM_place 29 = .ok (.aload_n 0, 1) := by decide +kernel
theorem d_TM_place_30 : decode b_TM_place 30 = .ok (.getfield 20, 3) := by decide +kernel
theorem d_TM_place_33 : decode b_TM_place 33 = .ok (.iload 5, 2) := by decide +kernel
theorem d_TM_place_35 : decode b_TM_place 35 = .ok (.iaload, 1) := by decide +kernel
theorem d_TM_place_36 : decode b_TM_place 36 = .ok (.aload_n 0, 1) := by decide +kernel
theorem d_TM_place_37 : decode b_TM_place 37 = .ok (.getfield 20, 3) := by decide +kernel
theorem d_TM_place_40 : decode b_TM_place 40 = .ok (.iload_n 3, 1) := by decide +kernel
theorem d_TM_place_41 : decode b_TM_place 41 = .ok (.iaload, 1) := by decide +kernel
theorem d_TM_place_42 : decode b_TM_place 42 = .ok (.if_icmp .lt 25, 3) := by decide +kernel
theorem d_TM_place_45 : decode b_TM_place 45 = .ok (.aload_n 0, 1) := by decide +kernel
theorem d_TM_place_46 : decode b_TM_place 46 = .ok (.getfield 20, 3) := by decide +kernel
theorem d_TM_place_49 : decode b_TM_place 49 = .ok (.iload 5, 2) := by decide +kernel
theorem d_TM_place_51 : decode b_TM_place 51 = .ok (.iaload, 1) := by decide +kernel
theorem d_TM_place_52 : decode b_TM_place 52 = .ok (.aload_n 0, 1) := by decide +kernel
theorem d_TM_place_53 : decode b_TM_place 53 = .ok (.getfield 20, 3) := by decide +kernel
theorem d_TM_place_56 : decode b_TM_place 56 = .ok (.iload_n 3, 1) := by decide +kernel
theorem d_TM_place_57 : decode b_TM_place 57 = .ok (.iaload, 1) := by decide +kernel
theorem d_TM_place_58 : decode b_TM_place 58 = .ok (.if_icmp .ne 13, 3) := by decide +kernel
theorem d_TM_place_61 : decode b_TM_place 61 = .ok (.iload 5, 2) := by decide +kernel
theorem d_TM_place_63 : decode b_TM_place 63 = .ok (.iload_n 3, 1) := by decide +kernel
theorem d_TM_place_64 : decode b_TM_place 64 = .ok (.if_icmp .ge 7, 3) := by decide +kernel
theorem d_TM_place_67 : decode b_TM_place 67 = .ok (.iconst 1, 1) := by decide +kernel
theorem d_TM_place_68 : decode b_TM_place 68 = .ok (.goto 4, 3) := by decide +kernel
theorem d_TM_place_71 : decode b_TM_place 71 = .ok (.iconst 0, 1) := by decide +kernel
theorem d_TM_place_72 : decode b_TM_place 72 = .ok (.iadd, 1) := by decide +kernel
theorem d_TM_place_73 : decode b_TM_place 73 = .ok (.istore 4, 2) := by decide +kernel
theorem d_TM_place_75 : decode b_TM_place 75 = .ok (.iinc 5 1, 3) := by decide +kernel
theorem d_TM_place_78 : decode b_TM_place 78 = .ok (.goto (-60), 3) := by decide +kernel
theorem d_TM_place_81 : decode b_TM_place 81 = .ok (.iload 4, 2) := by decide +kernel
theorem d_TM_place_83 : decode b_TM_place 83 = .ok (.iload_n 1, 1) := by decide +kernel
theorem d_TM_place_84 : decode b_TM_place 84 = .ok (.if_icmp .ne 7, 3) := by decide +kernel
theorem d_TM_place_87 : decode b_TM_place 87 = .ok (.iload_n 3, 1) := by decide +kernel
theorem d_TM_place_88 : decode b_TM_place 88 = .ok (.goto 4, 3) := by decide +kernel
theorem d_TM_place_91 : decode b_TM_place 91 = .ok (.iload_n 2, 1) := by decide +kernel
theorem d_TM_place_92 : decode b_TM_place 92 = .ok (.istore_n 2, 1) := by decide +kernel
theorem d_TM_place_93 : decode b_TM_place 93 = .ok (.iinc 3 1, 3) := by decide +kernel
theorem d_TM_place_96 : decode b_TM_place 96 = .ok (.goto (-92), 3) := by decide +kernel
theorem d_TM_place_99 : decode b_TM_place 99 = .ok (.iload_n 2, 1) := by decide +kernel
theorem d_TM_place_100 : decode b_TM_place 100 = .ok (.ireturn, 1) := by decide +kernel
theorem d_TM_left_0 : decode b_TM_left 0 = .ok (.aload_n 0, 1) := by decide +kernel
theorem d_TM_left_1 : decode b_TM_left 1 = .ok (.iconst 0, 1) := by decide +kernel
theorem d_TM_left_2 : decode b_TM_left 2 = .ok (.putfield 41, 3) := by decide +kernel
theorem d_TM_left_5 : decode b_TM_left 5 = .ok (.iload_n 1, 1) := by decide +kernel
theorem d_TM_left_6 : decode b_TM_left 6 = .ok (.ifCond .lt 11, 3) := by decide +kernel
theorem d_TM_left_9 : decode b_TM_left 9 = .ok (.iload_n 1, 1) := by decide +kernel
theorem d_TM_left_10 : decode b_TM_left 10 = .ok (.aload_n 0, 1) := by decide +kernel
theorem d_TM_left_11 : decode b_TM_left 11 = .ok (.getfield 80, 3) := by decide +kernel
theorem d_TM_left_14 : decode b_TM_left 14 = .ok (.if_icmp .lt 7, 3) := by decide +kernel
theorem d_TM_left_17 : decode b_TM_left 17 = .ok (.iconst (-1), 1) := by decide +kernel
theorem d_TM_left_18 : decode b_TM_left 18 = .ok (.goto 13, 3) := by decide +kernel
theorem d_TM_left_21 : decode b_TM_left 21 = .ok (.aload_n 0, 1) := by decide +kernel
theorem d_TM_left_22 : decode b_TM_left 22 = .ok (.getfield 13, 3) := by decide +kernel
theorem d_TM_left_25 : decode b_TM_left 25 = .ok (.iload_n 1, 1) := by decide +kernel
theorem d_TM_left_26 : decode b_TM_left 26 = .ok (.baload, 1) := by decide +kernel
theorem d_TM_left_27 : decode b_TM_left 27 = .ok (.sipush 255, 3) := by decide +kernel
theorem d_TM_left_30 : decode b_TM_left 30 = .ok (.iand, 1) := by decide +kernel
theorem d_TM_left_31 : decode b_TM_left 31 = .ok (.ireturn, 1) := by decide +kernel
theorem d_TM_count_0 : decode b_TM_count 0 = .ok (.aload_n 0, 1) := by decide +kernel
theorem d_TM_count_1 : decode b_TM_count 1 = .ok (.iconst 0, 1) := by decide +kernel
theorem d_TM_count_2 : decode b_TM_count 2 = .ok (.putfield 41, 3) := by decide +kernel
theorem d_TM_count_5 : decode b_TM_count 5 = .ok (.iload_n 1, 1) := by decide +kernel
theorem d_TM_count_6 : decode b_TM_count 6 = .ok (.ifCond .ne 10, 3) := by decide +kernel
theorem d_TM_count_9 : decode b_TM_count 9 = .ok (.aload_n 0, 1) := by decide +kernel
theorem d_TM_count_10 : decode b_TM_count 10 = .ok (.getfield 50, 3) := by decide +kernel
theorem d_TM_count_13 : decode b_TM_count 13 = .ok (.goto 40, 3) := by decide +kernel
theorem d_TM_count_16 : decode b_TM_count 16 = .ok (.iload_n 1, 1) := by decide +kernel
theorem d_TM_count_17 : decode b_TM_count 17 = .ok (.iconst 1, 1) := by decide +kernel
theorem d_TM_count_18 : decode b_TM_count 18 = .ok (.if_icmp .ne 10, 3) := by decide +kernel
theorem d_TM_count_21 : decode b_TM_count 21 = .ok (.aload_n 0, 1) := by decide +kernel
theorem d_TM_count_22 : decode b_TM_count 22 = .ok (.getfield 44, 3) := by decide +kernel
theorem d_TM_count_25 : decode b_TM_count 25 = .ok (.goto 28, 3) := by decide +kernel
theorem d_TM_count_28 : decode b_TM_count 28 = .ok (.iload_n 1, 1) := by decide +kernel
theorem d_TM_count_29 : decode b_TM_count 29 = .ok (.iconst 2, 1) := by decide +kernel
theorem d_TM_count_30 : decode b_TM_count 30 = .ok (.if_icmp .ne 10, 3) := by decide +kernel
theorem d_TM_count_33 : decode b_TM_count 33 = .ok (.aload_n 0, 1) := by decide +kernel
theorem d_TM_count_34 : decode b_TM_count 34 = .ok (.getfield 53, 3) := by decide +kernel
theorem d_TM_count_37 : decode b_TM_count 37 = .ok (.goto 16, 3) := by decide +kernel
theorem d_TM_count_40 : decode b_TM_count 40 = .ok (.iload_n 1, 1) := by decide +kernel
theorem d_TM_count_41 : decode b_TM_count 41 = .ok (.iconst 3, 1) := by decide +kernel
theorem d_TM_count_42 : decode b_TM_count 42 = .ok (.if_icmp .ne 10, 3) := by decide +kernel
theorem d_TM_count_45 : decode b_TM_count 45 = .ok (.aload_n 0, 1) := by decide +kernel
theorem d_TM_count_46 : decode b_TM_count 46 = .ok (.getfield 80, 3) := by decide +kernel
theorem d_TM_count_49 : decode b_TM_count 49 = .ok (.goto 4, 3) := by decide +kernel
theorem d_TM_count_52 : decode b_TM_count 52 = .ok (.iconst (-1), 1) := by decide +kernel
theorem d_TM_count_53 : decode b_TM_count 53 = .ok (.ireturn, 1) := by decide +kernel
theorem d_TM_about_0 : decode b_TM_about 0 = .ok (.aload_n 0, 1) := by decide +kernel
theorem d_TM_about_1 : decode b_TM_about 1 = .ok (.iconst 0, 1) := by decide +kernel
theorem d_TM_about_2 : decode b_TM_about 2 = .ok (.putfield 41, 3) := by decide +kernel
theorem d_TM_about_5 : decode b_TM_about 5 = .ok (.iload_n 1, 1) := by decide +kernel
theorem d_TM_about_6 : decode b_TM_about 6 = .ok (.ifCond .lt 11, 3) := by decide +kernel
theorem d_TM_about_9 : decode b_TM_about 9 = .ok (.iload_n 1, 1) := by decide +kernel
theorem d_TM_about_10 : decode b_TM_about 10 = .ok (.aload_n 0, 1) := by decide +kernel
theorem d_TM_about_11 : decode b_TM_about 11 = .ok (.getfield 44, 3) := by decide +kernel
theorem d_TM_about_14 : decode b_TM_about 14 = .ok (.if_icmp .lt 7, 3) := by decide +kernel
theorem d_TM_about_17 : decode b_TM_about 17 = .ok (.iconst (-1), 1) := by decide +kernel
theorem d_TM_about_18 : decode b_TM_about 18 = .ok (.goto 8, 3) := by decide +kernel
theorem d_TM_about_21 : decode b_TM_about 21 = .ok (.aload_n 0, 1) := by decide +kernel
theorem d_TM_about_22 : decode b_TM_about 22 = .ok (.iload_n 1, 1) := by decide +kernel
theorem d_TM_about_23 : decode b_TM_about 23 = .ok (.invokevirtual 76, 3) := by decide +kernel
theorem d_TM_about_26 : decode b_TM_about 26 = .ok (.istore_n 3, 1) := by decide +kernel
theorem d_TM_about_27 : decode b_TM_about 27 = .ok (.iload_n 3, 1) := by decide +kernel
theorem d_TM_about_28 : decode b_TM_about 28 = .ok (.ifCond .ge 5, 3) := by decide +kernel
theorem d_TM_about_31 : decode b_TM_about 31 = .ok (.iconst (-1), 1) := by decide +kernel
theorem d_TM_about_32 : decode b_TM_about 32 = .ok (.ireturn, 1) := by decide +kernel
theorem d_TM_about_33 : decode b_TM_about 33 = .ok (.iload_n 2, 1) := by decide +kernel
theorem d_TM_about_34 : decode b_TM_about 34 = .ok (.ifCond .ne 12, 3) := by decide +kernel
theorem d_TM_about_37 : decode b_TM_about 37 = .ok (.aload_n 0, 1) := by decide +kernel
theorem d_TM_about_38 : decode b_TM_about 38 = .ok (.getfield 16, 3) := by decide +kernel
theorem d_TM_about_41 : decode b_TM_about 41 = .ok (.iload_n 3, 1) := by decide +kernel
theorem d_TM_about_42 : decode b_TM_about 42 = .ok (.iaload, 1) := by decide +kernel
theorem d_TM_about_43 : decode b_TM_about 43 = .ok (.goto 32, 3) := by decide +kernel
theorem d_TM_about_46 : decode b_TM_about 46 = .ok (.iload_n 2, 1) := by decide +kernel
theorem d_TM_about_47 : decode b_TM_about 47 = .ok (.iconst 1, 1) := by decide +kernel
theorem d_TM_about_48 : decode b_TM_about 48 = .ok (.if_icmp .ne 12, 3) := by decide +kernel
theorem d_TM_about_51 : decode b_TM_about 51 = .ok (.aload_n 0, 1) := by decide +kernel
theorem d_TM_about_52 : decode b_TM_about 52 = .ok (.getfield 20, 3) := by decide +kernel
theorem d_TM_about_55 : decode b_TM_about 55 = .ok (.iload_n 3, 1) := by decide +kernel
theorem d_TM_about_56 : decode b_TM_about 56 = .ok (.iaload, 1) := by decide +kernel
theorem d_TM_about_57 : decode b_TM_about 57 = .ok (.goto 18, 3) := by decide +kernel
theorem d_TM_about_60 : decode b_TM_about 60 = .ok (.iload_n 2, 1) := by decide +kernel
theorem d_TM_about_61 : decode b_TM_about 61 = .ok (.iconst 2, 1) := by decide +kernel
theorem d_TM_about_62 : decode b_TM_about 62 = .ok (.if_icmp .ne 12, 3) := by decide +kernel
theorem d_TM_about_65 : decode b_TM_about 65 = .ok (.aload_n 0, 1) := by decide +kernel
theorem d_TM_about_66 : decode b_TM_about 66 = .ok (.getfield 23, 3) := by decide +kernel
theorem d_TM_about_69 : decode b_TM_about 69 = .ok (.iload_n 3, 1) := by decide +kernel
theorem d_TM_about_70 : decode b_TM_about 70 = .ok (.iaload, 1) := by decide +kernel
theorem d_TM_about_71 : decode b_TM_about 71 = .ok (.goto 4, 3) := by decide +kernel
theorem d_TM_about_74 : decode b_TM_about 74 = .ok (.iconst (-1), 1) := by decide +kernel
theorem d_TM_about_75 : decode b_TM_about 75 = .ok (.ireturn, 1) := by decide +kernel
theorem d_TM_byteAt_0 : decode b_TM_byteAt 0 = .ok (.aload_n 0, 1) := by decide +kernel
theorem d_TM_byteAt_1 : decode b_TM_byteAt 1 = .ok (.iconst 0, 1) := by decide +kernel
theorem d_TM_byteAt_2 : decode b_TM_byteAt 2 = .ok (.putfield 41, 3) := by decide +kernel
theorem d_TM_byteAt_5 : decode b_TM_byteAt 5 = .ok (.iload_n 1, 1) := by decide +kernel
theorem d_TM_byteAt_6 : decode b_TM_byteAt 6 = .ok (.ifCond .lt 11, 3) := by decide +kernel
theorem d_TM_byteAt_9 : decode b_TM_byteAt 9 = .ok (.iload_n 1, 1) := by decide +kernel
theorem d_TM_byteAt_10 : decode b_TM_byteAt 10 = .ok (.aload_n 0, 1) := by decide +kernel
theorem d_TM_byteAt_11 : decode b_TM_byteAt 11 = .ok (.getfield 44, 3) := by decide +kernel
theorem d_TM_byteAt_14 : decode b_TM_byteAt 14 = .ok (.if_icmp .lt 7, 3) := by decide +kernel
theorem d_TM_byteAt_17 : decode b_TM_byteAt 17 = .ok (.iconst (-1), 1) := by decide +kernel
theorem d_TM_byteAt_18 : decode b_TM_byteAt 18 = .ok (.goto 8, 3) := by decide +kernel
theorem d_TM_byteAt_21 : decode b_TM_byteAt 21 = .ok (.aload_n 0, 1) := by decide +kernel
theorem d_TM_byteAt_22 : decode b_TM_byteAt 22 = .ok (.iload_n 1, 1) := by decide +kernel
theorem d_TM_byteAt_23 : decode b_TM_byteAt 23 = .ok (.invokevirtual 76, 3) := by decide +kernel
theorem d_TM_byteAt_26 : decode b_TM_byteAt 26 = .ok (.istore_n 3, 1) := by decide +kernel
theorem d_TM_byteAt_27 : decode b_TM_byteAt 27 = .ok (.iload_n 3, 1) := by decide +kernel
theorem d_TM_byteAt_28 : decode b_TM_byteAt 28 = .ok (.ifCond .lt 17, 3) := by decide +kernel
theorem d_TM_byteAt_31 : decode b_TM_byteAt 31 = .ok (.iload_n 2, 1) := by decide +kernel
theorem d_TM_byteAt_32 : decode b_TM_byteAt 32 = .ok (.ifCond .lt 13, 3) := by decide +kernel
theorem d_TM_byteAt_35 : decode b_TM_byteAt 35 = .ok (.iload_n 2, 1) := by decide +kernel
theorem d_TM_byteAt_36 : decode b_TM_byteAt 36 = .ok (.aload_n 0, 1) := by decide +kernel
theorem d_TM_byteAt_37 : decode b_TM_byteAt 37 = .ok (.getfield 23, 3) := by decide +kernel
theorem d_TM_byteAt_40 : decode b_TM_byteAt 40 = .ok (.iload_n 3, 1) := by decide +kernel
theorem d_TM_byteAt_41 : decode b_TM_byteAt 41 = .ok (.iaload, 1) := by decide +kernel
theorem d_TM_byteAt_42 : decode b_TM_byteAt 42 = .ok (.if_icmp .lt 7, 3) := by decide +kernel
theorem d_TM_byteAt_45 : decode b_TM_byteAt 45 = .ok (.iconst (-1), 1) := by decide +kernel
theorem d_TM_byteAt_46 : decode b_TM_byteAt 46 = .ok (.goto 24, 3) := by decide +kernel
theorem d_TM_byteAt_49 : decode b_TM_byteAt 49 = .ok (.aload_n 0, 1) := by decide +kernel
theorem d_TM_byteAt_50 : decode b_TM_byteAt 50 = .ok (.getfield 34, 3) := by decide +kernel
theorem d_TM_byteAt_53 : decode b_TM_byteAt 53 = .ok (.sipush 256, 3) := by decide +kernel
theorem d_TM_byteAt_56 : decode b_TM_byteAt 56 = .ok (.aload_n 0, 1) := by decide +kernel
theorem d_TM_byteAt_57 : decode b_TM_byteAt 57 = .ok (.getfield 26, 3) := by decide +kernel
theorem d_TM_byteAt_60 : decode b_TM_byteAt 60 = .ok (.iload_n 3, 1) := by decide +kernel
theorem d_TM_byteAt_61 : decode b_TM_byteAt 61 = .ok (.iaload, 1) := by decide +kernel
theorem d_TM_byteAt_62 : decode b_TM_byteAt 62 = .ok (.imul, 1) := by decide +kernel
theorem d_TM_byteAt_63 : decode b_TM_byteAt 63 = .ok (.iload_n 2, 1) := by decide +kernel
theorem d_TM_byteAt_64 : decode b_TM_byteAt 64 = .ok (.iadd, 1) := by decide +kernel
theorem d_TM_byteAt_65 : decode b_TM_byteAt 65 = .ok (.baload, 1) := by decide +kernel
theorem d_TM_byteAt_66 : decode b_TM_byteAt 66 = .ok (.sipush 255, 3) := by decide +kernel
theorem d_TM_byteAt_69 : decode b_TM_byteAt 69 = .ok (.iand, 1) := by decide +kernel
theorem d_TM_byteAt_70 : decode b_TM_byteAt 70 = .ok (.ireturn, 1) := by decide +kernel
