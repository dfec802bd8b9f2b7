theorem d_TT_init_0 : decode b_TT_init 0 = .ok (.aload_n 0, 1) := by decide +kernel
theorem d_TT_init_1 : decode b_TT_init 1 = .ok (.invokespecial 1, 3) := by decide +kernel
theorem d_TT_init_4 : decode b_TT_init 4 = .ok (.iconst 1, 1) := by decide +kernel
theorem d_TT_init_5 : decode b_TT_init 5 = .ok (.iload_n 1, 1) := by decide +kernel
theorem d_TT_init_6 : decode b_TT_init 6 = .ok (.sipush 1024, 3) := by decide +kernel
theorem d_TT_init_9 : decode b_TT_init 9 = .ok (.invokestatic 9, 3) := by decide +kernel
theorem d_TT_init_12 : decode b_TT_init 12 = .ok (.invokestatic 15, 3) := by decide +kernel
theorem d_TT_init_15 : decode b_TT_init 15 = .ok (.istore_n 2, 1) := by decide +kernel
theorem d_TT_init_16 : decode b_TT_init 16 = .ok (.aload_n 0, 1) := by decide +kernel
theorem d_TT_init_17 : decode b_TT_init 17 = .ok (.sipush 512, 3) := by decide +kernel
theorem d_TT_init_20 : decode b_TT_init 20 = .ok (.newarray .byte, 2) := by decide +kernel
theorem d_TT_init_22 : decode b_TT_init 22 = .ok (.putfield 18, 3) := by decide +kernel
theorem d_TT_init_25 : decode b_TT_init 25 = .ok (.aload_n 0, 1) := by decide +kernel
theorem d_TT_init_26 : decode b_TT_init 26 = .ok (.iload_n 2, 1) := by decide +kernel
theorem d_TT_init_27 : decode b_TT_init 27 = .ok (.newarray .int, 2) := by decide +kernel
theorem d_TT_init_29 : decode b_TT_init 29 = .ok (.putfield 22, 3) := by decide +kernel
theorem d_TT_init_32 : decode b_TT_init 32 = .ok (.aload_n 0, 1) := by decide +kernel
theorem d_TT_init_33 : decode b_TT_init 33 = .ok (.iload_n 2, 1) := by decide +kernel
theorem d_TT_init_34 : decode b_TT_init 34 = .ok (.newarray .int, 2) := by decide +kernel
theorem d_TT_init_36 : decode b_TT_init 36 = .ok (.putfield 26, 3) := by decide +kernel
theorem d_TT_init_39 : decode b_TT_init 39 = .ok (.aload_n 0, 1) := by decide +kernel
theorem d_TT_init_40 : decode b_TT_init 40 = .ok (.iload_n 2, 1) := by decide +kernel
theorem d_TT_init_41 : decode b_TT_init 41 = .ok (.newarray .int, 2) := by decide +kernel
theorem d_TT_init_43 : decode b_TT_init 43 = .ok (.putfield 29, 3) := by decide +kernel
theorem d_TT_init_46 : decode b_TT_init 46 = .ok (.aload_n 0, 1) := by decide +kernel
theorem d_TT_init_47 : decode b_TT_init 47 = .ok (.iload_n 2, 1) := by decide +kernel
theorem d_TT_init_48 : decode b_TT_init 48 = .ok (.newarray .int, 2) := by decide +kernel
theorem d_TT_init_50 : decode b_TT_init 50 = .ok (.putfield 32, 3) := by decide +kernel
theorem d_TT_init_53 : decode b_TT_init 53 = .ok (.aload_n 0, 1) := by decide +kernel
theorem d_TT_init_54 : decode b_TT_init 54 = .ok (.iload_n 2, 1) := by decide +kernel
theorem d_TT_init_55 : decode b_TT_init 55 = .ok (.newarray .int, 2) := by decide +kernel
theorem d_TT_init_57 : decode b_TT_init 57 = .ok (.putfield 35, 3) := by decide +kernel
theorem d_TT_init_60 : decode b_TT_init 60 = .ok (.iconst 0, 1) := by decide +kernel
theorem d_TT_init_61 : decode b_TT_init 61 = .ok (.istore_n 3, 1) := by decide +kernel
theorem d_TT_init_62 : decode b_TT_init 62 = .ok (.iload_n 3, 1) := by decide +kernel
theorem d_TT_init_63 : decode b_TT_init 63 = .ok (.iload_n 2, 1) := by decide +kernel
theorem d_TT_init_64 : decode b_TT_init 64 = .ok (.if_icmp .ge 16, 3) := by decide +kernel
theorem d_TT_init_67 : decode b_TT_init 67 = .ok (.aload_n 0, 1) := by decide +kernel
theorem d_TT_init_68 : decode b_TT_init 68 = .ok (.getfield 22, 3) := by decide +kernel
theorem d_TT_init_71 : decode b_TT_init 71 = .ok (.iload_n 3, 1) := by decide +kernel
theorem d_TT_init_72 : decode b_TT_init 72 = .ok (.iload_n 3, 1) := by decide +kernel
theorem d_TT_init_73 : decode b_TT_init 73 = .ok (.iastore, 1) := by decide +kernel
theorem d_TT_init_74 : decode b_TT_init 74 = .ok (.iinc 3 1, 3) := by decide +kernel
theorem d_TT_init_77 : decode b_TT_init 77 = .ok (.goto (-15), 3) := by decide +kernel
theorem d_TT_init_80 : decode b_TT_init 80 = .ok (.return_, 1) := by decide +kernel
theorem d_TT_put_0 : decode b_TT_put 0 = .ok (.aload_n 0, 1) := by decide +kernel
theorem d_TT_put_1 : decode b_TT_put 1 = .ok (.getfield 38, 3) := by decide +kernel
theorem d_TT_put_4 : decode b_TT_put 4 = .ok (.aload_n 0, 1) := by decide +kernel
theorem d_TT_put_5 : decode b_TT_put 5 = .ok (.getfield 42, 3) := by decide +kernel
theorem d_TT_put_8 : decode b_TT_put 8 = .ok (.iadd, 1) := by decide +kernel
theorem d_TT_put_9 : decode b_TT_put 9 = .ok (.istore_n 2, 1) := by decide +kernel
theorem d_TT_put_10 : decode b_TT_put 10 = .ok (.aload_n 0, 1) := by decide +kernel
theorem d_TT_put_11 : decode b_TT_put 11 = .ok (.getfield 42, 3) := by decide +kernel
theorem d_TT_put_14 : decode b_TT_put 14 = .ok (.sipush 256, 3) := by decide +kernel
theorem d_TT_put_17 : decode b_TT_put 17 = .ok (.if_icmp .ge 12, 3) := by decide +kernel
theorem d_TT_put_20 : decode b_TT_put 20 = .ok (.iload_n 2, 1) := by decide +kernel
theorem d_TT_put_21 : decode b_TT_put 21 = .ok (.aload_n 0, 1) := by decide +kernel
theorem d_TT_put_22 : decode b_TT_put 22 = .ok (.getfield 18, 3) := by decide +kernel
theorem d_TT_put_25 : decode b_TT_put 25 = .ok (.arraylength, 1) := by decide +kernel
theorem d_TT_put_26 : decode b_TT_put 26 = .ok (.if_icmp .lt 5, 3) := by decide +kernel
theorem d_TT_put_29 : decode b_TT_put 29 = .ok (.iconst (-1), 1) := by decide +kernel
theorem d_TT_put_30 : decode b_TT_put 30 = .ok (.ireturn, 1) := by decide +kernel
theorem d_TT_put_31 : decode b_TT_put 31 = .ok (.aload_n 0, 1) := by decide +kernel
theorem d_TT_put_32 : decode b_TT_put 32 = .ok (.getfield 18, 3) := by decide +kernel
theorem d_TT_put_35 : decode b_TT_put 35 = .ok (.iload_n 2, 1) := by decide +kernel
theorem d_TT_put_36 : decode b_TT_put 36 = .ok (.iload_n 1, 1) := by decide +kernel
theorem d_TT_put_37 : decode b_TT_put 37 = .ok (.i2b, 1) := by decide +kernel
theorem d_TT_put_38 : decode b_TT_put 38 = .ok (.bastore, 1) := by decide +kernel
theorem d_TT_put_39 : decode b_TT_put 39 = .ok (.aload_n 0, 1) := by decide +kernel
theorem d_TT_put_40 : decode b_TT_put 40 = .ok (.dup, 1) := by decide +kernel
theorem d_TT_put_41 : decode b_TT_put 41 = .ok (.getfield 42, 3) := by decide +kernel
theorem d_TT_put_44 : decode b_TT_put 44 = .ok (.iconst 1, 1) := by decide +kernel
theorem d_TT_put_45 : decode b_TT_put 45 = .ok (.iadd, 1) := by decide +kernel
theorem d_TT_put_46 : decode b_TT_put 46 = .ok (.putfield 42, 3) := by decide +kernel
theorem d_TT_put_49 : decode b_TT_put 49 = .ok (.aload_n 0, 1) := by decide +kernel
theorem d_TT_put_50 : decode b_TT_put 50 = .ok (.getfield 42, 3) := by decide +kernel
theorem d_TT_put_53 : decode b_TT_put 53 = .ok (.ireturn, 1) := by decide +kernel
theorem d_TT_insert_0 : decode b_TT_insert 0 = .ok (.aload_n 0, 1) := by decide +kernel
theorem d_TT_insert_1 : decode b_TT_insert 1 = .ok (.iload_n 2, 1) := by decide +kernel
theorem d_TT_insert_2 : decode b_TT_insert 2 = .ok (.invokevirtual 45, 3) := by decide +kernel
theorem d_TT_insert_5 : decode b_TT_insert 5 = .ok (.istore_n 3, 1) := by decide +kernel
theorem d_TT_insert_6 : decode b_TT_insert 6 = .ok (.iload_n 3, 1) := by decide +kernel
theorem d_TT_insert_7 : decode b_TT_insert 7 = .ok (.ifCond .ne 9, 3) := by decide +kernel
theorem d_TT_insert_10 : decode b_TT_insert 10 = .ok (.aload_n 0, 1) := by decide +kernel
theorem d_TT_insert_11 : decode b_TT_insert 11 = .ok (.iload_n 1, 1) := by decide +kernel
theorem d_TT_insert_12 : decode b_TT_insert 12 = .ok (.iload_n 2, 1) := by decide +kernel
theorem d_TT_insert_13 : decode b_TT_insert 13 = .ok (.invokevirtual 49, 3) := by decide +kernel
theorem d_TT_insert_16 : decode b_TT_insert 16 = .ok (.aload_n 0, 1) := by decide +kernel
theorem d_TT_insert_17 : decode b_TT_insert 17 = .ok (.iconst 0, 1) := by decide +kernel
theorem d_TT_insert_18 : decode b_TT_insert 18 = .ok (.putfield 42, 3) := by decide +kernel
theorem d_TT_insert_21 : decode b_TT_insert 21 = .ok (.iload_n 3, 1) := by decide +kernel
theorem d_TT_insert_22 : decode b_TT_insert 22 = .ok (.ireturn, 1) := by decide +kernel
theorem d_TT_whetherInserted_0 : decode b_TT_whetherInserted 0 = .ok (.aload_n 0, 1) := by decide +kernel
theorem d_TT_whetherInserted_1 : decode b_TT_whetherInserted 1 = .ok (.getfield 42, 3) := by decide +kernel
theorem d_TT_whetherInserted_4 : decode b_TT_whetherInserted 4 = .ok (.ifCond .ne 5, 3) := by decide +kernel
theorem d_TT_whetherInserted_7 : decode b_TT_whetherInserted 7 = .ok (.iconst 1, 1) := by decide +kernel
theorem d_TT_whetherInserted_8 : decode b_TT_whetherInserted 8 = .ok (.ireturn, 1) := by decide +kernel
theorem d_TT_whetherInserted_9 : decode b_TT_whetherInserted 9 = .ok (.iload_n 1, 1) := by decide +kernel
theorem d_TT_whetherInserted_10 : decode b_TT_whetherInserted 10 = .ok (.aload_n 0, 1) := by decide +kernel
theorem d_TT_whetherInserted_11 : decode b_TT_whetherInserted 11 = .ok (.getfield 75, 3) := by decide +kernel
theorem d_TT_whetherInserted_14 : decode b_TT_whetherInserted 14 = .ok (.if_icmp .gt 5, 3) := by decide +kernel
theorem d_TT_whetherInserted_17 : decode b_TT_whetherInserted 17 = .ok (.iconst 2, 1) := by decide +kernel
theorem d_TT_whetherInserted_18 : decode b_TT_whetherInserted 18 = .ok (.ireturn, 1) := by decide +kernel
theorem d_TT_whetherInserted_19 : decode b_TT_whetherInserted 19 = .ok (.aload_n 0, 1) := by decide +kernel
theorem d_TT_whetherInserted_20 : decode b_TT_whetherInserted 20 = .ok (.getfield 53, 3) := by decide +kernel
theorem d_TT_whetherInserted_23 : decode b_TT_whetherInserted 23 = .ok (.aload_n 0, 1) := by decide +kernel
theorem d_TT_whetherInserted_24 : decode b_TT_whetherInserted 24 = .ok (.getfield 22, 3) := by decide +kernel
theorem d_TT_whetherInserted_27 : decode b_TT_whetherInserted 27 = .ok (.arraylength, 1) := by decide +kernel
theorem d_TT_whetherInserted_28 : decode b_TT_whetherInserted 28 = .ok (.if_icmp .lt 5, 3) := by decide +kernel
theorem d_TT_whetherInserted_31 : decode b_TT_whetherInserted 31 = .ok (.iconst 3, 1) := by decide +kernel
theorem d_TT_whetherInserted_32 : decode b_TT_whetherInserted 32 = .ok (.ireturn, 1) := by decide +kernel
theorem d_TT_whetherInserted_33 : decode b_TT_whetherInserted 33 = .ok (.iconst 0, 1) := by decide +kernel
theorem d_TT_whetherInserted_34 : decode b_TT_whetherInserted 34 = .ok (.ireturn, 1) := by decide +kernel
theorem d_TT_addEntry_0 : decode b_TT_addEntry 0 = .ok (.aload_n 0, 1) := by decide +kernel
theorem d_TT_addEntry_1 : decode b_TT_addEntry 1 = .ok (.getfield 22, 3) := by decide +kernel
theorem d_TT_addEntry_4 : decode b_TT_addEntry 4 = .ok (.aload_n 0, 1) := by decide +kernel
theorem d_TT_addEntry_5 : decode b_TT_addEntry 5 = .ok (.getfield 53, 3) := by decide +kernel
theorem d_TT_addEntry_8 : decode b_TT_addEntry 8 = .ok (.iaload, 1) := by decide +kernel
theorem d_TT_addEntry_9 : decode b_TT_addEntry 9 = .ok (.istore_n 3, 1) := by decide +kernel
theorem d_TT_addEntry_10 : decode b_TT_addEntry 10 = .ok (.aload_n 0, 1) := by decide +kernel
theorem d_TT_addEntry_11 : decode b_TT_addEntry 11 = .ok (.getfield 26, 3) := by decide +kernel
theorem d_TT_addEntry_14 : decode b_TT_addEntry 14 = .ok (.iload_n 3, 1) := by decide +kernel
theorem d_TT_addEntry_15 : decode b_TT_addEntry 15 = .ok (.iload_n 1, 1) := by decide +kernel
theorem d_TT_addEntry_16 : decode b_TT_addEntry 16 = .ok (.iastore, 1) := by decide +kernel
theorem d_TT_addEntry_17 : decode b_TT_addEntry 17 = .ok (.aload_n 0, 1) := by decide +kernel
theorem d_TT_addEntry_18 : decode b_TT_addEntry 18 = .ok (.getfield 29, 3) := by decide +kernel
theorem d_TT_addEntry_21 : decode b_TT_addEntry 21 = .ok (.iload_n 3, 1) := by decide +kernel
theorem d_TT_addEntry_22 : decode b_TT_addEntry 22 = .ok (.iload_n 2, 1) := by decide +kernel
theorem d_TT_addEntry_23 : decode b_TT_addEntry 23 = .ok (.iastore, 1) := by decide +kernel
theorem d_TT_addEntry_24 : decode b_TT_addEntry 24 = .ok (.aload_n 0, 1) := by decide +kernel
theorem d_TT_addEntry_25 : decode b_TT_addEntry 25 = .ok (.getfield 32, 3) := by decide +kernel
theorem d_TT_addEntry_28 : decode b_TT_addEntry 28 = .ok (.iload_n 3, 1) := by decide +kernel
theorem d_TT_addEntry_29 : decode b_TT_addEntry 29 = .ok (.aload_n 0, 1) := by decide +kernel
theorem d_TT_addEntry_30 : decode b_TT_addEntry 30 = .ok (.getfield 38, 3) := by decide +kernel
theorem d_TT_addEntry_33 : decode b_TT_addEntry 33 = .ok (.iastore, 1) := by decide +kernel
theorem d_TT_addEntry_34 : decode b_TT_addEntry 34 = .ok (.aload_n 0, 1) := by decide +kernel
theorem d_TT_addEntry_35 : decode b_TT_addEntry 35 = .ok (.getfield 35, 3) := by decide +kernel
theorem d_TT_addEntry_38 : decode b_TT_addEntry 38 = .ok (.iload_n 3, 1) := by decide +kernel
theorem d_TT_addEntry_39 : decode b_TT_addEntry 39 = .ok (.aload_n 0, 1) := by decide +kernel
theorem d_TT_addEntry_40 : decode b_TT_addEntry 40 = .ok (.getfield 42, 3) := by decide +kernel
theorem d_TT_addEntry_43 : decode b_TT_addEntry 43 = .ok (.iastore, 1) := by decide +kernel
theorem d_TT_addEntry_44 : decode b_TT_addEntry 44 = .ok (.aload_n 0, 1) := by decide +kernel
theorem d_TT_addEntry_45 : decode b_TT_addEntry 45 = .ok (.dup, 1) := by decide +kernel
theorem d_TT_addEntry_46 : decode b_TT_addEntry 46 = .ok (.getfield 38, 3) := by decide +kernel
theorem d_TT_addEntry_49 : decode b_TT_addEntry 49 = .ok (.aload_n 0, 1) := by decide +kernel
theorem d_TT_addEntry_50 : decode b_TT_addEntry 50 = .ok (.getfield 42, 3) := by decide +kernel
theorem d_TT_addEntry_53 : decode b_TT_addEntry 53 = .ok (.iadd, 1) := by decide +kernel
theorem d_TT_addEntry_54 : decode b_TT_addEntry 54 = .ok (.putfield 38, 3) := by decide +kernel
theorem d_TT_addEntry_57 : decode b_TT_addEntry 57 = .ok (.aload_n 0, 1) := by decide +kernel
theorem d_TT_addEntry_58 : decode b_TT_addEntry 58 = .ok (.dup, 1) := by decide +kernel
theorem d_TT_addEntry_59 : decode b_TT_addEntry 59 = .ok (.getfield 53, 3) := by decide +kernel
theorem d_TT_addEntry_62 : decode b_TT_addEntry 62 = .ok (.iconst 1, 1) := by decide +kernel
theorem d_TT_addEntry_63 : decode b_TT_addEntry 63 = .ok (.iadd, 1) := by decide +kernel
theorem d_TT_addEntry_64 : decode b_TT_addEntry 64 = .ok (.putfield 53, 3) := by decide +kernel
theorem d_TT_addEntry_67 : decode b_TT_addEntry 67 = .ok (.aload_n 0, 1) := by decide +kernel
theorem d_TT_addEntry_68 : decode b_TT_addEntry 68 = .ok (.dup, 1) := by decide +kernel
theorem d_TT_addEntry_69 : decode b_TT_addEntry 69 = .ok (.getfield 90, 3) := by decide +kernel
theorem d_TT_addEntry_72 : decode b_TT_addEntry 72 = .ok (.iconst 1, 1) := by decide +kernel
theorem d_TT_addEntry_73 : decode b_TT_addEntry 73 = .ok (.iadd, 1) := by decide +kernel
theorem d_TT_addEntry_74 : decode b_TT_addEntry 74 = .ok (.putfield 90, 3) := by decide +kernel
theorem d_TT_addEntry_77 : decode b_TT_addEntry 77 = .ok (.aload_n 0, 1) := by decide +kernel
theorem d_TT_addEntry_78 : decode b_TT_addEntry 78 = .ok (.aload_n 0, 1) := by decide +kernel
theorem d_TT_addEntry_79 : decode b_TT_addEntry 79 = .ok (.getfield 53, 3) := by decide +kernel
theorem d_TT_addEntry_82 : decode b_TT_addEntry 82 = .ok (.iconst 1, 1) := by decide +kernel
theorem d_TT_addEntry_83 : decode b_TT_addEntry 83 = .ok (.isub, 1) := by decide +kernel
theorem d_TT_addEntry_84 : decode b_TT_addEntry 84 = .ok (.invokevirtual 97, 3) := by decide +kernel
theorem d_TT_addEntry_87 : decode b_TT_addEntry 87 = .ok (.return_, 1) := by decide +kernel
theorem d_TT_settle_0 : decode b_TT_settle 0 = .ok (.iload_n 1, 1) := by decide +kernel
theorem d_TT_settle_1 : decode b_TT_settle 1 = .ok (.istore_n 2, 1) := by decide +kernel
theorem d_TT_settle_2 : decode b_TT_settle 2 = .ok (.iload_n 2, 1) := by decide +kernel
theorem d_TT_settle_3 : decode b_TT_settle 3 = .ok (.ifCond .le 38, 3) := by decide +kernel
theorem d_TT_settle_6 : decode b_TT_settle 6 = .ok (.aload_n 0, 1) := by decide +kernel
theorem d_TT_settle_7 : decode b_TT_settle 7 = .ok (.aload_n 0, 1) := by decide +kernel
theorem d_TT_settle_8 : decode b_TT_settle 8 = .ok (.getfield 22, 3) := by decide +kernel
theorem d_TT_settle_11 : decode b_TT_settle 11 = .ok (.iload_n 2, 1) := by decide +kernel
theorem d_TT_settle_12 : decode b_TT_settle 12 = .ok (.iaload, 1) := by decide +kernel
theorem d_TT_settle_13 : decode b_TT_settle 13 = .ok (.aload_n 0, 1) := by decide +kernel
theorem d_TT_settle_14 : decode b_TT_settle 14 = .ok (.getfield 22, 3) := by decide +kernel
theorem d_TT_settle_17 : decode b_TT_settle 17 = .ok (.iload_n 2, 1) := by decide +kernel
theorem d_TT_settle_18 : decode b_TT_settle 18 = .ok (.iconst 1, 1) := by decide +kernel
theorem d_TT_settle_19 : decode b_TT_settle 19 = .ok (.isub, 1) := by decide +kernel
theorem d_TT_settle_20 : decode b_TT_settle 20 = .ok (.iaload, 1) := by decide +kernel
theorem d_TT_settle_21 : decode b_TT_settle 21 = .ok (.invokevirtual 107, 3) := by decide +kernel
theorem d_TT_settle_24 : decode b_TT_settle 24 = .ok (.ifCond .eq 17, 3) := by decide +kernel
theorem d_TT_settle_27 : decode b_TT_settle 27 = .ok (.aload_n 0, 1) := by decide +kernel
theorem d_TT_settle_28 : decode b_TT_settle 28 = .ok (.iload_n 2, 1) := by decide +kernel
theorem d_TT_settle_29 : decode b_TT_settle 29 = .ok (.iload_n 2, 1) := by decide +kernel
theorem d_TT_settle_30 : decode b_TT_settle 30 = .ok (.iconst 1, 1) := by decide +kernel
theorem d_TT_settle_31 : decode b_TT_settle 31 = .ok (.isub, 1) := by decide +kernel
theorem d_TT_settle_32 : decode b_TT_settle 32 = .ok (.invokevirtual 56, 3) := by decide +kernel
theorem d_TT_settle_35 : decode b_TT_settle 35 = .ok (.iinc 2 (-1), 3) := by decide +kernel
theorem d_TT_settle_38 : decode b_TT_settle 38 = .ok (.goto (-36), 3) := by decide +kernel
theorem d_TT_settle_41 : decode b_TT_settle 41 = .ok (.return_, 1) := by decide +kernel
theorem d_TT_isBefore_0 : decode b_TT_isBefore 0 = .ok (.aload_n 0, 1) := by decide +kernel
theorem d_TT_isBefore_1 : decode b_TT_isBefore 1 = .ok (.getfield 29, 3) := by decide +kernel
theorem d_TT_isBefore_4 : decode b_TT_isBefore 4 = .ok (.iload_n 1, 1) := by decide +kernel
theorem d_TT_isBefore_5 : decode b_TT_isBefore 5 = .ok (.iaload, 1) := by decide +kernel
theorem d_TT_isBefore_6 : decode b_TT_isBefore 6 = .ok (.aload_n 0, 1) := by decide +kernel
theorem d_TT_isBefore_7 : decode b_TT_isBefore 7 = .ok (.getfield 29, 3) := by decide +kernel
theorem d_TT_isBefore_10 : decode b_TT_isBefore 10 = .ok (.iload_n 2, 1) := by decide +kernel
theorem d_TT_isBefore_11 : decode b_TT_isBefore 11 = .ok (.iaload, 1) := by decide +kernel
theorem d_TT_isBefore_12 : decode b_TT_isBefore 12 = .ok (.if_icmp .eq 24, 3) := by decide +kernel
theorem d_TT_isBefore_15 : decode b_TT_isBefore 15 = .ok (.aload_n 0, 1) := by decide +kernel
theorem d_TT_isBefore_16 : decode b_TT_isBefore 16 = .ok (.getfield 29, 3) := by decide +kernel
theorem d_TT_isBefore_19 : decode b_TT_isBefore 19 = .ok (.iload_n 1, 1) := by decide +kernel
theorem d_TT_isBefore_20 : decode b_TT_isBefore 20 = .ok (.iaload, 1) := by decide +kernel
theorem d_TT_isBefore_21 : decode b_TT_isBefore 21 = .ok (.aload_n 0, 1) := by decide +kernel
theorem d_TT_isBefore_22 : decode b_TT_isBefore 22 = .ok (.getfield 29, 3) := by decide +kernel
theorem d_TT_isBefore_25 : decode b_TT_isBefore 25 = .ok (.iload_n 2, 1) := by decide +kernel
theorem d_TT_isBefore_26 : decode b_TT_isBefore 26 = .ok (.iaload, 1) := by decide +kernel
theorem d_TT_isBefore_27 : decode b_TT_isBefore 27 = .ok (.if_icmp .ge 7, 3) := by decide +kernel
theorem d_TT_isBefore_30 : decode b_TT_isBefore 30 = .ok (.iconst 1, 1) := by decide +kernel
theorem d_TT_isBefore_31 : decode b_TT_isBefore 31 = .ok (.goto 4, 3) := by decide +kernel
theorem d_TT_isBefore_34 : decode b_TT_isBefore 34 = .ok (.iconst 0, 1) := by decide +kernel
theorem d_TT_isBefore_35 : decode b_TT_isBefore 35 = .ok (.ireturn, 1) := by decide +kernel
theorem d_TT_isBefore_36 : decode b_TT_isBefore 36 = .ok (.aload_n 0, 1) := by decide +kernel
theorem d_TT_isBefore_37 : decode b_TT_isBefore 37 = .ok (.getfield 32, 3) := by decide +kernel
theorem d_TT_isBefore_40 : decode b_TT_isBefore 40 = .ok (.iload_n 1, 1) := by decide +kernel
theorem d_TT_isBefore_41 : decode b_TT_isBefore 41 = .ok (.iaload, 1) := by decide +kernel
theorem d_TT_isBefore_42 : decode b_TT_isBefore 42 = .ok (.aload_n 0, 1) := by decide +kernel
theorem d_TT_isBefore_43 : decode b_TT_isBefore 43 = .ok (.getfield 32, 3) := by decide +kernel
theorem d_TT_isBefore_46 : decode b_TT_isBefore 46 = .ok (.iload_n 2, 1) := by decide +kernel
theorem d_TT_isBefore_47 : decode b_TT_isBefore 47 = .ok (.iaload, 1) := by decide +kernel
theorem d_TT_isBefore_48 : decode b_TT_isBefore 48 = .ok (.if_icmp .ge 7, 3) := by decide +kernel
theorem d_TT_isBefore_51 : decode b_TT_isBefore 51 = .ok (.iconst 1, 1) := by decide +kernel
theorem d_TT_isBefore_52 : decode b_TT_isBefore 52 = .ok (.goto 4, 3) := by decide +kernel
theorem d_TT_isBefore_55 : decode b_TT_isBefore 55 = .ok (.iconst 0, 1) := by decide +kernel
theorem d_TT_isBefore_56 : decode b_TT_isBefore 56 = .ok (.ireturn, 1) := by decide +kernel
theorem d_TT_swap_0 : decode b_TT_swap 0 = .ok (.aload_n 0, 1) := by decide +kernel
theorem d_TT_swap_1 : decode b_TT_swap 1 = .ok (.getfield 22, 3) := by decide +kernel
theorem d_TT_swap_4 : decode b_TT_swap 4 = .ok (.iload_n 1, 1) := by decide +kernel
theorem d_TT_swap_5 : decode b_TT_swap 5 = .ok (.iaload, 1) := by decide +kernel
theorem d_TT_swap_6 : decode b_TT_swap 6 = .ok (.istore_n 3, 1) := by decide +kernel
theorem d_TT_swap_7 : decode b_TT_swap 7 = .ok (.aload_n 0, 1) := by decide +kernel
theorem d_TT_swap_8 : decode b_TT_swap 8 = .ok (.getfield 22, 3) := by decide +kernel
theorem d_TT_swap_11 : decode b_TT_swap 11 = .ok (.iload_n 1, 1) := by decide +kernel
theorem d_TT_swap_12 : decode b_TT_swap 12 = .ok (.aload_n 0, 1) := by decide +kernel
theorem d_TT_swap_13 : decode b_TT_swap 13 = .ok (.getfield 22, 3) := by decide +kernel
theorem d_TT_swap_16 : decode b_TT_swap 16 = .ok (.iload_n 2, 1) := by decide +kernel
theorem d_TT_swap_17 : decode b_TT_swap 17 = .ok (.iaload, 1) := by decide +kernel
theorem d_TT_swap_18 : decode b_TT_swap 18 = .ok (.iastore, 1) := by decide +kernel
theorem d_TT_swap_19 : decode b_TT_swap 19 = .ok (.aload_n 0, 1) := by decide +kernel
theorem d_TT_swap_20 : decode b_TT_swap 20 = .ok (.getfield 22, 3) := by decide +kernel
theorem d_TT_swap_23 : decode b_TT_swap 23 = .ok (.iload_n 2, 1) := by decide +kernel
theorem d_TT_swap_24 : decode b_TT_swap 24 = .ok (.iload_n 3, 1) := by decide +kernel
theorem d_TT_swap_25 : decode b_TT_swap 25 = .ok (.iastore, 1) := by decide +kernel
theorem d_TT_swap_26 : decode b_TT_swap 26 = .ok (.return_, 1) := by decide +kernel
theorem d_TT_remove_0 : decode b_TT_remove 0 = .ok (.iconst 0, 1) := by decide +kernel
theorem d_TT_remove_1 : decode b_TT_remove 1 = .ok (.istore_n 2, 1) := by decide +kernel
theorem d_TT_remove_2 : decode b_TT_remove 2 = .ok (.iconst 0, 1) := by decide +kernel
theorem d_TT_remove_3 : decode b_TT_remove 3 = .ok (.istore_n 3, 1) := by decide +kernel
theorem d_TT_remove_4 : decode b_TT_remove 4 = .ok (.iload_n 3, 1) := by decide +kernel
theorem d_TT_remove_5 : decode b_TT_remove 5 = .ok (.aload_n 0, 1) := by decide +kernel
theorem d_TT_remove_6 : decode b_TT_remove 6 = .ok (.getfield 53, 3) := by decide +kernel
theorem d_TT_remove_9 : decode b_TT_remove 9 = .ok (.if_icmp .ge 33, 3) := by decide +kernel
theorem d_TT_remove_12 : decode b_TT_remove 12 = .ok (.aload_n 0, 1) := by decide +kernel
theorem d_TT_remove_13 : decode b_TT_remove 13 = .ok (.getfield 26, 3) := by decide +kernel
theorem d_TT_remove_16 : decode b_TT_remove 16 = .ok (.aload_n 0, 1) := by decide +kernel
theorem d_TT_remove_17 : decode b_TT_remove 17 = .ok (.getfield 22, 3) := by decide +kernel
theorem d_TT_remove_20 : decode b_TT_remove 20 = .ok (.iload_n 3, 1) := by decide +kernel
theorem d_TT_remove_21 : decode b_TT_remove 21 = .ok (.iaload, 1) := by decide +kernel
theorem d_TT_remove_22 : decode b_TT_remove 22 = .ok (.iaload, 1) := by decide +kernel
theorem d_TT_remove_23 : decode b_TT_remove 23 = .ok (.iload_n 1, 1) := by decide +kernel
theorem d_TT_remove_24 : decode b_TT_remove 24 = .ok (.if_icmp .eq 12, 3) := by decide +kernel
theorem d_TT_remove_27 : decode b_TT_remove 27 = .ok (.aload_n 0, 1) := by decide +kernel
theorem d_TT_remove_28 : decode b_TT_remove 28 = .ok (.iload_n 3, 1) := by decide +kernel
theorem d_TT_remove_29 : decode b_TT_remove 29 = .ok (.iload_n 2, 1) := by decide +kernel
theorem d_TT_remove_30 : decode b_TT_remove 30 = .ok (.invokevirtual 56, 3) := by decide +kernel
theorem d_TT_remove_33 : decode b_TT_remove 33 = .ok (.iinc 2 1, 3) := by decide +kernel
theorem d_TT_remove_36 : decode b_TT_remove 36 = .ok (.iinc 3 1, 3) := by decide +kernel
theorem d_TT_remove_39 : decode b_TT_remove 39 = .ok (.goto (-35), 3) := by decide +kernel
theorem d_TT_remove_42 : decode b_TT_remove 42 = .ok (.aload_n 0, 1) := by decide +kernel
theorem d_TT_remove_43 : decode b_TT_remove 43 = .ok (.iload_n 2, 1) := by decide +kernel
theorem d_TT_remove_44 : decode b_TT_remove 44 = .ok (.invokevirtual 59, 3) := by decide +kernel
theorem d_TT_remove_47 : decode b_TT_remove 47 = .ok (.ireturn, 1) := by decide +kernel
theorem d_TT_keepFirst_0 : decode b_TT_keepFirst 0 = .ok (.aload_n 0, 1) := by decide +kernel
theorem d_TT_keepFirst_1 : decode b_TT_keepFirst 1 = .ok (.getfield 53, 3) := by decide +kernel
theorem d_TT_keepFirst_4 : decode b_TT_keepFirst 4 = .ok (.iload_n 1, 1) := by decide +kernel
theorem d_TT_keepFirst_5 : decode b_TT_keepFirst 5 = .ok (.isub, 1) := by decide +kernel
theorem d_TT_keepFirst_6 : decode b_TT_keepFirst 6 = .ok (.istore_n 2, 1) := by decide +kernel
theorem d_TT_keepFirst_7 : decode b_TT_keepFirst 7 = .ok (.aload_n 0, 1) := by decide +kernel
theorem d_TT_keepFirst_8 : decode b_TT_keepFirst 8 = .ok (.iload_n 1, 1) := by decide +kernel
theorem d_TT_keepFirst_9 : decode b_TT_keepFirst 9 = .ok (.putfield 53, 3) := by decide +kernel
theorem d_TT_keepFirst_12 : decode b_TT_keepFirst 12 = .ok (.iload_n 2, 1) := by decide +kernel
theorem d_TT_keepFirst_13 : decode b_TT_keepFirst 13 = .ok (.ireturn, 1) := by decide +kernel
theorem d_TT_removeSpan_0 : decode b_TT_removeSpan 0 = .ok (.iconst 0, 1) := by decide +kernel
theorem d_TT_removeSpan_1 : decode b_TT_removeSpan 1 = .ok (.istore_n 3, 1) := by decide +kernel
theorem d_TT_removeSpan_2 : decode b_TT_removeSpan 2 = .ok (.iconst 0, 1) := by decide +kernel
theorem d_TT_removeSpan_3 : decode b_TT_removeSpan 3 = .ok (.istore 4, 2) := by decide +kernel
theorem d_TT_removeSpan_5 : decode b_TT_removeSpan 5 = .ok (.iload 4, 2) := by decide +kernel
theorem d_TT_removeSpan_7 : decode b_TT_removeSpan 7 = .ok (.aload_n 0, 1) := by decide +kernel
theorem d_TT_removeSpan_8 : decode b_TT_removeSpan 8 = .ok (.getfield 53, 3) := by decide +kernel
theorem d_TT_removeSpan_11 : decode b_TT_removeSpan 11 = .ok (.if_icmp .ge 35, 3) := by decide +kernel
theorem d_TT_removeSpan_14 : decode b_TT_removeSpan 14 = .ok (.aload_n 0, 1) := by decide +kernel
theorem d_TT_removeSpan_15 : decode b_TT_removeSpan 15 = .ok (.aload_n 0, 1) := by decide +kernel
theorem d_TT_removeSpan_16 : decode b_TT_removeSpan 16 = .ok (.getfield 22, 3) := by decide +kernel
theorem d_TT_removeSpan_19 : decode b_TT_removeSpan 19 = .ok (.iload 4, 2) := by decide +kernel
theorem d_TT_removeSpan_21 : decode b_TT_removeSpan 21 = .ok (.iaload, 1) := by decide +kernel
theorem d_TT_removeSpan_22 : decode b_TT_removeSpan 22 = .ok (.iload_n 1, 1) := by decide +kernel
theorem d_TT_removeSpan_23 : decode b_TT_removeSpan 23 = .ok (.iload_n 2, 1) := by decide +kernel
theorem d_TT_removeSpan_24 : decode b_TT_removeSpan 24 = .ok (.invokevirtual 62, 3) := by decide +kernel
theorem d_TT_removeSpan_27 : decode b_TT_removeSpan 27 = .ok (.ifCond .ne 13, 3) := by decide +kernel
theorem d_TT_removeSpan_30 : decode b_TT_removeSpan 30 = .ok (.aload_n 0, 1) := by decide +kernel
theorem d_TT_removeSpan_31 : decode b_TT_removeSpan 31 = .ok (.iload 4, 2) := by decide +kernel
theorem d_TT_removeSpan_33 : decode b_TT_removeSpan 33 = .ok (.iload_n 3, 1) := by decide +kernel
theorem d_TT_removeSpan_34 : decode b_TT_removeSpan 34 = .ok (.invokevirtual 56, 3) := by decide +kernel
theorem d_TT_removeSpan_37 : decode b_TT_removeSpan 37 = .ok (.iinc 3 1, 3) := by decide +kernel
theorem d_TT_removeSpan_40 : decode b_TT_removeSpan 40 = .ok (.iinc 4 1, 3) := by decide +kernel
theorem d_TT_removeSpan_43 : decode b_TT_removeSpan 43 = .ok (.goto (-38), 3) := by decide +kernel
theorem d_TT_removeSpan_46 : decode b_TT_removeSpan 46 = .ok (.aload_n 0, 1) := by decide +kernel
theorem d_TT_removeSpan_47 : decode b_TT_removeSpan 47 = .ok (.iload_n 3, 1) := by decide +kernel
theorem d_TT_removeSpan_48 : decode b_TT_removeSpan 48 = .ok (.invokevirtual 59, 3) := by decide +kernel
theorem d_TT_removeSpan_51 : decode b_TT_removeSpan 51 = .ok (.ireturn, 1) := by decide +kernel
theorem d_TT_isInSpan_0 : decode b_TT_isInSpan 0 = .ok (.aload_n 0, 1) := by decide +kernel
theorem d_TT_isInSpan_1 : decode b_TT_isInSpan 1 = .ok (.getfield 29, 3) := by decide +kernel
theorem d_TT_isInSpan_4 : decode b_TT_isInSpan 4 = .ok (.iload_n 1, 1) := by decide +kernel
theorem d_TT_isInSpan_5 : decode b_TT_isInSpan 5 = .ok (.iaload, 1) := by decide +kernel
theorem d_TT_isInSpan_6 : decode b_TT_isInSpan 6 = .ok (.iload_n 2, 1) := by decide +kernel
theorem d_TT_isInSpan_7 : decode b_TT_isInSpan 7 = .ok (.if_icmp .lt 17, 3) := by decide +kernel
theorem d_TT_isInSpan_10 : decode b_TT_isInSpan 10 = .ok (.aload_n 0, 1) := by decide +kernel
theorem d_TT_isInSpan_11 : decode b_TT_isInSpan 11 = .ok (.getfield 29, 3) := by decide +kernel
theorem d_TT_isInSpan_14 : decode b_TT_isInSpan 14 = .ok (.iload_n 1, 1) := by decide +kernel
theorem d_TT_isInSpan_15 : decode b_TT_isInSpan 15 = .ok (.iaload, 1) := by decide +kernel
theorem d_TT_isInSpan_16 : decode b_TT_isInSpan 16 = .ok (.iload_n 3, 1) := by decide +kernel
theorem d_TT_isInSpan_17 : decode b_TT_isInSpan 17 = .ok (.if_icmp .gt 7, 3) := by decide +kernel
theorem d_TT_isInSpan_20 : decode b_TT_isInSpan 20 = .ok (.iconst 1, 1) := by decide +kernel
theorem d_TT_isInSpan_21 : decode b_TT_isInSpan 21 = .ok (.goto 4, 3) := by decide +kernel
theorem d_TT_isInSpan_24 : decode b_TT_isInSpan 24 = .ok (.iconst 0, 1) := by decide +kernel
theorem d_TT_isInSpan_25 : decode b_TT_isInSpan 25 = .ok (.ireturn, 1) := by decide +kernel
theorem d_TT_shift_0 : decode b_TT_shift 0 = .ok (.aload_n 0, 1) := by decide +kernel
theorem d_TT_shift_1 : decode b_TT_shift 1 = .ok (.iconst 0, 1) := by decide +kernel
theorem d_TT_shift_2 : decode b_TT_shift 2 = .ok (.ldc 66, 2) := by decide +kernel
theorem d_TT_shift_4 : decode b_TT_shift 4 = .ok (.iload_n 1, 1) := by decide +kernel
theorem d_TT_shift_5 : decode b_TT_shift 5 = .ok (.invokevirtual 67, 3) := by decide +kernel
theorem d_TT_shift_8 : decode b_TT_shift 8 = .ok (.ireturn, 1) := by decide +kernel
theorem d_TT_moveTimes_0 : decode b_TT_moveTimes 0 = .ok (.iconst 0, 1) := by decide +kernel
theorem d_TT_moveTimes_1 : decode b_TT_moveTimes 1 = .ok (.istore 4, 2) := by decide +kernel
theorem d_TT_moveTimes_3 : decode b_TT_moveTimes 3 = .ok (.iconst 0, 1) := by decide +kernel
theorem d_TT_moveTimes_4 : decode b_TT_moveTimes 4 = .ok (.istore 5, 2) := by decide +kernel
theorem d_TT_moveTimes_6 : decode b_TT_moveTimes 6 = .ok (.iload 5, 2) := by decide +kernel
theorem d_TT_moveTimes_8 : decode b_TT_moveTimes 8 = .ok (.aload_n 0, 1) := by decide +kernel
theorem d_TT_moveTimes_9 : decode b_TT_moveTimes 9 = .ok (.getfield 53, 3) := by decide +kernel
theorem d_TT_moveTimes_12 : decode b_TT_moveTimes 12 = .ok (.if_icmp .ge 45, 3) := by decide +kernel
theorem d_TT_moveTimes_15 : decode b_TT_moveTimes 15 = .ok (.aload_n 0, 1) := by decide +kernel
theorem d_TT_moveTimes_16 : decode b_TT_moveTimes 16 = .ok (.aload_n 0, 1) := by decide +kernel
theorem d_TT_moveTimes_17 : decode b_TT_moveTimes 17 = .ok (.getfield 22, 3) := by decide +kernel
theorem d_TT_moveTimes_20 : decode b_TT_moveTimes 20 = .ok (.iload 5, 2) := by decide +kernel
theorem d_TT_moveTimes_22 : decode b_TT_moveTimes 22 = .ok (.iaload, 1) := by decide +kernel
theorem d_TT_moveTimes_23 : decode b_TT_moveTimes 23 = .ok (.iload_n 1, 1) := by decide +kernel
theorem d_TT_moveTimes_24 : decode b_TT_moveTimes 24 = .ok (.iload_n 2, 1) := by decide +kernel
theorem d_TT_moveTimes_25 : decode b_TT_moveTimes 25 = .ok (.invokevirtual 62, 3) := by decide +kernel
theorem d_TT_moveTimes_28 : decode b_TT_moveTimes 28 = .ok (.ifCond .eq 23, 3) := by decide +kernel
theorem d_TT_moveTimes_31 : decode b_TT_moveTimes 31 = .ok (.aload_n 0, 1) := by decide +kernel
theorem d_TT_moveTimes_32 : decode b_TT_moveTimes 32 = .ok (.aload_n 0, 1) := by decide +kernel
theorem d_TT_moveTimes_33 : decode b_TT_moveTimes 33 = .ok (.getfield 22, 3) := by decide +kernel
theorem d_TT_moveTimes_36 : decode b_TT_moveTimes 36 = .ok (.iload 5, 2) := by decide +kernel
theorem d_TT_moveTimes_38 : decode b_TT_moveTimes 38 = .ok (.iaload, 1) := by decide +kernel
theorem d_TT_moveTimes_39 : decode b_TT_moveTimes 39 = .ok (.iload_n 3, 1) := by decide +kernel
theorem d_TT_moveTimes_40 : decode b_TT_moveTimes 40 = .ok (.invokevirtual 101, 3) := by decide +kernel
theorem d_TT_moveTimes_43 : decode b_TT_moveTimes 43 = .ok (.ifCond .ne 5, 3) := by decide +kernel
theorem d_TT_moveTimes_46 : decode b_TT_moveTimes 46 = .ok (.iconst (-1), 1) := by decide +kernel
theorem d_TT_moveTimes_47 : decode b_TT_moveTimes 47 = .ok (.ireturn, 1) := by decide +kernel
theorem d_TT_moveTimes_48 : decode b_TT_moveTimes 48 = .ok (.iinc 4 1, 3) := by decide +kernel
theorem d_TT_moveTimes_51 : decode b_TT_moveTimes 51 = .ok (.iinc 5 1, 3) := by decide +kernel
theorem d_TT_moveTimes_54 : decode b_TT_moveTimes 54 = .ok (.goto (-48), 3) := by decide +kernel
theorem d_TT_moveTimes_57 : decode b_TT_moveTimes 57 = .ok (.iconst 0, 1) := by decide +kernel
theorem d_TT_moveTimes_58 : decode b_TT_moveTimes 58 = .ok (.istore 5, 2) := by decide +kernel
theorem d_TT_moveTimes_60 : decode b_TT_moveTimes 60 = .ok (.iload 5, 2) := by decide +kernel
theorem d_TT_moveTimes_62 : decode b_TT_moveTimes 62 = .ok (.aload_n 0, 1) := by decide +kernel
theorem d_TT_moveTimes_63 : decode b_TT_moveTimes 63 = .ok (.getfield 53, 3) := by decide +kernel
theorem d_TT_moveTimes_66 : decode b_TT_moveTimes 66 = .ok (.if_icmp .ge 41, 3) := by decide +kernel
theorem d_TT_moveTimes_69 : decode b_TT_moveTimes 69 = .ok (.aload_n 0, 1) := by decide +kernel
theorem d_TT_moveTimes_70 : decode b_TT_moveTimes 70 = .ok (.aload_n 0, 1) := by decide +kernel
theorem d_TT_moveTimes_71 : decode b_TT_moveTimes 71 = .ok (.getfield 22, 3) := by decide +kernel
theorem d_TT_moveTimes_74 : decode b_TT_moveTimes 74 = .ok (.iload 5, 2) := by decide +kernel
theorem d_TT_moveTimes_76 : decode b_TT_moveTimes 76 = .ok (.iaload, 1) := by decide +kernel
theorem d_TT_moveTimes_77 : decode b_TT_moveTimes 77 = .ok (.iload_n 1, 1) := by decide +kernel
theorem d_TT_moveTimes_78 : decode b_TT_moveTimes 78 = .ok (.iload_n 2, 1) := by decide +kernel
theorem d_TT_moveTimes_79 : decode b_TT_moveTimes 79 = .ok (.invokevirtual 62, 3) := by decide +kernel
theorem d_TT_moveTimes_82 : decode b_TT_moveTimes 82 = .ok (.ifCond .eq 19, 3) := by decide +kernel
theorem d_TT_moveTimes_85 : decode b_TT_moveTimes 85 = .ok (.aload_n 0, 1) := by decide +kernel
theorem d_TT_moveTimes_86 : decode b_TT_moveTimes 86 = .ok (.getfield 29, 3) := by decide +kernel
theorem d_TT_moveTimes_89 : decode b_TT_moveTimes 89 = .ok (.aload_n 0, 1) := by decide +kernel
theorem d_TT_moveTimes_90 : decode b_TT_moveTimes 90 = .ok (.getfield 22, 3) := by decide +kernel
theorem d_TT_moveTimes_93 : decode b_TT_moveTimes 93 = .ok (.iload 5, 2) := by decide +kernel
theorem d_TT_moveTimes_95 : decode b_TT_moveTimes 95 = .ok (.iaload, 1) := by decide +kernel
theorem d_TT_moveTimes_96 : decode b_TT_moveTimes 96 = .ok (.dup2, 1) := by decide +kernel
theorem d_TT_moveTimes_97 : decode b_TT_moveTimes 97 = .ok (.iaload, 1) := by decide +kernel
theorem d_TT_moveTimes_98 : decode b_TT_moveTimes 98 = .ok (.iload_n 3, 1) := by decide +kernel
theorem d_TT_moveTimes_99 : decode b_TT_moveTimes 99 = .ok (.iadd, 1) := by decide +kernel
theorem d_TT_moveTimes_100 : decode b_TT_moveTimes 100 = .ok (.iastore, 1) := by decide +kernel
theorem d_TT_moveTimes_101 : decode b_TT_moveTimes 101 = .ok (.iinc 5 1, 3) := by decide +kernel
theorem d_TT_moveTimes_104 : decode b_TT_moveTimes 104 = .ok (.goto (-44), 3) := by decide +kernel
theorem d_TT_moveTimes_107 : decode b_TT_moveTimes 107 = .ok (.iconst 1, 1) := by decide +kernel
theorem d_TT_moveTimes_108 : decode b_TT_moveTimes 108 = .ok (.istore 5, 2) := by decide +kernel
theorem d_TT_moveTimes_110 : decode b_TT_moveTimes 110 = .ok (.iload 5, 2) := by decide +kernel
theorem d_TT_moveTimes_112 : decode b_TT_moveTimes 112 = .ok (.aload_n 0, 1) := by decide +kernel
theorem d_TT_moveTimes_113 : decode b_TT_moveTimes 113 = .ok (.getfield 53, 3) := by decide +kernel
theorem d_TT_moveTimes_116 : decode b_TT_moveTimes 116 = .ok (.if_icmp .ge 15, 3) := by decide +kernel
theorem d_TT_moveTimes_119 : decode b_TT_moveTimes 119 = .ok (.aload_n 0, 1) := by decide +kernel
theorem d_TT_moveTimes_120 : decode b_TT_moveTimes 120 = .ok (.iload 5, 2) := by decide +kernel
theorem d_TT_moveTimes_122 : decode b_TT_moveTimes 122 = .ok (.invokevirtual 97, 3) := by decide +kernel
theorem d_TT_moveTimes_125 : decode b_TT_moveTimes 125 = .ok (.iinc 5 1, 3) := by decide +kernel
theorem d_TT_moveTimes_128 : decode b_TT_moveTimes 128 = .ok (.goto (-18), 3) := by decide +kernel
theorem d_TT_moveTimes_131 : decode b_TT_moveTimes 131 = .ok (.iload 4, 2) := by decide +kernel
theorem d_TT_moveTimes_133 : decode b_TT_moveTimes 133 = .ok (.ireturn, 1) := by decide +kernel
theorem d_TT_canMove_0 : decode b_TT_canMove 0 = .ok (.aload_n 0, 1) := by decide +kernel
theorem d_TT_canMove_1 : decode b_TT_canMove 1 = .ok (.getfield 29, 3) := by decide +kernel
theorem d_TT_canMove_4 : decode b_TT_canMove 4 = .ok (.iload_n 1, 1) := by decide +kernel
theorem d_TT_canMove_5 : decode b_TT_canMove 5 = .ok (.iaload, 1) := by decide +kernel
theorem d_TT_canMove_6 : decode b_TT_canMove 6 = .ok (.i2l, 1) := by decide +kernel
theorem d_TT_canMove_7 : decode b_TT_canMove 7 = .ok (.iload_n 2, 1) := by decide +kernel
theorem d_TT_canMove_8 : decode b_TT_canMove 8 = .ok (.i2l, 1) := by decide +kernel
theorem d_TT_canMove_9 : decode b_TT_canMove 9 = .ok (.ladd, 1) := by decide +kernel
theorem d_TT_canMove_10 : decode b_TT_canMove 10 = .ok (.lstore_n 3, 1) := by decide +kernel
theorem d_TT_canMove_11 : decode b_TT_canMove 11 = .ok (.lload_n 3, 1) := by decide +kernel
theorem d_TT_canMove_12 : decode b_TT_canMove 12 = .ok (.aload_n 0, 1) := by decide +kernel
theorem d_TT_canMove_13 : decode b_TT_canMove 13 = .ok (.getfield 75, 3) := by decide +kernel
theorem d_TT_canMove_16 : decode b_TT_canMove 16 = .ok (.i2l, 1) := by decide +kernel
theorem d_TT_canMove_17 : decode b_TT_canMove 17 = .ok (.lcmp, 1) := by decide +kernel
theorem d_TT_canMove_18 : decode b_TT_canMove 18 = .ok (.ifCond .le 15, 3) := by decide +kernel
theorem d_TT_canMove_21 : decode b_TT_canMove 21 = .ok (.lload_n 3, 1) := by decide +kernel
theorem d_TT_canMove_22 : decode b_TT_canMove 22 = .ok (.ldc2_w 105, 3) := by decide +kernel
theorem d_TT_canMove_25 : decode b_TT_canMove 25 = .ok (.lcmp, 1) := by decide +kernel
theorem d_TT_canMove_26 : decode b_TT_canMove 26 = .ok (.ifCond .gt 7, 3) := by decide +kernel
theorem d_TT_canMove_29 : decode b_TT_canMove 29 = .ok (.iconst 1, 1) := by decide +kernel
theorem d_TT_canMove_30 : decode b_TT_canMove 30 = .ok (.goto 4, 3) := by decide +kernel
theorem d_TT_canMove_33 : decode b_TT_canMove 33 = .ok (.iconst 0, 1) := by decide +kernel
theorem d_TT_canMove_34 : decode b_TT_canMove 34 = .ok (.ireturn, 1) := by decide +kernel
theorem d_TT_shiftSpan_0 : decode b_TT_shiftSpan 0 = .ok (.aload_n 0, 1) := by decide +kernel
theorem d_TT_shiftSpan_1 : decode b_TT_shiftSpan 1 = .ok (.iload_n 1, 1) := by decide +kernel
theorem d_TT_shiftSpan_2 : decode b_TT_shiftSpan 2 = .ok (.iload_n 2, 1) := by decide +kernel
theorem d_TT_shiftSpan_3 : decode b_TT_shiftSpan 3 = .ok (.iload_n 3, 1) := by decide +kernel
theorem d_TT_shiftSpan_4 : decode b_TT_shiftSpan 4 = .ok (.invokevirtual 67, 3) := by decide +kernel
theorem d_TT_shiftSpan_7 : decode b_TT_shiftSpan 7 = .ok (.ireturn, 1) := by decide +kernel
theorem d_TT_enable_0 : decode b_TT_enable 0 = .ok (.aload_n 0, 1) := by decide +kernel
theorem d_TT_enable_1 : decode b_TT_enable 1 = .ok (.iload_n 1, 1) := by decide +kernel
theorem d_TT_enable_2 : decode b_TT_enable 2 = .ok (.putfield 71, 3) := by decide +kernel
theorem d_TT_enable_5 : decode b_TT_enable 5 = .ok (.return_, 1) := by decide +kernel
theorem d_TT_isOn_0 : decode b_TT_isOn 0 = .ok (.aload_n 0, 1) := by decide +kernel
theorem d_TT_isOn_1 : decode b_TT_isOn 1 = .ok (.getfield 71, 3) := by decide +kernel
theorem d_TT_isOn_4 : decode b_TT_isOn 4 = .ok (.ireturn, 1) := by decide +kernel
theorem d_TT_reset_0 : decode b_TT_reset 0 = .ok (.aload_n 0, 1) := by decide +kernel
theorem d_TT_reset_1 : decode b_TT_reset 1 = .ok (.iconst 0, 1) := by decide +kernel
theorem d_TT_reset_2 : decode b_TT_reset 2 = .ok (.putfield 53, 3) := by decide +kernel
theorem d_TT_reset_5 : decode b_TT_reset 5 = .ok (.aload_n 0, 1) := by decide +kernel
theorem d_TT_reset_6 : decode b_TT_reset 6 = .ok (.iconst 0, 1) := by decide +kernel
theorem d_TT_reset_7 : decode b_TT_reset 7 = .ok (.putfield 71, 3) := by decide +kernel
theorem d_TT_reset_10 : decode b_TT_reset 10 = .ok (.return_, 1) := by decide +kernel
theorem d_TT_tick_0 : decode b_TT_tick 0 = .ok (.aload_n 0, 1) := by decide +kernel
theorem d_TT_tick_1 : decode b_TT_tick 1 = .ok (.getfield 75, 3) := by decide +kernel
theorem d_TT_tick_4 : decode b_TT_tick 4 = .ok (.ldc 66, 2) := by decide +kernel
theorem d_TT_tick_6 : decode b_TT_tick 6 = .ok (.if_icmp .ne 5, 3) := by decide +kernel
theorem d_TT_tick_9 : decode b_TT_tick 9 = .ok (.iconst (-1), 1) := by decide +kernel
theorem d_TT_tick_10 : decode b_TT_tick 10 = .ok (.ireturn, 1) := by decide +kernel
theorem d_TT_tick_11 : decode b_TT_tick 11 = .ok (.aload_n 0, 1) := by decide +kernel
theorem d_TT_tick_12 : decode b_TT_tick 12 = .ok (.dup, 1) := by decide +kernel
theorem d_TT_tick_13 : decode b_TT_tick 13 = .ok (.getfield 75, 3) := by decide +kernel
theorem d_TT_tick_16 : decode b_TT_tick 16 = .ok (.iconst 1, 1) := by decide +kernel
theorem d_TT_tick_17 : decode b_TT_tick 17 = .ok (.iadd, 1) := by decide +kernel
theorem d_TT_tick_18 : decode b_TT_tick 18 = .ok (.putfield 75, 3) := by decide +kernel
theorem d_TT_tick_21 : decode b_TT_tick 21 = .ok (.aload_n 0, 1) := by decide +kernel
theorem d_TT_tick_22 : decode b_TT_tick 22 = .ok (.getfield 75, 3) := by decide +kernel
theorem d_TT_tick_25 : decode b_TT_tick 25 = .ok (.ireturn, 1) := by decide +kernel
theorem d_TT_leave_0 : decode b_TT_leave 0 = .ok (.aload_n 0, 1) := by decide +kernel
theorem d_TT_leave_1 : decode b_TT_leave 1 = .ok (.getfield 53, 3) := by decide +kernel
theorem d_TT_leave_4 : decode b_TT_leave 4 = .ok (.ifCond .eq 21, 3) := by decide +kernel
theorem d_TT_leave_7 : decode b_TT_leave 7 = .ok (.aload_n 0, 1) := by decide +kernel
theorem d_TT_leave_8 : decode b_TT_leave 8 = .ok (.getfield 29, 3) := by decide +kernel
theorem d_TT_leave_11 : decode b_TT_leave 11 = .ok (.aload_n 0, 1) := by decide +kernel
theorem d_TT_leave_12 : decode b_TT_leave 12 = .ok (.getfield 22, 3) := by decide +kernel
theorem d_TT_leave_15 : decode b_TT_leave 15 = .ok (.iconst 0, 1) := by decide +kernel
theorem d_TT_leave_16 : decode b_TT_leave 16 = .ok (.iaload, 1) := by decide +kernel
theorem d_TT_leave_17 : decode b_TT_leave 17 = .ok (.iaload, 1) := by decide +kernel
theorem d_TT_leave_18 : decode b_TT_leave 18 = .ok (.aload_n 0, 1) := by decide +kernel
theorem d_TT_leave_19 : decode b_TT_leave 19 = .ok (.getfield 75, 3) := by decide +kernel
theorem d_TT_leave_22 : decode b_TT_leave 22 = .ok (.if_icmp .le 5, 3) := by decide +kernel
theorem d_TT_leave_25 : decode b_TT_leave 25 = .ok (.iconst (-1), 1) := by decide +kernel
theorem d_TT_leave_26 : decode b_TT_leave 26 = .ok (.ireturn, 1) := by decide +kernel
theorem d_TT_leave_27 : decode b_TT_leave 27 = .ok (.aload_n 0, 1) := by decide +kernel
theorem d_TT_leave_28 : decode b_TT_leave 28 = .ok (.aload_n 0, 1) := by decide +kernel
theorem d_TT_leave_29 : decode b_TT_leave 29 = .ok (.getfield 32, 3) := by decide +kernel
theorem d_TT_leave_32 : decode b_TT_leave 32 = .ok (.aload_n 0, 1) := by decide +kernel
theorem d_TT_leave_33 : decode b_TT_leave 33 = .ok (.getfield 22, 3) := by decide +kernel
theorem d_TT_leave_36 : decode b_TT_leave 36 = .ok (.iconst 0, 1) := by decide +kernel
theorem d_TT_leave_37 : decode b_TT_leave 37 = .ok (.iaload, 1) := by decide +kernel
theorem d_TT_leave_38 : decode b_TT_leave 38 = .ok (.iaload, 1) := by decide +kernel
theorem d_TT_leave_39 : decode b_TT_leave 39 = .ok (.putfield 78, 3) := by decide +kernel
theorem d_TT_leave_42 : decode b_TT_leave 42 = .ok (.aload_n 0, 1) := by decide +kernel
theorem d_TT_leave_43 : decode b_TT_leave 43 = .ok (.aload_n 0, 1) := by decide +kernel
theorem d_TT_leave_44 : decode b_TT_leave 44 = .ok (.getfield 35, 3) := by decide +kernel
theorem d_TT_leave_47 : decode b_TT_leave 47 = .ok (.aload_n 0, 1) := by decide +kernel
theorem d_TT_leave_48 : decode b_TT_leave 48 = .ok (.getfield 22, 3) := by decide +kernel
theorem d_TT_leave_51 : decode b_TT_leave 51 = .ok (.iconst 0, 1) := by decide +kernel
theorem d_TT_leave_52 : decode b_TT_leave 52 = .ok (.iaload, 1) := by decide +kernel
theorem d_TT_leave_53 : decode b_TT_leave 53 = .ok (.iaload, 1) := by decide +kernel
theorem d_TT_leave_54 : decode b_TT_leave 54 = .ok (.putfield 81, 3) := by decide +kernel
theorem d_TT_leave_57 : decode b_TT_leave 57 = .ok (.aload_n 0, 1) := by decide +kernel
theorem d_TT_leave_58 : decode b_TT_leave 58 = .ok (.invokevirtual 84, 3) := by decide +kernel
theorem d_TT_leave_61 : decode b_TT_leave 61 = .ok (.aload_n 0, 1) := by decide +kernel
theorem d_TT_leave_62 : decode b_TT_leave 62 = .ok (.getfield 81, 3) := by decide +kernel
theorem d_TT_leave_65 : decode b_TT_leave 65 = .ok (.ireturn, 1) := by decide +kernel
theorem d_TT_dropFirst_0 : decode b_TT_dropFirst 0 = .ok (.iconst 1, 1) := by decide +kernel
theorem d_TT_dropFirst_1 : decode b_TT_dropFirst 1 = .ok (.istore_n 1, 1) := by decide +kernel
theorem d_TT_dropFirst_2 : decode b_TT_dropFirst 2 = .ok (.iload_n 1, 1) := by decide +kernel
theorem d_TT_dropFirst_3 : decode b_TT_dropFirst 3 = .ok (.aload_n 0, 1) := by decide +kernel
theorem d_TT_dropFirst_4 : decode b_TT_dropFirst 4 = .ok (.getfield 53, 3) := by decide +kernel
theorem d_TT_dropFirst_7 : decode b_TT_dropFirst 7 = .ok (.if_icmp .ge 17, 3) := by decide +kernel
theorem d_TT_dropFirst_10 : decode b_TT_dropFirst 10 = .ok (.aload_n 0, 1) := by decide +kernel
theorem d_TT_dropFirst_11 : decode b_TT_dropFirst 11 = .ok (.iload_n 1, 1) := by decide +kernel
theorem d_TT_dropFirst_12 : decode b_TT_dropFirst 12 = .ok (.iload_n 1, 1) := by decide +kernel
theorem d_TT_dropFirst_13 : decode b_TT_dropFirst 13 = .ok (.iconst 1, 1) := by decide +kernel
theorem d_TT_dropFirst_14 : decode b_TT_dropFirst 14 = .ok (.isub, 1) := by decide +kernel
theorem d_TT_dropFirst_15 : decode b_TT_dropFirst 15 = .ok (.invokevirtual 56, 3) := by decide +kernel
theorem d_TT_dropFirst_18 : decode b_TT_dropFirst 18 = .ok (.iinc 1 1, 3) := by decide +kernel
theorem d_TT_dropFirst_21 : decode b_TT_dropFirst 21 = .ok (.goto (-19), 3) := by decide +kernel
theorem d_TT_dropFirst_24 : decode b_TT_dropFirst 24 = .ok (.aload_n 0, 1) := by decide +kernel
theorem d_TT_dropFirst_25 : decode b_TT_dropFirst 25 = .ok (.dup, 1) := by decide +kernel
theorem d_TT_dropFirst_26 : decode b_TT_dropFirst 26 = .ok (.getfield 53, 3) := by decide +kernel
theorem d_TT_dropFirst_29 : decode b_TT_dropFirst 29 = .ok (.iconst 1, 1) := by decide +kernel
theorem d_TT_dropFirst_30 : decode b_TT_dropFirst 30 = .ok (.isub, 1) := by decide +kernel
theorem d_TT_dropFirst_31 : decode b_TT_dropFirst 31 = .ok (.putfield 53, 3) := by decide +kernel
theorem d_TT_dropFirst_34 : decode b_TT_dropFirst 34 = .ok (.return_, 1) := by decide +kernel
theorem d_TT_left_0 : decode b_TT_left 0 = .ok (.aload_n 0, 1) := by decide +kernel
theorem d_TT_left_1 : decode b_TT_left 1 = .ok (.aload_n 0, 1) := by decide +kernel
theorem d_TT_left_2 : decode b_TT_left 2 = .ok (.getfield 78, 3) := by decide +kernel
theorem d_TT_left_5 : decode b_TT_left 5 = .ok (.aload_n 0, 1) := by decide +kernel
theorem d_TT_left_6 : decode b_TT_left 6 = .ok (.getfield 81, 3) := by decide +kernel
theorem d_TT_left_9 : decode b_TT_left 9 = .ok (.iload_n 1, 1) := by decide +kernel
theorem d_TT_left_10 : decode b_TT_left 10 = .ok (.invokevirtual 87, 3) := by decide +kernel
theorem d_TT_left_13 : decode b_TT_left 13 = .ok (.ireturn, 1) := by decide +kernel
theorem d_TT_byteOf_0 : decode b_TT_byteOf 0 = .ok (.iload_n 3, 1) := by decide +kernel
theorem d_TT_byteOf_1 : decode b_TT_byteOf 1 = .ok (.ifCond .lt 8, 3) := by decide +kernel
theorem d_TT_byteOf_4 : decode b_TT_byteOf 4 = .ok (.iload_n 3, 1) := by decide +kernel
theorem d_TT_byteOf_5 : decode b_TT_byteOf 5 = .ok (.iload_n 2, 1) := by decide +kernel
theorem d_TT_byteOf_6 : decode b_TT_byteOf 6 = .ok (.if_icmp .lt 5, 3) := by decide +kernel
theorem d_TT_byteOf_9 : decode b_TT_byteOf 9 = .ok (.iconst (-1), 1) := by decide +kernel
theorem d_TT_byteOf_10 : decode b_TT_byteOf 10 = .ok (.ireturn, 1) := by decide +kernel
theorem d_TT_byteOf_11 : decode b_TT_byteOf 11 = .ok (.aload_n 0, 1) := by decide +kernel
theorem d_TT_byteOf_12 : decode b_TT_byteOf 12 = .ok (.getfield 18, 3) := by decide +kernel
theorem d_TT_byteOf_15 : decode b_TT_byteOf 15 = .ok (.iload_n 1, 1) := by decide +kernel
theorem d_TT_byteOf_16 : decode b_TT_byteOf 16 = .ok (.iload_n 3, 1) := by decide +kernel
theorem d_TT_byteOf_17 : decode b_TT_byteOf 17 = .ok (.iadd, 1) := by decide +kernel
theorem d_TT_byteOf_18 : decode b_TT_byteOf 18 = .ok (.baload, 1) := by decide +kernel
theorem d_TT_byteOf_19 : decode b_TT_byteOf 19 = .ok (.sipush 255, 3) := by decide +kernel
theorem d_TT_byteOf_22 : decode b_TT_byteOf 22 = .ok (.iand, 1) := by decide +kernel
theorem d_TT_byteOf_23 : decode b_TT_byteOf 23 = .ok (.ireturn, 1) := by decide +kernel
theorem d_TT_count_0 : decode b_TT_count 0 = .ok (.iload_n 1, 1) := by decide +kernel
theorem d_TT_count_1 : decode b_TT_count 1 = .ok (.tableswitch 51 0 3 #[31, 36, 41, 46], 31) := by decide +kernel
theorem d_TT_count_32 : decode b_TT_count 32 = .ok (.aload_n 0, 1) := by decide +kernel
theorem d_TT_count_33 : decode b_TT_count 33 = .ok (.getfield 75, 3) := by decide +kernel
theorem d_TT_count_36 : decode b_TT_count 36 = .ok (.ireturn, 1) := by decide +kernel
theorem d_TT_count_37 : decode b_TT_count 37 = .ok (.aload_n 0, 1) := by decide +kernel
theorem d_TT_count_38 : decode b_TT_count 38 = .ok (.getfield 53, 3) := by decide +kernel
theorem d_TT_count_41 : decode b_TT_count 41 = .ok (.ireturn, 1) := by decide +kernel
theorem d_TT_count_42 : decode b_TT_count 42 = .ok (.aload_n 0, 1) := by decide +kernel
theorem d_TT_count_43 : decode b_TT_count 43 = .ok (.getfield 90, 3) := by decide +kernel
theorem d_TT_count_46 : decode b_TT_count 46 = .ok (.ireturn, 1) := by decide +kernel
theorem d_TT_count_47 : decode b_TT_count 47 = .ok (.aload_n 0, 1) := by decide +kernel
theorem d_TT_count_48 : decode b_TT_count 48 = .ok (.getfield 81, 3) := by decide +kernel
theorem d_TT_count_51 : decode b_TT_count 51 = .ok (.ireturn, 1) := by decide +kernel
theorem d_TT_count_52 : decode b_TT_count 52 = .ok (.iconst (-1), 1) := by decide +kernel
theorem d_TT_count_53 : decode b_TT_count 53 = .ok (.ireturn, 1) := by decide +kernel
theorem d_TT_about_0 : decode b_TT_about 0 = .ok (.aload_n 0, 1) := by decide +kernel
theorem d_TT_about_1 : decode b_TT_about 1 = .ok (.iload_n 1, 1) := by decide +kernel
theorem d_TT_about_2 : decode b_TT_about 2 = .ok (.invokevirtual 93, 3) := by decide +kernel
theorem d_TT_about_5 : decode b_TT_about 5 = .ok (.ifCond .ne 5, 3) := by decide +kernel
theorem d_TT_about_8 : decode b_TT_about 8 = .ok (.iconst (-1), 1) := by decide +kernel
theorem d_TT_about_9 : decode b_TT_about 9 = .ok (.ireturn, 1) := by decide +kernel
theorem d_TT_about_10 : decode b_TT_about 10 = .ok (.iload_n 2, 1) := by decide +kernel
theorem d_TT_about_11 : decode b_TT_about 11 = .ok (.tableswitch 61 0 2 #[25, 37, 49], 25) := by decide +kernel
theorem d_TT_about_36 : decode b_TT_about 36 = .ok (.aload_n 0, 1) := by decide +kernel
theorem d_TT_about_37 : decode b_TT_about 37 = .ok (.getfield 26, 3) := by decide +kernel
theorem d_TT_about_40 : decode b_TT_about 40 = .ok (.aload_n 0, 1) := by decide +kernel
theorem d_TT_about_41 : decode b_TT_about 41 = .ok (.getfield 22, 3) := by decide +kernel
theorem d_TT_about_44 : decode b_TT_about 44 = .ok (.iload_n 1, 1) := by decide +kernel
theorem d_TT_about_45 : decode b_TT_about 45 = .ok (.iaload, 1) := by decide +kernel
theorem d_TT_about_46 : decode b_TT_about 46 = .ok (.iaload, 1) := by decide +kernel
theorem d_TT_about_47 : decode b_TT_about 47 = .ok (.ireturn, 1) := by decide +kernel
theorem d_TT_about_48 : decode b_TT_about 48 = .ok (.aload_n 0, 1) := by decide +kernel
theorem d_TT_about_49 : decode b_TT_about 49 = .ok (.getfield 29, 3) := by decide +kernel
theorem d_TT_about_52 : decode b_TT_about 52 = .ok (.aload_n 0, 1) := by decide +kernel
theorem d_TT_about_53 : decode b_TT_about 53 = .ok (.getfield 22, 3) := by decide +kernel
theorem d_TT_about_56 : decode b_TT_about 56 = .ok (.iload_n 1, 1) := by decide +kernel
theorem d_TT_about_57 : decode b_TT_about 57 = .ok (.iaload, 1) := by decide +kernel
theorem d_TT_about_58 : decode b_TT_about 58 = .ok (.iaload, 1) := by decide +kernel
theorem d_TT_about_59 : decode b_TT_about 59 = .ok (.ireturn, 1) := by decide +kernel
theorem d_TT_about_60 : decode b_TT_about 60 = .ok (.aload_n 0, 1) := by decide +kernel
theorem d_TT_about_61 : decode b_TT_about 61 = .ok (.getfield 35, 3) := by decide +kernel
theorem d_TT_about_64 : decode b_TT_about 64 = .ok (.aload_n 0, 1) := by decide +kernel
theorem d_TT_about_65 : decode b_TT_about 65 = .ok (.getfield 22, 3) := by decide +kernel
theorem d_TT_about_68 : decode b_TT_about 68 = .ok (.iload_n 1, 1) := by decide +kernel
theorem d_TT_about_69 : decode b_TT_about 69 = .ok (.iaload, 1) := by decide +kernel
theorem d_TT_about_70 : decode b_TT_about 70 = .ok (.iaload, 1) := by decide +kernel
theorem d_TT_about_71 : decode b_TT_about 71 = .ok (.ireturn, 1) := by decide +kernel
theorem d_TT_about_72 : decode b_TT_about 72 = .ok (.iconst (-1), 1) := by decide +kernel
theorem d_TT_about_73 : decode b_TT_about 73 = .ok (.ireturn, 1) := by decide +kernel
theorem d_TT_isWaiting_0 : decode b_TT_isWaiting 0 = .ok (.iload_n 1, 1) := by decide +kernel
theorem d_TT_isWaiting_1 : decode b_TT_isWaiting 1 = .ok (.ifCond .lt 15, 3) := by decide +kernel
theorem d_TT_isWaiting_4 : decode b_TT_isWaiting 4 = .ok (.iload_n 1, 1) := by decide +kernel
theorem d_TT_isWaiting_5 : decode b_TT_isWaiting 5 = .ok (.aload_n 0, 1) := by decide +kernel
theorem d_TT_isWaiting_6 : decode b_TT_isWaiting 6 = .ok (.getfield 53, 3) := by decide +kernel
theorem d_TT_isWaiting_9 : decode b_TT_isWaiting 9 = .ok (.if_icmp .ge 7, 3) := by decide +kernel
theorem d_TT_isWaiting_12 : decode b_TT_isWaiting 12 = .ok (.iconst 1, 1) := by decide +kernel
theorem d_TT_isWaiting_13 : decode b_TT_isWaiting 13 = .ok (.goto 4, 3) := by decide +kernel
theorem d_TT_isWaiting_16 : decode b_TT_isWaiting 16 = .ok (.iconst 0, 1) := by decide +kernel
theorem d_TT_isWaiting_17 : decode b_TT_isWaiting 17 = .ok (.ireturn, 1) := by decide +kernel
theorem d_TT_byteAt_0 : decode b_TT_byteAt 0 = .ok (.aload_n 0, 1) := by decide +kernel
theorem d_TT_byteAt_1 : decode b_TT_byteAt 1 = .ok (.iload_n 1, 1) := by decide +kernel
theorem d_TT_byteAt_2 : decode b_TT_byteAt 2 = .ok (.invokevirtual 93, 3) := by decide +kernel
theorem d_TT_byteAt_5 : decode b_TT_byteAt 5 = .ok (.ifCond .ne 5, 3) := by decide +kernel
theorem d_TT_byteAt_8 : decode b_TT_byteAt 8 = .ok (.iconst (-1), 1) := by decide +kernel
theorem d_TT_byteAt_9 : decode b_TT_byteAt 9 = .ok (.ireturn, 1) := by decide +kernel
theorem d_TT_byteAt_10 : decode b_TT_byteAt 10 = .ok (.aload_n 0, 1) := by decide +kernel
theorem d_TT_byteAt_11 : decode b_TT_byteAt 11 = .ok (.aload_n 0, 1) := by decide +kernel
theorem d_TT_byteAt_12 : decode b_TT_byteAt 12 = .ok (.getfield 32, 3) := by decide +kernel
theorem d_TT_byteAt_15 : decode b_TT_byteAt 15 = .ok (.aload_n 0, 1) := by decide +kernel
theorem d_TT_byteAt_16 : decode b_TT_byteAt 16 = .ok (.getfield 22, 3) := by decide +kernel
theorem d_TT_byteAt_19 : decode b_TT_byteAt 19 = .ok (.iload_n 1, 1) := by decide +kernel
theorem d_TT_byteAt_20 : decode b_TT_byteAt 20 = .ok (.iaload, 1) := by decide +kernel
theorem d_TT_byteAt_21 : decode b_TT_byteAt 21 = .ok (.iaload, 1) := by decide +kernel
theorem d_TT_byteAt_22 : decode b_TT_byteAt 22 = .ok (.aload_n 0, 1) := by decide +kernel
theorem d_TT_byteAt_23 : decode b_TT_byteAt 23 = .ok (.getfield 35, 3) := by decide +kernel
theorem d_TT_byteAt_26 : decode b_TT_byteAt 26 = .ok (.aload_n 0, 1) := by decide +kernel
theorem d_TT_byteAt_27 : decode b_TT_byteAt 27 = .ok (.getfield 22, 3) := by decide +kernel
theorem d_TT_byteAt_30 : decode b_TT_byteAt 30 = .ok (.iload_n 1, 1) := by decide +kernel
theorem d_TT_byteAt_31 : decode b_TT_byteAt 31 = .ok (.iaload, 1) := by decide +kernel
theorem d_TT_byteAt_32 : decode b_TT_byteAt 32 = .ok (.iaload, 1) := by decide +kernel
theorem d_TT_byteAt_33 : decode b_TT_byteAt 33 = .ok (.iload_n 2, 1) := by decide +kernel
theorem d_TT_byteAt_34 : decode b_TT_byteAt 34 = .ok (.invokevirtual 87, 3) := by decide +kernel
theorem d_TT_byteAt_37 : decode b_TT_byteAt 37 = .ok (.ireturn, 1) := by decide +kernel
