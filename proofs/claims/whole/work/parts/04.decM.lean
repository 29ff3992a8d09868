theorem dX3_init_0 : decode cX3_init 0 = .ok (.aload_n 0, 1) := by decide +kernel
theorem dX3_init_1 : decode cX3_init 1 = .ok (.invokespecial 1, 3) := by decide +kernel
theorem dX3_init_4 : decode cX3_init 4 = .ok (.aload_n 0, 1) := by decide +kernel
theorem dX3_init_5 : decode cX3_init 5 = .ok (.sipush 512, 3) := by decide +kernel
theorem dX3_init_8 : decode cX3_init 8 = .ok (.newarray .int, 2) := by decide +kernel
theorem dX3_init_10 : decode cX3_init 10 = .ok (.putfield 7, 3) := by decide +kernel
theorem dX3_init_13 : decode cX3_init 13 = .ok (.aload_n 0, 1) := by decide +kernel
theorem dX3_init_14 : decode cX3_init 14 = .ok (.sipush 512, 3) := by decide +kernel
theorem dX3_init_17 : decode cX3_init 17 = .ok (.newarray .int, 2) := by decide +kernel
theorem dX3_init_19 : decode cX3_init 19 = .ok (.putfield 13, 3) := by decide +kernel
theorem dX3_init_22 : decode cX3_init 22 = .ok (.aload_n 0, 1) := by decide +kernel
theorem dX3_init_23 : decode cX3_init 23 = .ok (.sipush 512, 3) := by decide +kernel
theorem dX3_init_26 : decode cX3_init 26 = .ok (.newarray .int, 2) := by decide +kernel
theorem dX3_init_28 : decode cX3_init 28 = .ok (.putfield 16, 3) := by decide +kernel
theorem dX3_init_31 : decode cX3_init 31 = .ok (.aload_n 0, 1) := by decide +kernel
theorem dX3_init_32 : decode cX3_init 32 = .ok (.sipush 512, 3) := by decide +kernel
theorem dX3_init_35 : decode cX3_init 35 = .ok (.newarray .int, 2) := by decide +kernel
theorem dX3_init_37 : decode cX3_init 37 = .ok (.putfield 19, 3) := by decide +kernel
theorem dX3_init_40 : decode cX3_init 40 = .ok (.aload_n 0, 1) := by decide +kernel
theorem dX3_init_41 : decode cX3_init 41 = .ok (.sipush 1024, 3) := by decide +kernel
theorem dX3_init_44 : decode cX3_init 44 = .ok (.newarray .int, 2) := by decide +kernel
theorem dX3_init_46 : decode cX3_init 46 = .ok (.putfield 22, 3) := by decide +kernel
theorem dX3_init_49 : decode cX3_init 49 = .ok (.aload_n 0, 1) := by decide +kernel
theorem dX3_init_50 : decode cX3_init 50 = .ok (.sipush 1024, 3) := by decide +kernel
theorem dX3_init_53 : decode cX3_init 53 = .ok (.newarray .int, 2) := by decide +kernel
theorem dX3_init_55 : decode cX3_init 55 = .ok (.putfield 25, 3) := by decide +kernel
theorem dX3_init_58 : decode cX3_init 58 = .ok (.aload_n 0, 1) := by decide +kernel
theorem dX3_init_59 : decode cX3_init 59 = .ok (.sipush 1024, 3) := by decide +kernel
theorem dX3_init_62 : decode cX3_init 62 = .ok (.newarray .int, 2) := by decide +kernel
theorem dX3_init_64 : decode cX3_init 64 = .ok (.putfield 28, 3) := by decide +kernel
theorem dX3_init_67 : decode cX3_init 67 = .ok (.aload_n 0, 1) := by decide +kernel
theorem dX3_init_68 : decode cX3_init 68 = .ok (.sipush 1024, 3) := by decide +kernel
theorem dX3_init_71 : decode cX3_init 71 = .ok (.newarray .int, 2) := by decide +kernel
theorem dX3_init_73 : decode cX3_init 73 = .ok (.putfield 31, 3) := by decide +kernel
theorem dX3_init_76 : decode cX3_init 76 = .ok (.aload_n 0, 1) := by decide +kernel
theorem dX3_init_77 : decode cX3_init 77 = .ok (.sipush 512, 3) := by decide +kernel
theorem dX3_init_80 : decode cX3_init 80 = .ok (.newarray .int, 2) := by decide +kernel
theorem dX3_init_82 : decode cX3_init 82 = .ok (.putfield 34, 3) := by decide +kernel
theorem dX3_init_85 : decode cX3_init 85 = .ok (.aload_n 0, 1) := by decide +kernel
theorem dX3_init_86 : decode cX3_init 86 = .ok (.sipush 512, 3) := by decide +kernel
theorem dX3_init_89 : decode cX3_init 89 = .ok (.newarray .int, 2) := by decide +kernel
theorem dX3_init_91 : decode cX3_init 91 = .ok (.putfield 37, 3) := by decide +kernel
theorem dX3_init_94 : decode cX3_init 94 = .ok (.return_, 1) := by decide +kernel
theorem dX3_thrown_0 : decode cX3_thrown 0 = .ok (.aload_n 0, 1) := by decide +kernel
theorem dX3_thrown_1 : decode cX3_thrown 1 = .ok (.getfield 40, 3) := by decide +kernel
theorem dX3_thrown_4 : decode cX3_thrown 4 = .ok (.ireturn, 1) := by decide +kernel
theorem dX3_placeOf_0 : decode cX3_placeOf 0 = .ok (.iconst (-1), 1) := by decide +kernel
theorem dX3_placeOf_1 : decode cX3_placeOf 1 = .ok (.istore_n 2, 1) := by decide +kernel
theorem dX3_placeOf_2 : decode cX3_placeOf 2 = .ok (.iconst 0, 1) := by decide +kernel
theorem dX3_placeOf_3 : decode cX3_placeOf 3 = .ok (.istore_n 3, 1) := by decide +kernel
theorem dX3_placeOf_4 : decode cX3_placeOf 4 = .ok (.iload_n 3, 1) := by decide +kernel
theorem dX3_placeOf_5 : decode cX3_placeOf 5 = .ok (.aload_n 0, 1) := by decide +kernel
theorem dX3_placeOf_6 : decode cX3_placeOf 6 = .ok (.getfield 44, 3) := by decide +kernel
theorem dX3_placeOf_9 : decode cX3_placeOf 9 = .ok (.if_icmp .ge 25, 3) := by decide +kernel
theorem dX3_placeOf_12 : decode cX3_placeOf 12 = .ok (.aload_n 0, 1) := by decide +kernel
theorem dX3_placeOf_13 : decode cX3_placeOf 13 = .ok (.getfield 7, 3) := by decide +kernel
theorem dX3_placeOf_16 : decode cX3_placeOf 16 = .ok (.iload_n 3, 1) := by decide +kernel
theorem dX3_placeOf_17 : decode cX3_placeOf 17 = .ok (.iaload, 1) := by decide +kernel
theorem dX3_placeOf_18 : decode cX3_placeOf 18 = .ok (.iload_n 1, 1) := by decide +kernel
theorem dX3_placeOf_19 : decode cX3_placeOf 19 = .ok (.if_icmp .ne 7, 3) := by decide +kernel
theorem dX3_placeOf_22 : decode cX3_placeOf 22 = .ok (.iload_n 3, 1) := by decide +kernel
theorem dX3_placeOf_23 : decode cX3_placeOf 23 = .ok (.goto 4, 3) := by decide +kernel
theorem dX3_placeOf_26 : decode cX3_placeOf 26 = .ok (.iload_n 2, 1) := by decide +kernel
theorem dX3_placeOf_27 : decode cX3_placeOf 27 = .ok (.istore_n 2, 1) := by decide +kernel
theorem dX3_placeOf_28 : decode cX3_placeOf 28 = .ok (.iinc 3 1, 3) := by decide +kernel
theorem dX3_placeOf_31 : decode cX3_placeOf 31 = .ok (.goto (-27), 3) := by decide +kernel
theorem dX3_placeOf_34 : decode cX3_placeOf 34 = .ok (.iload_n 2, 1) := by decide +kernel
theorem dX3_placeOf_35 : decode cX3_placeOf 35 = .ok (.ireturn, 1) := by decide +kernel
theorem dX3_isNew_0 : decode cX3_isNew 0 = .ok (.iload_n 1, 1) := by decide +kernel
theorem dX3_isNew_1 : decode cX3_isNew 1 = .ok (.bipush 8, 2) := by decide +kernel
theorem dX3_isNew_3 : decode cX3_isNew 3 = .ok (.if_icmp .lt 21, 3) := by decide +kernel
theorem dX3_isNew_6 : decode cX3_isNew 6 = .ok (.iload_n 1, 1) := by decide +kernel
theorem dX3_isNew_7 : decode cX3_isNew 7 = .ok (.ldc 47, 2) := by decide +kernel
theorem dX3_isNew_9 : decode cX3_isNew 9 = .ok (.if_icmp .gt 15, 3) := by decide +kernel
theorem dX3_isNew_12 : decode cX3_isNew 12 = .ok (.aload_n 0, 1) := by decide +kernel
theorem dX3_isNew_13 : decode cX3_isNew 13 = .ok (.iload_n 1, 1) := by decide +kernel
theorem dX3_isNew_14 : decode cX3_isNew 14 = .ok (.invokevirtual 48, 3) := by decide +kernel
theorem dX3_isNew_17 : decode cX3_isNew 17 = .ok (.ifCond .ge 7, 3) := by decide +kernel
theorem dX3_isNew_20 : decode cX3_isNew 20 = .ok (.iconst 1, 1) := by decide +kernel
theorem dX3_isNew_21 : decode cX3_isNew 21 = .ok (.goto 4, 3) := by decide +kernel
theorem dX3_isNew_24 : decode cX3_isNew 24 = .ok (.iconst 0, 1) := by decide +kernel
theorem dX3_isNew_25 : decode cX3_isNew 25 = .ok (.istore_n 2, 1) := by decide +kernel
theorem dX3_isNew_26 : decode cX3_isNew 26 = .ok (.iconst 0, 1) := by decide +kernel
theorem dX3_isNew_27 : decode cX3_isNew 27 = .ok (.istore_n 3, 1) := by decide +kernel
theorem dX3_isNew_28 : decode cX3_isNew 28 = .ok (.iload_n 3, 1) := by decide +kernel
theorem dX3_isNew_29 : decode cX3_isNew 29 = .ok (.aload_n 0, 1) := by decide +kernel
theorem dX3_isNew_30 : decode cX3_isNew 30 = .ok (.getfield 52, 3) := by decide +kernel
theorem dX3_isNew_33 : decode cX3_isNew 33 = .ok (.if_icmp .ge 29, 3) := by decide +kernel
theorem dX3_isNew_36 : decode cX3_isNew 36 = .ok (.iload_n 2, 1) := by decide +kernel
theorem dX3_isNew_37 : decode cX3_isNew 37 = .ok (.ifCond .eq 17, 3) := by decide +kernel
theorem dX3_isNew_40 : decode cX3_isNew 40 = .ok (.aload_n 0, 1) := by decide +kernel
theorem dX3_isNew_41 : decode cX3_isNew 41 = .ok (.getfield 22, 3) := by decide +kernel
theorem dX3_isNew_44 : decode cX3_isNew 44 = .ok (.iload_n 3, 1) := by decide +kernel
theorem dX3_isNew_45 : decode cX3_isNew 45 = .ok (.iaload, 1) := by decide +kernel
theorem dX3_isNew_46 : decode cX3_isNew 46 = .ok (.iload_n 1, 1) := by decide +kernel
theorem dX3_isNew_47 : decode cX3_isNew 47 = .ok (.if_icmp .eq 7, 3) := by decide +kernel
theorem dX3_isNew_50 : decode cX3_isNew 50 = .ok (.iconst 1, 1) := by decide +kernel
theorem dX3_isNew_51 : decode cX3_isNew 51 = .ok (.goto 4, 3) := by decide +kernel
theorem dX3_isNew_54 : decode cX3_isNew 54 = .ok (.iconst 0, 1) := by decide +kernel
theorem dX3_isNew_55 : decode cX3_isNew 55 = .ok (.istore_n 2, 1) := by decide +kernel
theorem dX3_isNew_56 : decode cX3_isNew 56 = .ok (.iinc 3 1, 3) := by decide +kernel
theorem dX3_isNew_59 : decode cX3_isNew 59 = .ok (.goto (-31), 3) := by decide +kernel
theorem dX3_isNew_62 : decode cX3_isNew 62 = .ok (.iload_n 2, 1) := by decide +kernel
theorem dX3_isNew_63 : decode cX3_isNew 63 = .ok (.ireturn, 1) := by decide +kernel
theorem dX3_isKind_0 : decode cX3_isKind 0 = .ok (.iload_n 0, 1) := by decide +kernel
theorem dX3_isKind_1 : decode cX3_isKind 1 = .ok (.ifCond .lt 13, 3) := by decide +kernel
theorem dX3_isKind_4 : decode cX3_isKind 4 = .ok (.iload_n 0, 1) := by decide +kernel
theorem dX3_isKind_5 : decode cX3_isKind 5 = .ok (.bipush 6, 2) := by decide +kernel
theorem dX3_isKind_7 : decode cX3_isKind 7 = .ok (.if_icmp .gt 7, 3) := by decide +kernel
theorem dX3_isKind_10 : decode cX3_isKind 10 = .ok (.iconst 1, 1) := by decide +kernel
theorem dX3_isKind_11 : decode cX3_isKind 11 = .ok (.goto 4, 3) := by decide +kernel
theorem dX3_isKind_14 : decode cX3_isKind 14 = .ok (.iconst 0, 1) := by decide +kernel
theorem dX3_isKind_15 : decode cX3_isKind 15 = .ok (.ireturn, 1) := by decide +kernel
theorem dX3_keep_0 : decode cX3_keep 0 = .ok (.aload_n 0, 1) := by decide +kernel
theorem dX3_keep_1 : decode cX3_keep 1 = .ok (.getfield 7, 3) := by decide +kernel
theorem dX3_keep_4 : decode cX3_keep 4 = .ok (.aload_n 0, 1) := by decide +kernel
theorem dX3_keep_5 : decode cX3_keep 5 = .ok (.getfield 44, 3) := by decide +kernel
theorem dX3_keep_8 : decode cX3_keep 8 = .ok (.iload_n 1, 1) := by decide +kernel
theorem dX3_keep_9 : decode cX3_keep 9 = .ok (.iastore, 1) := by decide +kernel
theorem dX3_keep_10 : decode cX3_keep 10 = .ok (.aload_n 0, 1) := by decide +kernel
theorem dX3_keep_11 : decode cX3_keep 11 = .ok (.getfield 13, 3) := by decide +kernel
theorem dX3_keep_14 : decode cX3_keep 14 = .ok (.aload_n 0, 1) := by decide +kernel
theorem dX3_keep_15 : decode cX3_keep 15 = .ok (.getfield 44, 3) := by decide +kernel
theorem dX3_keep_18 : decode cX3_keep 18 = .ok (.iload_n 2, 1) := by decide +kernel
theorem dX3_keep_19 : decode cX3_keep 19 = .ok (.iastore, 1) := by decide +kernel
theorem dX3_keep_20 : decode cX3_keep 20 = .ok (.aload_n 0, 1) := by decide +kernel
theorem dX3_keep_21 : decode cX3_keep 21 = .ok (.getfield 16, 3) := by decide +kernel
theorem dX3_keep_24 : decode cX3_keep 24 = .ok (.aload_n 0, 1) := by decide +kernel
theorem dX3_keep_25 : decode cX3_keep 25 = .ok (.getfield 44, 3) := by decide +kernel
theorem dX3_keep_28 : decode cX3_keep 28 = .ok (.iload_n 3, 1) := by decide +kernel
theorem dX3_keep_29 : decode cX3_keep 29 = .ok (.iastore, 1) := by decide +kernel
theorem dX3_keep_30 : decode cX3_keep 30 = .ok (.aload_n 0, 1) := by decide +kernel
theorem dX3_keep_31 : decode cX3_keep 31 = .ok (.getfield 19, 3) := by decide +kernel
theorem dX3_keep_34 : decode cX3_keep 34 = .ok (.aload_n 0, 1) := by decide +kernel
theorem dX3_keep_35 : decode cX3_keep 35 = .ok (.getfield 44, 3) := by decide +kernel
theorem dX3_keep_38 : decode cX3_keep 38 = .ok (.iload 4, 2) := by decide +kernel
theorem dX3_keep_40 : decode cX3_keep 40 = .ok (.iastore, 1) := by decide +kernel
theorem dX3_keep_41 : decode cX3_keep 41 = .ok (.aload_n 0, 1) := by decide +kernel
theorem dX3_keep_42 : decode cX3_keep 42 = .ok (.dup, 1) := by decide +kernel
theorem dX3_keep_43 : decode cX3_keep 43 = .ok (.getfield 44, 3) := by decide +kernel
theorem dX3_keep_46 : decode cX3_keep 46 = .ok (.iconst 1, 1) := by decide +kernel
theorem dX3_keep_47 : decode cX3_keep 47 = .ok (.iadd, 1) := by decide +kernel
theorem dX3_keep_48 : decode cX3_keep 48 = .ok (.putfield 44, 3) := by decide +kernel
theorem dX3_keep_51 : decode cX3_keep 51 = .ok (.return_, 1) := by decide +kernel
theorem dX3_canInsert_0 : decode cX3_canInsert 0 = .ok (.aload_n 0, 1) := by decide +kernel
theorem dX3_canInsert_1 : decode cX3_canInsert 1 = .ok (.iload_n 1, 1) := by decide +kernel
theorem dX3_canInsert_2 : decode cX3_canInsert 2 = .ok (.invokevirtual 55, 3) := by decide +kernel
theorem dX3_canInsert_5 : decode cX3_canInsert 5 = .ok (.ifCond .eq 34, 3) := by decide +kernel
theorem dX3_canInsert_8 : decode cX3_canInsert 8 = .ok (.iload_n 2, 1) := by decide +kernel
theorem dX3_canInsert_9 : decode cX3_canInsert 9 = .ok (.ifCond .eq 11, 3) := by decide +kernel
theorem dX3_canInsert_12 : decode cX3_canInsert 12 = .ok (.aload_n 0, 1) := by decide +kernel
theorem dX3_canInsert_13 : decode cX3_canInsert 13 = .ok (.iload_n 2, 1) := by decide +kernel
theorem dX3_canInsert_14 : decode cX3_canInsert 14 = .ok (.invokevirtual 48, 3) := by decide +kernel
theorem dX3_canInsert_17 : decode cX3_canInsert 17 = .ok (.ifCond .lt 22, 3) := by decide +kernel
theorem dX3_canInsert_20 : decode cX3_canInsert 20 = .ok (.iload_n 1, 1) := by decide +kernel
theorem dX3_canInsert_21 : decode cX3_canInsert 21 = .ok (.iload_n 2, 1) := by decide +kernel
theorem dX3_canInsert_22 : decode cX3_canInsert 22 = .ok (.if_icmp .le 17, 3) := by decide +kernel
theorem dX3_canInsert_25 : decode cX3_canInsert 25 = .ok (.aload_n 0, 1) := by decide +kernel
theorem dX3_canInsert_26 : decode cX3_canInsert 26 = .ok (.getfield 44, 3) := by decide +kernel
theorem dX3_canInsert_29 : decode cX3_canInsert 29 = .ok (.sipush 512, 3) := by decide +kernel
theorem dX3_canInsert_32 : decode cX3_canInsert 32 = .ok (.if_icmp .ge 7, 3) := by decide +kernel
theorem dX3_canInsert_35 : decode cX3_canInsert 35 = .ok (.iconst 1, 1) := by decide +kernel
theorem dX3_canInsert_36 : decode cX3_canInsert 36 = .ok (.goto 4, 3) := by decide +kernel
theorem dX3_canInsert_39 : decode cX3_canInsert 39 = .ok (.iconst 0, 1) := by decide +kernel
theorem dX3_canInsert_40 : decode cX3_canInsert 40 = .ok (.ireturn, 1) := by decide +kernel
theorem dX3_clear_0 : decode cX3_clear 0 = .ok (.aload_n 0, 1) := by decide +kernel
theorem dX3_clear_1 : decode cX3_clear 1 = .ok (.iconst 0, 1) := by decide +kernel
theorem dX3_clear_2 : decode cX3_clear 2 = .ok (.putfield 40, 3) := by decide +kernel
theorem dX3_clear_5 : decode cX3_clear 5 = .ok (.aload_n 0, 1) := by decide +kernel
theorem dX3_clear_6 : decode cX3_clear 6 = .ok (.iconst 0, 1) := by decide +kernel
theorem dX3_clear_7 : decode cX3_clear 7 = .ok (.putfield 44, 3) := by decide +kernel
theorem dX3_clear_10 : decode cX3_clear 10 = .ok (.aload_n 0, 1) := by decide +kernel
theorem dX3_clear_11 : decode cX3_clear 11 = .ok (.iconst 0, 1) := by decide +kernel
theorem dX3_clear_12 : decode cX3_clear 12 = .ok (.putfield 52, 3) := by decide +kernel
theorem dX3_clear_15 : decode cX3_clear 15 = .ok (.return_, 1) := by decide +kernel
theorem dX3_insert_0 : decode cX3_insert 0 = .ok (.aload_n 0, 1) := by decide +kernel
theorem dX3_insert_1 : decode cX3_insert 1 = .ok (.iconst 0, 1) := by decide +kernel
theorem dX3_insert_2 : decode cX3_insert 2 = .ok (.putfield 40, 3) := by decide +kernel
theorem dX3_insert_5 : decode cX3_insert 5 = .ok (.aload_n 0, 1) := by decide +kernel
theorem dX3_insert_6 : decode cX3_insert 6 = .ok (.iload_n 1, 1) := by decide +kernel
theorem dX3_insert_7 : decode cX3_insert 7 = .ok (.iload_n 2, 1) := by decide +kernel
theorem dX3_insert_8 : decode cX3_insert 8 = .ok (.invokevirtual 59, 3) := by decide +kernel
theorem dX3_insert_11 : decode cX3_insert 11 = .ok (.ifCond .eq 10, 3) := by decide +kernel
theorem dX3_insert_14 : decode cX3_insert 14 = .ok (.iload_n 3, 1) := by decide +kernel
theorem dX3_insert_15 : decode cX3_insert 15 = .ok (.invokestatic 63, 3) := by decide +kernel
theorem dX3_insert_18 : decode cX3_insert 18 = .ok (.ifCond .ne 5, 3) := by decide +kernel
theorem dX3_insert_21 : decode cX3_insert 21 = .ok (.iconst 0, 1) := by decide +kernel
theorem dX3_insert_22 : decode cX3_insert 22 = .ok (.ireturn, 1) := by decide +kernel
theorem dX3_insert_23 : decode cX3_insert 23 = .ok (.aload_n 0, 1) := by decide +kernel
theorem dX3_insert_24 : decode cX3_insert 24 = .ok (.iload_n 1, 1) := by decide +kernel
theorem dX3_insert_25 : decode cX3_insert 25 = .ok (.iload_n 2, 1) := by decide +kernel
theorem dX3_insert_26 : decode cX3_insert 26 = .ok (.iload_n 3, 1) := by decide +kernel
theorem dX3_insert_27 : decode cX3_insert 27 = .ok (.iload 4, 2) := by decide +kernel
theorem dX3_insert_29 : decode cX3_insert 29 = .ok (.invokevirtual 66, 3) := by decide +kernel
theorem dX3_insert_32 : decode cX3_insert 32 = .ok (.iconst 1, 1) := by decide +kernel
theorem dX3_insert_33 : decode cX3_insert 33 = .ok (.ireturn, 1) := by decide +kernel
theorem dX3_run_0 : decode cX3_run 0 = .ok (.aload_n 0, 1) := by decide +kernel
theorem dX3_run_1 : decode cX3_run 1 = .ok (.iconst 0, 1) := by decide +kernel
theorem dX3_run_2 : decode cX3_run 2 = .ok (.putfield 40, 3) := by decide +kernel
theorem dX3_run_5 : decode cX3_run 5 = .ok (.iload_n 3, 1) := by decide +kernel
theorem dX3_run_6 : decode cX3_run 6 = .ok (.iconst 2, 1) := by decide +kernel
theorem dX3_run_7 : decode cX3_run 7 = .ok (.if_icmp .lt 30, 3) := by decide +kernel
theorem dX3_run_10 : decode cX3_run 10 = .ok (.iload_n 3, 1) := by decide +kernel
theorem dX3_run_11 : decode cX3_run 11 = .ok (.bipush 8, 2) := by decide +kernel
theorem dX3_run_13 : decode cX3_run 13 = .ok (.if_icmp .gt 24, 3) := by decide +kernel
theorem dX3_run_16 : decode cX3_run 16 = .ok (.aload_n 0, 1) := by decide +kernel
theorem dX3_run_17 : decode cX3_run 17 = .ok (.iload_n 1, 1) := by decide +kernel
theorem dX3_run_18 : decode cX3_run 18 = .ok (.iload_n 2, 1) := by decide +kernel
theorem dX3_run_19 : decode cX3_run 19 = .ok (.invokevirtual 59, 3) := by decide +kernel
theorem dX3_run_22 : decode cX3_run 22 = .ok (.ifCond .eq 15, 3) := by decide +kernel
theorem dX3_run_25 : decode cX3_run 25 = .ok (.aload_n 0, 1) := by decide +kernel
theorem dX3_run_26 : decode cX3_run 26 = .ok (.getfield 44, 3) := by decide +kernel
theorem dX3_run_29 : decode cX3_run 29 = .ok (.iload_n 3, 1) := by decide +kernel
theorem dX3_run_30 : decode cX3_run 30 = .ok (.iadd, 1) := by decide +kernel
theorem dX3_run_31 : decode cX3_run 31 = .ok (.sipush 512, 3) := by decide +kernel
theorem dX3_run_34 : decode cX3_run 34 = .ok (.if_icmp .le 5, 3) := by decide +kernel
theorem dX3_run_37 : decode cX3_run 37 = .ok (.iconst 0, 1) := by decide +kernel
theorem dX3_run_38 : decode cX3_run 38 = .ok (.ireturn, 1) := by decide +kernel
theorem dX3_run_39 : decode cX3_run 39 = .ok (.iconst 1, 1) := by decide +kernel
theorem dX3_run_40 : decode cX3_run 40 = .ok (.istore 6, 2) := by decide +kernel
theorem dX3_run_42 : decode cX3_run 42 = .ok (.iload 6, 2) := by decide +kernel
theorem dX3_run_44 : decode cX3_run 44 = .ok (.iload_n 3, 1) := by decide +kernel
theorem dX3_run_45 : decode cX3_run 45 = .ok (.if_icmp .ge 25, 3) := by decide +kernel
theorem dX3_run_48 : decode cX3_run 48 = .ok (.aload_n 0, 1) := by decide +kernel
theorem dX3_run_49 : decode cX3_run 49 = .ok (.iload_n 1, 1) := by decide +kernel
theorem dX3_run_50 : decode cX3_run 50 = .ok (.bipush 8, 2) := by decide +kernel
theorem dX3_run_52 : decode cX3_run 52 = .ok (.iload 6, 2) := by decide +kernel
theorem dX3_run_54 : decode cX3_run 54 = .ok (.imul, 1) := by decide +kernel
theorem dX3_run_55 : decode cX3_run 55 = .ok (.iadd, 1) := by decide +kernel
theorem dX3_run_56 : decode cX3_run 56 = .ok (.invokevirtual 55, 3) := by decide +kernel
theorem dX3_run_59 : decode cX3_run 59 = .ok (.ifCond .ne 5, 3) := by decide +kernel
theorem dX3_run_62 : decode cX3_run 62 = .ok (.iconst 0, 1) := by decide +kernel
theorem dX3_run_63 : decode cX3_run 63 = .ok (.ireturn, 1) := by decide +kernel
theorem dX3_run_64 : decode cX3_run 64 = .ok (.iinc 6 1, 3) := by decide +kernel
theorem dX3_run_67 : decode cX3_run 67 = .ok (.goto (-25), 3) := by decide +kernel
theorem dX3_run_70 : decode cX3_run 70 = .ok (.iconst 0, 1) := by decide +kernel
theorem dX3_run_71 : decode cX3_run 71 = .ok (.istore 6, 2) := by decide +kernel
theorem dX3_run_73 : decode cX3_run 73 = .ok (.iload 6, 2) := by decide +kernel
theorem dX3_run_75 : decode cX3_run 75 = .ok (.iload_n 3, 1) := by decide +kernel
theorem dX3_run_76 : decode cX3_run 76 = .ok (.if_icmp .ge 57, 3) := by decide +kernel
theorem dX3_run_79 : decode cX3_run 79 = .ok (.aload_n 0, 1) := by decide +kernel
theorem dX3_run_80 : decode cX3_run 80 = .ok (.iload_n 1, 1) := by decide +kernel
theorem dX3_run_81 : decode cX3_run 81 = .ok (.bipush 8, 2) := by decide +kernel
theorem dX3_run_83 : decode cX3_run 83 = .ok (.iload 6, 2) := by decide +kernel
theorem dX3_run_85 : decode cX3_run 85 = .ok (.imul, 1) := by decide +kernel
theorem dX3_run_86 : decode cX3_run 86 = .ok (.iadd, 1) := by decide +kernel
theorem dX3_run_87 : decode cX3_run 87 = .ok (.iload 6, 2) := by decide +kernel
theorem dX3_run_89 : decode cX3_run 89 = .ok (.ifCond .ne 7, 3) := by decide +kernel
theorem dX3_run_92 : decode cX3_run 92 = .ok (.iload_n 2, 1) := by decide +kernel
theorem dX3_run_93 : decode cX3_run 93 = .ok (.goto 13, 3) := by decide +kernel
theorem dX3_run_96 : decode cX3_run 96 = .ok (.iload_n 1, 1) := by decide +kernel
theorem dX3_run_97 : decode cX3_run 97 = .ok (.bipush 8, 2) := by decide +kernel
theorem dX3_run_99 : decode cX3_run 99 = .ok (.iload 6, 2) := by decide +kernel
theorem dX3_run_101 : decode cX3_run 101 = .ok (.imul, 1) := by decide +kernel
theorem dX3_run_102 : decode cX3_run 102 = .ok (.iadd, 1) := by decide +kernel
theorem dX3_run_103 : decode cX3_run 103 = .ok (.bipush 8, 2) := by decide +kernel
theorem dX3_run_105 : decode cX3_run 105 = .ok (.isub, 1) := by decide +kernel
theorem dX3_run_106 : decode cX3_run 106 = .ok (.iconst 2, 1) := by decide +kernel
theorem dX3_run_107 : decode cX3_run 107 = .ok (.lload 4, 2) := by decide +kernel
theorem dX3_run_109 : decode cX3_run 109 = .ok (.bipush 8, 2) := by decide +kernel
theorem dX3_run_111 : decode cX3_run 111 = .ok (.iload_n 3, 1) := by decide +kernel
theorem dX3_run_112 : decode cX3_run 112 = .ok (.iconst 1, 1) := by decide +kernel
theorem dX3_run_113 : decode cX3_run 113 = .ok (.isub, 1) := by decide +kernel
theorem dX3_run_114 : decode cX3_run 114 = .ok (.iload 6, 2) := by decide +kernel
theorem dX3_run_116 : decode cX3_run 116 = .ok (.isub, 1) := by decide +kernel
theorem dX3_run_117 : decode cX3_run 117 = .ok (.imul, 1) := by decide +kernel
theorem dX3_run_118 : decode cX3_run 118 = .ok (.lshr, 1) := by decide +kernel
theorem dX3_run_119 : decode cX3_run 119 = .ok (.ldc2_w 70, 3) := by decide +kernel
theorem dX3_run_122 : decode cX3_run 122 = .ok (.land, 1) := by decide +kernel
theorem dX3_run_123 : decode cX3_run 123 = .ok (.l2i, 1) := by decide +kernel
theorem dX3_run_124 : decode cX3_run 124 = .ok (.invokevirtual 66, 3) := by decide +kernel
theorem dX3_run_127 : decode cX3_run 127 = .ok (.iinc 6 1, 3) := by decide +kernel
theorem dX3_run_130 : decode cX3_run 130 = .ok (.goto (-57), 3) := by decide +kernel
theorem dX3_run_133 : decode cX3_run 133 = .ok (.iconst 1, 1) := by decide +kernel
theorem dX3_run_134 : decode cX3_run 134 = .ok (.ireturn, 1) := by decide +kernel
theorem dX3_does_0 : decode cX3_does 0 = .ok (.aload_n 0, 1) := by decide +kernel
theorem dX3_does_1 : decode cX3_does 1 = .ok (.iload_n 1, 1) := by decide +kernel
theorem dX3_does_2 : decode cX3_does 2 = .ok (.invokevirtual 55, 3) := by decide +kernel
theorem dX3_does_5 : decode cX3_does 5 = .ok (.ifCond .eq 26, 3) := by decide +kernel
theorem dX3_does_8 : decode cX3_does 8 = .ok (.aload_n 0, 1) := by decide +kernel
theorem dX3_does_9 : decode cX3_does 9 = .ok (.iload_n 2, 1) := by decide +kernel
theorem dX3_does_10 : decode cX3_does 10 = .ok (.invokevirtual 48, 3) := by decide +kernel
theorem dX3_does_13 : decode cX3_does 13 = .ok (.ifCond .lt 18, 3) := by decide +kernel
theorem dX3_does_16 : decode cX3_does 16 = .ok (.iload_n 1, 1) := by decide +kernel
theorem dX3_does_17 : decode cX3_does 17 = .ok (.iload_n 2, 1) := by decide +kernel
theorem dX3_does_18 : decode cX3_does 18 = .ok (.if_icmp .le 13, 3) := by decide +kernel
theorem dX3_does_21 : decode cX3_does 21 = .ok (.aload_n 0, 1) := by decide +kernel
theorem dX3_does_22 : decode cX3_does 22 = .ok (.getfield 52, 3) := by decide +kernel
theorem dX3_does_25 : decode cX3_does 25 = .ok (.sipush 1024, 3) := by decide +kernel
theorem dX3_does_28 : decode cX3_does 28 = .ok (.if_icmp .ne 5, 3) := by decide +kernel
theorem dX3_does_31 : decode cX3_does 31 = .ok (.iconst 0, 1) := by decide +kernel
theorem dX3_does_32 : decode cX3_does 32 = .ok (.ireturn, 1) := by decide +kernel
theorem dX3_does_33 : decode cX3_does 33 = .ok (.aload_n 0, 1) := by decide +kernel
theorem dX3_does_34 : decode cX3_does 34 = .ok (.getfield 22, 3) := by decide +kernel
theorem dX3_does_37 : decode cX3_does 37 = .ok (.aload_n 0, 1) := by decide +kernel
theorem dX3_does_38 : decode cX3_does 38 = .ok (.getfield 52, 3) := by decide +kernel
theorem dX3_does_41 : decode cX3_does 41 = .ok (.iload_n 1, 1) := by decide +kernel
theorem dX3_does_42 : decode cX3_does 42 = .ok (.iastore, 1) := by decide +kernel
theorem dX3_does_43 : decode cX3_does 43 = .ok (.aload_n 0, 1) := by decide +kernel
theorem dX3_does_44 : decode cX3_does 44 = .ok (.getfield 25, 3) := by decide +kernel
theorem dX3_does_47 : decode cX3_does 47 = .ok (.aload_n 0, 1) := by decide +kernel
theorem dX3_does_48 : decode cX3_does 48 = .ok (.getfield 52, 3) := by decide +kernel
theorem dX3_does_51 : decode cX3_does 51 = .ok (.iload_n 2, 1) := by decide +kernel
theorem dX3_does_52 : decode cX3_does 52 = .ok (.iastore, 1) := by decide +kernel
theorem dX3_does_53 : decode cX3_does 53 = .ok (.aload_n 0, 1) := by decide +kernel
theorem dX3_does_54 : decode cX3_does 54 = .ok (.getfield 28, 3) := by decide +kernel
theorem dX3_does_57 : decode cX3_does 57 = .ok (.aload_n 0, 1) := by decide +kernel
theorem dX3_does_58 : decode cX3_does 58 = .ok (.getfield 52, 3) := by decide +kernel
theorem dX3_does_61 : decode cX3_does 61 = .ok (.iload_n 3, 1) := by decide +kernel
theorem dX3_does_62 : decode cX3_does 62 = .ok (.iastore, 1) := by decide +kernel
theorem dX3_does_63 : decode cX3_does 63 = .ok (.aload_n 0, 1) := by decide +kernel
theorem dX3_does_64 : decode cX3_does 64 = .ok (.getfield 31, 3) := by decide +kernel
theorem dX3_does_67 : decode cX3_does 67 = .ok (.aload_n 0, 1) := by decide +kernel
theorem dX3_does_68 : decode cX3_does 68 = .ok (.getfield 52, 3) := by decide +kernel
theorem dX3_does_71 : decode cX3_does 71 = .ok (.iload 4, 2) := by decide +kernel
theorem dX3_does_73 : decode cX3_does 73 = .ok (.iastore, 1) := by decide +kernel
theorem dX3_does_74 : decode cX3_does 74 = .ok (.aload_n 0, 1) := by decide +kernel
theorem dX3_does_75 : decode cX3_does 75 = .ok (.dup, 1) := by decide +kernel
theorem dX3_does_76 : decode cX3_does 76 = .ok (.getfield 52, 3) := by decide +kernel
theorem dX3_does_79 : decode cX3_does 79 = .ok (.iconst 1, 1) := by decide +kernel
theorem dX3_does_80 : decode cX3_does 80 = .ok (.iadd, 1) := by decide +kernel
theorem dX3_does_81 : decode cX3_does 81 = .ok (.putfield 52, 3) := by decide +kernel
theorem dX3_does_84 : decode cX3_does 84 = .ok (.iconst 1, 1) := by decide +kernel
theorem dX3_does_85 : decode cX3_does 85 = .ok (.ireturn, 1) := by decide +kernel
theorem dX3_set_0 : decode cX3_set 0 = .ok (.aload_n 0, 1) := by decide +kernel
theorem dX3_set_1 : decode cX3_set 1 = .ok (.iconst 0, 1) := by decide +kernel
theorem dX3_set_2 : decode cX3_set 2 = .ok (.putfield 40, 3) := by decide +kernel
theorem dX3_set_5 : decode cX3_set 5 = .ok (.iload_n 3, 1) := by decide +kernel
theorem dX3_set_6 : decode cX3_set 6 = .ok (.invokestatic 63, 3) := by decide +kernel
theorem dX3_set_9 : decode cX3_set 9 = .ok (.ifCond .eq 19, 3) := by decide +kernel
theorem dX3_set_12 : decode cX3_set 12 = .ok (.aload_n 0, 1) := by decide +kernel
theorem dX3_set_13 : decode cX3_set 13 = .ok (.iload_n 1, 1) := by decide +kernel
theorem dX3_set_14 : decode cX3_set 14 = .ok (.iload_n 2, 1) := by decide +kernel
theorem dX3_set_15 : decode cX3_set 15 = .ok (.iload_n 3, 1) := by decide +kernel
theorem dX3_set_16 : decode cX3_set 16 = .ok (.iload 4, 2) := by decide +kernel
theorem dX3_set_18 : decode cX3_set 18 = .ok (.invokevirtual 72, 3) := by decide +kernel
theorem dX3_set_21 : decode cX3_set 21 = .ok (.ifCond .eq 7, 3) := by decide +kernel
theorem dX3_set_24 : decode cX3_set 24 = .ok (.iconst 1, 1) := by decide +kernel
theorem dX3_set_25 : decode cX3_set 25 = .ok (.goto 4, 3) := by decide +kernel
theorem dX3_set_28 : decode cX3_set 28 = .ok (.iconst 0, 1) := by decide +kernel
theorem dX3_set_29 : decode cX3_set 29 = .ok (.ireturn, 1) := by decide +kernel
theorem dX3_remove_0 : decode cX3_remove 0 = .ok (.aload_n 0, 1) := by decide +kernel
theorem dX3_remove_1 : decode cX3_remove 1 = .ok (.iconst 0, 1) := by decide +kernel
theorem dX3_remove_2 : decode cX3_remove 2 = .ok (.putfield 40, 3) := by decide +kernel
theorem dX3_remove_5 : decode cX3_remove 5 = .ok (.aload_n 0, 1) := by decide +kernel
theorem dX3_remove_6 : decode cX3_remove 6 = .ok (.iload_n 1, 1) := by decide +kernel
theorem dX3_remove_7 : decode cX3_remove 7 = .ok (.iload_n 2, 1) := by decide +kernel
theorem dX3_remove_8 : decode cX3_remove 8 = .ok (.iconst (-1), 1) := by decide +kernel
theorem dX3_remove_9 : decode cX3_remove 9 = .ok (.iconst 0, 1) := by decide +kernel
theorem dX3_remove_10 : decode cX3_remove 10 = .ok (.invokevirtual 72, 3) := by decide +kernel
theorem dX3_remove_13 : decode cX3_remove 13 = .ok (.ireturn, 1) := by decide +kernel
theorem dX3_isRemoved_0 : decode cX3_isRemoved 0 = .ok (.iconst 0, 1) := by decide +kernel
theorem dX3_isRemoved_1 : decode cX3_isRemoved 1 = .ok (.istore_n 2, 1) := by decide +kernel
theorem dX3_isRemoved_2 : decode cX3_isRemoved 2 = .ok (.iconst 0, 1) := by decide +kernel
theorem dX3_isRemoved_3 : decode cX3_isRemoved 3 = .ok (.istore_n 3, 1) := by decide +kernel
theorem dX3_isRemoved_4 : decode cX3_isRemoved 4 = .ok (.iload_n 3, 1) := by decide +kernel
theorem dX3_isRemoved_5 : decode cX3_isRemoved 5 = .ok (.aload_n 0, 1) := by decide +kernel
theorem dX3_isRemoved_6 : decode cX3_isRemoved 6 = .ok (.getfield 52, 3) := by decide +kernel
theorem dX3_isRemoved_9 : decode cX3_isRemoved 9 = .ok (.if_icmp .ge 38, 3) := by decide +kernel
theorem dX3_isRemoved_12 : decode cX3_isRemoved 12 = .ok (.iload_n 2, 1) := by decide +kernel
theorem dX3_isRemoved_13 : decode cX3_isRemoved 13 = .ok (.ifCond .ne 22, 3) := by decide +kernel
theorem dX3_isRemoved_16 : decode cX3_isRemoved 16 = .ok (.aload_n 0, 1) := by decide +kernel
theorem dX3_isRemoved_17 : decode cX3_isRemoved 17 = .ok (.getfield 25, 3) := by decide +kernel
theorem dX3_isRemoved_20 : decode cX3_isRemoved 20 = .ok (.iload_n 3, 1) := by decide +kernel
theorem dX3_isRemoved_21 : decode cX3_isRemoved 21 = .ok (.iaload, 1) := by decide +kernel
theorem dX3_isRemoved_22 : decode cX3_isRemoved 22 = .ok (.iload_n 1, 1) := by decide +kernel
theorem dX3_isRemoved_23 : decode cX3_isRemoved 23 = .ok (.if_icmp .ne 16, 3) := by decide +kernel
theorem dX3_isRemoved_26 : decode cX3_isRemoved 26 = .ok (.aload_n 0, 1) := by decide +kernel
theorem dX3_isRemoved_27 : decode cX3_isRemoved 27 = .ok (.getfield 28, 3) := by decide +kernel
theorem dX3_isRemoved_30 : decode cX3_isRemoved 30 = .ok (.iload_n 3, 1) := by decide +kernel
theorem dX3_isRemoved_31 : decode cX3_isRemoved 31 = .ok (.iaload, 1) := by decide +kernel
theorem dX3_isRemoved_32 : decode cX3_isRemoved 32 = .ok (.ifCond .ge 7, 3) := by decide +kernel
theorem dX3_isRemoved_35 : decode cX3_isRemoved 35 = .ok (.iconst 1, 1) := by decide +kernel
theorem dX3_isRemoved_36 : decode cX3_isRemoved 36 = .ok (.goto 4, 3) := by decide +kernel
theorem dX3_isRemoved_39 : decode cX3_isRemoved 39 = .ok (.iconst 0, 1) := by decide +kernel
theorem dX3_isRemoved_40 : decode cX3_isRemoved 40 = .ok (.istore_n 2, 1) := by decide +kernel
theorem dX3_isRemoved_41 : decode cX3_isRemoved 41 = .ok (.iinc 3 1, 3) := by decide +kernel
theorem dX3_isRemoved_44 : decode cX3_isRemoved 44 = .ok (.goto (-40), 3) := by decide +kernel
theorem dX3_isRemoved_47 : decode cX3_isRemoved 47 = .ok (.iload_n 2, 1) := by decide +kernel
theorem dX3_isRemoved_48 : decode cX3_isRemoved 48 = .ok (.ireturn, 1) := by decide +kernel
theorem dX3_standing_0 : decode cX3_standing 0 = .ok (.iconst (-1), 1) := by decide +kernel
theorem dX3_standing_1 : decode cX3_standing 1 = .ok (.istore_n 2, 1) := by decide +kernel
theorem dX3_standing_2 : decode cX3_standing 2 = .ok (.iconst 0, 1) := by decide +kernel
theorem dX3_standing_3 : decode cX3_standing 3 = .ok (.istore_n 3, 1) := by decide +kernel
theorem dX3_standing_4 : decode cX3_standing 4 = .ok (.iload_n 3, 1) := by decide +kernel
theorem dX3_standing_5 : decode cX3_standing 5 = .ok (.aload_n 0, 1) := by decide +kernel
theorem dX3_standing_6 : decode cX3_standing 6 = .ok (.getfield 52, 3) := by decide +kernel
theorem dX3_standing_9 : decode cX3_standing 9 = .ok (.if_icmp .ge 73, 3) := by decide +kernel
theorem dX3_standing_12 : decode cX3_standing 12 = .ok (.aload_n 0, 1) := by decide +kernel
theorem dX3_standing_13 : decode cX3_standing 13 = .ok (.getfield 25, 3) := by decide +kernel
theorem dX3_standing_16 : decode cX3_standing 16 = .ok (.iload_n 3, 1) := by decide +kernel
theorem dX3_standing_17 : decode cX3_standing 17 = .ok (.iaload, 1) := by decide +kernel
theorem dX3_standing_18 : decode cX3_standing 18 = .ok (.iload_n 1, 1) := by decide +kernel
theorem dX3_standing_19 : decode cX3_standing 19 = .ok (.if_icmp .ne 16, 3) := by decide +kernel
theorem dX3_standing_22 : decode cX3_standing 22 = .ok (.aload_n 0, 1) := by decide +kernel
theorem dX3_standing_23 : decode cX3_standing 23 = .ok (.getfield 28, 3) := by decide +kernel
theorem dX3_standing_26 : decode cX3_standing 26 = .ok (.iload_n 3, 1) := by decide +kernel
theorem dX3_standing_27 : decode cX3_standing 27 = .ok (.iaload, 1) := by decide +kernel
theorem dX3_standing_28 : decode cX3_standing 28 = .ok (.ifCond .lt 7, 3) := by decide +kernel
theorem dX3_standing_31 : decode cX3_standing 31 = .ok (.iconst 1, 1) := by decide +kernel
theorem dX3_standing_32 : decode cX3_standing 32 = .ok (.goto 4, 3) := by decide +kernel
theorem dX3_standing_35 : decode cX3_standing 35 = .ok (.iconst 0, 1) := by decide +kernel
theorem dX3_standing_36 : decode cX3_standing 36 = .ok (.istore 4, 2) := by decide +kernel
theorem dX3_standing_38 : decode cX3_standing 38 = .ok (.iload 4, 2) := by decide +kernel
theorem dX3_standing_40 : decode cX3_standing 40 = .ok (.ifCond .eq 34, 3) := by decide +kernel
theorem dX3_standing_43 : decode cX3_standing 43 = .ok (.iload_n 2, 1) := by decide +kernel
theorem dX3_standing_44 : decode cX3_standing 44 = .ok (.ifCond .lt 26, 3) := by decide +kernel
theorem dX3_standing_47 : decode cX3_standing 47 = .ok (.aload_n 0, 1) := by decide +kernel
theorem dX3_standing_48 : decode cX3_standing 48 = .ok (.getfield 22, 3) := by decide +kernel
theorem dX3_standing_51 : decode cX3_standing 51 = .ok (.iload_n 3, 1) := by decide +kernel
theorem dX3_standing_52 : decode cX3_standing 52 = .ok (.iaload, 1) := by decide +kernel
theorem dX3_standing_53 : decode cX3_standing 53 = .ok (.aload_n 0, 1) := by decide +kernel
theorem dX3_standing_54 : decode cX3_standing 54 = .ok (.getfield 22, 3) := by decide +kernel
theorem dX3_standing_57 : decode cX3_standing 57 = .ok (.iload_n 2, 1) := by decide +kernel
theorem dX3_standing_58 : decode cX3_standing 58 = .ok (.ifCond .ge 7, 3) := by decide +kernel
theorem dX3_standing_61 : decode cX3_standing 61 = .ok (.iconst 0, 1) := by decide +kernel
theorem dX3_standing_62 : decode cX3_standing 62 = .ok (.goto 4, 3) := by decide +kernel
theorem dX3_standing_65 : decode cX3_standing 65 = .ok (.iload_n 2, 1) := by decide +kernel
theorem dX3_standing_66 : decode cX3_standing 66 = .ok (.iaload, 1) := by decide +kernel
theorem dX3_standing_67 : decode cX3_standing 67 = .ok (.if_icmp .le 7, 3) := by decide +kernel
theorem dX3_standing_70 : decode cX3_standing 70 = .ok (.iload_n 3, 1) := by decide +kernel
theorem dX3_standing_71 : decode cX3_standing 71 = .ok (.goto 4, 3) := by decide +kernel
theorem dX3_standing_74 : decode cX3_standing 74 = .ok (.iload_n 2, 1) := by decide +kernel
theorem dX3_standing_75 : decode cX3_standing 75 = .ok (.istore_n 2, 1) := by decide +kernel
theorem dX3_standing_76 : decode cX3_standing 76 = .ok (.iinc 3 1, 3) := by decide +kernel
theorem dX3_standing_79 : decode cX3_standing 79 = .ok (.goto (-75), 3) := by decide +kernel
theorem dX3_standing_82 : decode cX3_standing 82 = .ok (.iload_n 2, 1) := by decide +kernel
theorem dX3_standing_83 : decode cX3_standing 83 = .ok (.ireturn, 1) := by decide +kernel
theorem dX3_kindOf_0 : decode cX3_kindOf 0 = .ok (.aload_n 0, 1) := by decide +kernel
theorem dX3_kindOf_1 : decode cX3_kindOf 1 = .ok (.iload_n 1, 1) := by decide +kernel
theorem dX3_kindOf_2 : decode cX3_kindOf 2 = .ok (.invokevirtual 76, 3) := by decide +kernel
theorem dX3_kindOf_5 : decode cX3_kindOf 5 = .ok (.istore_n 2, 1) := by decide +kernel
theorem dX3_kindOf_6 : decode cX3_kindOf 6 = .ok (.iload_n 2, 1) := by decide +kernel
theorem dX3_kindOf_7 : decode cX3_kindOf 7 = .ok (.ifCond .ge 16, 3) := by decide +kernel
theorem dX3_kindOf_10 : decode cX3_kindOf 10 = .ok (.aload_n 0, 1) := by decide +kernel
theorem dX3_kindOf_11 : decode cX3_kindOf 11 = .ok (.getfield 16, 3) := by decide +kernel
theorem dX3_kindOf_14 : decode cX3_kindOf 14 = .ok (.aload_n 0, 1) := by decide +kernel
theorem dX3_kindOf_15 : decode cX3_kindOf 15 = .ok (.iload_n 1, 1) := by decide +kernel
theorem dX3_kindOf_16 : decode cX3_kindOf 16 = .ok (.invokevirtual 48, 3) := by decide +kernel
theorem dX3_kindOf_19 : decode cX3_kindOf 19 = .ok (.iaload, 1) := by decide +kernel
theorem dX3_kindOf_20 : decode cX3_kindOf 20 = .ok (.goto 9, 3) := by decide +kernel
theorem dX3_kindOf_23 : decode cX3_kindOf 23 = .ok (.aload_n 0, 1) := by decide +kernel
theorem dX3_kindOf_24 : decode cX3_kindOf 24 = .ok (.getfield 28, 3) := by decide +kernel
theorem dX3_kindOf_27 : decode cX3_kindOf 27 = .ok (.iload_n 2, 1) := by decide +kernel
theorem dX3_kindOf_28 : decode cX3_kindOf 28 = .ok (.iaload, 1) := by decide +kernel
theorem dX3_kindOf_29 : decode cX3_kindOf 29 = .ok (.ireturn, 1) := by decide +kernel
theorem dX3_valueOf_0 : decode cX3_valueOf 0 = .ok (.aload_n 0, 1) := by decide +kernel
theorem dX3_valueOf_1 : decode cX3_valueOf 1 = .ok (.iload_n 1, 1) := by decide +kernel
theorem dX3_valueOf_2 : decode cX3_valueOf 2 = .ok (.invokevirtual 76, 3) := by decide +kernel
theorem dX3_valueOf_5 : decode cX3_valueOf 5 = .ok (.istore_n 2, 1) := by decide +kernel
theorem dX3_valueOf_6 : decode cX3_valueOf 6 = .ok (.iload_n 2, 1) := by decide +kernel
theorem dX3_valueOf_7 : decode cX3_valueOf 7 = .ok (.ifCond .ge 16, 3) := by decide +kernel
theorem dX3_valueOf_10 : decode cX3_valueOf 10 = .ok (.aload_n 0, 1) := by decide +kernel
theorem dX3_valueOf_11 : decode cX3_valueOf 11 = .ok (.getfield 19, 3) := by decide +kernel
theorem dX3_valueOf_14 : decode cX3_valueOf 14 = .ok (.aload_n 0, 1) := by decide +kernel
theorem dX3_valueOf_15 : decode cX3_valueOf 15 = .ok (.iload_n 1, 1) := by decide +kernel
theorem dX3_valueOf_16 : decode cX3_valueOf 16 = .ok (.invokevirtual 48, 3) := by decide +kernel
theorem dX3_valueOf_19 : decode cX3_valueOf 19 = .ok (.iaload, 1) := by decide +kernel
theorem dX3_valueOf_20 : decode cX3_valueOf 20 = .ok (.goto 9, 3) := by decide +kernel
theorem dX3_valueOf_23 : decode cX3_valueOf 23 = .ok (.aload_n 0, 1) := by decide +kernel
theorem dX3_valueOf_24 : decode cX3_valueOf 24 = .ok (.getfield 31, 3) := by decide +kernel
theorem dX3_valueOf_27 : decode cX3_valueOf 27 = .ok (.iload_n 2, 1) := by decide +kernel
theorem dX3_valueOf_28 : decode cX3_valueOf 28 = .ok (.iaload, 1) := by decide +kernel
theorem dX3_valueOf_29 : decode cX3_valueOf 29 = .ok (.ireturn, 1) := by decide +kernel
theorem dX3_push_0 : decode cX3_push 0 = .ok (.iload_n 2, 1) := by decide +kernel
theorem dX3_push_1 : decode cX3_push 1 = .ok (.istore_n 3, 1) := by decide +kernel
theorem dX3_push_2 : decode cX3_push 2 = .ok (.iload_n 2, 1) := by decide +kernel
theorem dX3_push_3 : decode cX3_push 3 = .ok (.istore 4, 2) := by decide +kernel
theorem dX3_push_5 : decode cX3_push 5 = .ok (.iconst 0, 1) := by decide +kernel
theorem dX3_push_6 : decode cX3_push 6 = .ok (.istore 5, 2) := by decide +kernel
theorem dX3_push_8 : decode cX3_push 8 = .ok (.iload 5, 2) := by decide +kernel
theorem dX3_push_10 : decode cX3_push 10 = .ok (.aload_n 0, 1) := by decide +kernel
theorem dX3_push_11 : decode cX3_push 11 = .ok (.getfield 44, 3) := by decide +kernel
theorem dX3_push_14 : decode cX3_push 14 = .ok (.if_icmp .ge 88, 3) := by decide +kernel
theorem dX3_push_17 : decode cX3_push 17 = .ok (.aload_n 0, 1) := by decide +kernel
theorem dX3_push_18 : decode cX3_push 18 = .ok (.getfield 13, 3) := by decide +kernel
theorem dX3_push_21 : decode cX3_push 21 = .ok (.iload 5, 2) := by decide +kernel
theorem dX3_push_23 : decode cX3_push 23 = .ok (.iaload, 1) := by decide +kernel
theorem dX3_push_24 : decode cX3_push 24 = .ok (.iload_n 1, 1) := by decide +kernel
theorem dX3_push_25 : decode cX3_push 25 = .ok (.if_icmp .ne 71, 3) := by decide +kernel
theorem dX3_push_28 : decode cX3_push 28 = .ok (.iload 4, 2) := by decide +kernel
theorem dX3_push_30 : decode cX3_push 30 = .ok (.istore 6, 2) := by decide +kernel
theorem dX3_push_32 : decode cX3_push 32 = .ok (.iload 6, 2) := by decide +kernel
theorem dX3_push_34 : decode cX3_push 34 = .ok (.iload_n 3, 1) := by decide +kernel
theorem dX3_push_35 : decode cX3_push 35 = .ok (.if_icmp .le 44, 3) := by decide +kernel
theorem dX3_push_38 : decode cX3_push 38 = .ok (.aload_n 0, 1) := by decide +kernel
theorem dX3_push_39 : decode cX3_push 39 = .ok (.getfield 37, 3) := by decide +kernel
theorem dX3_push_42 : decode cX3_push 42 = .ok (.iload 6, 2) := by decide +kernel
theorem dX3_push_44 : decode cX3_push 44 = .ok (.iconst 1, 1) := by decide +kernel
theorem dX3_push_45 : decode cX3_push 45 = .ok (.isub, 1) := by decide +kernel
theorem dX3_push_46 : decode cX3_push 46 = .ok (.iaload, 1) := by decide +kernel
theorem dX3_push_47 : decode cX3_push 47 = .ok (.aload_n 0, 1) := by decide +kernel
theorem dX3_push_48 : decode cX3_push 48 = .ok (.getfield 7, 3) := by decide +kernel
theorem dX3_push_51 : decode cX3_push 51 = .ok (.iload 5, 2) := by decide +kernel
theorem dX3_push_53 : decode cX3_push 53 = .ok (.iaload, 1) := by decide +kernel
theorem dX3_push_54 : decode cX3_push 54 = .ok (.if_icmp .le 25, 3) := by decide +kernel
theorem dX3_push_57 : decode cX3_push 57 = .ok (.aload_n 0, 1) := by decide +kernel
theorem dX3_push_58 : decode cX3_push 58 = .ok (.getfield 37, 3) := by decide +kernel
theorem dX3_push_61 : decode cX3_push 61 = .ok (.iload 6, 2) := by decide +kernel
theorem dX3_push_63 : decode cX3_push 63 = .ok (.aload_n 0, 1) := by decide +kernel
theorem dX3_push_64 : decode cX3_push 64 = .ok (.getfield 37, 3) := by decide +kernel
theorem dX3_push_67 : decode cX3_push 67 = .ok (.iload 6, 2) := by decide +kernel
theorem dX3_push_69 : decode cX3_push 69 = .ok (.iconst 1, 1) := by decide +kernel
theorem dX3_push_70 : decode cX3_push 70 = .ok (.isub, 1) := by decide +kernel
theorem dX3_push_71 : decode cX3_push 71 = .ok (.iaload, 1) := by decide +kernel
theorem dX3_push_72 : decode cX3_push 72 = .ok (.iastore, 1) := by decide +kernel
theorem dX3_push_73 : decode cX3_push 73 = .ok (.iinc 6 (-1), 3) := by decide +kernel
theorem dX3_push_76 : decode cX3_push 76 = .ok (.goto (-44), 3) := by decide +kernel
theorem dX3_push_79 : decode cX3_push 79 = .ok (.aload_n 0, 1) := by decide +kernel
theorem dX3_push_80 : decode cX3_push 80 = .ok (.getfield 37, 3) := by decide +kernel
theorem dX3_push_83 : decode cX3_push 83 = .ok (.iload 6, 2) := by decide +kernel
theorem dX3_push_85 : decode cX3_push 85 = .ok (.aload_n 0, 1) := by decide +kernel
theorem dX3_push_86 : decode cX3_push 86 = .ok (.getfield 7, 3) := by decide +kernel
theorem dX3_push_89 : decode cX3_push 89 = .ok (.iload 5, 2) := by decide +kernel
theorem dX3_push_91 : decode cX3_push 91 = .ok (.iaload, 1) := by decide +kernel
theorem dX3_push_92 : decode cX3_push 92 = .ok (.iastore, 1) := by decide +kernel
theorem dX3_push_93 : decode cX3_push 93 = .ok (.iinc 4 1, 3) := by decide +kernel
theorem dX3_push_96 : decode cX3_push 96 = .ok (.iinc 5 1, 3) := by decide +kernel
theorem dX3_push_99 : decode cX3_push 99 = .ok (.goto (-91), 3) := by decide +kernel
theorem dX3_push_102 : decode cX3_push 102 = .ok (.iload 4, 2) := by decide +kernel
theorem dX3_push_104 : decode cX3_push 104 = .ok (.ireturn, 1) := by decide +kernel
theorem dX3_weave_0 : decode cX3_weave 0 = .ok (.aload_n 0, 1) := by decide +kernel
theorem dX3_weave_1 : decode cX3_weave 1 = .ok (.iconst 0, 1) := by decide +kernel
theorem dX3_weave_2 : decode cX3_weave 2 = .ok (.iconst 0, 1) := by decide +kernel
theorem dX3_weave_3 : decode cX3_weave 3 = .ok (.invokevirtual 79, 3) := by decide +kernel
theorem dX3_weave_6 : decode cX3_weave 6 = .ok (.istore_n 1, 1) := by decide +kernel
theorem dX3_weave_7 : decode cX3_weave 7 = .ok (.iconst 0, 1) := by decide +kernel
theorem dX3_weave_8 : decode cX3_weave 8 = .ok (.istore_n 2, 1) := by decide +kernel
theorem dX3_weave_9 : decode cX3_weave 9 = .ok (.iload_n 1, 1) := by decide +kernel
theorem dX3_weave_10 : decode cX3_weave 10 = .ok (.ifCond .le 33, 3) := by decide +kernel
theorem dX3_weave_13 : decode cX3_weave 13 = .ok (.iinc 1 (-1), 3) := by decide +kernel
theorem dX3_weave_16 : decode cX3_weave 16 = .ok (.aload_n 0, 1) := by decide +kernel
theorem dX3_weave_17 : decode cX3_weave 17 = .ok (.getfield 37, 3) := by decide +kernel
theorem dX3_weave_20 : decode cX3_weave 20 = .ok (.iload_n 1, 1) := by decide +kernel
theorem dX3_weave_21 : decode cX3_weave 21 = .ok (.iaload, 1) := by decide +kernel
theorem dX3_weave_22 : decode cX3_weave 22 = .ok (.istore_n 3, 1) := by decide +kernel
theorem dX3_weave_23 : decode cX3_weave 23 = .ok (.aload_n 0, 1) := by decide +kernel
theorem dX3_weave_24 : decode cX3_weave 24 = .ok (.getfield 34, 3) := by decide +kernel
theorem dX3_weave_27 : decode cX3_weave 27 = .ok (.iload_n 2, 1) := by decide +kernel
theorem dX3_weave_28 : decode cX3_weave 28 = .ok (.iload_n 3, 1) := by decide +kernel
theorem dX3_weave_29 : decode cX3_weave 29 = .ok (.iastore, 1) := by decide +kernel
theorem dX3_weave_30 : decode cX3_weave 30 = .ok (.iinc 2 1, 3) := by decide +kernel
theorem dX3_weave_33 : decode cX3_weave 33 = .ok (.aload_n 0, 1) := by decide +kernel
theorem dX3_weave_34 : decode cX3_weave 34 = .ok (.iload_n 3, 1) := by decide +kernel
theorem dX3_weave_35 : decode cX3_weave 35 = .ok (.iload_n 1, 1) := by decide +kernel
theorem dX3_weave_36 : decode cX3_weave 36 = .ok (.invokevirtual 79, 3) := by decide +kernel
theorem dX3_weave_39 : decode cX3_weave 39 = .ok (.istore_n 1, 1) := by decide +kernel
theorem dX3_weave_40 : decode cX3_weave 40 = .ok (.goto (-31), 3) := by decide +kernel
theorem dX3_weave_43 : decode cX3_weave 43 = .ok (.return_, 1) := by decide +kernel
theorem dX3_elementAt_0 : decode cX3_elementAt 0 = .ok (.aload_n 0, 1) := by decide +kernel
theorem dX3_elementAt_1 : decode cX3_elementAt 1 = .ok (.invokevirtual 83, 3) := by decide +kernel
theorem dX3_elementAt_4 : decode cX3_elementAt 4 = .ok (.iload_n 1, 1) := by decide +kernel
theorem dX3_elementAt_5 : decode cX3_elementAt 5 = .ok (.istore_n 2, 1) := by decide +kernel
theorem dX3_elementAt_6 : decode cX3_elementAt 6 = .ok (.iconst 0, 1) := by decide +kernel
theorem dX3_elementAt_7 : decode cX3_elementAt 7 = .ok (.istore_n 3, 1) := by decide +kernel
theorem dX3_elementAt_8 : decode cX3_elementAt 8 = .ok (.iload_n 3, 1) := by decide +kernel
theorem dX3_elementAt_9 : decode cX3_elementAt 9 = .ok (.aload_n 0, 1) := by decide +kernel
theorem dX3_elementAt_10 : decode cX3_elementAt 10 = .ok (.getfield 44, 3) := by decide +kernel
theorem dX3_elementAt_13 : decode cX3_elementAt 13 = .ok (.if_icmp .ge 40, 3) := by decide +kernel
theorem dX3_elementAt_16 : decode cX3_elementAt 16 = .ok (.iload_n 1, 1) := by decide +kernel
theorem dX3_elementAt_17 : decode cX3_elementAt 17 = .ok (.ifCond .lt 36, 3) := by decide +kernel
theorem dX3_elementAt_20 : decode cX3_elementAt 20 = .ok (.aload_n 0, 1) := by decide +kernel
theorem dX3_elementAt_21 : decode cX3_elementAt 21 = .ok (.aload_n 0, 1) := by decide +kernel
theorem dX3_elementAt_22 : decode cX3_elementAt 22 = .ok (.getfield 34, 3) := by decide +kernel
theorem dX3_elementAt_25 : decode cX3_elementAt 25 = .ok (.iload_n 3, 1) := by decide +kernel
theorem dX3_elementAt_26 : decode cX3_elementAt 26 = .ok (.iaload, 1) := by decide +kernel
theorem dX3_elementAt_27 : decode cX3_elementAt 27 = .ok (.invokevirtual 86, 3) := by decide +kernel
theorem dX3_elementAt_30 : decode cX3_elementAt 30 = .ok (.ifCond .ne 17, 3) := by decide +kernel
theorem dX3_elementAt_33 : decode cX3_elementAt 33 = .ok (.iload_n 2, 1) := by decide +kernel
theorem dX3_elementAt_34 : decode cX3_elementAt 34 = .ok (.ifCond .ne 10, 3) := by decide +kernel
theorem dX3_elementAt_37 : decode cX3_elementAt 37 = .ok (.aload_n 0, 1) := by decide +kernel
theorem dX3_elementAt_38 : decode cX3_elementAt 38 = .ok (.getfield 34, 3) := by decide +kernel
theorem dX3_elementAt_41 : decode cX3_elementAt 41 = .ok (.iload_n 3, 1) := by decide +kernel
theorem dX3_elementAt_42 : decode cX3_elementAt 42 = .ok (.iaload, 1) := by decide +kernel
theorem dX3_elementAt_43 : decode cX3_elementAt 43 = .ok (.ireturn, 1) := by decide +kernel
theorem dX3_elementAt_44 : decode cX3_elementAt 44 = .ok (.iinc 2 (-1), 3) := by decide +kernel
theorem dX3_elementAt_47 : decode cX3_elementAt 47 = .ok (.iinc 3 1, 3) := by decide +kernel
theorem dX3_elementAt_50 : decode cX3_elementAt 50 = .ok (.goto (-42), 3) := by decide +kernel
theorem dX3_elementAt_53 : decode cX3_elementAt 53 = .ok (.iconst (-1), 1) := by decide +kernel
theorem dX3_elementAt_54 : decode cX3_elementAt 54 = .ok (.ireturn, 1) := by decide +kernel
theorem dX3_sizeOf_0 : decode cX3_sizeOf 0 = .ok (.iconst 0, 1) := by decide +kernel
theorem dX3_sizeOf_1 : decode cX3_sizeOf 1 = .ok (.istore_n 1, 1) := by decide +kernel
theorem dX3_sizeOf_2 : decode cX3_sizeOf 2 = .ok (.iconst 0, 1) := by decide +kernel
theorem dX3_sizeOf_3 : decode cX3_sizeOf 3 = .ok (.istore_n 2, 1) := by decide +kernel
theorem dX3_sizeOf_4 : decode cX3_sizeOf 4 = .ok (.iload_n 2, 1) := by decide +kernel
theorem dX3_sizeOf_5 : decode cX3_sizeOf 5 = .ok (.aload_n 0, 1) := by decide +kernel
theorem dX3_sizeOf_6 : decode cX3_sizeOf 6 = .ok (.getfield 44, 3) := by decide +kernel
theorem dX3_sizeOf_9 : decode cX3_sizeOf 9 = .ok (.if_icmp .ge 30, 3) := by decide +kernel
theorem dX3_sizeOf_12 : decode cX3_sizeOf 12 = .ok (.iload_n 1, 1) := by decide +kernel
theorem dX3_sizeOf_13 : decode cX3_sizeOf 13 = .ok (.aload_n 0, 1) := by decide +kernel
theorem dX3_sizeOf_14 : decode cX3_sizeOf 14 = .ok (.aload_n 0, 1) := by decide +kernel
theorem dX3_sizeOf_15 : decode cX3_sizeOf 15 = .ok (.getfield 7, 3) := by decide +kernel
theorem dX3_sizeOf_18 : decode cX3_sizeOf 18 = .ok (.iload_n 2, 1) := by decide +kernel
theorem dX3_sizeOf_19 : decode cX3_sizeOf 19 = .ok (.iaload, 1) := by decide +kernel
theorem dX3_sizeOf_20 : decode cX3_sizeOf 20 = .ok (.invokevirtual 86, 3) := by decide +kernel
theorem dX3_sizeOf_23 : decode cX3_sizeOf 23 = .ok (.ifCond .eq 7, 3) := by decide +kernel
theorem dX3_sizeOf_26 : decode cX3_sizeOf 26 = .ok (.iconst 0, 1) := by decide +kernel
theorem dX3_sizeOf_27 : decode cX3_sizeOf 27 = .ok (.goto 4, 3) := by decide +kernel
theorem dX3_sizeOf_30 : decode cX3_sizeOf 30 = .ok (.iconst 1, 1) := by decide +kernel
theorem dX3_sizeOf_31 : decode cX3_sizeOf 31 = .ok (.iadd, 1) := by decide +kernel
theorem dX3_sizeOf_32 : decode cX3_sizeOf 32 = .ok (.istore_n 1, 1) := by decide +kernel
theorem dX3_sizeOf_33 : decode cX3_sizeOf 33 = .ok (.iinc 2 1, 3) := by decide +kernel
theorem dX3_sizeOf_36 : decode cX3_sizeOf 36 = .ok (.goto (-32), 3) := by decide +kernel
theorem dX3_sizeOf_39 : decode cX3_sizeOf 39 = .ok (.iload_n 1, 1) := by decide +kernel
theorem dX3_sizeOf_40 : decode cX3_sizeOf 40 = .ok (.ireturn, 1) := by decide +kernel
theorem dX3_size_0 : decode cX3_size 0 = .ok (.aload_n 0, 1) := by decide +kernel
theorem dX3_size_1 : decode cX3_size 1 = .ok (.iconst 0, 1) := by decide +kernel
theorem dX3_size_2 : decode cX3_size 2 = .ok (.putfield 40, 3) := by decide +kernel
theorem dX3_size_5 : decode cX3_size 5 = .ok (.aload_n 0, 1) := by decide +kernel
theorem dX3_size_6 : decode cX3_size 6 = .ok (.invokevirtual 89, 3) := by decide +kernel
theorem dX3_size_9 : decode cX3_size 9 = .ok (.ireturn, 1) := by decide +kernel
theorem dX3_idStanding_0 : decode cX3_idStanding 0 = .ok (.aload_n 0, 1) := by decide +kernel
theorem dX3_idStanding_1 : decode cX3_idStanding 1 = .ok (.iload_n 1, 1) := by decide +kernel
theorem dX3_idStanding_2 : decode cX3_idStanding 2 = .ok (.invokevirtual 76, 3) := by decide +kernel
theorem dX3_idStanding_5 : decode cX3_idStanding 5 = .ok (.istore_n 2, 1) := by decide +kernel
theorem dX3_idStanding_6 : decode cX3_idStanding 6 = .ok (.iload_n 2, 1) := by decide +kernel
theorem dX3_idStanding_7 : decode cX3_idStanding 7 = .ok (.ifCond .ge 7, 3) := by decide +kernel
theorem dX3_idStanding_10 : decode cX3_idStanding 10 = .ok (.iload_n 1, 1) := by decide +kernel
theorem dX3_idStanding_11 : decode cX3_idStanding 11 = .ok (.goto 9, 3) := by decide +kernel
theorem dX3_idStanding_14 : decode cX3_idStanding 14 = .ok (.aload_n 0, 1) := by decide +kernel
theorem dX3_idStanding_15 : decode cX3_idStanding 15 = .ok (.getfield 22, 3) := by decide +kernel
theorem dX3_idStanding_18 : decode cX3_idStanding 18 = .ok (.iload_n 2, 1) := by decide +kernel
theorem dX3_idStanding_19 : decode cX3_idStanding 19 = .ok (.iaload, 1) := by decide +kernel
theorem dX3_idStanding_20 : decode cX3_idStanding 20 = .ok (.ireturn, 1) := by decide +kernel
theorem dX3_at_0 : decode cX3_at 0 = .ok (.aload_n 0, 1) := by decide +kernel
theorem dX3_at_1 : decode cX3_at 1 = .ok (.iload_n 1, 1) := by decide +kernel
theorem dX3_at_2 : decode cX3_at 2 = .ok (.invokevirtual 93, 3) := by decide +kernel
theorem dX3_at_5 : decode cX3_at 5 = .ok (.istore_n 3, 1) := by decide +kernel
theorem dX3_at_6 : decode cX3_at 6 = .ok (.aload_n 0, 1) := by decide +kernel
theorem dX3_at_7 : decode cX3_at 7 = .ok (.iload_n 3, 1) := by decide +kernel
theorem dX3_at_8 : decode cX3_at 8 = .ok (.ifCond .lt 12, 3) := by decide +kernel
theorem dX3_at_11 : decode cX3_at 11 = .ok (.iload_n 2, 1) := by decide +kernel
theorem dX3_at_12 : decode cX3_at 12 = .ok (.ifCond .lt 8, 3) := by decide +kernel
theorem dX3_at_15 : decode cX3_at 15 = .ok (.iload_n 2, 1) := by decide +kernel
theorem dX3_at_16 : decode cX3_at 16 = .ok (.iconst 3, 1) := by decide +kernel
theorem dX3_at_17 : decode cX3_at 17 = .ok (.if_icmp .le 7, 3) := by decide +kernel
theorem dX3_at_20 : decode cX3_at 20 = .ok (.iconst 1, 1) := by decide +kernel
theorem dX3_at_21 : decode cX3_at 21 = .ok (.goto 4, 3) := by decide +kernel
theorem dX3_at_24 : decode cX3_at 24 = .ok (.iconst 0, 1) := by decide +kernel
theorem dX3_at_25 : decode cX3_at 25 = .ok (.putfield 40, 3) := by decide +kernel
theorem dX3_at_28 : decode cX3_at 28 = .ok (.aload_n 0, 1) := by decide +kernel
theorem dX3_at_29 : decode cX3_at 29 = .ok (.getfield 40, 3) := by decide +kernel
theorem dX3_at_32 : decode cX3_at 32 = .ok (.ifCond .le 7, 3) := by decide +kernel
theorem dX3_at_35 : decode cX3_at 35 = .ok (.iconst 0, 1) := by decide +kernel
theorem dX3_at_36 : decode cX3_at 36 = .ok (.goto 42, 3) := by decide +kernel
theorem dX3_at_39 : decode cX3_at 39 = .ok (.iload_n 2, 1) := by decide +kernel
theorem dX3_at_40 : decode cX3_at 40 = .ok (.ifCond .ne 7, 3) := by decide +kernel
theorem dX3_at_43 : decode cX3_at 43 = .ok (.iload_n 3, 1) := by decide +kernel
theorem dX3_at_44 : decode cX3_at 44 = .ok (.goto 34, 3) := by decide +kernel
theorem dX3_at_47 : decode cX3_at 47 = .ok (.iload_n 2, 1) := by decide +kernel
theorem dX3_at_48 : decode cX3_at 48 = .ok (.iconst 1, 1) := by decide +kernel
theorem dX3_at_49 : decode cX3_at 49 = .ok (.if_icmp .ne 11, 3) := by decide +kernel
theorem dX3_at_52 : decode cX3_at 52 = .ok (.aload_n 0, 1) := by decide +kernel
theorem dX3_at_53 : decode cX3_at 53 = .ok (.iload_n 3, 1) := by decide +kernel
theorem dX3_at_54 : decode cX3_at 54 = .ok (.invokevirtual 96, 3) := by decide +kernel
theorem dX3_at_57 : decode cX3_at 57 = .ok (.goto 21, 3) := by decide +kernel
theorem dX3_at_60 : decode cX3_at 60 = .ok (.iload_n 2, 1) := by decide +kernel
theorem dX3_at_61 : decode cX3_at 61 = .ok (.iconst 2, 1) := by decide +kernel
theorem dX3_at_62 : decode cX3_at 62 = .ok (.if_icmp .ne 11, 3) := by decide +kernel
theorem dX3_at_65 : decode cX3_at 65 = .ok (.aload_n 0, 1) := by decide +kernel
theorem dX3_at_66 : decode cX3_at 66 = .ok (.iload_n 3, 1) := by decide +kernel
theorem dX3_at_67 : decode cX3_at 67 = .ok (.invokevirtual 99, 3) := by decide +kernel
theorem dX3_at_70 : decode cX3_at 70 = .ok (.goto 8, 3) := by decide +kernel
theorem dX3_at_73 : decode cX3_at 73 = .ok (.aload_n 0, 1) := by decide +kernel
theorem dX3_at_74 : decode cX3_at 74 = .ok (.iload_n 3, 1) := by decide +kernel
theorem dX3_at_75 : decode cX3_at 75 = .ok (.invokevirtual 102, 3) := by decide +kernel
theorem dX3_at_78 : decode cX3_at 78 = .ok (.ireturn, 1) := by decide +kernel
theorem dX3_aheadOf_0 : decode cX3_aheadOf 0 = .ok (.aload_n 0, 1) := by decide +kernel
theorem dX3_aheadOf_1 : decode cX3_aheadOf 1 = .ok (.invokevirtual 83, 3) := by decide +kernel
theorem dX3_aheadOf_4 : decode cX3_aheadOf 4 = .ok (.iconst 0, 1) := by decide +kernel
theorem dX3_aheadOf_5 : decode cX3_aheadOf 5 = .ok (.istore_n 2, 1) := by decide +kernel
theorem dX3_aheadOf_6 : decode cX3_aheadOf 6 = .ok (.iconst 0, 1) := by decide +kernel
theorem dX3_aheadOf_7 : decode cX3_aheadOf 7 = .ok (.istore_n 3, 1) := by decide +kernel
theorem dX3_aheadOf_8 : decode cX3_aheadOf 8 = .ok (.aload_n 0, 1) := by decide +kernel
theorem dX3_aheadOf_9 : decode cX3_aheadOf 9 = .ok (.getfield 34, 3) := by decide +kernel
theorem dX3_aheadOf_12 : decode cX3_aheadOf 12 = .ok (.iload_n 3, 1) := by decide +kernel
theorem dX3_aheadOf_13 : decode cX3_aheadOf 13 = .ok (.iaload, 1) := by decide +kernel
theorem dX3_aheadOf_14 : decode cX3_aheadOf 14 = .ok (.iload_n 1, 1) := by decide +kernel
theorem dX3_aheadOf_15 : decode cX3_aheadOf 15 = .ok (.if_icmp .eq 30, 3) := by decide +kernel
theorem dX3_aheadOf_18 : decode cX3_aheadOf 18 = .ok (.iload_n 2, 1) := by decide +kernel
theorem dX3_aheadOf_19 : decode cX3_aheadOf 19 = .ok (.aload_n 0, 1) := by decide +kernel
theorem dX3_aheadOf_20 : decode cX3_aheadOf 20 = .ok (.aload_n 0, 1) := by decide +kernel
theorem dX3_aheadOf_21 : decode cX3_aheadOf 21 = .ok (.getfield 34, 3) := by decide +kernel
theorem dX3_aheadOf_24 : decode cX3_aheadOf 24 = .ok (.iload_n 3, 1) := by decide +kernel
theorem dX3_aheadOf_25 : decode cX3_aheadOf 25 = .ok (.iaload, 1) := by decide +kernel
theorem dX3_aheadOf_26 : decode cX3_aheadOf 26 = .ok (.invokevirtual 86, 3) := by decide +kernel
theorem dX3_aheadOf_29 : decode cX3_aheadOf 29 = .ok (.ifCond .eq 7, 3) := by decide +kernel
theorem dX3_aheadOf_32 : decode cX3_aheadOf 32 = .ok (.iconst 0, 1) := by decide +kernel
theorem dX3_aheadOf_33 : decode cX3_aheadOf 33 = .ok (.goto 4, 3) := by decide +kernel
theorem dX3_aheadOf_36 : decode cX3_aheadOf 36 = .ok (.iconst 1, 1) := by decide +kernel
theorem dX3_aheadOf_37 : decode cX3_aheadOf 37 = .ok (.iadd, 1) := by decide +kernel
theorem dX3_aheadOf_38 : decode cX3_aheadOf 38 = .ok (.istore_n 2, 1) := by decide +kernel
theorem dX3_aheadOf_39 : decode cX3_aheadOf 39 = .ok (.iinc 3 1, 3) := by decide +kernel
theorem dX3_aheadOf_42 : decode cX3_aheadOf 42 = .ok (.goto (-34), 3) := by decide +kernel
theorem dX3_aheadOf_45 : decode cX3_aheadOf 45 = .ok (.iload_n 2, 1) := by decide +kernel
theorem dX3_aheadOf_46 : decode cX3_aheadOf 46 = .ok (.ireturn, 1) := by decide +kernel
theorem dX3_place_0 : decode cX3_place 0 = .ok (.aload_n 0, 1) := by decide +kernel
theorem dX3_place_1 : decode cX3_place 1 = .ok (.iconst 0, 1) := by decide +kernel
theorem dX3_place_2 : decode cX3_place 2 = .ok (.putfield 40, 3) := by decide +kernel
theorem dX3_place_5 : decode cX3_place 5 = .ok (.aload_n 0, 1) := by decide +kernel
theorem dX3_place_6 : decode cX3_place 6 = .ok (.iload_n 1, 1) := by decide +kernel
theorem dX3_place_7 : decode cX3_place 7 = .ok (.invokevirtual 48, 3) := by decide +kernel
theorem dX3_place_10 : decode cX3_place 10 = .ok (.ifCond .lt 11, 3) := by decide +kernel
theorem dX3_place_13 : decode cX3_place 13 = .ok (.aload_n 0, 1) := by decide +kernel
theorem dX3_place_14 : decode cX3_place 14 = .ok (.iload_n 1, 1) := by decide +kernel
theorem dX3_place_15 : decode cX3_place 15 = .ok (.invokevirtual 86, 3) := by decide +kernel
theorem dX3_place_18 : decode cX3_place 18 = .ok (.ifCond .eq 7, 3) := by decide +kernel
theorem dX3_place_21 : decode cX3_place 21 = .ok (.iconst (-1), 1) := by decide +kernel
theorem dX3_place_22 : decode cX3_place 22 = .ok (.goto 8, 3) := by decide +kernel
theorem dX3_place_25 : decode cX3_place 25 = .ok (.aload_n 0, 1) := by decide +kernel
theorem dX3_place_26 : decode cX3_place 26 = .ok (.iload_n 1, 1) := by decide +kernel
theorem dX3_place_27 : decode cX3_place 27 = .ok (.invokevirtual 105, 3) := by decide +kernel
theorem dX3_place_30 : decode cX3_place 30 = .ok (.ireturn, 1) := by decide +kernel
theorem dX3_ahead_0 : decode cX3_ahead 0 = .ok (.aload_n 0, 1) := by decide +kernel
theorem dX3_ahead_1 : decode cX3_ahead 1 = .ok (.aload_n 0, 1) := by decide +kernel
theorem dX3_ahead_2 : decode cX3_ahead 2 = .ok (.iload_n 1, 1) := by decide +kernel
theorem dX3_ahead_3 : decode cX3_ahead 3 = .ok (.invokevirtual 48, 3) := by decide +kernel
theorem dX3_ahead_6 : decode cX3_ahead 6 = .ok (.ifCond .ge 7, 3) := by decide +kernel
theorem dX3_ahead_9 : decode cX3_ahead 9 = .ok (.iconst 1, 1) := by decide +kernel
theorem dX3_ahead_10 : decode cX3_ahead 10 = .ok (.goto 4, 3) := by decide +kernel
theorem dX3_ahead_13 : decode cX3_ahead 13 = .ok (.iconst 0, 1) := by decide +kernel
theorem dX3_ahead_14 : decode cX3_ahead 14 = .ok (.putfield 40, 3) := by decide +kernel
theorem dX3_ahead_17 : decode cX3_ahead 17 = .ok (.aload_n 0, 1) := by decide +kernel
theorem dX3_ahead_18 : decode cX3_ahead 18 = .ok (.getfield 40, 3) := by decide +kernel
theorem dX3_ahead_21 : decode cX3_ahead 21 = .ok (.ifCond .le 7, 3) := by decide +kernel
theorem dX3_ahead_24 : decode cX3_ahead 24 = .ok (.iconst 0, 1) := by decide +kernel
theorem dX3_ahead_25 : decode cX3_ahead 25 = .ok (.goto 8, 3) := by decide +kernel
theorem dX3_ahead_28 : decode cX3_ahead 28 = .ok (.aload_n 0, 1) := by decide +kernel
theorem dX3_ahead_29 : decode cX3_ahead 29 = .ok (.iload_n 1, 1) := by decide +kernel
theorem dX3_ahead_30 : decode cX3_ahead 30 = .ok (.invokevirtual 105, 3) := by decide +kernel
theorem dX3_ahead_33 : decode cX3_ahead 33 = .ok (.ireturn, 1) := by decide +kernel
theorem dX3_rowOf_0 : decode cX3_rowOf 0 = .ok (.iconst 0, 1) := by decide +kernel
theorem dX3_rowOf_1 : decode cX3_rowOf 1 = .ok (.istore_n 2, 1) := by decide +kernel
theorem dX3_rowOf_2 : decode cX3_rowOf 2 = .ok (.iconst 0, 1) := by decide +kernel
theorem dX3_rowOf_3 : decode cX3_rowOf 3 = .ok (.istore_n 3, 1) := by decide +kernel
theorem dX3_rowOf_4 : decode cX3_rowOf 4 = .ok (.iload_n 3, 1) := by decide +kernel
theorem dX3_rowOf_5 : decode cX3_rowOf 5 = .ok (.aload_n 0, 1) := by decide +kernel
theorem dX3_rowOf_6 : decode cX3_rowOf 6 = .ok (.getfield 44, 3) := by decide +kernel
theorem dX3_rowOf_9 : decode cX3_rowOf 9 = .ok (.if_icmp .ge 25, 3) := by decide +kernel
theorem dX3_rowOf_12 : decode cX3_rowOf 12 = .ok (.aload_n 0, 1) := by decide +kernel
theorem dX3_rowOf_13 : decode cX3_rowOf 13 = .ok (.getfield 34, 3) := by decide +kernel
theorem dX3_rowOf_16 : decode cX3_rowOf 16 = .ok (.iload_n 3, 1) := by decide +kernel
theorem dX3_rowOf_17 : decode cX3_rowOf 17 = .ok (.iaload, 1) := by decide +kernel
theorem dX3_rowOf_18 : decode cX3_rowOf 18 = .ok (.iload_n 1, 1) := by decide +kernel
theorem dX3_rowOf_19 : decode cX3_rowOf 19 = .ok (.if_icmp .ne 7, 3) := by decide +kernel
theorem dX3_rowOf_22 : decode cX3_rowOf 22 = .ok (.iload_n 3, 1) := by decide +kernel
theorem dX3_rowOf_23 : decode cX3_rowOf 23 = .ok (.goto 4, 3) := by decide +kernel
theorem dX3_rowOf_26 : decode cX3_rowOf 26 = .ok (.iload_n 2, 1) := by decide +kernel
theorem dX3_rowOf_27 : decode cX3_rowOf 27 = .ok (.istore_n 2, 1) := by decide +kernel
theorem dX3_rowOf_28 : decode cX3_rowOf 28 = .ok (.iinc 3 1, 3) := by decide +kernel
theorem dX3_rowOf_31 : decode cX3_rowOf 31 = .ok (.goto (-27), 3) := by decide +kernel
theorem dX3_rowOf_34 : decode cX3_rowOf 34 = .ok (.iload_n 2, 1) := by decide +kernel
theorem dX3_rowOf_35 : decode cX3_rowOf 35 = .ok (.ireturn, 1) := by decide +kernel
theorem dX3_before_0 : decode cX3_before 0 = .ok (.aload_n 0, 1) := by decide +kernel
theorem dX3_before_1 : decode cX3_before 1 = .ok (.aload_n 0, 1) := by decide +kernel
theorem dX3_before_2 : decode cX3_before 2 = .ok (.iload_n 1, 1) := by decide +kernel
theorem dX3_before_3 : decode cX3_before 3 = .ok (.invokevirtual 48, 3) := by decide +kernel
theorem dX3_before_6 : decode cX3_before 6 = .ok (.ifCond .lt 11, 3) := by decide +kernel
theorem dX3_before_9 : decode cX3_before 9 = .ok (.aload_n 0, 1) := by decide +kernel
theorem dX3_before_10 : decode cX3_before 10 = .ok (.iload_n 2, 1) := by decide +kernel
theorem dX3_before_11 : decode cX3_before 11 = .ok (.invokevirtual 48, 3) := by decide +kernel
theorem dX3_before_14 : decode cX3_before 14 = .ok (.ifCond .ge 7, 3) := by decide +kernel
theorem dX3_before_17 : decode cX3_before 17 = .ok (.iconst 1, 1) := by decide +kernel
theorem dX3_before_18 : decode cX3_before 18 = .ok (.goto 4, 3) := by decide +kernel
theorem dX3_before_21 : decode cX3_before 21 = .ok (.iconst 0, 1) := by decide +kernel
theorem dX3_before_22 : decode cX3_before 22 = .ok (.putfield 40, 3) := by decide +kernel
theorem dX3_before_25 : decode cX3_before 25 = .ok (.aload_n 0, 1) := by decide +kernel
theorem dX3_before_26 : decode cX3_before 26 = .ok (.getfield 40, 3) := by decide +kernel
theorem dX3_before_29 : decode cX3_before 29 = .ok (.ifCond .le 5, 3) := by decide +kernel
theorem dX3_before_32 : decode cX3_before 32 = .ok (.iconst 0, 1) := by decide +kernel
theorem dX3_before_33 : decode cX3_before 33 = .ok (.ireturn, 1) := by decide +kernel
theorem dX3_before_34 : decode cX3_before 34 = .ok (.aload_n 0, 1) := by decide +kernel
theorem dX3_before_35 : decode cX3_before 35 = .ok (.invokevirtual 83, 3) := by decide +kernel
theorem dX3_before_38 : decode cX3_before 38 = .ok (.aload_n 0, 1) := by decide +kernel
theorem dX3_before_39 : decode cX3_before 39 = .ok (.iload_n 1, 1) := by decide +kernel
theorem dX3_before_40 : decode cX3_before 40 = .ok (.invokevirtual 108, 3) := by decide +kernel
theorem dX3_before_43 : decode cX3_before 43 = .ok (.aload_n 0, 1) := by decide +kernel
theorem dX3_before_44 : decode cX3_before 44 = .ok (.iload_n 2, 1) := by decide +kernel
theorem dX3_before_45 : decode cX3_before 45 = .ok (.invokevirtual 108, 3) := by decide +kernel
theorem dX3_before_48 : decode cX3_before 48 = .ok (.if_icmp .ge 7, 3) := by decide +kernel
theorem dX3_before_51 : decode cX3_before 51 = .ok (.iconst 1, 1) := by decide +kernel
theorem dX3_before_52 : decode cX3_before 52 = .ok (.goto 4, 3) := by decide +kernel
theorem dX3_before_55 : decode cX3_before 55 = .ok (.iconst 0, 1) := by decide +kernel
theorem dX3_before_56 : decode cX3_before 56 = .ok (.ireturn, 1) := by decide +kernel
theorem dX3_row_0 : decode cX3_row 0 = .ok (.aload_n 0, 1) := by decide +kernel
theorem dX3_row_1 : decode cX3_row 1 = .ok (.iload_n 1, 1) := by decide +kernel
theorem dX3_row_2 : decode cX3_row 2 = .ok (.ifCond .lt 11, 3) := by decide +kernel
theorem dX3_row_5 : decode cX3_row 5 = .ok (.iload_n 1, 1) := by decide +kernel
theorem dX3_row_6 : decode cX3_row 6 = .ok (.aload_n 0, 1) := by decide +kernel
theorem dX3_row_7 : decode cX3_row 7 = .ok (.getfield 44, 3) := by decide +kernel
theorem dX3_row_10 : decode cX3_row 10 = .ok (.if_icmp .lt 7, 3) := by decide +kernel
theorem dX3_row_13 : decode cX3_row 13 = .ok (.iconst 1, 1) := by decide +kernel
theorem dX3_row_14 : decode cX3_row 14 = .ok (.goto 4, 3) := by decide +kernel
theorem dX3_row_17 : decode cX3_row 17 = .ok (.iconst 0, 1) := by decide +kernel
theorem dX3_row_18 : decode cX3_row 18 = .ok (.putfield 40, 3) := by decide +kernel
theorem dX3_row_21 : decode cX3_row 21 = .ok (.aload_n 0, 1) := by decide +kernel
theorem dX3_row_22 : decode cX3_row 22 = .ok (.getfield 40, 3) := by decide +kernel
theorem dX3_row_25 : decode cX3_row 25 = .ok (.ifCond .le 5, 3) := by decide +kernel
theorem dX3_row_28 : decode cX3_row 28 = .ok (.iconst 0, 1) := by decide +kernel
theorem dX3_row_29 : decode cX3_row 29 = .ok (.ireturn, 1) := by decide +kernel
theorem dX3_row_30 : decode cX3_row 30 = .ok (.aload_n 0, 1) := by decide +kernel
theorem dX3_row_31 : decode cX3_row 31 = .ok (.invokevirtual 83, 3) := by decide +kernel
theorem dX3_row_34 : decode cX3_row 34 = .ok (.aload_n 0, 1) := by decide +kernel
theorem dX3_row_35 : decode cX3_row 35 = .ok (.aload_n 0, 1) := by decide +kernel
theorem dX3_row_36 : decode cX3_row 36 = .ok (.getfield 34, 3) := by decide +kernel
theorem dX3_row_39 : decode cX3_row 39 = .ok (.iload_n 1, 1) := by decide +kernel
theorem dX3_row_40 : decode cX3_row 40 = .ok (.iaload, 1) := by decide +kernel
theorem dX3_row_41 : decode cX3_row 41 = .ok (.invokevirtual 86, 3) := by decide +kernel
theorem dX3_row_44 : decode cX3_row 44 = .ok (.ifCond .eq 13, 3) := by decide +kernel
theorem dX3_row_47 : decode cX3_row 47 = .ok (.aload_n 0, 1) := by decide +kernel
theorem dX3_row_48 : decode cX3_row 48 = .ok (.getfield 34, 3) := by decide +kernel
theorem dX3_row_51 : decode cX3_row 51 = .ok (.iload_n 1, 1) := by decide +kernel
theorem dX3_row_52 : decode cX3_row 52 = .ok (.iaload, 1) := by decide +kernel
theorem dX3_row_53 : decode cX3_row 53 = .ok (.ineg, 1) := by decide +kernel
theorem dX3_row_54 : decode cX3_row 54 = .ok (.goto 9, 3) := by decide +kernel
theorem dX3_row_57 : decode cX3_row 57 = .ok (.aload_n 0, 1) := by decide +kernel
theorem dX3_row_58 : decode cX3_row 58 = .ok (.getfield 34, 3) := by decide +kernel
theorem dX3_row_61 : decode cX3_row 61 = .ok (.iload_n 1, 1) := by decide +kernel
theorem dX3_row_62 : decode cX3_row 62 = .ok (.iaload, 1) := by decide +kernel
theorem dX3_row_63 : decode cX3_row 63 = .ok (.ireturn, 1) := by decide +kernel
theorem dX3_counted_0 : decode cX3_counted 0 = .ok (.iconst 0, 1) := by decide +kernel
theorem dX3_counted_1 : decode cX3_counted 1 = .ok (.istore_n 3, 1) := by decide +kernel
theorem dX3_counted_2 : decode cX3_counted 2 = .ok (.iconst 0, 1) := by decide +kernel
theorem dX3_counted_3 : decode cX3_counted 3 = .ok (.istore 4, 2) := by decide +kernel
theorem dX3_counted_5 : decode cX3_counted 5 = .ok (.iload 4, 2) := by decide +kernel
theorem dX3_counted_7 : decode cX3_counted 7 = .ok (.aload_n 0, 1) := by decide +kernel
theorem dX3_counted_8 : decode cX3_counted 8 = .ok (.getfield 44, 3) := by decide +kernel
theorem dX3_counted_11 : decode cX3_counted 11 = .ok (.if_icmp .ge 33, 3) := by decide +kernel
theorem dX3_counted_14 : decode cX3_counted 14 = .ok (.iload_n 2, 1) := by decide +kernel
theorem dX3_counted_15 : decode cX3_counted 15 = .ok (.iconst 1, 1) := by decide +kernel
theorem dX3_counted_16 : decode cX3_counted 16 = .ok (.if_icmp .ne 28, 3) := by decide +kernel
theorem dX3_counted_19 : decode cX3_counted 19 = .ok (.iload_n 3, 1) := by decide +kernel
theorem dX3_counted_20 : decode cX3_counted 20 = .ok (.aload_n 0, 1) := by decide +kernel
theorem dX3_counted_21 : decode cX3_counted 21 = .ok (.getfield 13, 3) := by decide +kernel
theorem dX3_counted_24 : decode cX3_counted 24 = .ok (.iload 4, 2) := by decide +kernel
theorem dX3_counted_26 : decode cX3_counted 26 = .ok (.iaload, 1) := by decide +kernel
theorem dX3_counted_27 : decode cX3_counted 27 = .ok (.iload_n 1, 1) := by decide +kernel
theorem dX3_counted_28 : decode cX3_counted 28 = .ok (.if_icmp .ne 7, 3) := by decide +kernel
theorem dX3_counted_31 : decode cX3_counted 31 = .ok (.iconst 1, 1) := by decide +kernel
theorem dX3_counted_32 : decode cX3_counted 32 = .ok (.goto 4, 3) := by decide +kernel
theorem dX3_counted_35 : decode cX3_counted 35 = .ok (.iconst 0, 1) := by decide +kernel
theorem dX3_counted_36 : decode cX3_counted 36 = .ok (.iadd, 1) := by decide +kernel
theorem dX3_counted_37 : decode cX3_counted 37 = .ok (.istore_n 3, 1) := by decide +kernel
theorem dX3_counted_38 : decode cX3_counted 38 = .ok (.iinc 4 1, 3) := by decide +kernel
theorem dX3_counted_41 : decode cX3_counted 41 = .ok (.goto (-36), 3) := by decide +kernel
theorem dX3_counted_44 : decode cX3_counted 44 = .ok (.iconst 0, 1) := by decide +kernel
theorem dX3_counted_45 : decode cX3_counted 45 = .ok (.istore 4, 2) := by decide +kernel
theorem dX3_counted_47 : decode cX3_counted 47 = .ok (.iload 4, 2) := by decide +kernel
theorem dX3_counted_49 : decode cX3_counted 49 = .ok (.aload_n 0, 1) := by decide +kernel
theorem dX3_counted_50 : decode cX3_counted 50 = .ok (.getfield 52, 3) := by decide +kernel
theorem dX3_counted_53 : decode cX3_counted 53 = .ok (.if_icmp .ge 61, 3) := by decide +kernel
theorem dX3_counted_56 : decode cX3_counted 56 = .ok (.iload_n 2, 1) := by decide +kernel
theorem dX3_counted_57 : decode cX3_counted 57 = .ok (.iconst 1, 1) := by decide +kernel
theorem dX3_counted_58 : decode cX3_counted 58 = .ok (.if_icmp .le 56, 3) := by decide +kernel
theorem dX3_counted_61 : decode cX3_counted 61 = .ok (.iload_n 3, 1) := by decide +kernel
theorem dX3_counted_62 : decode cX3_counted 62 = .ok (.aload_n 0, 1) := by decide +kernel
theorem dX3_counted_63 : decode cX3_counted 63 = .ok (.getfield 25, 3) := by decide +kernel
theorem dX3_counted_66 : decode cX3_counted 66 = .ok (.iload 4, 2) := by decide +kernel
theorem dX3_counted_68 : decode cX3_counted 68 = .ok (.iaload, 1) := by decide +kernel
theorem dX3_counted_69 : decode cX3_counted 69 = .ok (.iload_n 1, 1) := by decide +kernel
theorem dX3_counted_70 : decode cX3_counted 70 = .ok (.if_icmp .ne 35, 3) := by decide +kernel
theorem dX3_counted_73 : decode cX3_counted 73 = .ok (.aload_n 0, 1) := by decide +kernel
theorem dX3_counted_74 : decode cX3_counted 74 = .ok (.getfield 28, 3) := by decide +kernel
theorem dX3_counted_77 : decode cX3_counted 77 = .ok (.iload 4, 2) := by decide +kernel
theorem dX3_counted_79 : decode cX3_counted 79 = .ok (.iaload, 1) := by decide +kernel
theorem dX3_counted_80 : decode cX3_counted 80 = .ok (.ifCond .ge 7, 3) := by decide +kernel
theorem dX3_counted_83 : decode cX3_counted 83 = .ok (.iconst 1, 1) := by decide +kernel
theorem dX3_counted_84 : decode cX3_counted 84 = .ok (.goto 4, 3) := by decide +kernel
theorem dX3_counted_87 : decode cX3_counted 87 = .ok (.iconst 0, 1) := by decide +kernel
theorem dX3_counted_88 : decode cX3_counted 88 = .ok (.iload_n 2, 1) := by decide +kernel
theorem dX3_counted_89 : decode cX3_counted 89 = .ok (.iconst 3, 1) := by decide +kernel
theorem dX3_counted_90 : decode cX3_counted 90 = .ok (.if_icmp .ne 7, 3) := by decide +kernel
theorem dX3_counted_93 : decode cX3_counted 93 = .ok (.iconst 1, 1) := by decide +kernel
theorem dX3_counted_94 : decode cX3_counted 94 = .ok (.goto 4, 3) := by decide +kernel
theorem dX3_counted_97 : decode cX3_counted 97 = .ok (.iconst 0, 1) := by decide +kernel
theorem dX3_counted_98 : decode cX3_counted 98 = .ok (.if_icmp .ne 7, 3) := by decide +kernel
theorem dX3_counted_101 : decode cX3_counted 101 = .ok (.iconst 1, 1) := by decide +kernel
theorem dX3_counted_102 : decode cX3_counted 102 = .ok (.goto 4, 3) := by decide +kernel
theorem dX3_counted_105 : decode cX3_counted 105 = .ok (.iconst 0, 1) := by decide +kernel
theorem dX3_counted_106 : decode cX3_counted 106 = .ok (.iadd, 1) := by decide +kernel
theorem dX3_counted_107 : decode cX3_counted 107 = .ok (.istore_n 3, 1) := by decide +kernel
theorem dX3_counted_108 : decode cX3_counted 108 = .ok (.iinc 4 1, 3) := by decide +kernel
theorem dX3_counted_111 : decode cX3_counted 111 = .ok (.goto (-64), 3) := by decide +kernel
theorem dX3_counted_114 : decode cX3_counted 114 = .ok (.iload_n 3, 1) := by decide +kernel
theorem dX3_counted_115 : decode cX3_counted 115 = .ok (.ireturn, 1) := by decide +kernel
theorem dX3_of_0 : decode cX3_of 0 = .ok (.aload_n 0, 1) := by decide +kernel
theorem dX3_of_1 : decode cX3_of 1 = .ok (.iload_n 1, 1) := by decide +kernel
theorem dX3_of_2 : decode cX3_of 2 = .ok (.invokevirtual 48, 3) := by decide +kernel
theorem dX3_of_5 : decode cX3_of 5 = .ok (.istore_n 3, 1) := by decide +kernel
theorem dX3_of_6 : decode cX3_of 6 = .ok (.aload_n 0, 1) := by decide +kernel
theorem dX3_of_7 : decode cX3_of 7 = .ok (.iload_n 2, 1) := by decide +kernel
theorem dX3_of_8 : decode cX3_of 8 = .ok (.ifCond .lt 26, 3) := by decide +kernel
theorem dX3_of_11 : decode cX3_of 11 = .ok (.iload_n 2, 1) := by decide +kernel
theorem dX3_of_12 : decode cX3_of 12 = .ok (.bipush 6, 2) := by decide +kernel
theorem dX3_of_14 : decode cX3_of 14 = .ok (.if_icmp .gt 20, 3) := by decide +kernel
theorem dX3_of_17 : decode cX3_of 17 = .ok (.iload_n 3, 1) := by decide +kernel
theorem dX3_of_18 : decode cX3_of 18 = .ok (.ifCond .ge 12, 3) := by decide +kernel
theorem dX3_of_21 : decode cX3_of 21 = .ok (.iload_n 1, 1) := by decide +kernel
theorem dX3_of_22 : decode cX3_of 22 = .ok (.ifCond .ne 12, 3) := by decide +kernel
theorem dX3_of_25 : decode cX3_of 25 = .ok (.iload_n 2, 1) := by decide +kernel
theorem dX3_of_26 : decode cX3_of 26 = .ok (.iconst 2, 1) := by decide +kernel
theorem dX3_of_27 : decode cX3_of 27 = .ok (.if_icmp .ge 7, 3) := by decide +kernel
theorem dX3_of_30 : decode cX3_of 30 = .ok (.iconst 0, 1) := by decide +kernel
theorem dX3_of_31 : decode cX3_of 31 = .ok (.goto 4, 3) := by decide +kernel
theorem dX3_of_34 : decode cX3_of 34 = .ok (.iconst 1, 1) := by decide +kernel
theorem dX3_of_35 : decode cX3_of 35 = .ok (.putfield 40, 3) := by decide +kernel
theorem dX3_of_38 : decode cX3_of 38 = .ok (.aload_n 0, 1) := by decide +kernel
theorem dX3_of_39 : decode cX3_of 39 = .ok (.getfield 40, 3) := by decide +kernel
theorem dX3_of_42 : decode cX3_of 42 = .ok (.ifCond .le 5, 3) := by decide +kernel
theorem dX3_of_45 : decode cX3_of 45 = .ok (.iconst 0, 1) := by decide +kernel
theorem dX3_of_46 : decode cX3_of 46 = .ok (.ireturn, 1) := by decide +kernel
theorem dX3_of_47 : decode cX3_of 47 = .ok (.iload_n 2, 1) := by decide +kernel
theorem dX3_of_48 : decode cX3_of 48 = .ok (.tableswitch 74 0 5 #[40, 55, 55, 55, 62, 68], 40) := by decide +kernel
theorem dX3_of_88 : decode cX3_of 88 = .ok (.iload_n 1, 1) := by decide +kernel
theorem dX3_of_89 : decode cX3_of 89 = .ok (.ifCond .ne 7, 3) := by decide +kernel
theorem dX3_of_92 : decode cX3_of 92 = .ok (.iconst 0, 1) := by decide +kernel
theorem dX3_of_93 : decode cX3_of 93 = .ok (.goto 9, 3) := by decide +kernel
theorem dX3_of_96 : decode cX3_of 96 = .ok (.aload_n 0, 1) := by decide +kernel
theorem dX3_of_97 : decode cX3_of 97 = .ok (.getfield 13, 3) := by decide +kernel
theorem dX3_of_100 : decode cX3_of 100 = .ok (.iload_n 3, 1) := by decide +kernel
theorem dX3_of_101 : decode cX3_of 101 = .ok (.iaload, 1) := by decide +kernel
theorem dX3_of_102 : decode cX3_of 102 = .ok (.ireturn, 1) := by decide +kernel
theorem dX3_of_103 : decode cX3_of 103 = .ok (.aload_n 0, 1) := by decide +kernel
theorem dX3_of_104 : decode cX3_of 104 = .ok (.iload_n 1, 1) := by decide +kernel
theorem dX3_of_105 : decode cX3_of 105 = .ok (.iload_n 2, 1) := by decide +kernel
theorem dX3_of_106 : decode cX3_of 106 = .ok (.invokevirtual 111, 3) := by decide +kernel
theorem dX3_of_109 : decode cX3_of 109 = .ok (.ireturn, 1) := by decide +kernel
theorem dX3_of_110 : decode cX3_of 110 = .ok (.aload_n 0, 1) := by decide +kernel
theorem dX3_of_111 : decode cX3_of 111 = .ok (.iload_n 1, 1) := by decide +kernel
theorem dX3_of_112 : decode cX3_of 112 = .ok (.invokevirtual 102, 3) := by decide +kernel
theorem dX3_of_115 : decode cX3_of 115 = .ok (.ireturn, 1) := by decide +kernel
theorem dX3_of_116 : decode cX3_of 116 = .ok (.aload_n 0, 1) := by decide +kernel
theorem dX3_of_117 : decode cX3_of 117 = .ok (.iload_n 1, 1) := by decide +kernel
theorem dX3_of_118 : decode cX3_of 118 = .ok (.invokevirtual 96, 3) := by decide +kernel
theorem dX3_of_121 : decode cX3_of 121 = .ok (.ireturn, 1) := by decide +kernel
theorem dX3_of_122 : decode cX3_of 122 = .ok (.aload_n 0, 1) := by decide +kernel
theorem dX3_of_123 : decode cX3_of 123 = .ok (.iload_n 1, 1) := by decide +kernel
theorem dX3_of_124 : decode cX3_of 124 = .ok (.invokevirtual 99, 3) := by decide +kernel
theorem dX3_of_127 : decode cX3_of 127 = .ok (.ireturn, 1) := by decide +kernel
theorem dX3_sum_0 : decode cX3_sum 0 = .ok (.aload_n 0, 1) := by decide +kernel
theorem dX3_sum_1 : decode cX3_sum 1 = .ok (.iconst 0, 1) := by decide +kernel
theorem dX3_sum_2 : decode cX3_sum 2 = .ok (.putfield 40, 3) := by decide +kernel
theorem dX3_sum_5 : decode cX3_sum 5 = .ok (.aload_n 0, 1) := by decide +kernel
theorem dX3_sum_6 : decode cX3_sum 6 = .ok (.invokevirtual 83, 3) := by decide +kernel
theorem dX3_sum_9 : decode cX3_sum 9 = .ok (.lconst 0, 1) := by decide +kernel
theorem dX3_sum_10 : decode cX3_sum 10 = .ok (.lstore_n 3, 1) := by decide +kernel
theorem dX3_sum_11 : decode cX3_sum 11 = .ok (.iconst 0, 1) := by decide +kernel
theorem dX3_sum_12 : decode cX3_sum 12 = .ok (.istore 5, 2) := by decide +kernel
theorem dX3_sum_14 : decode cX3_sum 14 = .ok (.iconst 0, 1) := by decide +kernel
theorem dX3_sum_15 : decode cX3_sum 15 = .ok (.istore 6, 2) := by decide +kernel
theorem dX3_sum_17 : decode cX3_sum 17 = .ok (.iload 6, 2) := by decide +kernel
theorem dX3_sum_19 : decode cX3_sum 19 = .ok (.aload_n 0, 1) := by decide +kernel
theorem dX3_sum_20 : decode cX3_sum 20 = .ok (.getfield 44, 3) := by decide +kernel
theorem dX3_sum_23 : decode cX3_sum 23 = .ok (.if_icmp .ge 72, 3) := by decide +kernel
theorem dX3_sum_26 : decode cX3_sum 26 = .ok (.aload_n 0, 1) := by decide +kernel
theorem dX3_sum_27 : decode cX3_sum 27 = .ok (.aload_n 0, 1) := by decide +kernel
theorem dX3_sum_28 : decode cX3_sum 28 = .ok (.getfield 34, 3) := by decide +kernel
theorem dX3_sum_31 : decode cX3_sum 31 = .ok (.iload 6, 2) := by decide +kernel
theorem dX3_sum_33 : decode cX3_sum 33 = .ok (.iaload, 1) := by decide +kernel
theorem dX3_sum_34 : decode cX3_sum 34 = .ok (.invokevirtual 86, 3) := by decide +kernel
theorem dX3_sum_37 : decode cX3_sum 37 = .ok (.ifCond .ne 52, 3) := by decide +kernel
theorem dX3_sum_40 : decode cX3_sum 40 = .ok (.lload_n 3, 1) := by decide +kernel
theorem dX3_sum_41 : decode cX3_sum 41 = .ok (.iload 5, 2) := by decide +kernel
theorem dX3_sum_43 : decode cX3_sum 43 = .ok (.iload_n 1, 1) := by decide +kernel
theorem dX3_sum_44 : decode cX3_sum 44 = .ok (.if_icmp .lt 39, 3) := by decide +kernel
theorem dX3_sum_47 : decode cX3_sum 47 = .ok (.iload 5, 2) := by decide +kernel
theorem dX3_sum_49 : decode cX3_sum 49 = .ok (.iload_n 2, 1) := by decide +kernel
theorem dX3_sum_50 : decode cX3_sum 50 = .ok (.if_icmp .ge 33, 3) := by decide +kernel
theorem dX3_sum_53 : decode cX3_sum 53 = .ok (.aload_n 0, 1) := by decide +kernel
theorem dX3_sum_54 : decode cX3_sum 54 = .ok (.aload_n 0, 1) := by decide +kernel
theorem dX3_sum_55 : decode cX3_sum 55 = .ok (.getfield 34, 3) := by decide +kernel
theorem dX3_sum_58 : decode cX3_sum 58 = .ok (.iload 6, 2) := by decide +kernel
theorem dX3_sum_60 : decode cX3_sum 60 = .ok (.iaload, 1) := by decide +kernel
theorem dX3_sum_61 : decode cX3_sum 61 = .ok (.invokevirtual 96, 3) := by decide +kernel
theorem dX3_sum_64 : decode cX3_sum 64 = .ok (.iconst 2, 1) := by decide +kernel
theorem dX3_sum_65 : decode cX3_sum 65 = .ok (.if_icmp .ne 18, 3) := by decide +kernel
theorem dX3_sum_68 : decode cX3_sum 68 = .ok (.aload_n 0, 1) := by decide +kernel
theorem dX3_sum_69 : decode cX3_sum 69 = .ok (.aload_n 0, 1) := by decide +kernel
theorem dX3_sum_70 : decode cX3_sum 70 = .ok (.getfield 34, 3) := by decide +kernel
theorem dX3_sum_73 : decode cX3_sum 73 = .ok (.iload 6, 2) := by decide +kernel
theorem dX3_sum_75 : decode cX3_sum 75 = .ok (.iaload, 1) := by decide +kernel
theorem dX3_sum_76 : decode cX3_sum 76 = .ok (.invokevirtual 99, 3) := by decide +kernel
theorem dX3_sum_79 : decode cX3_sum 79 = .ok (.i2l, 1) := by decide +kernel
theorem dX3_sum_80 : decode cX3_sum 80 = .ok (.goto 4, 3) := by decide +kernel
theorem dX3_sum_83 : decode cX3_sum 83 = .ok (.lconst 0, 1) := by decide +kernel
theorem dX3_sum_84 : decode cX3_sum 84 = .ok (.ladd, 1) := by decide +kernel
theorem dX3_sum_85 : decode cX3_sum 85 = .ok (.lstore_n 3, 1) := by decide +kernel
theorem dX3_sum_86 : decode cX3_sum 86 = .ok (.iinc 5 1, 3) := by decide +kernel
theorem dX3_sum_89 : decode cX3_sum 89 = .ok (.iinc 6 1, 3) := by decide +kernel
theorem dX3_sum_92 : decode cX3_sum 92 = .ok (.goto (-75), 3) := by decide +kernel
theorem dX3_sum_95 : decode cX3_sum 95 = .ok (.lload_n 3, 1) := by decide +kernel
theorem dX3_sum_96 : decode cX3_sum 96 = .ok (.lreturn, 1) := by decide +kernel
theorem dX3_deepest_0 : decode cX3_deepest 0 = .ok (.iconst 0, 1) := by decide +kernel
theorem dX3_deepest_1 : decode cX3_deepest 1 = .ok (.istore_n 1, 1) := by decide +kernel
theorem dX3_deepest_2 : decode cX3_deepest 2 = .ok (.iconst 0, 1) := by decide +kernel
theorem dX3_deepest_3 : decode cX3_deepest 3 = .ok (.istore_n 2, 1) := by decide +kernel
theorem dX3_deepest_4 : decode cX3_deepest 4 = .ok (.iload_n 2, 1) := by decide +kernel
theorem dX3_deepest_5 : decode cX3_deepest 5 = .ok (.aload_n 0, 1) := by decide +kernel
theorem dX3_deepest_6 : decode cX3_deepest 6 = .ok (.getfield 44, 3) := by decide +kernel
theorem dX3_deepest_9 : decode cX3_deepest 9 = .ok (.if_icmp .ge 54, 3) := by decide +kernel
theorem dX3_deepest_12 : decode cX3_deepest 12 = .ok (.iconst 0, 1) := by decide +kernel
theorem dX3_deepest_13 : decode cX3_deepest 13 = .ok (.istore_n 3, 1) := by decide +kernel
theorem dX3_deepest_14 : decode cX3_deepest 14 = .ok (.aload_n 0, 1) := by decide +kernel
theorem dX3_deepest_15 : decode cX3_deepest 15 = .ok (.getfield 7, 3) := by decide +kernel
theorem dX3_deepest_18 : decode cX3_deepest 18 = .ok (.iload_n 2, 1) := by decide +kernel
theorem dX3_deepest_19 : decode cX3_deepest 19 = .ok (.iaload, 1) := by decide +kernel
theorem dX3_deepest_20 : decode cX3_deepest 20 = .ok (.istore 4, 2) := by decide +kernel
theorem dX3_deepest_22 : decode cX3_deepest 22 = .ok (.iload 4, 2) := by decide +kernel
theorem dX3_deepest_24 : decode cX3_deepest 24 = .ok (.ifCond .eq 22, 3) := by decide +kernel
theorem dX3_deepest_27 : decode cX3_deepest 27 = .ok (.iinc 3 1, 3) := by decide +kernel
theorem dX3_deepest_30 : decode cX3_deepest 30 = .ok (.aload_n 0, 1) := by decide +kernel
theorem dX3_deepest_31 : decode cX3_deepest 31 = .ok (.getfield 13, 3) := by decide +kernel
theorem dX3_deepest_34 : decode cX3_deepest 34 = .ok (.aload_n 0, 1) := by decide +kernel
theorem dX3_deepest_35 : decode cX3_deepest 35 = .ok (.iload 4, 2) := by decide +kernel
theorem dX3_deepest_37 : decode cX3_deepest 37 = .ok (.invokevirtual 48, 3) := by decide +kernel
theorem dX3_deepest_40 : decode cX3_deepest 40 = .ok (.iaload, 1) := by decide +kernel
theorem dX3_deepest_41 : decode cX3_deepest 41 = .ok (.istore 4, 2) := by decide +kernel
theorem dX3_deepest_43 : decode cX3_deepest 43 = .ok (.goto (-21), 3) := by decide +kernel
theorem dX3_deepest_46 : decode cX3_deepest 46 = .ok (.iload_n 3, 1) := by decide +kernel
theorem dX3_deepest_47 : decode cX3_deepest 47 = .ok (.iload_n 1, 1) := by decide +kernel
theorem dX3_deepest_48 : decode cX3_deepest 48 = .ok (.if_icmp .le 7, 3) := by decide +kernel
theorem dX3_deepest_51 : decode cX3_deepest 51 = .ok (.iload_n 3, 1) := by decide +kernel
theorem dX3_deepest_52 : decode cX3_deepest 52 = .ok (.goto 4, 3) := by decide +kernel
theorem dX3_deepest_55 : decode cX3_deepest 55 = .ok (.iload_n 1, 1) := by decide +kernel
theorem dX3_deepest_56 : decode cX3_deepest 56 = .ok (.istore_n 1, 1) := by decide +kernel
theorem dX3_deepest_57 : decode cX3_deepest 57 = .ok (.iinc 2 1, 3) := by decide +kernel
theorem dX3_deepest_60 : decode cX3_deepest 60 = .ok (.goto (-56), 3) := by decide +kernel
theorem dX3_deepest_63 : decode cX3_deepest 63 = .ok (.iload_n 1, 1) := by decide +kernel
theorem dX3_deepest_64 : decode cX3_deepest 64 = .ok (.ireturn, 1) := by decide +kernel
theorem dX3_greatest_0 : decode cX3_greatest 0 = .ok (.iconst (-1), 1) := by decide +kernel
theorem dX3_greatest_1 : decode cX3_greatest 1 = .ok (.istore_n 1, 1) := by decide +kernel
theorem dX3_greatest_2 : decode cX3_greatest 2 = .ok (.iconst 0, 1) := by decide +kernel
theorem dX3_greatest_3 : decode cX3_greatest 3 = .ok (.istore_n 2, 1) := by decide +kernel
theorem dX3_greatest_4 : decode cX3_greatest 4 = .ok (.iload_n 2, 1) := by decide +kernel
theorem dX3_greatest_5 : decode cX3_greatest 5 = .ok (.aload_n 0, 1) := by decide +kernel
theorem dX3_greatest_6 : decode cX3_greatest 6 = .ok (.getfield 44, 3) := by decide +kernel
theorem dX3_greatest_9 : decode cX3_greatest 9 = .ok (.if_icmp .ge 30, 3) := by decide +kernel
theorem dX3_greatest_12 : decode cX3_greatest 12 = .ok (.aload_n 0, 1) := by decide +kernel
theorem dX3_greatest_13 : decode cX3_greatest 13 = .ok (.getfield 7, 3) := by decide +kernel
theorem dX3_greatest_16 : decode cX3_greatest 16 = .ok (.iload_n 2, 1) := by decide +kernel
theorem dX3_greatest_17 : decode cX3_greatest 17 = .ok (.iaload, 1) := by decide +kernel
theorem dX3_greatest_18 : decode cX3_greatest 18 = .ok (.iload_n 1, 1) := by decide +kernel
theorem dX3_greatest_19 : decode cX3_greatest 19 = .ok (.if_icmp .le 12, 3) := by decide +kernel
theorem dX3_greatest_22 : decode cX3_greatest 22 = .ok (.aload_n 0, 1) := by decide +kernel
theorem dX3_greatest_23 : decode cX3_greatest 23 = .ok (.getfield 7, 3) := by decide +kernel
theorem dX3_greatest_26 : decode cX3_greatest 26 = .ok (.iload_n 2, 1) := by decide +kernel
theorem dX3_greatest_27 : decode cX3_greatest 27 = .ok (.iaload, 1) := by decide +kernel
theorem dX3_greatest_28 : decode cX3_greatest 28 = .ok (.goto 4, 3) := by decide +kernel
theorem dX3_greatest_31 : decode cX3_greatest 31 = .ok (.iload_n 1, 1) := by decide +kernel
theorem dX3_greatest_32 : decode cX3_greatest 32 = .ok (.istore_n 1, 1) := by decide +kernel
theorem dX3_greatest_33 : decode cX3_greatest 33 = .ok (.iinc 2 1, 3) := by decide +kernel
theorem dX3_greatest_36 : decode cX3_greatest 36 = .ok (.goto (-32), 3) := by decide +kernel
theorem dX3_greatest_39 : decode cX3_greatest 39 = .ok (.iconst 0, 1) := by decide +kernel
theorem dX3_greatest_40 : decode cX3_greatest 40 = .ok (.istore_n 2, 1) := by decide +kernel
theorem dX3_greatest_41 : decode cX3_greatest 41 = .ok (.iload_n 2, 1) := by decide +kernel
theorem dX3_greatest_42 : decode cX3_greatest 42 = .ok (.aload_n 0, 1) := by decide +kernel
theorem dX3_greatest_43 : decode cX3_greatest 43 = .ok (.getfield 52, 3) := by decide +kernel
theorem dX3_greatest_46 : decode cX3_greatest 46 = .ok (.if_icmp .ge 30, 3) := by decide +kernel
theorem dX3_greatest_49 : decode cX3_greatest 49 = .ok (.aload_n 0, 1) := by decide +kernel
theorem dX3_greatest_50 : decode cX3_greatest 50 = .ok (.getfield 22, 3) := by decide +kernel
theorem dX3_greatest_53 : decode cX3_greatest 53 = .ok (.iload_n 2, 1) := by decide +kernel
theorem dX3_greatest_54 : decode cX3_greatest 54 = .ok (.iaload, 1) := by decide +kernel
theorem dX3_greatest_55 : decode cX3_greatest 55 = .ok (.iload_n 1, 1) := by decide +kernel
theorem dX3_greatest_56 : decode cX3_greatest 56 = .ok (.if_icmp .le 12, 3) := by decide +kernel
theorem dX3_greatest_59 : decode cX3_greatest 59 = .ok (.aload_n 0, 1) := by decide +kernel
theorem dX3_greatest_60 : decode cX3_greatest 60 = .ok (.getfield 22, 3) := by decide +kernel
theorem dX3_greatest_63 : decode cX3_greatest 63 = .ok (.iload_n 2, 1) := by decide +kernel
theorem dX3_greatest_64 : decode cX3_greatest 64 = .ok (.iaload, 1) := by decide +kernel
theorem dX3_greatest_65 : decode cX3_greatest 65 = .ok (.goto 4, 3) := by decide +kernel
theorem dX3_greatest_68 : decode cX3_greatest 68 = .ok (.iload_n 1, 1) := by decide +kernel
theorem dX3_greatest_69 : decode cX3_greatest 69 = .ok (.istore_n 1, 1) := by decide +kernel
theorem dX3_greatest_70 : decode cX3_greatest 70 = .ok (.iinc 2 1, 3) := by decide +kernel
theorem dX3_greatest_73 : decode cX3_greatest 73 = .ok (.goto (-32), 3) := by decide +kernel
theorem dX3_greatest_76 : decode cX3_greatest 76 = .ok (.iload_n 1, 1) := by decide +kernel
theorem dX3_greatest_77 : decode cX3_greatest 77 = .ok (.ireturn, 1) := by decide +kernel
theorem dX3_look_0 : decode cX3_look 0 = .ok (.aload_n 0, 1) := by decide +kernel
theorem dX3_look_1 : decode cX3_look 1 = .ok (.iconst 0, 1) := by decide +kernel
theorem dX3_look_2 : decode cX3_look 2 = .ok (.putfield 40, 3) := by decide +kernel
theorem dX3_look_5 : decode cX3_look 5 = .ok (.iload_n 1, 1) := by decide +kernel
theorem dX3_look_6 : decode cX3_look 6 = .ok (.ifCond .ne 10, 3) := by decide +kernel
theorem dX3_look_9 : decode cX3_look 9 = .ok (.aload_n 0, 1) := by decide +kernel
theorem dX3_look_10 : decode cX3_look 10 = .ok (.getfield 44, 3) := by decide +kernel
theorem dX3_look_13 : decode cX3_look 13 = .ok (.goto 52, 3) := by decide +kernel
theorem dX3_look_16 : decode cX3_look 16 = .ok (.iload_n 1, 1) := by decide +kernel
theorem dX3_look_17 : decode cX3_look 17 = .ok (.iconst 1, 1) := by decide +kernel
theorem dX3_look_18 : decode cX3_look 18 = .ok (.if_icmp .ne 10, 3) := by decide +kernel
theorem dX3_look_21 : decode cX3_look 21 = .ok (.aload_n 0, 1) := by decide +kernel
theorem dX3_look_22 : decode cX3_look 22 = .ok (.invokevirtual 89, 3) := by decide +kernel
theorem dX3_look_25 : decode cX3_look 25 = .ok (.goto 40, 3) := by decide +kernel
theorem dX3_look_28 : decode cX3_look 28 = .ok (.iload_n 1, 1) := by decide +kernel
theorem dX3_look_29 : decode cX3_look 29 = .ok (.iconst 2, 1) := by decide +kernel
theorem dX3_look_30 : decode cX3_look 30 = .ok (.if_icmp .ne 10, 3) := by decide +kernel
theorem dX3_look_33 : decode cX3_look 33 = .ok (.aload_n 0, 1) := by decide +kernel
theorem dX3_look_34 : decode cX3_look 34 = .ok (.getfield 52, 3) := by decide +kernel
theorem dX3_look_37 : decode cX3_look 37 = .ok (.goto 28, 3) := by decide +kernel
theorem dX3_look_40 : decode cX3_look 40 = .ok (.iload_n 1, 1) := by decide +kernel
theorem dX3_look_41 : decode cX3_look 41 = .ok (.iconst 3, 1) := by decide +kernel
theorem dX3_look_42 : decode cX3_look 42 = .ok (.if_icmp .ne 10, 3) := by decide +kernel
theorem dX3_look_45 : decode cX3_look 45 = .ok (.aload_n 0, 1) := by decide +kernel
theorem dX3_look_46 : decode cX3_look 46 = .ok (.invokevirtual 114, 3) := by decide +kernel
theorem dX3_look_49 : decode cX3_look 49 = .ok (.goto 16, 3) := by decide +kernel
theorem dX3_look_52 : decode cX3_look 52 = .ok (.iload_n 1, 1) := by decide +kernel
theorem dX3_look_53 : decode cX3_look 53 = .ok (.iconst 4, 1) := by decide +kernel
theorem dX3_look_54 : decode cX3_look 54 = .ok (.if_icmp .ne 10, 3) := by decide +kernel
theorem dX3_look_57 : decode cX3_look 57 = .ok (.aload_n 0, 1) := by decide +kernel
theorem dX3_look_58 : decode cX3_look 58 = .ok (.invokevirtual 117, 3) := by decide +kernel
theorem dX3_look_61 : decode cX3_look 61 = .ok (.goto 4, 3) := by decide +kernel
theorem dX3_look_64 : decode cX3_look 64 = .ok (.iconst (-1), 1) := by decide +kernel
theorem dX3_look_65 : decode cX3_look 65 = .ok (.ireturn, 1) := by decide +kernel
